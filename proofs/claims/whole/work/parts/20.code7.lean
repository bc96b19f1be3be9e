/-! codes, functions and contracts of methods -/
def cd_194 : List tm_E := [(0, .aload_n 0, 1, 0, 0, 0), (1, .getfield 43, 3, 1, 8, 0), (4, .istore_n 2, 1, 0, 0, 0), (5, .iload_n 1, 1, 0, 0, 0), (6, .istore_n 3, 1, 0, 0, 0), (7, .aload_n 0, 1, 0, 0, 0), (8, .iconst 0, 1, 0, 0, 0), (9, .putfield 55, 3, 1, 7, 0), (12, .iload_n 2, 1, 0, 0, 0), (13, .ifCond .eq 71, 3, 84, 0, 0), (16, .aload_n 0, 1, 0, 0, 0), (17, .getfield 55, 3, 1, 7, 0), (20, .aload_n 0, 1, 0, 0, 0), (21, .getfield 33, 3, 1, 6, 2), (24, .arraylength, 1, 0, 0, 0), (25, .if_icmp .ge 59, 3, 84, 0, 0), (28, .aload_n 0, 1, 0, 0, 0), (29, .iload_n 2, 1, 0, 0, 0), (30, .iload_n 3, 1, 0, 0, 0), (31, .invokevirtual 136, 3, 193, 2, 5), (34, .istore 4, 2, 0, 0, 0), (36, .iload 4, 2, 0, 0, 0), (38, .iconst (-1), 1, 0, 0, 0), (39, .if_icmp .ne 4, 3, 43, 0, 0), (42, .return_, 1, 0, 0, 0), (43, .aload_n 0, 1, 0, 0, 0), (44, .getfield 33, 3, 1, 6, 2), (47, .aload_n 0, 1, 0, 0, 0), (48, .getfield 55, 3, 1, 7, 0), (51, .iload 4, 2, 0, 0, 0), (53, .iastore, 1, 0, 0, 0), (54, .aload_n 0, 1, 0, 0, 0), (55, .dup, 1, 0, 0, 0), (56, .getfield 55, 3, 1, 7, 0), (59, .iconst 1, 1, 0, 0, 0), (60, .iadd, 1, 0, 0, 0), (61, .putfield 55, 3, 1, 7, 0), (64, .iload_n 2, 1, 0, 0, 0), (65, .iconst 1, 1, 0, 0, 0), (66, .iload 4, 2, 0, 0, 0), (68, .iconst 2, 1, 0, 0, 0), (69, .idiv, 1, 0, 0, 0), (70, .ishl, 1, 0, 0, 0), (71, .ixor, 1, 0, 0, 0), (72, .istore_n 2, 1, 0, 0, 0), (73, .aload_n 0, 1, 0, 0, 0), (74, .iload 4, 2, 0, 0, 0), (76, .iload_n 3, 1, 0, 0, 0), (77, .invokevirtual 139, 3, 192, 2, 5), (80, .istore_n 3, 1, 0, 0, 0), (81, .goto (-69), 3, 12, 0, 0), (84, .return_, 1, 0, 0, 0)]
def cu_194 : List (Nat × List Nat) := [(12, [0, 2, 3]), (34, [0, 2, 3]), (80, [0, 2]), (84, [])]
noncomputable def G_194 : tm_G := fun id as M => if id = 193 then F_193 as M else if id = 192 then F_192 as M else none
noncomputable def F_194 : List Value → tm_M → Option tm_R := tm_m tm_sh none G_194 false cd_194 cu_194 53 5
theorem gg_194 : tm_Gg G_194 := by
  intro id as M r h
  unfold G_194 at h
  rcases tm_ite_e h with ⟨_, h⟩ | ⟨_, h⟩
  · exact gr_193 h
  rcases tm_ite_e h with ⟨_, h⟩ | ⟨_, h⟩
  · exact gr_192 h
  cases h
theorem gm_194 (l : Launch) : ∀ id as M r, G_194 id as M = some r → tm_MA tm_sh l (tm_mt id) as M r := by
  intro id as M r h
  unfold G_194 at h
  rcases tm_ite_e h with ⟨rfl, h⟩ | ⟨_, h⟩
  · exact con_193 l h
  rcases tm_ite_e h with ⟨rfl, h⟩ | ⟨_, h⟩
  · exact con_192 l h
  cases h
theorem gr_194 {as : List Value} {M : tm_M} {r : tm_R} (h : F_194 as M = some r) : tm_gr M r.2 := tm_m_gr gg_194 h
theorem ck_194 : tm_cdk (tm_mt 194).1.cls false tm_mt (tm_mt 194) false cd_194 := tm_cdk_of (LK := lk_RX1) (ix := [41, 42, 43, 44, 45, 44, 43, 43, 42, 40]) lc_RX1 (by decide +kernel)
theorem con_194 (l : Launch) {as : List Value} {M : tm_M} {r : tm_R} (h : F_194 as M = some r) : tm_MA tm_sh l (tm_mt 194) as M r := tm_sound (t := tm_mt 194) tm_Sok_ok tm_CL_ok gg_194 (gm_194 l) (fun _ _ => ⟨rfl, rfl⟩) ck_194 (by decide +kernel) (fun h => by cases h) (fun _ _ _ _ => tm_nos_all (by decide +kernel)) h
def cd_195 : List tm_E := [(0, .iconst 4, 1, 0, 0, 0), (1, .iload_n 3, 1, 0, 0, 0), (2, .imul, 1, 0, 0, 0), (3, .iload 4, 2, 0, 0, 0), (5, .iadd, 1, 0, 0, 0), (6, .istore 5, 2, 0, 0, 0), (8, .bipush 16, 2, 0, 0, 0), (10, .iload_n 2, 1, 0, 0, 0), (11, .imul, 1, 0, 0, 0), (12, .iload 5, 2, 0, 0, 0), (14, .iadd, 1, 0, 0, 0), (15, .istore 6, 2, 0, 0, 0), (17, .iload 6, 2, 0, 0, 0), (19, .aload_n 0, 1, 0, 0, 0), (20, .getfield 36, 3, 1, 9, 0), (23, .if_icmp .ne 4, 3, 27, 0, 0), (26, .return_, 1, 0, 0, 0), (27, .aload_n 0, 1, 0, 0, 0), (28, .getfield 40, 3, 1, 10, 0), (31, .ifCond .ne 8, 3, 39, 0, 0), (34, .aload_n 0, 1, 0, 0, 0), (35, .aload_n 1, 1, 0, 0, 0), (36, .invokevirtual 58, 3, 190, 1, 4), (39, .aload_n 0, 1, 0, 0, 0), (40, .iload 6, 2, 0, 0, 0), (42, .putfield 36, 3, 1, 9, 0), (45, .aload_n 0, 1, 0, 0, 0), (46, .aload_n 0, 1, 0, 0, 0), (47, .iload_n 2, 1, 0, 0, 0), (48, .iload 5, 2, 0, 0, 0), (50, .invokevirtual 62, 3, 191, 2, 5), (53, .putfield 43, 3, 1, 8, 0), (56, .aload_n 0, 1, 0, 0, 0), (57, .iload 5, 2, 0, 0, 0), (59, .invokevirtual 66, 3, 194, 1, 4), (62, .return_, 1, 0, 0, 0)]
def cu_195 : List (Nat × List Nat) := [(39, [0, 2, 5, 6]), (53, [0, 5]), (62, [])]
noncomputable def G_195 : tm_G := fun id as M => if id = 190 then F_190 as M else if id = 191 then F_191 as M else if id = 194 then F_194 as M else none
noncomputable def F_195 : List Value → tm_M → Option tm_R := tm_m tm_sh none G_195 false cd_195 cu_195 37 7
theorem gg_195 : tm_Gg G_195 := by
  intro id as M r h
  unfold G_195 at h
  rcases tm_ite_e h with ⟨_, h⟩ | ⟨_, h⟩
  · exact gr_190 h
  rcases tm_ite_e h with ⟨_, h⟩ | ⟨_, h⟩
  · exact gr_191 h
  rcases tm_ite_e h with ⟨_, h⟩ | ⟨_, h⟩
  · exact gr_194 h
  cases h
theorem gm_195 (l : Launch) : ∀ id as M r, G_195 id as M = some r → tm_MA tm_sh l (tm_mt id) as M r := by
  intro id as M r h
  unfold G_195 at h
  rcases tm_ite_e h with ⟨rfl, h⟩ | ⟨_, h⟩
  · exact con_190 l h
  rcases tm_ite_e h with ⟨rfl, h⟩ | ⟨_, h⟩
  · exact con_191 l h
  rcases tm_ite_e h with ⟨rfl, h⟩ | ⟨_, h⟩
  · exact con_194 l h
  cases h
theorem gr_195 {as : List Value} {M : tm_M} {r : tm_R} (h : F_195 as M = some r) : tm_gr M r.2 := tm_m_gr gg_195 h
theorem ck_195 : tm_cdk (tm_mt 195).1.cls false tm_mt (tm_mt 195) false cd_195 := tm_cdk_of (LK := lk_RX1) (ix := [46, 37, 47, 10, 48, 49, 50]) lc_RX1 (by decide +kernel)
theorem con_195 (l : Launch) {as : List Value} {M : tm_M} {r : tm_R} (h : F_195 as M = some r) : tm_MA tm_sh l (tm_mt 195) as M r := tm_sound (t := tm_mt 195) tm_Sok_ok tm_CL_ok gg_195 (gm_195 l) (fun _ _ => ⟨rfl, rfl⟩) ck_195 (by decide +kernel) (fun h => by cases h) (fun _ _ _ _ => tm_nos_all (by decide +kernel)) h
def cd_196 : List tm_E := [(0, .aload_n 0, 1, 0, 0, 0), (1, .getfield 15, 3, 1, 1, 2), (4, .aload_n 0, 1, 0, 0, 0), (5, .getfield 43, 3, 1, 8, 0), (8, .invokestatic 46, 3, 256, 2, 1), (11, .ireturn, 1, 0, 0, 0)]
def cu_196 : List (Nat × List Nat) := [(11, [])]
noncomputable def G_196 : tm_G := fun id as M => if id = 256 then F_256 as M else none
noncomputable def F_196 : List Value → tm_M → Option tm_R := tm_m tm_sh none G_196 false cd_196 cu_196 7 1
theorem gg_196 : tm_Gg G_196 := by
  intro id as M r h
  unfold G_196 at h
  rcases tm_ite_e h with ⟨_, h⟩ | ⟨_, h⟩
  · exact gr_256 h
  cases h
theorem gm_196 (l : Launch) : ∀ id as M r, G_196 id as M = some r → tm_MA tm_sh l (tm_mt id) as M r := by
  intro id as M r h
  unfold G_196 at h
  rcases tm_ite_e h with ⟨rfl, h⟩ | ⟨_, h⟩
  · exact con_256 l h
  cases h
theorem gr_196 {as : List Value} {M : tm_M} {r : tm_R} (h : F_196 as M = some r) : tm_gr M r.2 := tm_m_gr gg_196 h
theorem ck_196 : tm_cdk (tm_mt 196).1.cls false tm_mt (tm_mt 196) false cd_196 := tm_cdk_of (LK := lk_RX1) (ix := [21, 41, 39]) lc_RX1 (by decide +kernel)
theorem con_196 (l : Launch) {as : List Value} {M : tm_M} {r : tm_R} (h : F_196 as M = some r) : tm_MA tm_sh l (tm_mt 196) as M r := tm_sound (t := tm_mt 196) tm_Sok_ok tm_CL_ok gg_196 (gm_196 l) (fun _ _ => ⟨rfl, rfl⟩) ck_196 (by decide +kernel) (fun h => by cases h) (fun _ _ _ _ => tm_nos_all (by decide +kernel)) h
def cd_197 : List tm_E := [(0, .iload_n 1, 1, 0, 0, 0), (1, .iload_n 2, 1, 0, 0, 0), (2, .iload_n 3, 1, 0, 0, 0), (3, .invokestatic 179, 3, 185, 3, 1), (6, .ifCond .ne 5, 3, 11, 0, 0), (9, .iconst (-1), 1, 0, 0, 0), (10, .ireturn, 1, 0, 0, 0), (11, .aload_n 0, 1, 0, 0, 0), (12, .getfield 30, 3, 10, 3, 2), (15, .aload_n 0, 1, 0, 0, 0), (16, .getfield 51, 3, 10, 6, 2), (19, .iload_n 1, 1, 0, 0, 0), (20, .iload_n 2, 1, 0, 0, 0), (21, .iload_n 3, 1, 0, 0, 0), (22, .invokevirtual 183, 3, 195, 4, 4), (25, .aload_n 0, 1, 0, 0, 0), (26, .getfield 30, 3, 10, 3, 2), (29, .invokevirtual 187, 3, 196, 0, 5), (32, .ireturn, 1, 0, 0, 0)]
def cu_197 : List (Nat × List Nat) := [(6, [0, 1, 2, 3]), (25, [0]), (32, [])]
noncomputable def G_197 : tm_G := fun id as M => if id = 185 then F_185 as M else if id = 195 then F_195 as M else if id = 196 then F_196 as M else none
noncomputable def F_197 : List Value → tm_M → Option tm_R := tm_m tm_sh none G_197 false cd_197 cu_197 20 4
theorem gg_197 : tm_Gg G_197 := by
  intro id as M r h
  unfold G_197 at h
  rcases tm_ite_e h with ⟨_, h⟩ | ⟨_, h⟩
  · exact gr_185 h
  rcases tm_ite_e h with ⟨_, h⟩ | ⟨_, h⟩
  · exact gr_195 h
  rcases tm_ite_e h with ⟨_, h⟩ | ⟨_, h⟩
  · exact gr_196 h
  cases h
theorem gm_197 (l : Launch) : ∀ id as M r, G_197 id as M = some r → tm_MA tm_sh l (tm_mt id) as M r := by
  intro id as M r h
  unfold G_197 at h
  rcases tm_ite_e h with ⟨rfl, h⟩ | ⟨_, h⟩
  · exact con_185 l h
  rcases tm_ite_e h with ⟨rfl, h⟩ | ⟨_, h⟩
  · exact con_195 l h
  rcases tm_ite_e h with ⟨rfl, h⟩ | ⟨_, h⟩
  · exact con_196 l h
  cases h
theorem gr_197 {as : List Value} {M : tm_M} {r : tm_R} (h : F_197 as M = some r) : tm_gr M r.2 := tm_m_gr gg_197 h
theorem ck_197 : tm_cdk (tm_mt 197).1.cls false tm_mt (tm_mt 197) false cd_197 := tm_cdk_of (LK := lk_RX10) (ix := [71, 38, 37, 72, 38, 73]) lc_RX10 (by decide +kernel)
theorem con_197 (l : Launch) {as : List Value} {M : tm_M} {r : tm_R} (h : F_197 as M = some r) : tm_MA tm_sh l (tm_mt 197) as M r := tm_sound (t := tm_mt 197) tm_Sok_ok tm_CL_ok gg_197 (gm_197 l) (fun _ _ => ⟨rfl, rfl⟩) ck_197 (by decide +kernel) (fun h => by cases h) (fun _ _ _ _ => tm_nos_all (by decide +kernel)) h
def cd_198 : List tm_E := [(0, .aload_n 0, 1, 0, 0, 0), (1, .getfield 40, 3, 11, 17, 2), (4, .bipush 12, 2, 0, 0, 0), (6, .aload_n 0, 1, 0, 0, 0), (7, .getfield 295, 3, 11, 21, 0), (10, .imul, 1, 0, 0, 0), (11, .iload_n 1, 1, 0, 0, 0), (12, .iadd, 1, 0, 0, 0), (13, .iaload, 1, 0, 0, 0), (14, .istore 5, 2, 0, 0, 0), (16, .aload_n 0, 1, 0, 0, 0), (17, .iload_n 1, 1, 0, 0, 0), (18, .invokevirtual 369, 3, 106, 1, 45), (21, .ifCond .ge 38, 3, 59, 0, 0), (24, .aload_n 0, 1, 0, 0, 0), (25, .iload_n 1, 1, 0, 0, 0), (26, .iload_n 2, 1, 0, 0, 0), (27, .invokevirtual 356, 3, 97, 2, 45), (30, .ifCond .eq 13, 3, 43, 0, 0), (33, .aload_n 0, 1, 0, 0, 0), (34, .iload_n 1, 1, 0, 0, 0), (35, .iload_n 2, 1, 0, 0, 0), (36, .invokevirtual 356, 3, 97, 2, 45), (39, .iload_n 3, 1, 0, 0, 0), (40, .if_icmp .ne 19, 3, 59, 0, 0), (43, .iload 5, 2, 0, 0, 0), (45, .ifCond .lt 10, 3, 55, 0, 0), (48, .iload 5, 2, 0, 0, 0), (50, .iload 4, 2, 0, 0, 0), (52, .if_icmp .ne 7, 3, 59, 0, 0), (55, .iconst 1, 1, 0, 0, 0), (56, .goto 4, 3, 60, 0, 0), (59, .iconst 0, 1, 0, 0, 0), (60, .ireturn, 1, 0, 0, 0)]
def cu_198 : List (Nat × List Nat) := [(21, [0, 1, 2, 3, 4, 5]), (30, [0, 1, 2, 3, 4, 5]), (39, [3, 4, 5]), (43, [4, 5]), (55, []), (59, []), (60, [])]
noncomputable def G_198 : tm_G := fun id as M => if id = 106 then F_106 as M else if id = 97 then F_97 as M else none
noncomputable def F_198 : List Value → tm_M → Option tm_R := tm_m tm_sh none G_198 true cd_198 cu_198 35 6
theorem gg_198 : tm_Gg G_198 := by
  intro id as M r h
  unfold G_198 at h
  rcases tm_ite_e h with ⟨_, h⟩ | ⟨_, h⟩
  · exact gr_106 h
  rcases tm_ite_e h with ⟨_, h⟩ | ⟨_, h⟩
  · exact gr_97 h
  cases h
theorem gm_198 (l : Launch) : ∀ id as M r, G_198 id as M = some r → tm_MA tm_sh l (tm_mt id) as M r := by
  intro id as M r h
  unfold G_198 at h
  rcases tm_ite_e h with ⟨rfl, h⟩ | ⟨_, h⟩
  · exact con_106 l h
  rcases tm_ite_e h with ⟨rfl, h⟩ | ⟨_, h⟩
  · exact con_97 l h
  cases h
theorem gr_198 {as : List Value} {M : tm_M} {r : tm_R} (h : F_198 as M = some r) : tm_gr M r.2 := tm_m_gr gg_198 h
theorem ck_198 : tm_cdk (tm_mt 198).1.cls false tm_mt (tm_mt 198) true cd_198 := tm_cdk_of (LK := lk_RX11) (ix := [121, 133, 162, 158, 158]) lc_RX11 (by decide +kernel)
theorem con_198 (l : Launch) {as : List Value} {M : tm_M} {r : tm_R} (h : F_198 as M = some r) : tm_MA tm_sh l (tm_mt 198) as M r := tm_sound (t := tm_mt 198) tm_Sok_ok tm_CL_ok gg_198 (gm_198 l) (fun _ _ => ⟨rfl, rfl⟩) ck_198 (by decide +kernel) (fun h => by cases h) (fun _ _ _ _ => tm_nos_all (by decide +kernel)) h
def cd_199 : List tm_E := [(0, .aload_n 0, 1, 0, 0, 0), (1, .iload_n 1, 1, 0, 0, 0), (2, .iload_n 2, 1, 0, 0, 0), (3, .invokevirtual 359, 3, 99, 2, 45), (6, .istore 4, 2, 0, 0, 0), (8, .iload 4, 2, 0, 0, 0), (10, .ifCond .ne 7, 3, 17, 0, 0), (13, .iload_n 3, 1, 0, 0, 0), (14, .goto 5, 3, 19, 0, 0), (17, .iload 4, 2, 0, 0, 0), (19, .ireturn, 1, 0, 0, 0)]
def cu_199 : List (Nat × List Nat) := [(6, [3]), (19, [])]
noncomputable def G_199 : tm_G := fun id as M => if id = 99 then F_99 as M else none
noncomputable def F_199 : List Value → tm_M → Option tm_R := tm_m tm_sh none G_199 false cd_199 cu_199 12 5
theorem gg_199 : tm_Gg G_199 := by
  intro id as M r h
  unfold G_199 at h
  rcases tm_ite_e h with ⟨_, h⟩ | ⟨_, h⟩
  · exact gr_99 h
  cases h
theorem gm_199 (l : Launch) : ∀ id as M r, G_199 id as M = some r → tm_MA tm_sh l (tm_mt id) as M r := by
  intro id as M r h
  unfold G_199 at h
  rcases tm_ite_e h with ⟨rfl, h⟩ | ⟨_, h⟩
  · exact con_99 l h
  cases h
theorem gr_199 {as : List Value} {M : tm_M} {r : tm_R} (h : F_199 as M = some r) : tm_gr M r.2 := tm_m_gr gg_199 h
theorem ck_199 : tm_cdk (tm_mt 199).1.cls false tm_mt (tm_mt 199) false cd_199 := tm_cdk_of (LK := lk_RX11) (ix := [159]) lc_RX11 (by decide +kernel)
theorem con_199 (l : Launch) {as : List Value} {M : tm_M} {r : tm_R} (h : F_199 as M = some r) : tm_MA tm_sh l (tm_mt 199) as M r := tm_sound (t := tm_mt 199) tm_Sok_ok tm_CL_ok gg_199 (gm_199 l) (fun _ _ => ⟨rfl, rfl⟩) ck_199 (by decide +kernel) (fun h => by cases h) (fun _ _ _ _ => tm_nos_all (by decide +kernel)) h
def cd_200 : List tm_E := [(0, .bipush 16, 2, 0, 0, 0), (2, .iload_n 0, 1, 0, 0, 0), (3, .imul, 1, 0, 0, 0), (4, .iconst 4, 1, 0, 0, 0), (5, .iload_n 1, 1, 0, 0, 0), (6, .imul, 1, 0, 0, 0), (7, .iadd, 1, 0, 0, 0), (8, .iload_n 2, 1, 0, 0, 0), (9, .iadd, 1, 0, 0, 0), (10, .ireturn, 1, 0, 0, 0)]
def cu_200 : List (Nat × List Nat) := []
def G_200 : tm_G := fun _ _ _ => none
noncomputable def F_200 : List Value → tm_M → Option tm_R := tm_m tm_sh none G_200 false cd_200 cu_200 11 3
theorem gg_200 : tm_Gg G_200 := fun _ _ _ _ h => by cases h
theorem gm_200 (l : Launch) : ∀ id as M r, G_200 id as M = some r → tm_MA tm_sh l (tm_mt id) as M r := fun _ _ _ _ h => by cases h
theorem gr_200 {as : List Value} {M : tm_M} {r : tm_R} (h : F_200 as M = some r) : tm_gr M r.2 := tm_m_gr gg_200 h
theorem ck_200 : tm_cdk (tm_mt 200).1.cls false tm_mt (tm_mt 200) false cd_200 := tm_cdk_of (LK := lk_RX11) (ix := []) lc_RX11 (by decide +kernel)
theorem con_200 (l : Launch) {as : List Value} {M : tm_M} {r : tm_R} (h : F_200 as M = some r) : tm_MA tm_sh l (tm_mt 200) as M r := tm_sound (t := tm_mt 200) tm_Sok_ok tm_CL_ok gg_200 (gm_200 l) (fun _ _ => ⟨rfl, rfl⟩) ck_200 (by decide +kernel) (fun h => by cases h) (fun _ _ _ _ => tm_nos_all (by decide +kernel)) h
def cd_201 : List tm_E := [(0, .iload_n 1, 1, 0, 0, 0), (1, .iload 4, 2, 0, 0, 0), (3, .ishr, 1, 0, 0, 0), (4, .iconst 1, 1, 0, 0, 0), (5, .iand, 1, 0, 0, 0), (6, .ifCond .eq 16, 3, 22, 0, 0), (9, .aload_n 0, 1, 0, 0, 0), (10, .iload 4, 2, 0, 0, 0), (12, .iload 5, 2, 0, 0, 0), (14, .iload_n 2, 1, 0, 0, 0), (15, .iload_n 3, 1, 0, 0, 0), (16, .invokevirtual 467, 3, 198, 4, 45), (19, .ifCond .ne 5, 3, 24, 0, 0), (22, .iconst 0, 1, 0, 0, 0), (23, .ireturn, 1, 0, 0, 0), (24, .aload_n 0, 1, 0, 0, 0), (25, .getfield 153, 3, 11, 68, 2), (28, .iload_n 1, 1, 0, 0, 0), (29, .iconst 1, 1, 0, 0, 0), (30, .iload 4, 2, 0, 0, 0), (32, .ishl, 1, 0, 0, 0), (33, .ixor, 1, 0, 0, 0), (34, .aload_n 0, 1, 0, 0, 0), (35, .iload 4, 2, 0, 0, 0), (37, .iload 5, 2, 0, 0, 0), (39, .iload_n 2, 1, 0, 0, 0), (40, .invokevirtual 471, 3, 199, 3, 45), (43, .iload_n 3, 1, 0, 0, 0), (44, .aload_n 0, 1, 0, 0, 0), (45, .iload 4, 2, 0, 0, 0), (47, .iload 5, 2, 0, 0, 0), (49, .invokevirtual 352, 3, 95, 2, 45), (52, .iadd, 1, 0, 0, 0), (53, .iconst 4, 1, 0, 0, 0), (54, .irem, 1, 0, 0, 0), (55, .invokestatic 474, 3, 200, 3, 1), (58, .baload, 1, 0, 0, 0), (59, .ireturn, 1, 0, 0, 0)]
def cu_201 : List (Nat × List Nat) := [(19, [0, 1, 2, 3, 4, 5]), (22, []), (43, [0, 3, 4, 5]), (52, []), (58, [])]
noncomputable def G_201 : tm_G := fun id as M => if id = 198 then F_198 as M else if id = 199 then F_199 as M else if id = 95 then F_95 as M else if id = 200 then F_200 as M else none
noncomputable def F_201 : List Value → tm_M → Option tm_R := tm_m tm_sh none G_201 true cd_201 cu_201 39 6
theorem gg_201 : tm_Gg G_201 := by
  intro id as M r h
  unfold G_201 at h
  rcases tm_ite_e h with ⟨_, h⟩ | ⟨_, h⟩
  · exact gr_198 h
  rcases tm_ite_e h with ⟨_, h⟩ | ⟨_, h⟩
  · exact gr_199 h
  rcases tm_ite_e h with ⟨_, h⟩ | ⟨_, h⟩
  · exact gr_95 h
  rcases tm_ite_e h with ⟨_, h⟩ | ⟨_, h⟩
  · exact gr_200 h
  cases h
theorem gm_201 (l : Launch) : ∀ id as M r, G_201 id as M = some r → tm_MA tm_sh l (tm_mt id) as M r := by
  intro id as M r h
  unfold G_201 at h
  rcases tm_ite_e h with ⟨rfl, h⟩ | ⟨_, h⟩
  · exact con_198 l h
  rcases tm_ite_e h with ⟨rfl, h⟩ | ⟨_, h⟩
  · exact con_199 l h
  rcases tm_ite_e h with ⟨rfl, h⟩ | ⟨_, h⟩
  · exact con_95 l h
  rcases tm_ite_e h with ⟨rfl, h⟩ | ⟨_, h⟩
  · exact con_200 l h
  cases h
theorem gr_201 {as : List Value} {M : tm_M} {r : tm_R} (h : F_201 as M = some r) : tm_gr M r.2 := tm_m_gr gg_201 h
theorem ck_201 : tm_cdk (tm_mt 201).1.cls false tm_mt (tm_mt 201) true cd_201 := tm_cdk_of (LK := lk_RX11) (ix := [228, 229, 230, 157, 231]) lc_RX11 (by decide +kernel)
theorem con_201 (l : Launch) {as : List Value} {M : tm_M} {r : tm_R} (h : F_201 as M = some r) : tm_MA tm_sh l (tm_mt 201) as M r := tm_sound (t := tm_mt 201) tm_Sok_ok tm_CL_ok gg_201 (gm_201 l) (fun _ _ => ⟨rfl, rfl⟩) ck_201 (by decide +kernel) (fun h => by cases h) (fun _ _ _ _ => tm_nos_all (by decide +kernel)) h
def cd_202 : List tm_E := [(0, .aload_n 0, 1, 0, 0, 0), (1, .getfield 304, 3, 11, 72, 0), (4, .ifCond .eq 4, 3, 8, 0, 0), (7, .return_, 1, 0, 0, 0), (8, .aload_n 0, 1, 0, 0, 0), (9, .iconst 1, 1, 0, 0, 0), (10, .putfield 304, 3, 11, 72, 3), (13, .aload_n 0, 1, 0, 0, 0), (14, .getfield 24, 3, 11, 12, 2), (17, .aload_n 0, 1, 0, 0, 0), (18, .getfield 295, 3, 11, 21, 0), (21, .iaload, 1, 0, 0, 0), (22, .istore_n 1, 1, 0, 0, 0), (23, .iconst 0, 1, 0, 0, 0), (24, .istore_n 2, 1, 0, 0, 0), (25, .iload_n 2, 1, 0, 0, 0), (26, .iconst 1, 1, 0, 0, 0), (27, .iload_n 1, 1, 0, 0, 0), (28, .ishl, 1, 0, 0, 0), (29, .if_icmp .ge 117, 3, 146, 0, 0), (32, .iconst 0, 1, 0, 0, 0), (33, .istore_n 3, 1, 0, 0, 0), (34, .iload_n 3, 1, 0, 0, 0), (35, .iconst 4, 1, 0, 0, 0), (36, .if_icmp .ge 104, 3, 140, 0, 0), (39, .iconst 0, 1, 0, 0, 0), (40, .istore 4, 2, 0, 0, 0), (42, .iload 4, 2, 0, 0, 0), (44, .iconst 4, 1, 0, 0, 0), (45, .if_icmp .ge 89, 3, 134, 0, 0), (48, .iload_n 2, 1, 0, 0, 0), (49, .ifCond .ne 7, 3, 56, 0, 0), (52, .iconst 1, 1, 0, 0, 0), (53, .goto 4, 3, 57, 0, 0), (56, .iconst 0, 1, 0, 0, 0), (57, .istore 5, 2, 0, 0, 0), (59, .iconst 0, 1, 0, 0, 0), (60, .istore 6, 2, 0, 0, 0), (62, .iload 6, 2, 0, 0, 0), (64, .iload_n 1, 1, 0, 0, 0), (65, .if_icmp .ge 49, 3, 114, 0, 0), (68, .iload 5, 2, 0, 0, 0), (70, .ifCond .ne 44, 3, 114, 0, 0), (73, .aload_n 0, 1, 0, 0, 0), (74, .iload_n 2, 1, 0, 0, 0), (75, .iload_n 3, 1, 0, 0, 0), (76, .iload 4, 2, 0, 0, 0), (78, .iload 6, 2, 0, 0, 0), (80, .iconst 0, 1, 0, 0, 0), (81, .invokevirtual 478, 3, 201, 5, 45), (84, .ifCond .ne 17, 3, 101, 0, 0), (87, .aload_n 0, 1, 0, 0, 0), (88, .iload_n 2, 1, 0, 0, 0), (89, .iload_n 3, 1, 0, 0, 0), (90, .iload 4, 2, 0, 0, 0), (92, .iload 6, 2, 0, 0, 0), (94, .iconst 1, 1, 0, 0, 0), (95, .invokevirtual 478, 3, 201, 5, 45), (98, .ifCond .eq 7, 3, 105, 0, 0), (101, .iconst 1, 1, 0, 0, 0), (102, .goto 4, 3, 106, 0, 0), (105, .iconst 0, 1, 0, 0, 0), (106, .istore 5, 2, 0, 0, 0), (108, .iinc 6 1, 3, 0, 0, 0), (111, .goto (-49), 3, 62, 0, 0), (114, .aload_n 0, 1, 0, 0, 0), (115, .getfield 153, 3, 11, 68, 2), (118, .iload_n 2, 1, 0, 0, 0), (119, .iload_n 3, 1, 0, 0, 0), (120, .iload 4, 2, 0, 0, 0), (122, .invokestatic 474, 3, 200, 3, 1), (125, .iload 5, 2, 0, 0, 0), (127, .bastore, 1, 0, 0, 0), (128, .iinc 4 1, 3, 0, 0, 0), (131, .goto (-89), 3, 42, 0, 0), (134, .iinc 3 1, 3, 0, 0, 0), (137, .goto (-103), 3, 34, 0, 0), (140, .iinc 2 1, 3, 0, 0, 0), (143, .goto (-118), 3, 25, 0, 0), (146, .return_, 1, 0, 0, 0)]
def cu_202 : List (Nat × List Nat) := [(25, [0, 1, 2]), (34, [0, 1, 2, 3]), (42, [0, 1, 2, 3, 4]), (57, [0, 1, 2, 3, 4]), (62, [0, 1, 2, 3, 4, 5, 6]), (84, [0, 1, 2, 3, 4, 6]), (98, [0, 1, 2, 3, 4, 6]), (101, [0, 1, 2, 3, 4, 6]), (106, [0, 1, 2, 3, 4, 6]), (114, [0, 1, 2, 3, 4, 5]), (125, [0, 1, 2, 3, 4, 5])]
noncomputable def G_202 : tm_G := fun id as M => if id = 201 then F_201 as M else if id = 200 then F_200 as M else none
noncomputable def F_202 : List Value → tm_M → Option tm_R := tm_m tm_sh none G_202 false cd_202 cu_202 81 7
theorem gg_202 : tm_Gg G_202 := by
  intro id as M r h
  unfold G_202 at h
  rcases tm_ite_e h with ⟨_, h⟩ | ⟨_, h⟩
  · exact gr_201 h
  rcases tm_ite_e h with ⟨_, h⟩ | ⟨_, h⟩
  · exact gr_200 h
  cases h
theorem gm_202 (l : Launch) : ∀ id as M r, G_202 id as M = some r → tm_MA tm_sh l (tm_mt id) as M r := by
  intro id as M r h
  unfold G_202 at h
  rcases tm_ite_e h with ⟨rfl, h⟩ | ⟨_, h⟩
  · exact con_201 l h
  rcases tm_ite_e h with ⟨rfl, h⟩ | ⟨_, h⟩
  · exact con_200 l h
  cases h
theorem gr_202 {as : List Value} {M : tm_M} {r : tm_R} (h : F_202 as M = some r) : tm_gr M r.2 := tm_m_gr gg_202 h
theorem ck_202 : tm_cdk (tm_mt 202).1.cls false tm_mt (tm_mt 202) false cd_202 := tm_cdk_of (LK := lk_RX11) (ix := [232, 137, 110, 133, 233, 233, 229, 231]) lc_RX11 (by decide +kernel)
theorem con_202 (l : Launch) {as : List Value} {M : tm_M} {r : tm_R} (h : F_202 as M = some r) : tm_MA tm_sh l (tm_mt 202) as M r := tm_sound (t := tm_mt 202) tm_Sok_ok tm_CL_ok gg_202 (gm_202 l) (fun _ _ => ⟨rfl, rfl⟩) ck_202 (by decide +kernel) (fun h => by cases h) (fun _ _ _ _ => tm_nos_all (by decide +kernel)) h
def cd_203 : List tm_E := [(0, .iconst 0, 1, 0, 0, 0), (1, .istore_n 3, 1, 0, 0, 0), (2, .iconst 0, 1, 0, 0, 0), (3, .istore 4, 2, 0, 0, 0), (5, .iload 4, 2, 0, 0, 0), (7, .aload_n 0, 1, 0, 0, 0), (8, .getfield 24, 3, 11, 12, 2), (11, .aload_n 0, 1, 0, 0, 0), (12, .getfield 295, 3, 11, 21, 0), (15, .iaload, 1, 0, 0, 0), (16, .if_icmp .ge 47, 3, 63, 0, 0), (19, .iload_n 3, 1, 0, 0, 0), (20, .iload_n 1, 1, 0, 0, 0), (21, .iload 4, 2, 0, 0, 0), (23, .ishr, 1, 0, 0, 0), (24, .iconst 1, 1, 0, 0, 0), (25, .iand, 1, 0, 0, 0), (26, .iload_n 2, 1, 0, 0, 0), (27, .ifCond .eq 21, 3, 48, 0, 0), (30, .aload_n 0, 1, 0, 0, 0), (31, .getfield 28, 3, 11, 13, 2), (34, .bipush 12, 2, 0, 0, 0), (36, .aload_n 0, 1, 0, 0, 0), (37, .getfield 295, 3, 11, 21, 0), (40, .imul, 1, 0, 0, 0), (41, .iload 4, 2, 0, 0, 0), (43, .iadd, 1, 0, 0, 0), (44, .iaload, 1, 0, 0, 0), (45, .goto 9, 3, 54, 0, 0), (48, .aload_n 0, 1, 0, 0, 0), (49, .iload 4, 2, 0, 0, 0), (51, .invokevirtual 342, 3, 94, 1, 45), (54, .imul, 1, 0, 0, 0), (55, .iadd, 1, 0, 0, 0), (56, .istore_n 3, 1, 0, 0, 0), (57, .iinc 4 1, 3, 0, 0, 0), (60, .goto (-55), 3, 5, 0, 0), (63, .iload_n 3, 1, 0, 0, 0), (64, .ireturn, 1, 0, 0, 0)]
def cu_203 : List (Nat × List Nat) := [(5, [0, 1, 2, 3, 4]), (54, [0, 1, 2, 4])]
noncomputable def G_203 : tm_G := fun id as M => if id = 94 then F_94 as M else none
noncomputable def F_203 : List Value → tm_M → Option tm_R := tm_m tm_sh none G_203 false cd_203 cu_203 40 5
theorem gg_203 : tm_Gg G_203 := by
  intro id as M r h
  unfold G_203 at h
  rcases tm_ite_e h with ⟨_, h⟩ | ⟨_, h⟩
  · exact gr_94 h
  cases h
theorem gm_203 (l : Launch) : ∀ id as M r, G_203 id as M = some r → tm_MA tm_sh l (tm_mt id) as M r := by
  intro id as M r h
  unfold G_203 at h
  rcases tm_ite_e h with ⟨rfl, h⟩ | ⟨_, h⟩
  · exact con_94 l h
  cases h
theorem gr_203 {as : List Value} {M : tm_M} {r : tm_R} (h : F_203 as M = some r) : tm_gr M r.2 := tm_m_gr gg_203 h
theorem ck_203 : tm_cdk (tm_mt 203).1.cls false tm_mt (tm_mt 203) false cd_203 := tm_cdk_of (LK := lk_RX11) (ix := [110, 133, 128, 133, 154]) lc_RX11 (by decide +kernel)
theorem con_203 (l : Launch) {as : List Value} {M : tm_M} {r : tm_R} (h : F_203 as M = some r) : tm_MA tm_sh l (tm_mt 203) as M r := tm_sound (t := tm_mt 203) tm_Sok_ok tm_CL_ok gg_203 (gm_203 l) (fun _ _ => ⟨rfl, rfl⟩) ck_203 (by decide +kernel) (fun h => by cases h) (fun _ _ _ _ => tm_nos_all (by decide +kernel)) h
def cd_204 : List tm_E := [(0, .iload_n 1, 1, 0, 0, 0), (1, .ifCond .lt 28, 3, 29, 0, 0), (4, .iload_n 1, 1, 0, 0, 0), (5, .sipush 200, 3, 0, 0, 0), (8, .if_icmp .gt 21, 3, 29, 0, 0), (11, .iload_n 2, 1, 0, 0, 0), (12, .ifCond .lt 17, 3, 29, 0, 0), (15, .iload_n 2, 1, 0, 0, 0), (16, .iconst 3, 1, 0, 0, 0), (17, .if_icmp .gt 12, 3, 29, 0, 0), (20, .iload_n 3, 1, 0, 0, 0), (21, .ifCond .lt 8, 3, 29, 0, 0), (24, .iload_n 3, 1, 0, 0, 0), (25, .iconst 3, 1, 0, 0, 0), (26, .if_icmp .le 5, 3, 31, 0, 0), (29, .iconst 0, 1, 0, 0, 0), (30, .ireturn, 1, 0, 0, 0), (31, .aload_n 0, 1, 0, 0, 0), (32, .invokevirtual 482, 3, 202, 0, 44), (35, .iconst 0, 1, 0, 0, 0), (36, .istore 4, 2, 0, 0, 0), (38, .iconst 1, 1, 0, 0, 0), (39, .istore 5, 2, 0, 0, 0), (41, .iload 5, 2, 0, 0, 0), (43, .iconst 1, 1, 0, 0, 0), (44, .aload_n 0, 1, 0, 0, 0), (45, .getfield 24, 3, 11, 12, 2), (48, .aload_n 0, 1, 0, 0, 0), (49, .getfield 295, 3, 11, 21, 0), (52, .iaload, 1, 0, 0, 0), (53, .ishl, 1, 0, 0, 0), (54, .if_icmp .ge 86, 3, 140, 0, 0), (57, .aload_n 0, 1, 0, 0, 0), (58, .getfield 153, 3, 11, 68, 2), (61, .iload 5, 2, 0, 0, 0), (63, .iload_n 2, 1, 0, 0, 0), (64, .iload_n 3, 1, 0, 0, 0), (65, .invokestatic 474, 3, 200, 3, 1), (68, .baload, 1, 0, 0, 0), (69, .ifCond .eq 65, 3, 134, 0, 0), (72, .aload_n 0, 1, 0, 0, 0), (73, .iload 5, 2, 0, 0, 0), (75, .iconst 0, 1, 0, 0, 0), (76, .invokevirtual 485, 3, 203, 2, 45), (79, .iload_n 1, 1, 0, 0, 0), (80, .if_icmp .le 6, 3, 86, 0, 0), (83, .goto 51, 3, 134, 0, 0), (86, .aload_n 0, 1, 0, 0, 0), (87, .iload 5, 2, 0, 0, 0), (89, .iconst 1, 1, 0, 0, 0), (90, .invokevirtual 485, 3, 203, 2, 45), (93, .aload_n 0, 1, 0, 0, 0), (94, .iload 4, 2, 0, 0, 0), (96, .iconst 1, 1, 0, 0, 0), (97, .invokevirtual 485, 3, 203, 2, 45), (100, .isub, 1, 0, 0, 0), (101, .istore 6, 2, 0, 0, 0), (103, .iload 6, 2, 0, 0, 0), (105, .ifCond .gt 25, 3, 130, 0, 0), (108, .iload 6, 2, 0, 0, 0), (110, .ifCond .ne 24, 3, 134, 0, 0), (113, .aload_n 0, 1, 0, 0, 0), (114, .iload 5, 2, 0, 0, 0), (116, .iconst 0, 1, 0, 0, 0), (117, .invokevirtual 485, 3, 203, 2, 45), (120, .aload_n 0, 1, 0, 0, 0), (121, .iload 4, 2, 0, 0, 0), (123, .iconst 0, 1, 0, 0, 0), (124, .invokevirtual 485, 3, 203, 2, 45), (127, .if_icmp .ge 7, 3, 134, 0, 0), (130, .iload 5, 2, 0, 0, 0), (132, .istore 4, 2, 0, 0, 0), (134, .iinc 5 1, 3, 0, 0, 0), (137, .goto (-96), 3, 41, 0, 0), (140, .aload_n 0, 1, 0, 0, 0), (141, .aload_n 0, 1, 0, 0, 0), (142, .iload 4, 2, 0, 0, 0), (144, .iconst 1, 1, 0, 0, 0), (145, .invokevirtual 485, 3, 203, 2, 45), (148, .putfield 488, 3, 11, 71, 0), (151, .aload_n 0, 1, 0, 0, 0), (152, .iconst 0, 1, 0, 0, 0), (153, .putfield 491, 3, 11, 70, 0), (156, .iload_n 2, 1, 0, 0, 0), (157, .istore 5, 2, 0, 0, 0), (159, .iload_n 3, 1, 0, 0, 0), (160, .istore 6, 2, 0, 0, 0), (162, .iload 4, 2, 0, 0, 0), (164, .istore 7, 2, 0, 0, 0), (166, .iload 7, 2, 0, 0, 0), (168, .ifCond .eq 130, 3, 298, 0, 0), (171, .iconst 0, 1, 0, 0, 0), (172, .istore 8, 2, 0, 0, 0), (174, .aload_n 0, 1, 0, 0, 0), (175, .iload 7, 2, 0, 0, 0), (177, .iload 5, 2, 0, 0, 0), (179, .iload 6, 2, 0, 0, 0), (181, .iload 8, 2, 0, 0, 0), (183, .iconst 2, 1, 0, 0, 0), (184, .idiv, 1, 0, 0, 0), (185, .iload 8, 2, 0, 0, 0), (187, .iconst 2, 1, 0, 0, 0), (188, .irem, 1, 0, 0, 0), (189, .iconst 1, 1, 0, 0, 0), (190, .if_icmp .ne 7, 3, 197, 0, 0), (193, .iconst 1, 1, 0, 0, 0), (194, .goto 4, 3, 198, 0, 0), (197, .iconst 0, 1, 0, 0, 0), (198, .invokevirtual 478, 3, 201, 5, 45), (201, .ifCond .ne 9, 3, 210, 0, 0), (204, .iinc 8 1, 3, 0, 0, 0), (207, .goto (-33), 3, 174, 0, 0), (210, .aload_n 0, 1, 0, 0, 0), (211, .getfield 156, 3, 11, 69, 2), (214, .aload_n 0, 1, 0, 0, 0), (215, .getfield 491, 3, 11, 70, 0), (218, .iload 8, 2, 0, 0, 0), (220, .iastore, 1, 0, 0, 0), (221, .aload_n 0, 1, 0, 0, 0), (222, .dup, 1, 0, 0, 0), (223, .getfield 491, 3, 11, 70, 0), (226, .iconst 1, 1, 0, 0, 0), (227, .iadd, 1, 0, 0, 0), (228, .putfield 491, 3, 11, 70, 0), (231, .aload_n 0, 1, 0, 0, 0), (232, .iload 8, 2, 0, 0, 0), (234, .iconst 2, 1, 0, 0, 0), (235, .idiv, 1, 0, 0, 0), (236, .iload 8, 2, 0, 0, 0), (238, .iconst 2, 1, 0, 0, 0), (239, .irem, 1, 0, 0, 0), (240, .iconst 1, 1, 0, 0, 0), (241, .if_icmp .ne 7, 3, 248, 0, 0), (244, .iconst 1, 1, 0, 0, 0), (245, .goto 4, 3, 249, 0, 0), (248, .iconst 0, 1, 0, 0, 0), (249, .iload 5, 2, 0, 0, 0), (251, .invokevirtual 471, 3, 199, 3, 45), (254, .istore 5, 2, 0, 0, 0), (256, .iload 6, 2, 0, 0, 0), (258, .aload_n 0, 1, 0, 0, 0), (259, .iload 8, 2, 0, 0, 0), (261, .iconst 2, 1, 0, 0, 0), (262, .idiv, 1, 0, 0, 0), (263, .iload 8, 2, 0, 0, 0), (265, .iconst 2, 1, 0, 0, 0), (266, .irem, 1, 0, 0, 0), (267, .iconst 1, 1, 0, 0, 0), (268, .if_icmp .ne 7, 3, 275, 0, 0), (271, .iconst 1, 1, 0, 0, 0), (272, .goto 4, 3, 276, 0, 0), (275, .iconst 0, 1, 0, 0, 0), (276, .invokevirtual 352, 3, 95, 2, 45), (279, .iadd, 1, 0, 0, 0), (280, .iconst 4, 1, 0, 0, 0), (281, .irem, 1, 0, 0, 0), (282, .istore 6, 2, 0, 0, 0), (284, .iload 7, 2, 0, 0, 0), (286, .iconst 1, 1, 0, 0, 0), (287, .iload 8, 2, 0, 0, 0), (289, .iconst 2, 1, 0, 0, 0), (290, .idiv, 1, 0, 0, 0), (291, .ishl, 1, 0, 0, 0), (292, .ixor, 1, 0, 0, 0), (293, .istore 7, 2, 0, 0, 0), (295, .goto (-129), 3, 166, 0, 0), (298, .iconst 1, 1, 0, 0, 0), (299, .ireturn, 1, 0, 0, 0)]
def cu_204 : List (Nat × List Nat) := [(29, []), (35, [0, 1, 2, 3]), (41, [0, 1, 2, 3, 4, 5]), (68, [0, 1, 2, 3, 4, 5]), (79, [0, 1, 2, 3, 4, 5]), (93, [0, 1, 2, 3, 4, 5]), (100, [0, 1, 2, 3, 4, 5]), (120, [0, 1, 2, 3, 4, 5]), (127, [0, 1, 2, 3, 4, 5]), (130, [0, 1, 2, 3, 5]), (134, [0, 1, 2, 3, 4, 5]), (148, [0, 2, 3, 4]), (166, [0, 5, 6, 7]), (174, [0, 5, 6, 7, 8]), (198, [0, 5, 6, 7, 8]), (201, [0, 5, 6, 7, 8]), (249, [0, 5, 6, 7, 8]), (254, [0, 6, 7, 8]), (276, [0, 5, 7, 8]), (279, [0, 5, 7, 8])]
noncomputable def G_204 : tm_G := fun id as M => if id = 202 then F_202 as M else if id = 200 then F_200 as M else if id = 203 then F_203 as M else if id = 201 then F_201 as M else if id = 199 then F_199 as M else if id = 95 then F_95 as M else none
noncomputable def F_204 : List Value → tm_M → Option tm_R := tm_m tm_sh none G_204 true cd_204 cu_204 169 9
theorem gg_204 : tm_Gg G_204 := by
  intro id as M r h
  unfold G_204 at h
  rcases tm_ite_e h with ⟨_, h⟩ | ⟨_, h⟩
  · exact gr_202 h
  rcases tm_ite_e h with ⟨_, h⟩ | ⟨_, h⟩
  · exact gr_200 h
  rcases tm_ite_e h with ⟨_, h⟩ | ⟨_, h⟩
  · exact gr_203 h
  rcases tm_ite_e h with ⟨_, h⟩ | ⟨_, h⟩
  · exact gr_201 h
  rcases tm_ite_e h with ⟨_, h⟩ | ⟨_, h⟩
  · exact gr_199 h
  rcases tm_ite_e h with ⟨_, h⟩ | ⟨_, h⟩
  · exact gr_95 h
  cases h
theorem gm_204 (l : Launch) : ∀ id as M r, G_204 id as M = some r → tm_MA tm_sh l (tm_mt id) as M r := by
  intro id as M r h
  unfold G_204 at h
  rcases tm_ite_e h with ⟨rfl, h⟩ | ⟨_, h⟩
  · exact con_202 l h
  rcases tm_ite_e h with ⟨rfl, h⟩ | ⟨_, h⟩
  · exact con_200 l h
  rcases tm_ite_e h with ⟨rfl, h⟩ | ⟨_, h⟩
  · exact con_203 l h
  rcases tm_ite_e h with ⟨rfl, h⟩ | ⟨_, h⟩
  · exact con_201 l h
  rcases tm_ite_e h with ⟨rfl, h⟩ | ⟨_, h⟩
  · exact con_199 l h
  rcases tm_ite_e h with ⟨rfl, h⟩ | ⟨_, h⟩
  · exact con_95 l h
  cases h
theorem gr_204 {as : List Value} {M : tm_M} {r : tm_R} (h : F_204 as M = some r) : tm_gr M r.2 := tm_m_gr gg_204 h
theorem ck_204 : tm_cdk (tm_mt 204).1.cls false tm_mt (tm_mt 204) true cd_204 := tm_cdk_of (LK := lk_RX11) (ix := [234, 110, 133, 229, 231, 235, 235, 235, 235, 235, 235, 236, 237, 233, 238, 239, 239, 237, 230, 157]) lc_RX11 (by decide +kernel)
theorem con_204 (l : Launch) {as : List Value} {M : tm_M} {r : tm_R} (h : F_204 as M = some r) : tm_MA tm_sh l (tm_mt 204) as M r := tm_sound (t := tm_mt 204) tm_Sok_ok tm_CL_ok gg_204 (gm_204 l) (fun _ _ => ⟨rfl, rfl⟩) ck_204 (by decide +kernel) (fun h => by cases h) (fun _ _ _ _ => tm_nos_all (by decide +kernel)) h
def cd_205 : List tm_E := [(0, .aload_n 0, 1, 0, 0, 0), (1, .iload_n 1, 1, 0, 0, 0), (2, .iload_n 2, 1, 0, 0, 0), (3, .iload_n 3, 1, 0, 0, 0), (4, .invokevirtual 494, 3, 204, 3, 45), (7, .ifCond .eq 10, 3, 17, 0, 0), (10, .aload_n 0, 1, 0, 0, 0), (11, .getfield 488, 3, 11, 71, 0), (14, .goto 4, 3, 18, 0, 0), (17, .iconst (-1), 1, 0, 0, 0), (18, .ireturn, 1, 0, 0, 0)]
def cu_205 : List (Nat × List Nat) := [(7, [0]), (18, [])]
noncomputable def G_205 : tm_G := fun id as M => if id = 204 then F_204 as M else none
noncomputable def F_205 : List Value → tm_M → Option tm_R := tm_m tm_sh none G_205 false cd_205 cu_205 12 4
theorem gg_205 : tm_Gg G_205 := by
  intro id as M r h
  unfold G_205 at h
  rcases tm_ite_e h with ⟨_, h⟩ | ⟨_, h⟩
  · exact gr_204 h
  cases h
theorem gm_205 (l : Launch) : ∀ id as M r, G_205 id as M = some r → tm_MA tm_sh l (tm_mt id) as M r := by
  intro id as M r h
  unfold G_205 at h
  rcases tm_ite_e h with ⟨rfl, h⟩ | ⟨_, h⟩
  · exact con_204 l h
  cases h
theorem gr_205 {as : List Value} {M : tm_M} {r : tm_R} (h : F_205 as M = some r) : tm_gr M r.2 := tm_m_gr gg_205 h
theorem ck_205 : tm_cdk (tm_mt 205).1.cls false tm_mt (tm_mt 205) false cd_205 := tm_cdk_of (LK := lk_RX11) (ix := [240, 241]) lc_RX11 (by decide +kernel)
theorem con_205 (l : Launch) {as : List Value} {M : tm_M} {r : tm_R} (h : F_205 as M = some r) : tm_MA tm_sh l (tm_mt 205) as M r := tm_sound (t := tm_mt 205) tm_Sok_ok tm_CL_ok gg_205 (gm_205 l) (fun _ _ => ⟨rfl, rfl⟩) ck_205 (by decide +kernel) (fun h => by cases h) (fun _ _ _ _ => tm_nos_all (by decide +kernel)) h
def cd_206 : List tm_E := [(0, .iload_n 1, 1, 0, 0, 0), (1, .ifCond .lt 20, 3, 21, 0, 0), (4, .iload_n 1, 1, 0, 0, 0), (5, .aload_n 0, 1, 0, 0, 0), (6, .getfield 55, 3, 1, 7, 0), (9, .if_icmp .ge 12, 3, 21, 0, 0), (12, .iload_n 1, 1, 0, 0, 0), (13, .aload_n 0, 1, 0, 0, 0), (14, .getfield 33, 3, 1, 6, 2), (17, .arraylength, 1, 0, 0, 0), (18, .if_icmp .lt 5, 3, 23, 0, 0), (21, .iconst (-1), 1, 0, 0, 0), (22, .ireturn, 1, 0, 0, 0), (23, .iload_n 2, 1, 0, 0, 0), (24, .lookupswitch 46 #[(0, 28), (1, 37)], 28, 0, 0, 0), (52, .aload_n 0, 1, 0, 0, 0), (53, .getfield 33, 3, 1, 6, 2), (56, .iload_n 1, 1, 0, 0, 0), (57, .iaload, 1, 0, 0, 0), (58, .iconst 2, 1, 0, 0, 0), (59, .idiv, 1, 0, 0, 0), (60, .ireturn, 1, 0, 0, 0), (61, .aload_n 0, 1, 0, 0, 0), (62, .getfield 33, 3, 1, 6, 2), (65, .iload_n 1, 1, 0, 0, 0), (66, .iaload, 1, 0, 0, 0), (67, .iconst 2, 1, 0, 0, 0), (68, .irem, 1, 0, 0, 0), (69, .ireturn, 1, 0, 0, 0), (70, .iconst (-1), 1, 0, 0, 0), (71, .ireturn, 1, 0, 0, 0)]
def cu_206 : List (Nat × List Nat) := [(21, [])]
def G_206 : tm_G := fun _ _ _ => none
noncomputable def F_206 : List Value → tm_M → Option tm_R := tm_m tm_sh none G_206 false cd_206 cu_206 32 3
theorem gg_206 : tm_Gg G_206 := fun _ _ _ _ h => by cases h
theorem gm_206 (l : Launch) : ∀ id as M r, G_206 id as M = some r → tm_MA tm_sh l (tm_mt id) as M r := fun _ _ _ _ h => by cases h
theorem gr_206 {as : List Value} {M : tm_M} {r : tm_R} (h : F_206 as M = some r) : tm_gr M r.2 := tm_m_gr gg_206 h
theorem ck_206 : tm_cdk (tm_mt 206).1.cls false tm_mt (tm_mt 206) false cd_206 := tm_cdk_of (LK := lk_RX1) (ix := [43, 44, 44, 44]) lc_RX1 (by decide +kernel)
theorem con_206 (l : Launch) {as : List Value} {M : tm_M} {r : tm_R} (h : F_206 as M = some r) : tm_MA tm_sh l (tm_mt 206) as M r := tm_sound (t := tm_mt 206) tm_Sok_ok tm_CL_ok gg_206 (gm_206 l) (fun _ _ => ⟨rfl, rfl⟩) ck_206 (by decide +kernel) (fun h => by cases h) (fun _ _ _ _ => tm_nos_all (by decide +kernel)) h
def cd_207 : List tm_E := [(0, .iload_n 1, 1, 0, 0, 0), (1, .iload_n 2, 1, 0, 0, 0), (2, .iload_n 3, 1, 0, 0, 0), (3, .invokestatic 179, 3, 185, 3, 1), (6, .ifCond .ne 5, 3, 11, 0, 0), (9, .iconst (-1), 1, 0, 0, 0), (10, .ireturn, 1, 0, 0, 0), (11, .aload_n 0, 1, 0, 0, 0), (12, .getfield 30, 3, 10, 3, 2), (15, .aload_n 0, 1, 0, 0, 0), (16, .getfield 51, 3, 10, 6, 2), (19, .iload_n 1, 1, 0, 0, 0), (20, .iload_n 2, 1, 0, 0, 0), (21, .iload_n 3, 1, 0, 0, 0), (22, .invokevirtual 183, 3, 195, 4, 4), (25, .aload_n 0, 1, 0, 0, 0), (26, .getfield 30, 3, 10, 3, 2), (29, .iload 4, 2, 0, 0, 0), (31, .iload 5, 2, 0, 0, 0), (33, .invokevirtual 190, 3, 206, 2, 5), (36, .ireturn, 1, 0, 0, 0)]
def cu_207 : List (Nat × List Nat) := [(6, [0, 1, 2, 3, 4, 5]), (25, [0, 4, 5]), (36, [])]
noncomputable def G_207 : tm_G := fun id as M => if id = 185 then F_185 as M else if id = 195 then F_195 as M else if id = 206 then F_206 as M else none
noncomputable def F_207 : List Value → tm_M → Option tm_R := tm_m tm_sh none G_207 false cd_207 cu_207 22 6
theorem gg_207 : tm_Gg G_207 := by
  intro id as M r h
  unfold G_207 at h
  rcases tm_ite_e h with ⟨_, h⟩ | ⟨_, h⟩
  · exact gr_185 h
  rcases tm_ite_e h with ⟨_, h⟩ | ⟨_, h⟩
  · exact gr_195 h
  rcases tm_ite_e h with ⟨_, h⟩ | ⟨_, h⟩
  · exact gr_206 h
  cases h
theorem gm_207 (l : Launch) : ∀ id as M r, G_207 id as M = some r → tm_MA tm_sh l (tm_mt id) as M r := by
  intro id as M r h
  unfold G_207 at h
  rcases tm_ite_e h with ⟨rfl, h⟩ | ⟨_, h⟩
  · exact con_185 l h
  rcases tm_ite_e h with ⟨rfl, h⟩ | ⟨_, h⟩
  · exact con_195 l h
  rcases tm_ite_e h with ⟨rfl, h⟩ | ⟨_, h⟩
  · exact con_206 l h
  cases h
theorem gr_207 {as : List Value} {M : tm_M} {r : tm_R} (h : F_207 as M = some r) : tm_gr M r.2 := tm_m_gr gg_207 h
theorem ck_207 : tm_cdk (tm_mt 207).1.cls false tm_mt (tm_mt 207) false cd_207 := tm_cdk_of (LK := lk_RX10) (ix := [71, 38, 37, 72, 38, 74]) lc_RX10 (by decide +kernel)
theorem con_207 (l : Launch) {as : List Value} {M : tm_M} {r : tm_R} (h : F_207 as M = some r) : tm_MA tm_sh l (tm_mt 207) as M r := tm_sound (t := tm_mt 207) tm_Sok_ok tm_CL_ok gg_207 (gm_207 l) (fun _ _ => ⟨rfl, rfl⟩) ck_207 (by decide +kernel) (fun h => by cases h) (fun _ _ _ _ => tm_nos_all (by decide +kernel)) h
def cd_208 : List tm_E := [(0, .aload_n 0, 1, 0, 0, 0), (1, .iload_n 1, 1, 0, 0, 0), (2, .iload_n 2, 1, 0, 0, 0), (3, .iload_n 3, 1, 0, 0, 0), (4, .invokevirtual 494, 3, 204, 3, 45), (7, .ifCond .eq 17, 3, 24, 0, 0), (10, .iload 4, 2, 0, 0, 0), (12, .ifCond .lt 12, 3, 24, 0, 0), (15, .iload 4, 2, 0, 0, 0), (17, .aload_n 0, 1, 0, 0, 0), (18, .getfield 491, 3, 11, 70, 0), (21, .if_icmp .lt 5, 3, 26, 0, 0), (24, .iconst (-1), 1, 0, 0, 0), (25, .ireturn, 1, 0, 0, 0), (26, .iload 5, 2, 0, 0, 0), (28, .ifCond .ne 15, 3, 43, 0, 0), (31, .aload_n 0, 1, 0, 0, 0), (32, .getfield 156, 3, 11, 69, 2), (35, .iload 4, 2, 0, 0, 0), (37, .iaload, 1, 0, 0, 0), (38, .iconst 2, 1, 0, 0, 0), (39, .idiv, 1, 0, 0, 0), (40, .goto 22, 3, 62, 0, 0), (43, .iload 5, 2, 0, 0, 0), (45, .iconst 1, 1, 0, 0, 0), (46, .if_icmp .ne 15, 3, 61, 0, 0), (49, .aload_n 0, 1, 0, 0, 0), (50, .getfield 156, 3, 11, 69, 2), (53, .iload 4, 2, 0, 0, 0), (55, .iaload, 1, 0, 0, 0), (56, .iconst 2, 1, 0, 0, 0), (57, .irem, 1, 0, 0, 0), (58, .goto 4, 3, 62, 0, 0), (61, .iconst (-1), 1, 0, 0, 0), (62, .ireturn, 1, 0, 0, 0)]
def cu_208 : List (Nat × List Nat) := [(7, [0, 4, 5]), (24, []), (62, [])]
noncomputable def G_208 : tm_G := fun id as M => if id = 204 then F_204 as M else none
noncomputable def F_208 : List Value → tm_M → Option tm_R := tm_m tm_sh none G_208 false cd_208 cu_208 36 6
theorem gg_208 : tm_Gg G_208 := by
  intro id as M r h
  unfold G_208 at h
  rcases tm_ite_e h with ⟨_, h⟩ | ⟨_, h⟩
  · exact gr_204 h
  cases h
theorem gm_208 (l : Launch) : ∀ id as M r, G_208 id as M = some r → tm_MA tm_sh l (tm_mt id) as M r := by
  intro id as M r h
  unfold G_208 at h
  rcases tm_ite_e h with ⟨rfl, h⟩ | ⟨_, h⟩
  · exact con_204 l h
  cases h
theorem gr_208 {as : List Value} {M : tm_M} {r : tm_R} (h : F_208 as M = some r) : tm_gr M r.2 := tm_m_gr gg_208 h
theorem ck_208 : tm_cdk (tm_mt 208).1.cls false tm_mt (tm_mt 208) false cd_208 := tm_cdk_of (LK := lk_RX11) (ix := [240, 239, 238, 238]) lc_RX11 (by decide +kernel)
theorem con_208 (l : Launch) {as : List Value} {M : tm_M} {r : tm_R} (h : F_208 as M = some r) : tm_MA tm_sh l (tm_mt 208) as M r := tm_sound (t := tm_mt 208) tm_Sok_ok tm_CL_ok gg_208 (gm_208 l) (fun _ _ => ⟨rfl, rfl⟩) ck_208 (by decide +kernel) (fun h => by cases h) (fun _ _ _ _ => tm_nos_all (by decide +kernel)) h
def cd_209 : List tm_E := [(0, .iload_n 0, 1, 0, 0, 0), (1, .bipush 97, 2, 0, 0, 0), (3, .if_icmp .eq 33, 3, 36, 0, 0), (6, .iload_n 0, 1, 0, 0, 0), (7, .bipush 101, 2, 0, 0, 0), (9, .if_icmp .eq 27, 3, 36, 0, 0), (12, .iload_n 0, 1, 0, 0, 0), (13, .bipush 105, 2, 0, 0, 0), (15, .if_icmp .eq 21, 3, 36, 0, 0), (18, .iload_n 0, 1, 0, 0, 0), (19, .bipush 111, 2, 0, 0, 0), (21, .if_icmp .eq 15, 3, 36, 0, 0), (24, .iload_n 0, 1, 0, 0, 0), (25, .bipush 117, 2, 0, 0, 0), (27, .if_icmp .eq 9, 3, 36, 0, 0), (30, .iload_n 0, 1, 0, 0, 0), (31, .bipush 121, 2, 0, 0, 0), (33, .if_icmp .ne 7, 3, 40, 0, 0), (36, .iconst 1, 1, 0, 0, 0), (37, .goto 4, 3, 41, 0, 0), (40, .iconst 0, 1, 0, 0, 0), (41, .ireturn, 1, 0, 0, 0)]
def cu_209 : List (Nat × List Nat) := [(36, []), (41, [])]
def G_209 : tm_G := fun _ _ _ => none
noncomputable def F_209 : List Value → tm_M → Option tm_R := tm_m tm_sh none G_209 true cd_209 cu_209 23 1
theorem gg_209 : tm_Gg G_209 := fun _ _ _ _ h => by cases h
theorem gm_209 (l : Launch) : ∀ id as M r, G_209 id as M = some r → tm_MA tm_sh l (tm_mt id) as M r := fun _ _ _ _ h => by cases h
theorem gr_209 {as : List Value} {M : tm_M} {r : tm_R} (h : F_209 as M = some r) : tm_gr M r.2 := tm_m_gr gg_209 h
theorem ck_209 : tm_cdk (tm_mt 209).1.cls false tm_mt (tm_mt 209) true cd_209 := tm_cdk_of (LK := lk_RX6) (ix := []) lc_RX6 (by decide +kernel)
theorem con_209 (l : Launch) {as : List Value} {M : tm_M} {r : tm_R} (h : F_209 as M = some r) : tm_MA tm_sh l (tm_mt 209) as M r := tm_sound (t := tm_mt 209) tm_Sok_ok tm_CL_ok gg_209 (gm_209 l) (fun _ _ => ⟨rfl, rfl⟩) ck_209 (by decide +kernel) (fun h => by cases h) (fun _ _ _ _ => tm_nos_all (by decide +kernel)) h
def cd_210 : List tm_E := [(0, .aload_n 0, 1, 0, 0, 0), (1, .getfield 15, 3, 6, 1, 0), (4, .aload_n 0, 1, 0, 0, 0), (5, .getfield 9, 3, 6, 0, 2), (8, .arraylength, 1, 0, 0, 0), (9, .if_icmp .ge 26, 3, 35, 0, 0), (12, .aload_n 0, 1, 0, 0, 0), (13, .getfield 9, 3, 6, 0, 2), (16, .aload_n 0, 1, 0, 0, 0), (17, .getfield 15, 3, 6, 1, 0), (20, .aload_n 0, 1, 0, 0, 0), (21, .getfield 19, 3, 6, 2, 0), (24, .iastore, 1, 0, 0, 0), (25, .aload_n 0, 1, 0, 0, 0), (26, .dup, 1, 0, 0, 0), (27, .getfield 15, 3, 6, 1, 0), (30, .iconst 1, 1, 0, 0, 0), (31, .iadd, 1, 0, 0, 0), (32, .putfield 15, 3, 6, 1, 0), (35, .aload_n 0, 1, 0, 0, 0), (36, .dup, 1, 0, 0, 0), (37, .getfield 19, 3, 6, 2, 0), (40, .iconst 1, 1, 0, 0, 0), (41, .iadd, 1, 0, 0, 0), (42, .putfield 19, 3, 6, 2, 0), (45, .return_, 1, 0, 0, 0)]
def cu_210 : List (Nat × List Nat) := [(35, [0])]
def G_210 : tm_G := fun _ _ _ => none
noncomputable def F_210 : List Value → tm_M → Option tm_R := tm_m tm_sh none G_210 false cd_210 cu_210 27 1
theorem gg_210 : tm_Gg G_210 := fun _ _ _ _ h => by cases h
theorem gm_210 (l : Launch) : ∀ id as M r, G_210 id as M = some r → tm_MA tm_sh l (tm_mt id) as M r := fun _ _ _ _ h => by cases h
theorem gr_210 {as : List Value} {M : tm_M} {r : tm_R} (h : F_210 as M = some r) : tm_gr M r.2 := tm_m_gr gg_210 h
theorem ck_210 : tm_cdk (tm_mt 210).1.cls false tm_mt (tm_mt 210) false cd_210 := tm_cdk_of (LK := lk_RX6) (ix := [3, 4, 4, 3, 5, 3, 6, 5, 7]) lc_RX6 (by decide +kernel)
theorem con_210 (l : Launch) {as : List Value} {M : tm_M} {r : tm_R} (h : F_210 as M = some r) : tm_MA tm_sh l (tm_mt 210) as M r := tm_sound (t := tm_mt 210) tm_Sok_ok tm_CL_ok gg_210 (gm_210 l) (fun _ _ => ⟨rfl, rfl⟩) ck_210 (by decide +kernel) (fun h => by cases h) (fun _ _ _ _ => tm_nos_all (by decide +kernel)) h
def cd_211 : List tm_E := [(0, .aload_n 0, 1, 0, 0, 0), (1, .iconst 0, 1, 0, 0, 0), (2, .putfield 15, 3, 6, 1, 0), (5, .aload_n 0, 1, 0, 0, 0), (6, .iconst 0, 1, 0, 0, 0), (7, .putfield 19, 3, 6, 2, 0), (10, .iconst 0, 1, 0, 0, 0), (11, .istore_n 3, 1, 0, 0, 0), (12, .iconst 0, 1, 0, 0, 0), (13, .istore 4, 2, 0, 0, 0), (15, .iconst 0, 1, 0, 0, 0), (16, .istore 5, 2, 0, 0, 0), (18, .iconst 0, 1, 0, 0, 0), (19, .istore 6, 2, 0, 0, 0), (21, .iload 6, 2, 0, 0, 0), (23, .iload_n 2, 1, 0, 0, 0), (24, .if_icmp .ge 90, 3, 114, 0, 0), (27, .iload 6, 2, 0, 0, 0), (29, .aload_n 1, 1, 0, 0, 0), (30, .arraylength, 1, 0, 0, 0), (31, .if_icmp .ge 83, 3, 114, 0, 0), (34, .aload_n 1, 1, 0, 0, 0), (35, .iload 6, 2, 0, 0, 0), (37, .baload, 1, 0, 0, 0), (38, .invokestatic 22, 3, 20, 1, 1), (41, .istore 7, 2, 0, 0, 0), (43, .aload_n 1, 1, 0, 0, 0), (44, .iload 6, 2, 0, 0, 0), (46, .baload, 1, 0, 0, 0), (47, .invokestatic 26, 3, 209, 1, 1), (50, .istore 8, 2, 0, 0, 0), (52, .iload 7, 2, 0, 0, 0), (54, .ifCond .eq 14, 3, 68, 0, 0), (57, .iload 4, 2, 0, 0, 0), (59, .ifCond .ne 9, 3, 68, 0, 0), (62, .aload_n 0, 1, 0, 0, 0), (63, .invokevirtual 29, 3, 210, 0, 24), (66, .iconst 0, 1, 0, 0, 0), (67, .istore_n 3, 1, 0, 0, 0), (68, .iload 8, 2, 0, 0, 0), (70, .ifCond .eq 30, 3, 100, 0, 0), (73, .iload 5, 2, 0, 0, 0), (75, .ifCond .ne 25, 3, 100, 0, 0), (78, .iinc 3 1, 3, 0, 0, 0), (81, .aload_n 0, 1, 0, 0, 0), (82, .dup, 1, 0, 0, 0), (83, .getfield 19, 3, 6, 2, 0), (86, .iload_n 3, 1, 0, 0, 0), (87, .iconst 1, 1, 0, 0, 0), (88, .if_icmp .le 7, 3, 95, 0, 0), (91, .iconst 1, 1, 0, 0, 0), (92, .goto 4, 3, 96, 0, 0), (95, .iconst 0, 1, 0, 0, 0), (96, .iadd, 1, 0, 0, 0), (97, .putfield 19, 3, 6, 2, 0), (100, .iload 7, 2, 0, 0, 0), (102, .istore 4, 2, 0, 0, 0), (104, .iload 8, 2, 0, 0, 0), (106, .istore 5, 2, 0, 0, 0), (108, .iinc 6 1, 3, 0, 0, 0), (111, .goto (-90), 3, 21, 0, 0), (114, .return_, 1, 0, 0, 0)]
def cu_211 : List (Nat × List Nat) := [(21, [0, 1, 2, 3, 4, 5, 6]), (41, [0, 1, 2, 3, 4, 5, 6]), (50, [0, 1, 2, 3, 4, 5, 6, 7]), (66, [0, 1, 2, 5, 6, 7, 8]), (68, [0, 1, 2, 3, 5, 6, 7, 8]), (96, [0, 1, 2, 3, 6, 7, 8]), (100, [0, 1, 2, 3, 6, 7, 8]), (114, [])]
noncomputable def G_211 : tm_G := fun id as M => if id = 20 then F_20 as M else if id = 209 then F_209 as M else if id = 210 then F_210 as M else none
noncomputable def F_211 : List Value → tm_M → Option tm_R := tm_m tm_sh none G_211 false cd_211 cu_211 63 9
theorem gg_211 : tm_Gg G_211 := by
  intro id as M r h
  unfold G_211 at h
  rcases tm_ite_e h with ⟨_, h⟩ | ⟨_, h⟩
  · exact gr_20 h
  rcases tm_ite_e h with ⟨_, h⟩ | ⟨_, h⟩
  · exact gr_209 h
  rcases tm_ite_e h with ⟨_, h⟩ | ⟨_, h⟩
  · exact gr_210 h
  cases h
theorem gm_211 (l : Launch) : ∀ id as M r, G_211 id as M = some r → tm_MA tm_sh l (tm_mt id) as M r := by
  intro id as M r h
  unfold G_211 at h
  rcases tm_ite_e h with ⟨rfl, h⟩ | ⟨_, h⟩
  · exact con_20 l h
  rcases tm_ite_e h with ⟨rfl, h⟩ | ⟨_, h⟩
  · exact con_209 l h
  rcases tm_ite_e h with ⟨rfl, h⟩ | ⟨_, h⟩
  · exact con_210 l h
  cases h
theorem gr_211 {as : List Value} {M : tm_M} {r : tm_R} (h : F_211 as M = some r) : tm_gr M r.2 := tm_m_gr gg_211 h
theorem ck_211 : tm_cdk (tm_mt 211).1.cls false tm_mt (tm_mt 211) false cd_211 := tm_cdk_of (LK := lk_RX6) (ix := [6, 7, 8, 9, 10, 5, 7]) lc_RX6 (by decide +kernel)
theorem con_211 (l : Launch) {as : List Value} {M : tm_M} {r : tm_R} (h : F_211 as M = some r) : tm_MA tm_sh l (tm_mt 211) as M r := tm_sound (t := tm_mt 211) tm_Sok_ok tm_CL_ok gg_211 (gm_211 l) (fun _ _ => ⟨rfl, rfl⟩) ck_211 (by decide +kernel) (fun h => by cases h) (fun _ _ _ _ => tm_nos_all (by decide +kernel)) h
def cd_212 : List tm_E := [(0, .aload_n 0, 1, 0, 0, 0), (1, .getfield 75, 3, 10, 11, 0), (4, .sipush 300, 3, 0, 0, 0), (7, .if_icmp .le 5, 3, 12, 0, 0), (10, .iconst (-1), 1, 0, 0, 0), (11, .ireturn, 1, 0, 0, 0), (12, .aload_n 0, 1, 0, 0, 0), (13, .getfield 37, 3, 10, 4, 2), (16, .aload_n 0, 1, 0, 0, 0), (17, .getfield 9, 3, 10, 0, 2), (20, .aload_n 0, 1, 0, 0, 0), (21, .invokevirtual 82, 3, 19, 0, 41), (24, .invokevirtual 193, 3, 211, 2, 24), (27, .aload_n 0, 1, 0, 0, 0), (28, .getfield 37, 3, 10, 4, 2), (31, .getfield 195, 3, 6, 2, 0), (34, .ireturn, 1, 0, 0, 0)]
def cu_212 : List (Nat × List Nat) := [(24, [0]), (27, [0])]
noncomputable def G_212 : tm_G := fun id as M => if id = 19 then F_19 as M else if id = 211 then F_211 as M else none
noncomputable def F_212 : List Value → tm_M → Option tm_R := tm_m tm_sh none G_212 false cd_212 cu_212 18 1
theorem gg_212 : tm_Gg G_212 := by
  intro id as M r h
  unfold G_212 at h
  rcases tm_ite_e h with ⟨_, h⟩ | ⟨_, h⟩
  · exact gr_19 h
  rcases tm_ite_e h with ⟨_, h⟩ | ⟨_, h⟩
  · exact gr_211 h
  cases h
theorem gm_212 (l : Launch) : ∀ id as M r, G_212 id as M = some r → tm_MA tm_sh l (tm_mt id) as M r := by
  intro id as M r h
  unfold G_212 at h
  rcases tm_ite_e h with ⟨rfl, h⟩ | ⟨_, h⟩
  · exact con_19 l h
  rcases tm_ite_e h with ⟨rfl, h⟩ | ⟨_, h⟩
  · exact con_211 l h
  cases h
theorem gr_212 {as : List Value} {M : tm_M} {r : tm_R} (h : F_212 as M = some r) : tm_gr M r.2 := tm_m_gr gg_212 h
theorem ck_212 : tm_cdk (tm_mt 212).1.cls false tm_mt (tm_mt 212) false cd_212 := tm_cdk_of (LK := lk_RX10) (ix := [29, 75, 28, 33, 76, 75, 77]) lc_RX10 (by decide +kernel)
theorem con_212 (l : Launch) {as : List Value} {M : tm_M} {r : tm_R} (h : F_212 as M = some r) : tm_MA tm_sh l (tm_mt 212) as M r := tm_sound (t := tm_mt 212) tm_Sok_ok tm_CL_ok gg_212 (gm_212 l) (fun _ _ => ⟨rfl, rfl⟩) ck_212 (by decide +kernel) (fun h => by cases h) (fun _ _ _ _ => tm_nos_all (by decide +kernel)) h
def cd_213 : List tm_E := [(0, .iload_n 0, 1, 0, 0, 0), (1, .bipush 97, 2, 0, 0, 0), (3, .if_icmp .eq 33, 3, 36, 0, 0), (6, .iload_n 0, 1, 0, 0, 0), (7, .bipush 101, 2, 0, 0, 0), (9, .if_icmp .eq 27, 3, 36, 0, 0), (12, .iload_n 0, 1, 0, 0, 0), (13, .bipush 105, 2, 0, 0, 0), (15, .if_icmp .eq 21, 3, 36, 0, 0), (18, .iload_n 0, 1, 0, 0, 0), (19, .bipush 111, 2, 0, 0, 0), (21, .if_icmp .eq 15, 3, 36, 0, 0), (24, .iload_n 0, 1, 0, 0, 0), (25, .bipush 117, 2, 0, 0, 0), (27, .if_icmp .eq 9, 3, 36, 0, 0), (30, .iload_n 0, 1, 0, 0, 0), (31, .bipush 121, 2, 0, 0, 0), (33, .if_icmp .ne 7, 3, 40, 0, 0), (36, .iconst 1, 1, 0, 0, 0), (37, .goto 4, 3, 41, 0, 0), (40, .iconst 0, 1, 0, 0, 0), (41, .ireturn, 1, 0, 0, 0)]
def cu_213 : List (Nat × List Nat) := [(36, []), (41, [])]
def G_213 : tm_G := fun _ _ _ => none
noncomputable def F_213 : List Value → tm_M → Option tm_R := tm_m tm_sh none G_213 true cd_213 cu_213 23 1
theorem gg_213 : tm_Gg G_213 := fun _ _ _ _ h => by cases h
theorem gm_213 (l : Launch) : ∀ id as M r, G_213 id as M = some r → tm_MA tm_sh l (tm_mt id) as M r := fun _ _ _ _ h => by cases h
theorem gr_213 {as : List Value} {M : tm_M} {r : tm_R} (h : F_213 as M = some r) : tm_gr M r.2 := tm_m_gr gg_213 h
theorem ck_213 : tm_cdk (tm_mt 213).1.cls false tm_mt (tm_mt 213) true cd_213 := tm_cdk_of (LK := lk_RX11) (ix := []) lc_RX11 (by decide +kernel)
theorem con_213 (l : Launch) {as : List Value} {M : tm_M} {r : tm_R} (h : F_213 as M = some r) : tm_MA tm_sh l (tm_mt 213) as M r := tm_sound (t := tm_mt 213) tm_Sok_ok tm_CL_ok gg_213 (gm_213 l) (fun _ _ => ⟨rfl, rfl⟩) ck_213 (by decide +kernel) (fun h => by cases h) (fun _ _ _ _ => tm_nos_all (by decide +kernel)) h
def cd_214 : List tm_E := [(0, .aload_n 0, 1, 0, 0, 0), (1, .getfield 289, 3, 11, 2, 0), (4, .sipush 300, 3, 0, 0, 0), (7, .if_icmp .le 5, 3, 12, 0, 0), (10, .iconst (-1), 1, 0, 0, 0), (11, .ireturn, 1, 0, 0, 0), (12, .aload_n 0, 1, 0, 0, 0), (13, .iconst 0, 1, 0, 0, 0), (14, .putfield 498, 3, 11, 74, 0), (17, .aload_n 0, 1, 0, 0, 0), (18, .iconst 0, 1, 0, 0, 0), (19, .putfield 501, 3, 11, 75, 0), (22, .iconst 0, 1, 0, 0, 0), (23, .istore_n 1, 1, 0, 0, 0), (24, .iconst 0, 1, 0, 0, 0), (25, .istore_n 2, 1, 0, 0, 0), (26, .iconst 0, 1, 0, 0, 0), (27, .istore_n 3, 1, 0, 0, 0), (28, .iconst 0, 1, 0, 0, 0), (29, .istore 4, 2, 0, 0, 0), (31, .iload 4, 2, 0, 0, 0), (33, .aload_n 0, 1, 0, 0, 0), (34, .getfield 289, 3, 11, 2, 0), (37, .if_icmp .gt 125, 3, 162, 0, 0), (40, .iload 4, 2, 0, 0, 0), (42, .aload_n 0, 1, 0, 0, 0), (43, .getfield 289, 3, 11, 2, 0), (46, .if_icmp .ge 17, 3, 63, 0, 0), (49, .aload_n 0, 1, 0, 0, 0), (50, .getfield 7, 3, 11, 0, 2), (53, .iload 4, 2, 0, 0, 0), (55, .baload, 1, 0, 0, 0), (56, .sipush 255, 3, 0, 0, 0), (59, .iand, 1, 0, 0, 0), (60, .goto 5, 3, 65, 0, 0), (63, .bipush 32, 2, 0, 0, 0), (65, .istore 5, 2, 0, 0, 0), (67, .iload 5, 2, 0, 0, 0), (69, .invokestatic 251, 3, 56, 1, 1), (72, .ifCond .ne 30, 3, 102, 0, 0), (75, .iload_n 1, 1, 0, 0, 0), (76, .ifCond .eq 21, 3, 97, 0, 0), (79, .aload_n 0, 1, 0, 0, 0), (80, .dup, 1, 0, 0, 0), (81, .getfield 501, 3, 11, 75, 0), (84, .iload_n 3, 1, 0, 0, 0), (85, .ifCond .le 7, 3, 92, 0, 0), (88, .iload_n 3, 1, 0, 0, 0), (89, .goto 4, 3, 93, 0, 0), (92, .iconst 1, 1, 0, 0, 0), (93, .iadd, 1, 0, 0, 0), (94, .putfield 501, 3, 11, 75, 0), (97, .iconst 0, 1, 0, 0, 0), (98, .istore_n 1, 1, 0, 0, 0), (99, .goto 57, 3, 156, 0, 0), (102, .iload_n 1, 1, 0, 0, 0), (103, .ifCond .ne 30, 3, 133, 0, 0), (106, .aload_n 0, 1, 0, 0, 0), (107, .getfield 159, 3, 11, 73, 2), (110, .aload_n 0, 1, 0, 0, 0), (111, .getfield 498, 3, 11, 74, 0), (114, .aload_n 0, 1, 0, 0, 0), (115, .getfield 501, 3, 11, 75, 0), (118, .iastore, 1, 0, 0, 0), (119, .aload_n 0, 1, 0, 0, 0), (120, .dup, 1, 0, 0, 0), (121, .getfield 498, 3, 11, 74, 0), (124, .iconst 1, 1, 0, 0, 0), (125, .iadd, 1, 0, 0, 0), (126, .putfield 498, 3, 11, 74, 0), (129, .iconst 0, 1, 0, 0, 0), (130, .istore_n 3, 1, 0, 0, 0), (131, .iconst 0, 1, 0, 0, 0), (132, .istore_n 2, 1, 0, 0, 0), (133, .iconst 1, 1, 0, 0, 0), (134, .istore_n 1, 1, 0, 0, 0), (135, .iload 5, 2, 0, 0, 0), (137, .invokestatic 504, 3, 213, 1, 1), (140, .ifCond .eq 10, 3, 150, 0, 0), (143, .iload_n 2, 1, 0, 0, 0), (144, .ifCond .ne 6, 3, 150, 0, 0), (147, .iinc 3 1, 3, 0, 0, 0), (150, .iload 5, 2, 0, 0, 0), (152, .invokestatic 504, 3, 213, 1, 1), (155, .istore_n 2, 1, 0, 0, 0), (156, .iinc 4 1, 3, 0, 0, 0), (159, .goto (-128), 3, 31, 0, 0), (162, .aload_n 0, 1, 0, 0, 0), (163, .iconst 0, 1, 0, 0, 0), (164, .putfield 289, 3, 11, 2, 0), (167, .aload_n 0, 1, 0, 0, 0), (168, .getfield 501, 3, 11, 75, 0), (171, .ireturn, 1, 0, 0, 0)]
def cu_214 : List (Nat × List Nat) := [(31, [0, 1, 2, 3, 4]), (65, [0, 1, 2, 3, 4]), (72, [0, 1, 2, 3, 4, 5]), (93, [0, 2, 3, 4]), (97, [0, 2, 3, 4]), (133, [0, 2, 3, 4, 5]), (140, [0, 1, 2, 3, 4, 5]), (150, [0, 1, 3, 4, 5]), (155, [0, 1, 3, 4]), (156, [0, 1, 2, 3, 4])]
noncomputable def G_214 : tm_G := fun id as M => if id = 56 then F_56 as M else if id = 213 then F_213 as M else none
noncomputable def F_214 : List Value → tm_M → Option tm_R := tm_m tm_sh none G_214 false cd_214 cu_214 94 6
theorem gg_214 : tm_Gg G_214 := by
  intro id as M r h
  unfold G_214 at h
  rcases tm_ite_e h with ⟨_, h⟩ | ⟨_, h⟩
  · exact gr_56 h
  rcases tm_ite_e h with ⟨_, h⟩ | ⟨_, h⟩
  · exact gr_213 h
  cases h
theorem gm_214 (l : Launch) : ∀ id as M r, G_214 id as M = some r → tm_MA tm_sh l (tm_mt id) as M r := by
  intro id as M r h
  unfold G_214 at h
  rcases tm_ite_e h with ⟨rfl, h⟩ | ⟨_, h⟩
  · exact con_56 l h
  rcases tm_ite_e h with ⟨rfl, h⟩ | ⟨_, h⟩
  · exact con_213 l h
  cases h
theorem gr_214 {as : List Value} {M : tm_M} {r : tm_R} (h : F_214 as M = some r) : tm_gr M r.2 := tm_m_gr gg_214 h
theorem ck_214 : tm_cdk (tm_mt 214).1.cls false tm_mt (tm_mt 214) false cd_214 := tm_cdk_of (LK := lk_RX11) (ix := [63, 242, 243, 63, 63, 64, 99, 244, 243, 245, 246, 244, 246, 242, 247, 247, 65, 244]) lc_RX11 (by decide +kernel)
theorem con_214 (l : Launch) {as : List Value} {M : tm_M} {r : tm_R} (h : F_214 as M = some r) : tm_MA tm_sh l (tm_mt 214) as M r := tm_sound (t := tm_mt 214) tm_Sok_ok tm_CL_ok gg_214 (gm_214 l) (fun _ _ => ⟨rfl, rfl⟩) ck_214 (by decide +kernel) (fun h => by cases h) (fun _ _ _ _ => tm_nos_all (by decide +kernel)) h
def cd_215 : List tm_E := [(0, .iload_n 1, 1, 0, 0, 0), (1, .ifCond .lt 26, 3, 27, 0, 0), (4, .iload_n 1, 1, 0, 0, 0), (5, .aload_n 0, 1, 0, 0, 0), (6, .getfield 37, 3, 10, 4, 2), (9, .getfield 198, 3, 6, 1, 0), (12, .if_icmp .ge 15, 3, 27, 0, 0), (15, .aload_n 0, 1, 0, 0, 0), (16, .getfield 37, 3, 10, 4, 2), (19, .getfield 201, 3, 6, 0, 2), (22, .iload_n 1, 1, 0, 0, 0), (23, .iaload, 1, 0, 0, 0), (24, .goto 4, 3, 28, 0, 0), (27, .iconst (-1), 1, 0, 0, 0), (28, .ireturn, 1, 0, 0, 0)]
def cu_215 : List (Nat × List Nat) := [(27, []), (28, [])]
def G_215 : tm_G := fun _ _ _ => none
noncomputable def F_215 : List Value → tm_M → Option tm_R := tm_m tm_sh none G_215 false cd_215 cu_215 16 2
theorem gg_215 : tm_Gg G_215 := fun _ _ _ _ h => by cases h
theorem gm_215 (l : Launch) : ∀ id as M r, G_215 id as M = some r → tm_MA tm_sh l (tm_mt id) as M r := fun _ _ _ _ h => by cases h
theorem gr_215 {as : List Value} {M : tm_M} {r : tm_R} (h : F_215 as M = some r) : tm_gr M r.2 := tm_m_gr gg_215 h
theorem ck_215 : tm_cdk (tm_mt 215).1.cls false tm_mt (tm_mt 215) false cd_215 := tm_cdk_of (LK := lk_RX10) (ix := [75, 78, 75, 79]) lc_RX10 (by decide +kernel)
theorem con_215 (l : Launch) {as : List Value} {M : tm_M} {r : tm_R} (h : F_215 as M = some r) : tm_MA tm_sh l (tm_mt 215) as M r := tm_sound (t := tm_mt 215) tm_Sok_ok tm_CL_ok gg_215 (gm_215 l) (fun _ _ => ⟨rfl, rfl⟩) ck_215 (by decide +kernel) (fun h => by cases h) (fun _ _ _ _ => tm_nos_all (by decide +kernel)) h
def cd_216 : List tm_E := [(0, .iload_n 1, 1, 0, 0, 0), (1, .ifCond .lt 11, 3, 12, 0, 0), (4, .iload_n 1, 1, 0, 0, 0), (5, .aload_n 0, 1, 0, 0, 0), (6, .getfield 498, 3, 11, 74, 0), (9, .if_icmp .lt 7, 3, 16, 0, 0), (12, .iconst (-1), 1, 0, 0, 0), (13, .goto 9, 3, 22, 0, 0), (16, .aload_n 0, 1, 0, 0, 0), (17, .getfield 159, 3, 11, 73, 2), (20, .iload_n 1, 1, 0, 0, 0), (21, .iaload, 1, 0, 0, 0), (22, .ireturn, 1, 0, 0, 0)]
def cu_216 : List (Nat × List Nat) := [(12, []), (22, [])]
def G_216 : tm_G := fun _ _ _ => none
noncomputable def F_216 : List Value → tm_M → Option tm_R := tm_m tm_sh none G_216 false cd_216 cu_216 14 2
theorem gg_216 : tm_Gg G_216 := fun _ _ _ _ h => by cases h
theorem gm_216 (l : Launch) : ∀ id as M r, G_216 id as M = some r → tm_MA tm_sh l (tm_mt id) as M r := fun _ _ _ _ h => by cases h
theorem gr_216 {as : List Value} {M : tm_M} {r : tm_R} (h : F_216 as M = some r) : tm_gr M r.2 := tm_m_gr gg_216 h
theorem ck_216 : tm_cdk (tm_mt 216).1.cls false tm_mt (tm_mt 216) false cd_216 := tm_cdk_of (LK := lk_RX11) (ix := [246, 245]) lc_RX11 (by decide +kernel)
theorem con_216 (l : Launch) {as : List Value} {M : tm_M} {r : tm_R} (h : F_216 as M = some r) : tm_MA tm_sh l (tm_mt 216) as M r := tm_sound (t := tm_mt 216) tm_Sok_ok tm_CL_ok gg_216 (gm_216 l) (fun _ _ => ⟨rfl, rfl⟩) ck_216 (by decide +kernel) (fun h => by cases h) (fun _ _ _ _ => tm_nos_all (by decide +kernel)) h
def cd_217 : List tm_E := [(0, .aload_n 0, 1, 0, 0, 0), (1, .getfield 19, 3, 6, 2, 0), (4, .ifCond .eq 14, 3, 18, 0, 0), (7, .iload_n 1, 1, 0, 0, 0), (8, .iconst 1, 1, 0, 0, 0), (9, .if_icmp .lt 9, 3, 18, 0, 0), (12, .iload_n 1, 1, 0, 0, 0), (13, .bipush 100, 2, 0, 0, 0), (15, .if_icmp .le 5, 3, 20, 0, 0), (18, .iconst (-1), 1, 0, 0, 0), (19, .ireturn, 1, 0, 0, 0), (20, .iconst 0, 1, 0, 0, 0), (21, .istore_n 2, 1, 0, 0, 0), (22, .iconst 2, 1, 0, 0, 0), (23, .istore_n 3, 1, 0, 0, 0), (24, .iload_n 3, 1, 0, 0, 0), (25, .iload_n 1, 1, 0, 0, 0), (26, .if_icmp .gt 18, 3, 44, 0, 0), (29, .iload_n 2, 1, 0, 0, 0), (30, .aload_n 0, 1, 0, 0, 0), (31, .getfield 19, 3, 6, 2, 0), (34, .iadd, 1, 0, 0, 0), (35, .iload_n 3, 1, 0, 0, 0), (36, .irem, 1, 0, 0, 0), (37, .istore_n 2, 1, 0, 0, 0), (38, .iinc 3 1, 3, 0, 0, 0), (41, .goto (-17), 3, 24, 0, 0), (44, .iload_n 2, 1, 0, 0, 0), (45, .ireturn, 1, 0, 0, 0)]
def cu_217 : List (Nat × List Nat) := [(18, []), (24, [0, 1, 2, 3])]
def G_217 : tm_G := fun _ _ _ => none
noncomputable def F_217 : List Value → tm_M → Option tm_R := tm_m tm_sh none G_217 false cd_217 cu_217 30 4
theorem gg_217 : tm_Gg G_217 := fun _ _ _ _ h => by cases h
theorem gm_217 (l : Launch) : ∀ id as M r, G_217 id as M = some r → tm_MA tm_sh l (tm_mt id) as M r := fun _ _ _ _ h => by cases h
theorem gr_217 {as : List Value} {M : tm_M} {r : tm_R} (h : F_217 as M = some r) : tm_gr M r.2 := tm_m_gr gg_217 h
theorem ck_217 : tm_cdk (tm_mt 217).1.cls false tm_mt (tm_mt 217) false cd_217 := tm_cdk_of (LK := lk_RX6) (ix := [5, 5]) lc_RX6 (by decide +kernel)
theorem con_217 (l : Launch) {as : List Value} {M : tm_M} {r : tm_R} (h : F_217 as M = some r) : tm_MA tm_sh l (tm_mt 217) as M r := tm_sound (t := tm_mt 217) tm_Sok_ok tm_CL_ok gg_217 (gm_217 l) (fun _ _ => ⟨rfl, rfl⟩) ck_217 (by decide +kernel) (fun h => by cases h) (fun _ _ _ _ => tm_nos_all (by decide +kernel)) h
def cd_218 : List tm_E := [(0, .aload_n 0, 1, 0, 0, 0), (1, .getfield 37, 3, 10, 4, 2), (4, .iload_n 1, 1, 0, 0, 0), (5, .invokevirtual 205, 3, 217, 1, 25), (8, .ireturn, 1, 0, 0, 0)]
def cu_218 : List (Nat × List Nat) := [(8, [])]
noncomputable def G_218 : tm_G := fun id as M => if id = 217 then F_217 as M else none
noncomputable def F_218 : List Value → tm_M → Option tm_R := tm_m tm_sh none G_218 false cd_218 cu_218 6 2
theorem gg_218 : tm_Gg G_218 := by
  intro id as M r h
  unfold G_218 at h
  rcases tm_ite_e h with ⟨_, h⟩ | ⟨_, h⟩
  · exact gr_217 h
  cases h
theorem gm_218 (l : Launch) : ∀ id as M r, G_218 id as M = some r → tm_MA tm_sh l (tm_mt id) as M r := by
  intro id as M r h
  unfold G_218 at h
  rcases tm_ite_e h with ⟨rfl, h⟩ | ⟨_, h⟩
  · exact con_217 l h
  cases h
theorem gr_218 {as : List Value} {M : tm_M} {r : tm_R} (h : F_218 as M = some r) : tm_gr M r.2 := tm_m_gr gg_218 h
theorem ck_218 : tm_cdk (tm_mt 218).1.cls false tm_mt (tm_mt 218) false cd_218 := tm_cdk_of (LK := lk_RX10) (ix := [75, 80]) lc_RX10 (by decide +kernel)
theorem con_218 (l : Launch) {as : List Value} {M : tm_M} {r : tm_R} (h : F_218 as M = some r) : tm_MA tm_sh l (tm_mt 218) as M r := tm_sound (t := tm_mt 218) tm_Sok_ok tm_CL_ok gg_218 (gm_218 l) (fun _ _ => ⟨rfl, rfl⟩) ck_218 (by decide +kernel) (fun h => by cases h) (fun _ _ _ _ => tm_nos_all (by decide +kernel)) h
def cd_219 : List tm_E := [(0, .iload_n 1, 1, 0, 0, 0), (1, .iconst 1, 1, 0, 0, 0), (2, .iadd, 1, 0, 0, 0), (3, .iload_n 2, 1, 0, 0, 0), (4, .irem, 1, 0, 0, 0), (5, .istore_n 3, 1, 0, 0, 0), (6, .aload_n 0, 1, 0, 0, 0), (7, .getfield 162, 3, 11, 76, 2), (10, .iload_n 3, 1, 0, 0, 0), (11, .baload, 1, 0, 0, 0), (12, .ifCond .eq 12, 3, 24, 0, 0), (15, .iload_n 3, 1, 0, 0, 0), (16, .iconst 1, 1, 0, 0, 0), (17, .iadd, 1, 0, 0, 0), (18, .iload_n 2, 1, 0, 0, 0), (19, .irem, 1, 0, 0, 0), (20, .istore_n 3, 1, 0, 0, 0), (21, .goto (-15), 3, 6, 0, 0), (24, .iload_n 3, 1, 0, 0, 0), (25, .ireturn, 1, 0, 0, 0)]
def cu_219 : List (Nat × List Nat) := [(6, [0, 2, 3])]
def G_219 : tm_G := fun _ _ _ => none
noncomputable def F_219 : List Value → tm_M → Option tm_R := tm_m tm_sh none G_219 false cd_219 cu_219 21 4
theorem gg_219 : tm_Gg G_219 := fun _ _ _ _ h => by cases h
theorem gm_219 (l : Launch) : ∀ id as M r, G_219 id as M = some r → tm_MA tm_sh l (tm_mt id) as M r := fun _ _ _ _ h => by cases h
theorem gr_219 {as : List Value} {M : tm_M} {r : tm_R} (h : F_219 as M = some r) : tm_gr M r.2 := tm_m_gr gg_219 h
theorem ck_219 : tm_cdk (tm_mt 219).1.cls false tm_mt (tm_mt 219) false cd_219 := tm_cdk_of (LK := lk_RX11) (ix := [248]) lc_RX11 (by decide +kernel)
theorem con_219 (l : Launch) {as : List Value} {M : tm_M} {r : tm_R} (h : F_219 as M = some r) : tm_MA tm_sh l (tm_mt 219) as M r := tm_sound (t := tm_mt 219) tm_Sok_ok tm_CL_ok gg_219 (gm_219 l) (fun _ _ => ⟨rfl, rfl⟩) ck_219 (by decide +kernel) (fun h => by cases h) (fun _ _ _ _ => tm_nos_all (by decide +kernel)) h
def cd_220 : List tm_E := [(0, .iload_n 1, 1, 0, 0, 0), (1, .iconst 1, 1, 0, 0, 0), (2, .if_icmp .lt 16, 3, 18, 0, 0), (5, .iload_n 1, 1, 0, 0, 0), (6, .bipush 100, 2, 0, 0, 0), (8, .if_icmp .gt 10, 3, 18, 0, 0), (11, .aload_n 0, 1, 0, 0, 0), (12, .getfield 501, 3, 11, 75, 0), (15, .ifCond .ne 5, 3, 20, 0, 0), (18, .iconst (-1), 1, 0, 0, 0), (19, .ireturn, 1, 0, 0, 0), (20, .iconst 0, 1, 0, 0, 0), (21, .istore_n 2, 1, 0, 0, 0), (22, .iload_n 2, 1, 0, 0, 0), (23, .iload_n 1, 1, 0, 0, 0), (24, .if_icmp .ge 16, 3, 40, 0, 0), (27, .aload_n 0, 1, 0, 0, 0), (28, .getfield 162, 3, 11, 76, 2), (31, .iload_n 2, 1, 0, 0, 0), (32, .iconst 0, 1, 0, 0, 0), (33, .bastore, 1, 0, 0, 0), (34, .iinc 2 1, 3, 0, 0, 0), (37, .goto (-15), 3, 22, 0, 0), (40, .iload_n 1, 1, 0, 0, 0), (41, .iconst 1, 1, 0, 0, 0), (42, .isub, 1, 0, 0, 0), (43, .istore_n 2, 1, 0, 0, 0), (44, .iload_n 1, 1, 0, 0, 0), (45, .istore_n 3, 1, 0, 0, 0), (46, .iload_n 3, 1, 0, 0, 0), (47, .iconst 1, 1, 0, 0, 0), (48, .if_icmp .le 41, 3, 89, 0, 0), (51, .iconst 0, 1, 0, 0, 0), (52, .istore 4, 2, 0, 0, 0), (54, .iload 4, 2, 0, 0, 0), (56, .aload_n 0, 1, 0, 0, 0), (57, .getfield 501, 3, 11, 75, 0), (60, .if_icmp .ge 16, 3, 76, 0, 0), (63, .aload_n 0, 1, 0, 0, 0), (64, .iload_n 2, 1, 0, 0, 0), (65, .iload_n 1, 1, 0, 0, 0), (66, .invokevirtual 507, 3, 219, 2, 45), (69, .istore_n 2, 1, 0, 0, 0), (70, .iinc 4 1, 3, 0, 0, 0), (73, .goto (-19), 3, 54, 0, 0), (76, .aload_n 0, 1, 0, 0, 0), (77, .getfield 162, 3, 11, 76, 2), (80, .iload_n 2, 1, 0, 0, 0), (81, .iconst 1, 1, 0, 0, 0), (82, .bastore, 1, 0, 0, 0), (83, .iinc 3 (-1), 3, 0, 0, 0), (86, .goto (-40), 3, 46, 0, 0), (89, .aload_n 0, 1, 0, 0, 0), (90, .iload_n 2, 1, 0, 0, 0), (91, .iload_n 1, 1, 0, 0, 0), (92, .invokevirtual 507, 3, 219, 2, 45), (95, .ireturn, 1, 0, 0, 0)]
def cu_220 : List (Nat × List Nat) := [(18, []), (22, [0, 1, 2]), (46, [0, 1, 2, 3]), (54, [0, 1, 2, 3, 4]), (69, [0, 1, 3, 4]), (95, [])]
noncomputable def G_220 : tm_G := fun id as M => if id = 219 then F_219 as M else none
noncomputable def F_220 : List Value → tm_M → Option tm_R := tm_m tm_sh none G_220 false cd_220 cu_220 58 5
theorem gg_220 : tm_Gg G_220 := by
  intro id as M r h
  unfold G_220 at h
  rcases tm_ite_e h with ⟨_, h⟩ | ⟨_, h⟩
  · exact gr_219 h
  cases h
theorem gm_220 (l : Launch) : ∀ id as M r, G_220 id as M = some r → tm_MA tm_sh l (tm_mt id) as M r := by
  intro id as M r h
  unfold G_220 at h
  rcases tm_ite_e h with ⟨rfl, h⟩ | ⟨_, h⟩
  · exact con_219 l h
  cases h
theorem gr_220 {as : List Value} {M : tm_M} {r : tm_R} (h : F_220 as M = some r) : tm_gr M r.2 := tm_m_gr gg_220 h
theorem ck_220 : tm_cdk (tm_mt 220).1.cls false tm_mt (tm_mt 220) false cd_220 := tm_cdk_of (LK := lk_RX11) (ix := [244, 248, 244, 249, 248, 249]) lc_RX11 (by decide +kernel)
theorem con_220 (l : Launch) {as : List Value} {M : tm_M} {r : tm_R} (h : F_220 as M = some r) : tm_MA tm_sh l (tm_mt 220) as M r := tm_sound (t := tm_mt 220) tm_Sok_ok tm_CL_ok gg_220 (gm_220 l) (fun _ _ => ⟨rfl, rfl⟩) ck_220 (by decide +kernel) (fun h => by cases h) (fun _ _ _ _ => tm_nos_all (by decide +kernel)) h
def cd_221 : List tm_E := [(0, .iload_n 0, 1, 0, 0, 0), (1, .ifCond .lt 14, 3, 15, 0, 0), (4, .iload_n 0, 1, 0, 0, 0), (5, .sipush 200, 3, 0, 0, 0), (8, .if_icmp .ge 7, 3, 15, 0, 0), (11, .iconst 1, 1, 0, 0, 0), (12, .goto 4, 3, 16, 0, 0), (15, .iconst 0, 1, 0, 0, 0), (16, .ireturn, 1, 0, 0, 0)]
def cu_221 : List (Nat × List Nat) := [(15, []), (16, [])]
def G_221 : tm_G := fun _ _ _ => none
noncomputable def F_221 : List Value → tm_M → Option tm_R := tm_m tm_sh none G_221 true cd_221 cu_221 10 1
theorem gg_221 : tm_Gg G_221 := fun _ _ _ _ h => by cases h
theorem gm_221 (l : Launch) : ∀ id as M r, G_221 id as M = some r → tm_MA tm_sh l (tm_mt id) as M r := fun _ _ _ _ h => by cases h
theorem gr_221 {as : List Value} {M : tm_M} {r : tm_R} (h : F_221 as M = some r) : tm_gr M r.2 := tm_m_gr gg_221 h
theorem ck_221 : tm_cdk (tm_mt 221).1.cls false tm_mt (tm_mt 221) true cd_221 := tm_cdk_of (LK := lk_RX10) (ix := []) lc_RX10 (by decide +kernel)
theorem con_221 (l : Launch) {as : List Value} {M : tm_M} {r : tm_R} (h : F_221 as M = some r) : tm_MA tm_sh l (tm_mt 221) as M r := tm_sound (t := tm_mt 221) tm_Sok_ok tm_CL_ok gg_221 (gm_221 l) (fun _ _ => ⟨rfl, rfl⟩) ck_221 (by decide +kernel) (fun h => by cases h) (fun _ _ _ _ => tm_nos_all (by decide +kernel)) h
def cd_222 : List tm_E := [(0, .iload_n 1, 1, 0, 0, 0), (1, .ifCond .lt 28, 3, 29, 0, 0), (4, .iload_n 1, 1, 0, 0, 0), (5, .iconst 3, 1, 0, 0, 0), (6, .if_icmp .ge 23, 3, 29, 0, 0), (9, .iload_n 2, 1, 0, 0, 0), (10, .sipush 200, 3, 0, 0, 0), (13, .if_icmp .gt 16, 3, 29, 0, 0), (16, .aload_n 0, 1, 0, 0, 0), (17, .getfield 37, 3, 2, 7, 0), (20, .bipush 30, 2, 0, 0, 0), (22, .if_icmp .ge 7, 3, 29, 0, 0), (25, .iconst 1, 1, 0, 0, 0), (26, .goto 4, 3, 30, 0, 0), (29, .iconst 0, 1, 0, 0, 0), (30, .ireturn, 1, 0, 0, 0)]
def cu_222 : List (Nat × List Nat) := [(29, []), (30, [])]
def G_222 : tm_G := fun _ _ _ => none
noncomputable def F_222 : List Value → tm_M → Option tm_R := tm_m tm_sh none G_222 true cd_222 cu_222 17 3
theorem gg_222 : tm_Gg G_222 := fun _ _ _ _ h => by cases h
theorem gm_222 (l : Launch) : ∀ id as M r, G_222 id as M = some r → tm_MA tm_sh l (tm_mt id) as M r := fun _ _ _ _ h => by cases h
theorem gr_222 {as : List Value} {M : tm_M} {r : tm_R} (h : F_222 as M = some r) : tm_gr M r.2 := tm_m_gr gg_222 h
theorem ck_222 : tm_cdk (tm_mt 222).1.cls false tm_mt (tm_mt 222) true cd_222 := tm_cdk_of (LK := lk_RX2) (ix := [11]) lc_RX2 (by decide +kernel)
theorem con_222 (l : Launch) {as : List Value} {M : tm_M} {r : tm_R} (h : F_222 as M = some r) : tm_MA tm_sh l (tm_mt 222) as M r := tm_sound (t := tm_mt 222) tm_Sok_ok tm_CL_ok gg_222 (gm_222 l) (fun _ _ => ⟨rfl, rfl⟩) ck_222 (by decide +kernel) (fun h => by cases h) (fun _ _ _ _ => tm_nos_all (by decide +kernel)) h
def cd_257 : List tm_E := [(0, .aload_n 0, 1, 0, 0, 0), (1, .getfield 37, 3, 2, 7, 0), (4, .bipush 10, 2, 0, 0, 0), (6, .imul, 1, 0, 0, 0), (7, .iload_n 1, 1, 0, 0, 0), (8, .bipush 20, 2, 0, 0, 0), (10, .idiv, 1, 0, 0, 0), (11, .iadd, 1, 0, 0, 0), (12, .istore_n 3, 1, 0, 0, 0), (13, .iload_n 1, 1, 0, 0, 0), (14, .bipush 20, 2, 0, 0, 0), (16, .irem, 1, 0, 0, 0), (17, .ifCond .ne 7, 3, 24, 0, 0), (20, .lconst 0, 1, 0, 0, 0), (21, .goto 9, 3, 30, 0, 0), (24, .aload_n 0, 1, 0, 0, 0), (25, .getfield 11, 3, 2, 0, 2), (28, .iload_n 3, 1, 0, 0, 0), (29, .laload, 1, 0, 0, 0), (30, .lstore 4, 2, 0, 0, 0), (32, .aload_n 0, 1, 0, 0, 0), (33, .getfield 11, 3, 2, 0, 2), (36, .iload_n 3, 1, 0, 0, 0), (37, .lload 4, 2, 0, 0, 0), (39, .iload_n 2, 1, 0, 0, 0), (40, .i2l, 1, 0, 0, 0), (41, .iconst 3, 1, 0, 0, 0), (42, .iload_n 1, 1, 0, 0, 0), (43, .bipush 20, 2, 0, 0, 0), (45, .irem, 1, 0, 0, 0), (46, .imul, 1, 0, 0, 0), (47, .lshl, 1, 0, 0, 0), (48, .lor, 1, 0, 0, 0), (49, .lastore, 1, 0, 0, 0), (50, .return_, 1, 0, 0, 0)]
def cu_257 : List (Nat × List Nat) := [(30, [0, 1, 2, 3])]
def G_257 : tm_G := fun _ _ _ => none
noncomputable def F_257 : List Value → tm_M → Option tm_R := tm_m tm_sh none G_257 false cd_257 cu_257 36 6
theorem gg_257 : tm_Gg G_257 := fun _ _ _ _ h => by cases h
theorem gm_257 (l : Launch) : ∀ id as M r, G_257 id as M = some r → tm_MA tm_sh l (tm_mt id) as M r := fun _ _ _ _ h => by cases h
theorem gr_257 {as : List Value} {M : tm_M} {r : tm_R} (h : F_257 as M = some r) : tm_gr M r.2 := tm_m_gr gg_257 h
theorem ck_257 : tm_cdk (tm_mt 257).1.cls false tm_mt (tm_mt 257) false cd_257 := tm_cdk_of (LK := lk_RX2) (ix := [11, 12, 12]) lc_RX2 (by decide +kernel)
theorem con_257 (l : Launch) {as : List Value} {M : tm_M} {r : tm_R} (h : F_257 as M = some r) : tm_MA tm_sh l (tm_mt 257) as M r := tm_sound (t := tm_mt 257) tm_Sok_ok tm_CL_ok gg_257 (gm_257 l) (fun _ _ => ⟨rfl, rfl⟩) ck_257 (by decide +kernel) (fun h => by cases h) (fun _ _ _ _ => tm_nos_all (by decide +kernel)) h
def cd_223 : List tm_E := [(0, .aload_n 0, 1, 0, 0, 0), (1, .getfield 37, 3, 2, 7, 0), (4, .bipush 30, 2, 0, 0, 0), (6, .if_icmp .lt 5, 3, 11, 0, 0), (9, .iconst (-1), 1, 0, 0, 0), (10, .ireturn, 1, 0, 0, 0), (11, .iconst 0, 1, 0, 0, 0), (12, .istore 6, 2, 0, 0, 0), (14, .iload 6, 2, 0, 0, 0), (16, .iload 5, 2, 0, 0, 0), (18, .if_icmp .ge 65, 3, 83, 0, 0), (21, .iload 6, 2, 0, 0, 0), (23, .sipush 200, 3, 0, 0, 0), (26, .if_icmp .ge 57, 3, 83, 0, 0), (29, .iload 6, 2, 0, 0, 0), (31, .aload 4, 2, 0, 0, 0), (33, .arraylength, 1, 0, 0, 0), (34, .if_icmp .ge 49, 3, 83, 0, 0), (37, .aload 4, 2, 0, 0, 0), (39, .iload 6, 2, 0, 0, 0), (41, .baload, 1, 0, 0, 0), (42, .bipush 63, 2, 0, 0, 0), (44, .if_icmp .ne 7, 3, 51, 0, 0), (47, .iconst 4, 1, 0, 0, 0), (48, .goto 11, 3, 59, 0, 0), (51, .aload 4, 2, 0, 0, 0), (53, .iload 6, 2, 0, 0, 0), (55, .baload, 1, 0, 0, 0), (56, .invokestatic 41, 3, 25, 1, 1), (59, .istore 7, 2, 0, 0, 0), (61, .iload 7, 2, 0, 0, 0), (63, .iconst (-1), 1, 0, 0, 0), (64, .if_icmp .ne 5, 3, 69, 0, 0), (67, .iconst (-1), 1, 0, 0, 0), (68, .ireturn, 1, 0, 0, 0), (69, .aload_n 0, 1, 0, 0, 0), (70, .iload 6, 2, 0, 0, 0), (72, .iload 7, 2, 0, 0, 0), (74, .invokevirtual 45, 3, 257, 2, 8), (77, .iinc 6 1, 3, 0, 0, 0), (80, .goto (-66), 3, 14, 0, 0), (83, .aload_n 0, 1, 0, 0, 0), (84, .getfield 15, 3, 2, 1, 2), (87, .aload_n 0, 1, 0, 0, 0), (88, .getfield 37, 3, 2, 7, 0), (91, .iload_n 1, 1, 0, 0, 0), (92, .iastore, 1, 0, 0, 0), (93, .aload_n 0, 1, 0, 0, 0), (94, .getfield 19, 3, 2, 2, 2), (97, .aload_n 0, 1, 0, 0, 0), (98, .getfield 37, 3, 2, 7, 0), (101, .iload_n 2, 1, 0, 0, 0), (102, .iastore, 1, 0, 0, 0), (103, .aload_n 0, 1, 0, 0, 0), (104, .getfield 22, 3, 2, 3, 2), (107, .aload_n 0, 1, 0, 0, 0), (108, .getfield 37, 3, 2, 7, 0), (111, .iconst 4, 1, 0, 0, 0), (112, .iload_n 3, 1, 0, 0, 0), (113, .imul, 1, 0, 0, 0), (114, .iastore, 1, 0, 0, 0), (115, .aload_n 0, 1, 0, 0, 0), (116, .getfield 25, 3, 2, 4, 2), (119, .aload_n 0, 1, 0, 0, 0), (120, .getfield 37, 3, 2, 7, 0), (123, .iload 5, 2, 0, 0, 0), (125, .iastore, 1, 0, 0, 0), (126, .aload_n 0, 1, 0, 0, 0), (127, .getfield 28, 3, 2, 5, 2), (130, .aload_n 0, 1, 0, 0, 0), (131, .getfield 37, 3, 2, 7, 0), (134, .aload_n 0, 1, 0, 0, 0), (135, .getfield 49, 3, 2, 8, 0), (138, .iastore, 1, 0, 0, 0), (139, .aload_n 0, 1, 0, 0, 0), (140, .getfield 31, 3, 2, 6, 2), (143, .aload_n 0, 1, 0, 0, 0), (144, .getfield 37, 3, 2, 7, 0), (147, .iconst (-1), 1, 0, 0, 0), (148, .iastore, 1, 0, 0, 0), (149, .aload_n 0, 1, 0, 0, 0), (150, .dup, 1, 0, 0, 0), (151, .getfield 37, 3, 2, 7, 0), (154, .iconst 1, 1, 0, 0, 0), (155, .iadd, 1, 0, 0, 0), (156, .putfield 37, 3, 2, 7, 0), (159, .aload_n 0, 1, 0, 0, 0), (160, .getfield 37, 3, 2, 7, 0), (163, .iconst 1, 1, 0, 0, 0), (164, .isub, 1, 0, 0, 0), (165, .ireturn, 1, 0, 0, 0)]
def cu_223 : List (Nat × List Nat) := [(14, [0, 1, 2, 3, 4, 5, 6]), (59, [0, 1, 2, 3, 4, 5, 6]), (77, [0, 1, 2, 3, 4, 5, 6]), (83, [0, 1, 2, 3, 5])]
noncomputable def G_223 : tm_G := fun id as M => if id = 25 then F_25 as M else if id = 257 then F_257 as M else none
noncomputable def F_223 : List Value → tm_M → Option tm_R := tm_m tm_sh none G_223 false cd_223 cu_223 92 8
theorem gg_223 : tm_Gg G_223 := by
  intro id as M r h
  unfold G_223 at h
  rcases tm_ite_e h with ⟨_, h⟩ | ⟨_, h⟩
  · exact gr_25 h
  rcases tm_ite_e h with ⟨_, h⟩ | ⟨_, h⟩
  · exact gr_257 h
  cases h
theorem gm_223 (l : Launch) : ∀ id as M r, G_223 id as M = some r → tm_MA tm_sh l (tm_mt id) as M r := by
  intro id as M r h
  unfold G_223 at h
  rcases tm_ite_e h with ⟨rfl, h⟩ | ⟨_, h⟩
  · exact con_25 l h
  rcases tm_ite_e h with ⟨rfl, h⟩ | ⟨_, h⟩
  · exact con_257 l h
  cases h
theorem gr_223 {as : List Value} {M : tm_M} {r : tm_R} (h : F_223 as M = some r) : tm_gr M r.2 := tm_m_gr gg_223 h
theorem ck_223 : tm_cdk (tm_mt 223).1.cls false tm_mt (tm_mt 223) false cd_223 := tm_cdk_of (LK := lk_RX2) (ix := [11, 13, 14, 15, 11, 16, 11, 17, 11, 18, 11, 19, 11, 20, 21, 11, 11, 22, 11]) lc_RX2 (by decide +kernel)
theorem con_223 (l : Launch) {as : List Value} {M : tm_M} {r : tm_R} (h : F_223 as M = some r) : tm_MA tm_sh l (tm_mt 223) as M r := tm_sound (t := tm_mt 223) tm_Sok_ok tm_CL_ok gg_223 (gm_223 l) (fun _ _ => ⟨rfl, rfl⟩) ck_223 (by decide +kernel) (fun h => by cases h) (fun _ _ _ _ => tm_nos_all (by decide +kernel)) h
def cd_224 : List tm_E := [(0, .iload_n 2, 1, 0, 0, 0), (1, .invokestatic 208, 3, 114, 1, 1), (4, .ifCond .eq 25, 3, 29, 0, 0), (7, .iload_n 3, 1, 0, 0, 0), (8, .invokestatic 211, 3, 221, 1, 1), (11, .ifCond .eq 18, 3, 29, 0, 0), (14, .aload_n 0, 1, 0, 0, 0), (15, .getfield 44, 3, 10, 5, 2), (18, .iload_n 1, 1, 0, 0, 0), (19, .aload_n 0, 1, 0, 0, 0), (20, .getfield 75, 3, 10, 11, 0), (23, .invokevirtual 214, 3, 222, 2, 9), (26, .ifCond .ne 6, 3, 32, 0, 0), (29, .bipush (-2), 2, 0, 0, 0), (31, .ireturn, 1, 0, 0, 0), (32, .aload_n 0, 1, 0, 0, 0), (33, .getfield 44, 3, 10, 5, 2), (36, .iload_n 1, 1, 0, 0, 0), (37, .iload_n 2, 1, 0, 0, 0), (38, .iload_n 3, 1, 0, 0, 0), (39, .aload_n 0, 1, 0, 0, 0), (40, .getfield 9, 3, 10, 0, 2), (43, .aload_n 0, 1, 0, 0, 0), (44, .invokevirtual 82, 3, 19, 0, 41), (47, .invokevirtual 218, 3, 223, 5, 9), (50, .ireturn, 1, 0, 0, 0)]
def cu_224 : List (Nat × List Nat) := [(4, [0, 1, 2, 3]), (11, [0, 1, 2, 3]), (26, [0, 1, 2, 3]), (29, []), (47, []), (50, [])]
noncomputable def G_224 : tm_G := fun id as M => if id = 114 then F_114 as M else if id = 221 then F_221 as M else if id = 222 then F_222 as M else if id = 19 then F_19 as M else if id = 223 then F_223 as M else none
noncomputable def F_224 : List Value → tm_M → Option tm_R := tm_m tm_sh none G_224 false cd_224 cu_224 27 4
theorem gg_224 : tm_Gg G_224 := by
  intro id as M r h
  unfold G_224 at h
  rcases tm_ite_e h with ⟨_, h⟩ | ⟨_, h⟩
  · exact gr_114 h
  rcases tm_ite_e h with ⟨_, h⟩ | ⟨_, h⟩
  · exact gr_221 h
  rcases tm_ite_e h with ⟨_, h⟩ | ⟨_, h⟩
  · exact gr_222 h
  rcases tm_ite_e h with ⟨_, h⟩ | ⟨_, h⟩
  · exact gr_19 h
  rcases tm_ite_e h with ⟨_, h⟩ | ⟨_, h⟩
  · exact gr_223 h
  cases h
theorem gm_224 (l : Launch) : ∀ id as M r, G_224 id as M = some r → tm_MA tm_sh l (tm_mt id) as M r := by
  intro id as M r h
  unfold G_224 at h
  rcases tm_ite_e h with ⟨rfl, h⟩ | ⟨_, h⟩
  · exact con_114 l h
  rcases tm_ite_e h with ⟨rfl, h⟩ | ⟨_, h⟩
  · exact con_221 l h
  rcases tm_ite_e h with ⟨rfl, h⟩ | ⟨_, h⟩
  · exact con_222 l h
  rcases tm_ite_e h with ⟨rfl, h⟩ | ⟨_, h⟩
  · exact con_19 l h
  rcases tm_ite_e h with ⟨rfl, h⟩ | ⟨_, h⟩
  · exact con_223 l h
  cases h
theorem gr_224 {as : List Value} {M : tm_M} {r : tm_R} (h : F_224 as M = some r) : tm_gr M r.2 := tm_m_gr gg_224 h
theorem ck_224 : tm_cdk (tm_mt 224).1.cls false tm_mt (tm_mt 224) false cd_224 := tm_cdk_of (LK := lk_RX10) (ix := [81, 82, 83, 29, 84, 83, 28, 33, 85]) lc_RX10 (by decide +kernel)
theorem con_224 (l : Launch) {as : List Value} {M : tm_M} {r : tm_R} (h : F_224 as M = some r) : tm_MA tm_sh l (tm_mt 224) as M r := tm_sound (t := tm_mt 224) tm_Sok_ok tm_CL_ok gg_224 (gm_224 l) (fun _ _ => ⟨rfl, rfl⟩) ck_224 (by decide +kernel) (fun h => by cases h) (fun _ _ _ _ => tm_nos_all (by decide +kernel)) h
def cd_225 : List tm_E := [(0, .aload_n 0, 1, 0, 0, 0), (1, .getfield 289, 3, 11, 2, 0), (4, .sipush 200, 3, 0, 0, 0), (7, .if_icmp .gt 39, 3, 46, 0, 0), (10, .iload_n 1, 1, 0, 0, 0), (11, .ifCond .lt 35, 3, 46, 0, 0), (14, .iload_n 1, 1, 0, 0, 0), (15, .iconst 3, 1, 0, 0, 0), (16, .if_icmp .ge 30, 3, 46, 0, 0), (19, .iload_n 2, 1, 0, 0, 0), (20, .invokestatic 464, 3, 180, 1, 1), (23, .ifCond .eq 23, 3, 46, 0, 0), (26, .iload_n 3, 1, 0, 0, 0), (27, .ifCond .lt 19, 3, 46, 0, 0), (30, .iload_n 3, 1, 0, 0, 0), (31, .sipush 200, 3, 0, 0, 0), (34, .if_icmp .ge 12, 3, 46, 0, 0), (37, .aload_n 0, 1, 0, 0, 0), (38, .getfield 510, 3, 11, 84, 0), (41, .bipush 30, 2, 0, 0, 0), (43, .if_icmp .ne 6, 3, 49, 0, 0), (46, .bipush (-2), 2, 0, 0, 0), (48, .ireturn, 1, 0, 0, 0), (49, .aload_n 0, 1, 0, 0, 0), (50, .getfield 289, 3, 11, 2, 0), (53, .istore 4, 2, 0, 0, 0), (55, .aload_n 0, 1, 0, 0, 0), (56, .iconst 0, 1, 0, 0, 0), (57, .putfield 289, 3, 11, 2, 0), (60, .iconst 0, 1, 0, 0, 0), (61, .istore 5, 2, 0, 0, 0), (63, .iload 5, 2, 0, 0, 0), (65, .iload 4, 2, 0, 0, 0), (67, .if_icmp .ge 36, 3, 103, 0, 0), (70, .aload_n 0, 1, 0, 0, 0), (71, .getfield 7, 3, 11, 0, 2), (74, .iload 5, 2, 0, 0, 0), (76, .baload, 1, 0, 0, 0), (77, .invokestatic 269, 3, 59, 1, 1), (80, .ifCond .ge 17, 3, 97, 0, 0), (83, .aload_n 0, 1, 0, 0, 0), (84, .getfield 7, 3, 11, 0, 2), (87, .iload 5, 2, 0, 0, 0), (89, .baload, 1, 0, 0, 0), (90, .bipush 63, 2, 0, 0, 0), (92, .if_icmp .eq 5, 3, 97, 0, 0), (95, .iconst (-1), 1, 0, 0, 0), (96, .ireturn, 1, 0, 0, 0), (97, .iinc 5 1, 3, 0, 0, 0), (100, .goto (-37), 3, 63, 0, 0), (103, .iconst 0, 1, 0, 0, 0), (104, .istore 5, 2, 0, 0, 0), (106, .iload 5, 2, 0, 0, 0), (108, .iload 4, 2, 0, 0, 0), (110, .if_icmp .ge 36, 3, 146, 0, 0), (113, .aload_n 0, 1, 0, 0, 0), (114, .getfield 183, 3, 11, 83, 2), (117, .sipush 200, 3, 0, 0, 0), (120, .aload_n 0, 1, 0, 0, 0), (121, .getfield 510, 3, 11, 84, 0), (124, .imul, 1, 0, 0, 0), (125, .iload 5, 2, 0, 0, 0), (127, .iadd, 1, 0, 0, 0), (128, .aload_n 0, 1, 0, 0, 0), (129, .getfield 7, 3, 11, 0, 2), (132, .iload 5, 2, 0, 0, 0), (134, .baload, 1, 0, 0, 0), (135, .invokestatic 269, 3, 59, 1, 1), (138, .i2b, 1, 0, 0, 0), (139, .bastore, 1, 0, 0, 0), (140, .iinc 5 1, 3, 0, 0, 0), (143, .goto (-37), 3, 106, 0, 0), (146, .aload_n 0, 1, 0, 0, 0), (147, .getfield 165, 3, 11, 77, 2), (150, .aload_n 0, 1, 0, 0, 0), (151, .getfield 510, 3, 11, 84, 0), (154, .iload_n 1, 1, 0, 0, 0), (155, .iastore, 1, 0, 0, 0), (156, .aload_n 0, 1, 0, 0, 0), (157, .getfield 168, 3, 11, 78, 2), (160, .aload_n 0, 1, 0, 0, 0), (161, .getfield 510, 3, 11, 84, 0), (164, .iload_n 2, 1, 0, 0, 0), (165, .iastore, 1, 0, 0, 0), (166, .aload_n 0, 1, 0, 0, 0), (167, .getfield 171, 3, 11, 79, 2), (170, .aload_n 0, 1, 0, 0, 0), (171, .getfield 510, 3, 11, 84, 0), (174, .iconst 4, 1, 0, 0, 0), (175, .iload_n 3, 1, 0, 0, 0), (176, .imul, 1, 0, 0, 0), (177, .iastore, 1, 0, 0, 0), (178, .aload_n 0, 1, 0, 0, 0), (179, .getfield 174, 3, 11, 80, 2), (182, .aload_n 0, 1, 0, 0, 0), (183, .getfield 510, 3, 11, 84, 0), (186, .iload 4, 2, 0, 0, 0), (188, .iastore, 1, 0, 0, 0), (189, .aload_n 0, 1, 0, 0, 0), (190, .getfield 177, 3, 11, 81, 2), (193, .aload_n 0, 1, 0, 0, 0), (194, .getfield 510, 3, 11, 84, 0), (197, .aload_n 0, 1, 0, 0, 0), (198, .getfield 513, 3, 11, 85, 0), (201, .iastore, 1, 0, 0, 0), (202, .aload_n 0, 1, 0, 0, 0), (203, .getfield 180, 3, 11, 82, 2), (206, .aload_n 0, 1, 0, 0, 0), (207, .getfield 510, 3, 11, 84, 0), (210, .iconst (-1), 1, 0, 0, 0), (211, .iastore, 1, 0, 0, 0), (212, .aload_n 0, 1, 0, 0, 0), (213, .dup, 1, 0, 0, 0), (214, .getfield 510, 3, 11, 84, 0), (217, .iconst 1, 1, 0, 0, 0), (218, .iadd, 1, 0, 0, 0), (219, .putfield 510, 3, 11, 84, 0), (222, .aload_n 0, 1, 0, 0, 0), (223, .getfield 510, 3, 11, 84, 0), (226, .iconst 1, 1, 0, 0, 0), (227, .isub, 1, 0, 0, 0), (228, .ireturn, 1, 0, 0, 0)]
def cu_225 : List (Nat × List Nat) := [(23, [0, 1, 2, 3]), (46, []), (63, [0, 1, 2, 3, 4, 5]), (80, [0, 1, 2, 3, 4, 5]), (97, [0, 1, 2, 3, 4, 5]), (106, [0, 1, 2, 3, 4, 5]), (138, [0, 1, 2, 3, 4, 5])]
noncomputable def G_225 : tm_G := fun id as M => if id = 180 then F_180 as M else if id = 59 then F_59 as M else none
noncomputable def F_225 : List Value → tm_M → Option tm_R := tm_m tm_sh none G_225 false cd_225 cu_225 123 6
theorem gg_225 : tm_Gg G_225 := by
  intro id as M r h
  unfold G_225 at h
  rcases tm_ite_e h with ⟨_, h⟩ | ⟨_, h⟩
  · exact gr_180 h
  rcases tm_ite_e h with ⟨_, h⟩ | ⟨_, h⟩
  · exact gr_59 h
  cases h
theorem gm_225 (l : Launch) : ∀ id as M r, G_225 id as M = some r → tm_MA tm_sh l (tm_mt id) as M r := by
  intro id as M r h
  unfold G_225 at h
  rcases tm_ite_e h with ⟨rfl, h⟩ | ⟨_, h⟩
  · exact con_180 l h
  rcases tm_ite_e h with ⟨rfl, h⟩ | ⟨_, h⟩
  · exact con_59 l h
  cases h
theorem gr_225 {as : List Value} {M : tm_M} {r : tm_R} (h : F_225 as M = some r) : tm_gr M r.2 := tm_m_gr gg_225 h
theorem ck_225 : tm_cdk (tm_mt 225).1.cls false tm_mt (tm_mt 225) false cd_225 := tm_cdk_of (LK := lk_RX11) (ix := [63, 227, 250, 63, 65, 64, 106, 64, 251, 250, 64, 106, 252, 250, 253, 250, 254, 250, 255, 250, 256, 250, 257, 258, 250, 250, 259, 250]) lc_RX11 (by decide +kernel)
theorem con_225 (l : Launch) {as : List Value} {M : tm_M} {r : tm_R} (h : F_225 as M = some r) : tm_MA tm_sh l (tm_mt 225) as M r := tm_sound (t := tm_mt 225) tm_Sok_ok tm_CL_ok gg_225 (gm_225 l) (fun _ _ => ⟨rfl, rfl⟩) ck_225 (by decide +kernel) (fun h => by cases h) (fun _ _ _ _ => tm_nos_all (by decide +kernel)) h
def cd_226 : List tm_E := [(0, .iload_n 1, 1, 0, 0, 0), (1, .ifCond .lt 27, 3, 28, 0, 0), (4, .iload_n 1, 1, 0, 0, 0), (5, .aload_n 0, 1, 0, 0, 0), (6, .getfield 37, 3, 2, 7, 0), (9, .if_icmp .ge 19, 3, 28, 0, 0), (12, .iload_n 1, 1, 0, 0, 0), (13, .bipush 30, 2, 0, 0, 0), (15, .if_icmp .ge 13, 3, 28, 0, 0), (18, .aload_n 0, 1, 0, 0, 0), (19, .getfield 31, 3, 2, 6, 2), (22, .iload_n 1, 1, 0, 0, 0), (23, .iaload, 1, 0, 0, 0), (24, .iconst (-1), 1, 0, 0, 0), (25, .if_icmp .eq 5, 3, 30, 0, 0), (28, .iconst 0, 1, 0, 0, 0), (29, .ireturn, 1, 0, 0, 0), (30, .aload_n 0, 1, 0, 0, 0), (31, .getfield 31, 3, 2, 6, 2), (34, .iload_n 1, 1, 0, 0, 0), (35, .aload_n 0, 1, 0, 0, 0), (36, .getfield 49, 3, 2, 8, 0), (39, .iastore, 1, 0, 0, 0), (40, .iconst 1, 1, 0, 0, 0), (41, .ireturn, 1, 0, 0, 0)]
def cu_226 : List (Nat × List Nat) := [(28, [])]
def G_226 : tm_G := fun _ _ _ => none
noncomputable def F_226 : List Value → tm_M → Option tm_R := tm_m tm_sh none G_226 true cd_226 cu_226 26 2
theorem gg_226 : tm_Gg G_226 := fun _ _ _ _ h => by cases h
theorem gm_226 (l : Launch) : ∀ id as M r, G_226 id as M = some r → tm_MA tm_sh l (tm_mt id) as M r := fun _ _ _ _ h => by cases h
theorem gr_226 {as : List Value} {M : tm_M} {r : tm_R} (h : F_226 as M = some r) : tm_gr M r.2 := tm_m_gr gg_226 h
theorem ck_226 : tm_cdk (tm_mt 226).1.cls false tm_mt (tm_mt 226) true cd_226 := tm_cdk_of (LK := lk_RX2) (ix := [11, 21, 21, 20]) lc_RX2 (by decide +kernel)
theorem con_226 (l : Launch) {as : List Value} {M : tm_M} {r : tm_R} (h : F_226 as M = some r) : tm_MA tm_sh l (tm_mt 226) as M r := tm_sound (t := tm_mt 226) tm_Sok_ok tm_CL_ok gg_226 (gm_226 l) (fun _ _ => ⟨rfl, rfl⟩) ck_226 (by decide +kernel) (fun h => by cases h) (fun _ _ _ _ => tm_nos_all (by decide +kernel)) h
