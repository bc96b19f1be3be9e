/-! codes, functions and contracts of methods -/
def cd_227 : List tm_E := [(0, .aload_n 0, 1, 0, 0, 0), (1, .getfield 44, 3, 10, 5, 2), (4, .iload_n 1, 1, 0, 0, 0), (5, .invokevirtual 222, 3, 226, 1, 9), (8, .ireturn, 1, 0, 0, 0)]
def cu_227 : List (Nat × List Nat) := [(8, [])]
noncomputable def G_227 : tm_G := fun id as M => if id = 226 then F_226 as M else none
noncomputable def F_227 : List Value → tm_M → Option tm_R := tm_m tm_sh none G_227 true cd_227 cu_227 6 2
theorem gg_227 : tm_Gg G_227 := by
  intro id as M r h
  unfold G_227 at h
  rcases tm_ite_e h with ⟨_, h⟩ | ⟨_, h⟩
  · exact gr_226 h
  cases h
theorem gm_227 (l : Launch) : ∀ id as M r, G_227 id as M = some r → tm_MA tm_sh l (tm_mt id) as M r := by
  intro id as M r h
  unfold G_227 at h
  rcases tm_ite_e h with ⟨rfl, h⟩ | ⟨_, h⟩
  · exact con_226 l h
  cases h
theorem gr_227 {as : List Value} {M : tm_M} {r : tm_R} (h : F_227 as M = some r) : tm_gr M r.2 := tm_m_gr gg_227 h
theorem ck_227 : tm_cdk (tm_mt 227).1.cls false tm_mt (tm_mt 227) true cd_227 := tm_cdk_of (LK := lk_RX10) (ix := [83, 86]) lc_RX10 (by decide +kernel)
theorem con_227 (l : Launch) {as : List Value} {M : tm_M} {r : tm_R} (h : F_227 as M = some r) : tm_MA tm_sh l (tm_mt 227) as M r := tm_sound (t := tm_mt 227) tm_Sok_ok tm_CL_ok gg_227 (gm_227 l) (fun _ _ => ⟨rfl, rfl⟩) ck_227 (by decide +kernel) (fun h => by cases h) (fun _ _ _ _ => tm_nos_all (by decide +kernel)) h
def cd_228 : List tm_E := [(0, .iload_n 1, 1, 0, 0, 0), (1, .ifCond .lt 20, 3, 21, 0, 0), (4, .iload_n 1, 1, 0, 0, 0), (5, .aload_n 0, 1, 0, 0, 0), (6, .getfield 510, 3, 11, 84, 0), (9, .if_icmp .ge 12, 3, 21, 0, 0), (12, .aload_n 0, 1, 0, 0, 0), (13, .getfield 180, 3, 11, 82, 2), (16, .iload_n 1, 1, 0, 0, 0), (17, .iaload, 1, 0, 0, 0), (18, .ifCond .lt 5, 3, 23, 0, 0), (21, .iconst 0, 1, 0, 0, 0), (22, .ireturn, 1, 0, 0, 0), (23, .aload_n 0, 1, 0, 0, 0), (24, .getfield 180, 3, 11, 82, 2), (27, .iload_n 1, 1, 0, 0, 0), (28, .aload_n 0, 1, 0, 0, 0), (29, .getfield 513, 3, 11, 85, 0), (32, .iastore, 1, 0, 0, 0), (33, .iconst 1, 1, 0, 0, 0), (34, .ireturn, 1, 0, 0, 0)]
def cu_228 : List (Nat × List Nat) := [(21, [])]
def G_228 : tm_G := fun _ _ _ => none
noncomputable def F_228 : List Value → tm_M → Option tm_R := tm_m tm_sh none G_228 true cd_228 cu_228 22 2
theorem gg_228 : tm_Gg G_228 := fun _ _ _ _ h => by cases h
theorem gm_228 (l : Launch) : ∀ id as M r, G_228 id as M = some r → tm_MA tm_sh l (tm_mt id) as M r := fun _ _ _ _ h => by cases h
theorem gr_228 {as : List Value} {M : tm_M} {r : tm_R} (h : F_228 as M = some r) : tm_gr M r.2 := tm_m_gr gg_228 h
theorem ck_228 : tm_cdk (tm_mt 228).1.cls false tm_mt (tm_mt 228) true cd_228 := tm_cdk_of (LK := lk_RX11) (ix := [250, 258, 258, 257]) lc_RX11 (by decide +kernel)
theorem con_228 (l : Launch) {as : List Value} {M : tm_M} {r : tm_R} (h : F_228 as M = some r) : tm_MA tm_sh l (tm_mt 228) as M r := tm_sound (t := tm_mt 228) tm_Sok_ok tm_CL_ok gg_228 (gm_228 l) (fun _ _ => ⟨rfl, rfl⟩) ck_228 (by decide +kernel) (fun h => by cases h) (fun _ _ _ _ => tm_nos_all (by decide +kernel)) h
def cd_229 : List tm_E := [(0, .iload_n 1, 1, 0, 0, 0), (1, .ifCond .lt 21, 3, 22, 0, 0), (4, .iload_n 1, 1, 0, 0, 0), (5, .sipush 1000, 3, 0, 0, 0), (8, .if_icmp .gt 14, 3, 22, 0, 0), (11, .aload_n 0, 1, 0, 0, 0), (12, .getfield 49, 3, 2, 8, 0), (15, .iload_n 1, 1, 0, 0, 0), (16, .iadd, 1, 0, 0, 0), (17, .ldc 52, 2, 0, 100000, 0), (19, .if_icmp .le 5, 3, 24, 0, 0), (22, .iconst (-1), 1, 0, 0, 0), (23, .ireturn, 1, 0, 0, 0), (24, .aload_n 0, 1, 0, 0, 0), (25, .dup, 1, 0, 0, 0), (26, .getfield 49, 3, 2, 8, 0), (29, .iload_n 1, 1, 0, 0, 0), (30, .iadd, 1, 0, 0, 0), (31, .putfield 49, 3, 2, 8, 0), (34, .aload_n 0, 1, 0, 0, 0), (35, .getfield 49, 3, 2, 8, 0), (38, .ireturn, 1, 0, 0, 0)]
def cu_229 : List (Nat × List Nat) := [(22, [])]
def G_229 : tm_G := fun _ _ _ => none
noncomputable def F_229 : List Value → tm_M → Option tm_R := tm_m tm_sh none G_229 false cd_229 cu_229 23 2
theorem gg_229 : tm_Gg G_229 := fun _ _ _ _ h => by cases h
theorem gm_229 (l : Launch) : ∀ id as M r, G_229 id as M = some r → tm_MA tm_sh l (tm_mt id) as M r := fun _ _ _ _ h => by cases h
theorem gr_229 {as : List Value} {M : tm_M} {r : tm_R} (h : F_229 as M = some r) : tm_gr M r.2 := tm_m_gr gg_229 h
theorem ck_229 : tm_cdk (tm_mt 229).1.cls false tm_mt (tm_mt 229) false cd_229 := tm_cdk_of (LK := lk_RX2) (ix := [20, 23, 20, 24, 20]) lc_RX2 (by decide +kernel)
theorem con_229 (l : Launch) {as : List Value} {M : tm_M} {r : tm_R} (h : F_229 as M = some r) : tm_MA tm_sh l (tm_mt 229) as M r := tm_sound (t := tm_mt 229) tm_Sok_ok tm_CL_ok gg_229 (gm_229 l) (fun _ _ => ⟨rfl, rfl⟩) ck_229 (by decide +kernel) (fun h => by cases h) (fun _ _ _ _ => tm_nos_all (by decide +kernel)) h
def cd_230 : List tm_E := [(0, .aload_n 0, 1, 0, 0, 0), (1, .getfield 44, 3, 10, 5, 2), (4, .iload_n 1, 1, 0, 0, 0), (5, .invokevirtual 225, 3, 229, 1, 9), (8, .ireturn, 1, 0, 0, 0)]
def cu_230 : List (Nat × List Nat) := [(8, [])]
noncomputable def G_230 : tm_G := fun id as M => if id = 229 then F_229 as M else none
noncomputable def F_230 : List Value → tm_M → Option tm_R := tm_m tm_sh none G_230 false cd_230 cu_230 6 2
theorem gg_230 : tm_Gg G_230 := by
  intro id as M r h
  unfold G_230 at h
  rcases tm_ite_e h with ⟨_, h⟩ | ⟨_, h⟩
  · exact gr_229 h
  cases h
theorem gm_230 (l : Launch) : ∀ id as M r, G_230 id as M = some r → tm_MA tm_sh l (tm_mt id) as M r := by
  intro id as M r h
  unfold G_230 at h
  rcases tm_ite_e h with ⟨rfl, h⟩ | ⟨_, h⟩
  · exact con_229 l h
  cases h
theorem gr_230 {as : List Value} {M : tm_M} {r : tm_R} (h : F_230 as M = some r) : tm_gr M r.2 := tm_m_gr gg_230 h
theorem ck_230 : tm_cdk (tm_mt 230).1.cls false tm_mt (tm_mt 230) false cd_230 := tm_cdk_of (LK := lk_RX10) (ix := [83, 87]) lc_RX10 (by decide +kernel)
theorem con_230 (l : Launch) {as : List Value} {M : tm_M} {r : tm_R} (h : F_230 as M = some r) : tm_MA tm_sh l (tm_mt 230) as M r := tm_sound (t := tm_mt 230) tm_Sok_ok tm_CL_ok gg_230 (gm_230 l) (fun _ _ => ⟨rfl, rfl⟩) ck_230 (by decide +kernel) (fun h => by cases h) (fun _ _ _ _ => tm_nos_all (by decide +kernel)) h
def cd_231 : List tm_E := [(0, .iload_n 1, 1, 0, 0, 0), (1, .ifCond .lt 22, 3, 23, 0, 0), (4, .iload_n 1, 1, 0, 0, 0), (5, .sipush 1000, 3, 0, 0, 0), (8, .if_icmp .gt 15, 3, 23, 0, 0), (11, .aload_n 0, 1, 0, 0, 0), (12, .getfield 513, 3, 11, 85, 0), (15, .iload_n 1, 1, 0, 0, 0), (16, .iadd, 1, 0, 0, 0), (17, .ldc_w 516, 3, 0, 100000, 0), (20, .if_icmp .le 5, 3, 25, 0, 0), (23, .iconst (-1), 1, 0, 0, 0), (24, .ireturn, 1, 0, 0, 0), (25, .aload_n 0, 1, 0, 0, 0), (26, .dup, 1, 0, 0, 0), (27, .getfield 513, 3, 11, 85, 0), (30, .iload_n 1, 1, 0, 0, 0), (31, .iadd, 1, 0, 0, 0), (32, .putfield 513, 3, 11, 85, 0), (35, .aload_n 0, 1, 0, 0, 0), (36, .getfield 513, 3, 11, 85, 0), (39, .ireturn, 1, 0, 0, 0)]
def cu_231 : List (Nat × List Nat) := [(23, [])]
def G_231 : tm_G := fun _ _ _ => none
noncomputable def F_231 : List Value → tm_M → Option tm_R := tm_m tm_sh none G_231 false cd_231 cu_231 23 2
theorem gg_231 : tm_Gg G_231 := fun _ _ _ _ h => by cases h
theorem gm_231 (l : Launch) : ∀ id as M r, G_231 id as M = some r → tm_MA tm_sh l (tm_mt id) as M r := fun _ _ _ _ h => by cases h
theorem gr_231 {as : List Value} {M : tm_M} {r : tm_R} (h : F_231 as M = some r) : tm_gr M r.2 := tm_m_gr gg_231 h
theorem ck_231 : tm_cdk (tm_mt 231).1.cls false tm_mt (tm_mt 231) false cd_231 := tm_cdk_of (LK := lk_RX11) (ix := [257, 260, 257, 261, 257]) lc_RX11 (by decide +kernel)
theorem con_231 (l : Launch) {as : List Value} {M : tm_M} {r : tm_R} (h : F_231 as M = some r) : tm_MA tm_sh l (tm_mt 231) as M r := tm_sound (t := tm_mt 231) tm_Sok_ok tm_CL_ok gg_231 (gm_231 l) (fun _ _ => ⟨rfl, rfl⟩) ck_231 (by decide +kernel) (fun h => by cases h) (fun _ _ _ _ => tm_nos_all (by decide +kernel)) h
def cd_232 : List tm_E := [(0, .iload_n 0, 1, 0, 0, 0), (1, .ifCond .lt 14, 3, 15, 0, 0), (4, .iload_n 0, 1, 0, 0, 0), (5, .sipush 800, 3, 0, 0, 0), (8, .if_icmp .ge 7, 3, 15, 0, 0), (11, .iconst 1, 1, 0, 0, 0), (12, .goto 4, 3, 16, 0, 0), (15, .iconst 0, 1, 0, 0, 0), (16, .ireturn, 1, 0, 0, 0)]
def cu_232 : List (Nat × List Nat) := [(15, []), (16, [])]
def G_232 : tm_G := fun _ _ _ => none
noncomputable def F_232 : List Value → tm_M → Option tm_R := tm_m tm_sh none G_232 true cd_232 cu_232 10 1
theorem gg_232 : tm_Gg G_232 := fun _ _ _ _ h => by cases h
theorem gm_232 (l : Launch) : ∀ id as M r, G_232 id as M = some r → tm_MA tm_sh l (tm_mt id) as M r := fun _ _ _ _ h => by cases h
theorem gr_232 {as : List Value} {M : tm_M} {r : tm_R} (h : F_232 as M = some r) : tm_gr M r.2 := tm_m_gr gg_232 h
theorem ck_232 : tm_cdk (tm_mt 232).1.cls false tm_mt (tm_mt 232) true cd_232 := tm_cdk_of (LK := lk_RX10) (ix := []) lc_RX10 (by decide +kernel)
theorem con_232 (l : Launch) {as : List Value} {M : tm_M} {r : tm_R} (h : F_232 as M = some r) : tm_MA tm_sh l (tm_mt 232) as M r := tm_sound (t := tm_mt 232) tm_Sok_ok tm_CL_ok gg_232 (gm_232 l) (fun _ _ => ⟨rfl, rfl⟩) ck_232 (by decide +kernel) (fun h => by cases h) (fun _ _ _ _ => tm_nos_all (by decide +kernel)) h
def cd_233 : List tm_E := [(0, .aload_n 0, 1, 0, 0, 0), (1, .iconst 0, 1, 0, 0, 0), (2, .putfield 53, 3, 2, 10, 0), (5, .aload_n 0, 1, 0, 0, 0), (6, .getfield 37, 3, 2, 7, 0), (9, .bipush 30, 2, 0, 0, 0), (11, .invokestatic 56, 3, 9004, 2, 1), (14, .iconst 1, 1, 0, 0, 0), (15, .isub, 1, 0, 0, 0), (16, .istore_n 3, 1, 0, 0, 0), (17, .iload_n 3, 1, 0, 0, 0), (18, .ifCond .lt 81, 3, 99, 0, 0), (21, .aload_n 0, 1, 0, 0, 0), (22, .getfield 31, 3, 2, 6, 2), (25, .iload_n 3, 1, 0, 0, 0), (26, .iaload, 1, 0, 0, 0), (27, .iconst (-1), 1, 0, 0, 0), (28, .if_icmp .eq 17, 3, 45, 0, 0), (31, .aload_n 0, 1, 0, 0, 0), (32, .getfield 31, 3, 2, 6, 2), (35, .iload_n 3, 1, 0, 0, 0), (36, .iaload, 1, 0, 0, 0), (37, .iload_n 2, 1, 0, 0, 0), (38, .if_icmp .gt 7, 3, 45, 0, 0), (41, .iconst 1, 1, 0, 0, 0), (42, .goto 4, 3, 46, 0, 0), (45, .iconst 0, 1, 0, 0, 0), (46, .istore 4, 2, 0, 0, 0), (48, .aload_n 0, 1, 0, 0, 0), (49, .getfield 19, 3, 2, 2, 2), (52, .iload_n 3, 1, 0, 0, 0), (53, .iaload, 1, 0, 0, 0), (54, .iload_n 1, 1, 0, 0, 0), (55, .if_icmp .ne 38, 3, 93, 0, 0), (58, .aload_n 0, 1, 0, 0, 0), (59, .getfield 28, 3, 2, 5, 2), (62, .iload_n 3, 1, 0, 0, 0), (63, .iaload, 1, 0, 0, 0), (64, .iload_n 2, 1, 0, 0, 0), (65, .if_icmp .gt 28, 3, 93, 0, 0), (68, .iload 4, 2, 0, 0, 0), (70, .ifCond .ne 23, 3, 93, 0, 0), (73, .aload_n 0, 1, 0, 0, 0), (74, .getfield 34, 3, 2, 9, 2), (77, .aload_n 0, 1, 0, 0, 0), (78, .getfield 53, 3, 2, 10, 0), (81, .iload_n 3, 1, 0, 0, 0), (82, .iastore, 1, 0, 0, 0), (83, .aload_n 0, 1, 0, 0, 0), (84, .dup, 1, 0, 0, 0), (85, .getfield 53, 3, 2, 10, 0), (88, .iconst 1, 1, 0, 0, 0), (89, .iadd, 1, 0, 0, 0), (90, .putfield 53, 3, 2, 10, 0), (93, .iinc 3 (-1), 3, 0, 0, 0), (96, .goto (-79), 3, 17, 0, 0), (99, .return_, 1, 0, 0, 0)]
def cu_233 : List (Nat × List Nat) := [(17, [0, 1, 2, 3]), (45, [0, 1, 2, 3]), (46, [0, 1, 2, 3]), (93, [0, 1, 2, 3])]
def G_233 : tm_G := fun _ _ _ => none
noncomputable def F_233 : List Value → tm_M → Option tm_R := tm_m tm_sh none G_233 false cd_233 cu_233 58 5
theorem gg_233 : tm_Gg G_233 := fun _ _ _ _ h => by cases h
theorem gm_233 (l : Launch) : ∀ id as M r, G_233 id as M = some r → tm_MA tm_sh l (tm_mt id) as M r := fun _ _ _ _ h => by cases h
theorem gr_233 {as : List Value} {M : tm_M} {r : tm_R} (h : F_233 as M = some r) : tm_gr M r.2 := tm_m_gr gg_233 h
theorem ck_233 : tm_cdk (tm_mt 233).1.cls false tm_mt (tm_mt 233) false cd_233 := tm_cdk_of (LK := lk_RX2) (ix := [25, 11, 26, 21, 21, 16, 19, 27, 28, 28, 25]) lc_RX2 (by decide +kernel)
theorem con_233 (l : Launch) {as : List Value} {M : tm_M} {r : tm_R} (h : F_233 as M = some r) : tm_MA tm_sh l (tm_mt 233) as M r := tm_sound (t := tm_mt 233) tm_Sok_ok tm_CL_ok gg_233 (gm_233 l) (fun _ _ => ⟨rfl, rfl⟩) ck_233 (by decide +kernel) (fun h => by cases h) (fun _ _ _ _ => tm_nos_all (by decide +kernel)) h
def cd_234 : List tm_E := [(0, .iload_n 2, 1, 0, 0, 0), (1, .aload_n 0, 1, 0, 0, 0), (2, .getfield 22, 3, 2, 3, 2), (5, .iload_n 1, 1, 0, 0, 0), (6, .iaload, 1, 0, 0, 0), (7, .isub, 1, 0, 0, 0), (8, .istore_n 3, 1, 0, 0, 0), (9, .iload_n 3, 1, 0, 0, 0), (10, .ifCond .lt 20, 3, 30, 0, 0), (13, .iload_n 3, 1, 0, 0, 0), (14, .aload_n 0, 1, 0, 0, 0), (15, .getfield 25, 3, 2, 4, 2), (18, .iload_n 1, 1, 0, 0, 0), (19, .iaload, 1, 0, 0, 0), (20, .if_icmp .ge 10, 3, 30, 0, 0), (23, .iload_n 3, 1, 0, 0, 0), (24, .sipush 200, 3, 0, 0, 0), (27, .if_icmp .lt 5, 3, 32, 0, 0), (30, .iconst 4, 1, 0, 0, 0), (31, .ireturn, 1, 0, 0, 0), (32, .aload_n 0, 1, 0, 0, 0), (33, .getfield 11, 3, 2, 0, 2), (36, .iload_n 1, 1, 0, 0, 0), (37, .bipush 10, 2, 0, 0, 0), (39, .imul, 1, 0, 0, 0), (40, .iload_n 3, 1, 0, 0, 0), (41, .bipush 20, 2, 0, 0, 0), (43, .idiv, 1, 0, 0, 0), (44, .iadd, 1, 0, 0, 0), (45, .laload, 1, 0, 0, 0), (46, .iconst 3, 1, 0, 0, 0), (47, .iload_n 3, 1, 0, 0, 0), (48, .bipush 20, 2, 0, 0, 0), (50, .irem, 1, 0, 0, 0), (51, .imul, 1, 0, 0, 0), (52, .lshr, 1, 0, 0, 0), (53, .l2i, 1, 0, 0, 0), (54, .bipush 7, 2, 0, 0, 0), (56, .iand, 1, 0, 0, 0), (57, .ireturn, 1, 0, 0, 0)]
def cu_234 : List (Nat × List Nat) := [(30, [])]
def G_234 : tm_G := fun _ _ _ => none
noncomputable def F_234 : List Value → tm_M → Option tm_R := tm_m tm_sh none G_234 false cd_234 cu_234 41 4
theorem gg_234 : tm_Gg G_234 := fun _ _ _ _ h => by cases h
theorem gm_234 (l : Launch) : ∀ id as M r, G_234 id as M = some r → tm_MA tm_sh l (tm_mt id) as M r := fun _ _ _ _ h => by cases h
theorem gr_234 {as : List Value} {M : tm_M} {r : tm_R} (h : F_234 as M = some r) : tm_gr M r.2 := tm_m_gr gg_234 h
theorem ck_234 : tm_cdk (tm_mt 234).1.cls false tm_mt (tm_mt 234) false cd_234 := tm_cdk_of (LK := lk_RX2) (ix := [17, 18, 12]) lc_RX2 (by decide +kernel)
theorem con_234 (l : Launch) {as : List Value} {M : tm_M} {r : tm_R} (h : F_234 as M = some r) : tm_MA tm_sh l (tm_mt 234) as M r := tm_sound (t := tm_mt 234) tm_Sok_ok tm_CL_ok gg_234 (gm_234 l) (fun _ _ => ⟨rfl, rfl⟩) ck_234 (by decide +kernel) (fun h => by cases h) (fun _ _ _ _ => tm_nos_all (by decide +kernel)) h
def cd_235 : List tm_E := [(0, .iload_n 1, 1, 0, 0, 0), (1, .invokestatic 62, 3, 232, 1, 1), (4, .ifCond .ne 5, 3, 9, 0, 0), (7, .iconst 4, 1, 0, 0, 0), (8, .ireturn, 1, 0, 0, 0), (9, .iconst 4, 1, 0, 0, 0), (10, .istore_n 2, 1, 0, 0, 0), (11, .iconst 0, 1, 0, 0, 0), (12, .istore_n 3, 1, 0, 0, 0), (13, .iconst 0, 1, 0, 0, 0), (14, .istore 4, 2, 0, 0, 0), (16, .iload 4, 2, 0, 0, 0), (18, .aload_n 0, 1, 0, 0, 0), (19, .getfield 53, 3, 2, 10, 0), (22, .if_icmp .ge 75, 3, 97, 0, 0), (25, .aload_n 0, 1, 0, 0, 0), (26, .aload_n 0, 1, 0, 0, 0), (27, .getfield 34, 3, 2, 9, 2), (30, .iload 4, 2, 0, 0, 0), (32, .iaload, 1, 0, 0, 0), (33, .iload_n 1, 1, 0, 0, 0), (34, .invokevirtual 66, 3, 234, 2, 9), (37, .istore 5, 2, 0, 0, 0), (39, .iconst 1, 1, 0, 0, 0), (40, .aload_n 0, 1, 0, 0, 0), (41, .getfield 15, 3, 2, 1, 2), (44, .aload_n 0, 1, 0, 0, 0), (45, .getfield 34, 3, 2, 9, 2), (48, .iload 4, 2, 0, 0, 0), (50, .iaload, 1, 0, 0, 0), (51, .iaload, 1, 0, 0, 0), (52, .ishl, 1, 0, 0, 0), (53, .istore 6, 2, 0, 0, 0), (55, .iload 5, 2, 0, 0, 0), (57, .iconst 4, 1, 0, 0, 0), (58, .if_icmp .eq 33, 3, 91, 0, 0), (61, .iload_n 3, 1, 0, 0, 0), (62, .iload 6, 2, 0, 0, 0), (64, .iand, 1, 0, 0, 0), (65, .ifCond .eq 6, 3, 71, 0, 0), (68, .goto 23, 3, 91, 0, 0), (71, .iload_n 3, 1, 0, 0, 0), (72, .ifCond .eq 11, 3, 83, 0, 0), (75, .iload 5, 2, 0, 0, 0), (77, .iload_n 2, 1, 0, 0, 0), (78, .if_icmp .eq 5, 3, 83, 0, 0), (81, .iconst 4, 1, 0, 0, 0), (82, .ireturn, 1, 0, 0, 0), (83, .iload_n 3, 1, 0, 0, 0), (84, .iload 6, 2, 0, 0, 0), (86, .ior, 1, 0, 0, 0), (87, .istore_n 3, 1, 0, 0, 0), (88, .iload 5, 2, 0, 0, 0), (90, .istore_n 2, 1, 0, 0, 0), (91, .iinc 4 1, 3, 0, 0, 0), (94, .goto (-78), 3, 16, 0, 0), (97, .iload_n 2, 1, 0, 0, 0), (98, .ireturn, 1, 0, 0, 0)]
def cu_235 : List (Nat × List Nat) := [(4, [0, 1]), (16, [0, 1, 2, 3, 4]), (37, [0, 1, 2, 3, 4]), (83, [0, 1, 3, 4, 5, 6]), (91, [0, 1, 2, 3, 4])]
noncomputable def G_235 : tm_G := fun id as M => if id = 232 then F_232 as M else if id = 234 then F_234 as M else none
noncomputable def F_235 : List Value → tm_M → Option tm_R := tm_m tm_sh none G_235 false cd_235 cu_235 59 7
theorem gg_235 : tm_Gg G_235 := by
  intro id as M r h
  unfold G_235 at h
  rcases tm_ite_e h with ⟨_, h⟩ | ⟨_, h⟩
  · exact gr_232 h
  rcases tm_ite_e h with ⟨_, h⟩ | ⟨_, h⟩
  · exact gr_234 h
  cases h
theorem gm_235 (l : Launch) : ∀ id as M r, G_235 id as M = some r → tm_MA tm_sh l (tm_mt id) as M r := by
  intro id as M r h
  unfold G_235 at h
  rcases tm_ite_e h with ⟨rfl, h⟩ | ⟨_, h⟩
  · exact con_232 l h
  rcases tm_ite_e h with ⟨rfl, h⟩ | ⟨_, h⟩
  · exact con_234 l h
  cases h
theorem gr_235 {as : List Value} {M : tm_M} {r : tm_R} (h : F_235 as M = some r) : tm_gr M r.2 := tm_m_gr gg_235 h
theorem ck_235 : tm_cdk (tm_mt 235).1.cls false tm_mt (tm_mt 235) false cd_235 := tm_cdk_of (LK := lk_RX2) (ix := [29, 28, 27, 30, 15, 27]) lc_RX2 (by decide +kernel)
theorem con_235 (l : Launch) {as : List Value} {M : tm_M} {r : tm_R} (h : F_235 as M = some r) : tm_MA tm_sh l (tm_mt 235) as M r := tm_sound (t := tm_mt 235) tm_Sok_ok tm_CL_ok gg_235 (gm_235 l) (fun _ _ => ⟨rfl, rfl⟩) ck_235 (by decide +kernel) (fun h => by cases h) (fun _ _ _ _ => tm_nos_all (by decide +kernel)) h
def cd_236 : List tm_E := [(0, .iload_n 1, 1, 0, 0, 0), (1, .invokestatic 208, 3, 114, 1, 1), (4, .ifCond .eq 10, 3, 14, 0, 0), (7, .iload_n 2, 1, 0, 0, 0), (8, .invokestatic 228, 3, 232, 1, 1), (11, .ifCond .ne 5, 3, 16, 0, 0), (14, .iconst (-1), 1, 0, 0, 0), (15, .ireturn, 1, 0, 0, 0), (16, .aload_n 0, 1, 0, 0, 0), (17, .getfield 44, 3, 10, 5, 2), (20, .iload_n 1, 1, 0, 0, 0), (21, .iload_n 3, 1, 0, 0, 0), (22, .invokevirtual 231, 3, 233, 2, 8), (25, .aload_n 0, 1, 0, 0, 0), (26, .getfield 44, 3, 10, 5, 2), (29, .iload_n 2, 1, 0, 0, 0), (30, .invokevirtual 234, 3, 235, 1, 9), (33, .ireturn, 1, 0, 0, 0)]
def cu_236 : List (Nat × List Nat) := [(4, [0, 1, 2, 3]), (11, [0, 1, 2, 3]), (14, []), (25, [0, 2]), (33, [])]
noncomputable def G_236 : tm_G := fun id as M => if id = 114 then F_114 as M else if id = 232 then F_232 as M else if id = 233 then F_233 as M else if id = 235 then F_235 as M else none
noncomputable def F_236 : List Value → tm_M → Option tm_R := tm_m tm_sh none G_236 false cd_236 cu_236 19 4
theorem gg_236 : tm_Gg G_236 := by
  intro id as M r h
  unfold G_236 at h
  rcases tm_ite_e h with ⟨_, h⟩ | ⟨_, h⟩
  · exact gr_114 h
  rcases tm_ite_e h with ⟨_, h⟩ | ⟨_, h⟩
  · exact gr_232 h
  rcases tm_ite_e h with ⟨_, h⟩ | ⟨_, h⟩
  · exact gr_233 h
  rcases tm_ite_e h with ⟨_, h⟩ | ⟨_, h⟩
  · exact gr_235 h
  cases h
theorem gm_236 (l : Launch) : ∀ id as M r, G_236 id as M = some r → tm_MA tm_sh l (tm_mt id) as M r := by
  intro id as M r h
  unfold G_236 at h
  rcases tm_ite_e h with ⟨rfl, h⟩ | ⟨_, h⟩
  · exact con_114 l h
  rcases tm_ite_e h with ⟨rfl, h⟩ | ⟨_, h⟩
  · exact con_232 l h
  rcases tm_ite_e h with ⟨rfl, h⟩ | ⟨_, h⟩
  · exact con_233 l h
  rcases tm_ite_e h with ⟨rfl, h⟩ | ⟨_, h⟩
  · exact con_235 l h
  cases h
theorem gr_236 {as : List Value} {M : tm_M} {r : tm_R} (h : F_236 as M = some r) : tm_gr M r.2 := tm_m_gr gg_236 h
theorem ck_236 : tm_cdk (tm_mt 236).1.cls false tm_mt (tm_mt 236) false cd_236 := tm_cdk_of (LK := lk_RX10) (ix := [81, 88, 83, 89, 83, 90]) lc_RX10 (by decide +kernel)
theorem con_236 (l : Launch) {as : List Value} {M : tm_M} {r : tm_R} (h : F_236 as M = some r) : tm_MA tm_sh l (tm_mt 236) as M r := tm_sound (t := tm_mt 236) tm_Sok_ok tm_CL_ok gg_236 (gm_236 l) (fun _ _ => ⟨rfl, rfl⟩) ck_236 (by decide +kernel) (fun h => by cases h) (fun _ _ _ _ => tm_nos_all (by decide +kernel)) h
def cd_237 : List tm_E := [(0, .iload_n 0, 1, 0, 0, 0), (1, .ifCond .lt 14, 3, 15, 0, 0), (4, .iload_n 0, 1, 0, 0, 0), (5, .sipush 800, 3, 0, 0, 0), (8, .if_icmp .ge 7, 3, 15, 0, 0), (11, .iconst 1, 1, 0, 0, 0), (12, .goto 4, 3, 16, 0, 0), (15, .iconst 0, 1, 0, 0, 0), (16, .ireturn, 1, 0, 0, 0)]
def cu_237 : List (Nat × List Nat) := [(15, []), (16, [])]
def G_237 : tm_G := fun _ _ _ => none
noncomputable def F_237 : List Value → tm_M → Option tm_R := tm_m tm_sh none G_237 true cd_237 cu_237 10 1
theorem gg_237 : tm_Gg G_237 := fun _ _ _ _ h => by cases h
theorem gm_237 (l : Launch) : ∀ id as M r, G_237 id as M = some r → tm_MA tm_sh l (tm_mt id) as M r := fun _ _ _ _ h => by cases h
theorem gr_237 {as : List Value} {M : tm_M} {r : tm_R} (h : F_237 as M = some r) : tm_gr M r.2 := tm_m_gr gg_237 h
theorem ck_237 : tm_cdk (tm_mt 237).1.cls false tm_mt (tm_mt 237) true cd_237 := tm_cdk_of (LK := lk_RX11) (ix := []) lc_RX11 (by decide +kernel)
theorem con_237 (l : Launch) {as : List Value} {M : tm_M} {r : tm_R} (h : F_237 as M = some r) : tm_MA tm_sh l (tm_mt 237) as M r := tm_sound (t := tm_mt 237) tm_Sok_ok tm_CL_ok gg_237 (gm_237 l) (fun _ _ => ⟨rfl, rfl⟩) ck_237 (by decide +kernel) (fun h => by cases h) (fun _ _ _ _ => tm_nos_all (by decide +kernel)) h
def cd_238 : List tm_E := [(0, .iconst (-1), 1, 0, 0, 0), (1, .istore 5, 2, 0, 0, 0), (3, .iconst 0, 1, 0, 0, 0), (4, .istore 6, 2, 0, 0, 0), (6, .iload 6, 2, 0, 0, 0), (8, .aload_n 0, 1, 0, 0, 0), (9, .getfield 510, 3, 11, 84, 0), (12, .if_icmp .ge 135, 3, 147, 0, 0), (15, .aload_n 0, 1, 0, 0, 0), (16, .getfield 165, 3, 11, 77, 2), (19, .iload 6, 2, 0, 0, 0), (21, .iaload, 1, 0, 0, 0), (22, .iload_n 1, 1, 0, 0, 0), (23, .if_icmp .ne 118, 3, 141, 0, 0), (26, .aload_n 0, 1, 0, 0, 0), (27, .getfield 168, 3, 11, 78, 2), (30, .iload 6, 2, 0, 0, 0), (32, .iaload, 1, 0, 0, 0), (33, .iload_n 2, 1, 0, 0, 0), (34, .if_icmp .ne 107, 3, 141, 0, 0), (37, .aload_n 0, 1, 0, 0, 0), (38, .getfield 177, 3, 11, 81, 2), (41, .iload 6, 2, 0, 0, 0), (43, .iaload, 1, 0, 0, 0), (44, .iload 4, 2, 0, 0, 0), (46, .if_icmp .gt 95, 3, 141, 0, 0), (49, .aload_n 0, 1, 0, 0, 0), (50, .getfield 180, 3, 11, 82, 2), (53, .iload 6, 2, 0, 0, 0), (55, .iaload, 1, 0, 0, 0), (56, .ifCond .lt 15, 3, 71, 0, 0), (59, .aload_n 0, 1, 0, 0, 0), (60, .getfield 180, 3, 11, 82, 2), (63, .iload 6, 2, 0, 0, 0), (65, .iaload, 1, 0, 0, 0), (66, .iload 4, 2, 0, 0, 0), (68, .if_icmp .le 73, 3, 141, 0, 0), (71, .iload_n 3, 1, 0, 0, 0), (72, .aload_n 0, 1, 0, 0, 0), (73, .getfield 171, 3, 11, 79, 2), (76, .iload 6, 2, 0, 0, 0), (78, .iaload, 1, 0, 0, 0), (79, .if_icmp .lt 62, 3, 141, 0, 0), (82, .iload_n 3, 1, 0, 0, 0), (83, .aload_n 0, 1, 0, 0, 0), (84, .getfield 171, 3, 11, 79, 2), (87, .iload 6, 2, 0, 0, 0), (89, .iaload, 1, 0, 0, 0), (90, .aload_n 0, 1, 0, 0, 0), (91, .getfield 174, 3, 11, 80, 2), (94, .iload 6, 2, 0, 0, 0), (96, .iaload, 1, 0, 0, 0), (97, .iadd, 1, 0, 0, 0), (98, .if_icmp .lt 6, 3, 104, 0, 0), (101, .goto 40, 3, 141, 0, 0), (104, .aload_n 0, 1, 0, 0, 0), (105, .getfield 183, 3, 11, 83, 2), (108, .sipush 200, 3, 0, 0, 0), (111, .iload 6, 2, 0, 0, 0), (113, .imul, 1, 0, 0, 0), (114, .iload_n 3, 1, 0, 0, 0), (115, .iadd, 1, 0, 0, 0), (116, .aload_n 0, 1, 0, 0, 0), (117, .getfield 171, 3, 11, 79, 2), (120, .iload 6, 2, 0, 0, 0), (122, .iaload, 1, 0, 0, 0), (123, .isub, 1, 0, 0, 0), (124, .baload, 1, 0, 0, 0), (125, .istore 7, 2, 0, 0, 0), (127, .iload 7, 2, 0, 0, 0), (129, .ifCond .ge 8, 3, 137, 0, 0), (132, .iload 5, 2, 0, 0, 0), (134, .goto 5, 3, 139, 0, 0), (137, .iload 7, 2, 0, 0, 0), (139, .istore 5, 2, 0, 0, 0), (141, .iinc 6 1, 3, 0, 0, 0), (144, .goto (-138), 3, 6, 0, 0), (147, .iload 5, 2, 0, 0, 0), (149, .ireturn, 1, 0, 0, 0)]
def cu_238 : List (Nat × List Nat) := [(6, [0, 1, 2, 3, 4, 5, 6]), (71, [0, 1, 2, 3, 4, 5, 6]), (139, [0, 1, 2, 3, 4, 6]), (141, [0, 1, 2, 3, 4, 5, 6])]
def G_238 : tm_G := fun _ _ _ => none
noncomputable def F_238 : List Value → tm_M → Option tm_R := tm_m tm_sh none G_238 false cd_238 cu_238 80 8
theorem gg_238 : tm_Gg G_238 := fun _ _ _ _ h => by cases h
theorem gm_238 (l : Launch) : ∀ id as M r, G_238 id as M = some r → tm_MA tm_sh l (tm_mt id) as M r := fun _ _ _ _ h => by cases h
theorem gr_238 {as : List Value} {M : tm_M} {r : tm_R} (h : F_238 as M = some r) : tm_gr M r.2 := tm_m_gr gg_238 h
theorem ck_238 : tm_cdk (tm_mt 238).1.cls false tm_mt (tm_mt 238) false cd_238 := tm_cdk_of (LK := lk_RX11) (ix := [250, 252, 253, 256, 258, 258, 254, 254, 255, 251, 254]) lc_RX11 (by decide +kernel)
theorem con_238 (l : Launch) {as : List Value} {M : tm_M} {r : tm_R} (h : F_238 as M = some r) : tm_MA tm_sh l (tm_mt 238) as M r := tm_sound (t := tm_mt 238) tm_Sok_ok tm_CL_ok gg_238 (gm_238 l) (fun _ _ => ⟨rfl, rfl⟩) ck_238 (by decide +kernel) (fun h => by cases h) (fun _ _ _ _ => tm_nos_all (by decide +kernel)) h
def cd_239 : List tm_E := [(0, .iload_n 2, 1, 0, 0, 0), (1, .sipush 800, 3, 0, 0, 0), (4, .if_icmp .lt 5, 3, 9, 0, 0), (7, .iconst 4, 1, 0, 0, 0), (8, .ireturn, 1, 0, 0, 0), (9, .iconst (-1), 1, 0, 0, 0), (10, .istore 4, 2, 0, 0, 0), (12, .iconst 0, 1, 0, 0, 0), (13, .istore 5, 2, 0, 0, 0), (15, .iload 5, 2, 0, 0, 0), (17, .iconst 3, 1, 0, 0, 0), (18, .if_icmp .ge 46, 3, 64, 0, 0), (21, .aload_n 0, 1, 0, 0, 0), (22, .iload 5, 2, 0, 0, 0), (24, .iload_n 1, 1, 0, 0, 0), (25, .iload_n 2, 1, 0, 0, 0), (26, .iload_n 3, 1, 0, 0, 0), (27, .invokevirtual 517, 3, 238, 4, 45), (30, .istore 6, 2, 0, 0, 0), (32, .iload 6, 2, 0, 0, 0), (34, .ifCond .ge 6, 3, 40, 0, 0), (37, .goto 21, 3, 58, 0, 0), (40, .iload 4, 2, 0, 0, 0), (42, .ifCond .lt 12, 3, 54, 0, 0), (45, .iload 4, 2, 0, 0, 0), (47, .iload 6, 2, 0, 0, 0), (49, .if_icmp .eq 5, 3, 54, 0, 0), (52, .iconst 4, 1, 0, 0, 0), (53, .ireturn, 1, 0, 0, 0), (54, .iload 6, 2, 0, 0, 0), (56, .istore 4, 2, 0, 0, 0), (58, .iinc 5 1, 3, 0, 0, 0), (61, .goto (-46), 3, 15, 0, 0), (64, .iload 4, 2, 0, 0, 0), (66, .ifCond .ge 7, 3, 73, 0, 0), (69, .iconst 4, 1, 0, 0, 0), (70, .goto 5, 3, 75, 0, 0), (73, .iload 4, 2, 0, 0, 0), (75, .ireturn, 1, 0, 0, 0)]
def cu_239 : List (Nat × List Nat) := [(15, [0, 1, 2, 3, 4, 5]), (30, [0, 1, 2, 3, 4, 5]), (54, [0, 1, 2, 3, 5, 6]), (58, [0, 1, 2, 3, 4, 5]), (75, [])]
noncomputable def G_239 : tm_G := fun id as M => if id = 238 then F_238 as M else none
noncomputable def F_239 : List Value → tm_M → Option tm_R := tm_m tm_sh none G_239 false cd_239 cu_239 40 7
theorem gg_239 : tm_Gg G_239 := by
  intro id as M r h
  unfold G_239 at h
  rcases tm_ite_e h with ⟨_, h⟩ | ⟨_, h⟩
  · exact gr_238 h
  cases h
theorem gm_239 (l : Launch) : ∀ id as M r, G_239 id as M = some r → tm_MA tm_sh l (tm_mt id) as M r := by
  intro id as M r h
  unfold G_239 at h
  rcases tm_ite_e h with ⟨rfl, h⟩ | ⟨_, h⟩
  · exact con_238 l h
  cases h
theorem gr_239 {as : List Value} {M : tm_M} {r : tm_R} (h : F_239 as M = some r) : tm_gr M r.2 := tm_m_gr gg_239 h
theorem ck_239 : tm_cdk (tm_mt 239).1.cls false tm_mt (tm_mt 239) false cd_239 := tm_cdk_of (LK := lk_RX11) (ix := [262]) lc_RX11 (by decide +kernel)
theorem con_239 (l : Launch) {as : List Value} {M : tm_M} {r : tm_R} (h : F_239 as M = some r) : tm_MA tm_sh l (tm_mt 239) as M r := tm_sound (t := tm_mt 239) tm_Sok_ok tm_CL_ok gg_239 (gm_239 l) (fun _ _ => ⟨rfl, rfl⟩) ck_239 (by decide +kernel) (fun h => by cases h) (fun _ _ _ _ => tm_nos_all (by decide +kernel)) h
def cd_240 : List tm_E := [(0, .iload_n 1, 1, 0, 0, 0), (1, .invokestatic 464, 3, 180, 1, 1), (4, .ifCond .eq 20, 3, 24, 0, 0), (7, .iload_n 2, 1, 0, 0, 0), (8, .invokestatic 521, 3, 237, 1, 1), (11, .ifCond .eq 13, 3, 24, 0, 0), (14, .aload_n 0, 1, 0, 0, 0), (15, .iload_n 1, 1, 0, 0, 0), (16, .iload_n 2, 1, 0, 0, 0), (17, .iload_n 3, 1, 0, 0, 0), (18, .invokevirtual 524, 3, 239, 3, 45), (21, .goto 4, 3, 25, 0, 0), (24, .iconst (-1), 1, 0, 0, 0), (25, .ireturn, 1, 0, 0, 0)]
def cu_240 : List (Nat × List Nat) := [(4, [0, 1, 2, 3]), (11, [0, 1, 2, 3]), (21, []), (24, []), (25, [])]
noncomputable def G_240 : tm_G := fun id as M => if id = 180 then F_180 as M else if id = 237 then F_237 as M else if id = 239 then F_239 as M else none
noncomputable def F_240 : List Value → tm_M → Option tm_R := tm_m tm_sh none G_240 false cd_240 cu_240 15 4
theorem gg_240 : tm_Gg G_240 := by
  intro id as M r h
  unfold G_240 at h
  rcases tm_ite_e h with ⟨_, h⟩ | ⟨_, h⟩
  · exact gr_180 h
  rcases tm_ite_e h with ⟨_, h⟩ | ⟨_, h⟩
  · exact gr_237 h
  rcases tm_ite_e h with ⟨_, h⟩ | ⟨_, h⟩
  · exact gr_239 h
  cases h
theorem gm_240 (l : Launch) : ∀ id as M r, G_240 id as M = some r → tm_MA tm_sh l (tm_mt id) as M r := by
  intro id as M r h
  unfold G_240 at h
  rcases tm_ite_e h with ⟨rfl, h⟩ | ⟨_, h⟩
  · exact con_180 l h
  rcases tm_ite_e h with ⟨rfl, h⟩ | ⟨_, h⟩
  · exact con_237 l h
  rcases tm_ite_e h with ⟨rfl, h⟩ | ⟨_, h⟩
  · exact con_239 l h
  cases h
theorem gr_240 {as : List Value} {M : tm_M} {r : tm_R} (h : F_240 as M = some r) : tm_gr M r.2 := tm_m_gr gg_240 h
theorem ck_240 : tm_cdk (tm_mt 240).1.cls false tm_mt (tm_mt 240) false cd_240 := tm_cdk_of (LK := lk_RX11) (ix := [227, 263, 264]) lc_RX11 (by decide +kernel)
theorem con_240 (l : Launch) {as : List Value} {M : tm_M} {r : tm_R} (h : F_240 as M = some r) : tm_MA tm_sh l (tm_mt 240) as M r := tm_sound (t := tm_mt 240) tm_Sok_ok tm_CL_ok gg_240 (gm_240 l) (fun _ _ => ⟨rfl, rfl⟩) ck_240 (by decide +kernel) (fun h => by cases h) (fun _ _ _ _ => tm_nos_all (by decide +kernel)) h
def cd_241 : List tm_E := [(0, .iconst 0, 1, 0, 0, 0), (1, .istore 5, 2, 0, 0, 0), (3, .iload_n 2, 1, 0, 0, 0), (4, .istore 6, 2, 0, 0, 0), (6, .iload 6, 2, 0, 0, 0), (8, .iload_n 3, 1, 0, 0, 0), (9, .if_icmp .gt 63, 3, 72, 0, 0), (12, .iload 6, 2, 0, 0, 0), (14, .sipush 800, 3, 0, 0, 0), (17, .if_icmp .ge 55, 3, 72, 0, 0), (20, .aload_n 0, 1, 0, 0, 0), (21, .iload 6, 2, 0, 0, 0), (23, .invokevirtual 69, 3, 235, 1, 9), (26, .istore 7, 2, 0, 0, 0), (28, .iload 7, 2, 0, 0, 0), (30, .iload_n 1, 1, 0, 0, 0), (31, .if_icmp .eq 9, 3, 40, 0, 0), (34, .iload 7, 2, 0, 0, 0), (36, .iconst 3, 1, 0, 0, 0), (37, .if_icmp .ne 7, 3, 44, 0, 0), (40, .iconst 1, 1, 0, 0, 0), (41, .goto 4, 3, 45, 0, 0), (44, .iconst 0, 1, 0, 0, 0), (45, .istore 8, 2, 0, 0, 0), (47, .iload 8, 2, 0, 0, 0), (49, .ifCond .ne 14, 3, 63, 0, 0), (52, .iload 4, 2, 0, 0, 0), (54, .ifCond .eq 12, 3, 66, 0, 0), (57, .iload 7, 2, 0, 0, 0), (59, .iconst 4, 1, 0, 0, 0), (60, .if_icmp .ne 6, 3, 66, 0, 0), (63, .iinc 5 1, 3, 0, 0, 0), (66, .iinc 6 1, 3, 0, 0, 0), (69, .goto (-63), 3, 6, 0, 0), (72, .iload 5, 2, 0, 0, 0), (74, .ireturn, 1, 0, 0, 0)]
def cu_241 : List (Nat × List Nat) := [(6, [0, 1, 3, 4, 5, 6]), (26, [0, 1, 3, 4, 5, 6]), (40, [0, 1, 3, 4, 5, 6, 7]), (45, [0, 1, 3, 4, 5, 6, 7]), (63, [0, 1, 3, 4, 5, 6]), (66, [0, 1, 3, 4, 5, 6]), (72, [5])]
noncomputable def G_241 : tm_G := fun id as M => if id = 235 then F_235 as M else none
noncomputable def F_241 : List Value → tm_M → Option tm_R := tm_m tm_sh none G_241 false cd_241 cu_241 37 9
theorem gg_241 : tm_Gg G_241 := by
  intro id as M r h
  unfold G_241 at h
  rcases tm_ite_e h with ⟨_, h⟩ | ⟨_, h⟩
  · exact gr_235 h
  cases h
theorem gm_241 (l : Launch) : ∀ id as M r, G_241 id as M = some r → tm_MA tm_sh l (tm_mt id) as M r := by
  intro id as M r h
  unfold G_241 at h
  rcases tm_ite_e h with ⟨rfl, h⟩ | ⟨_, h⟩
  · exact con_235 l h
  cases h
theorem gr_241 {as : List Value} {M : tm_M} {r : tm_R} (h : F_241 as M = some r) : tm_gr M r.2 := tm_m_gr gg_241 h
theorem ck_241 : tm_cdk (tm_mt 241).1.cls false tm_mt (tm_mt 241) false cd_241 := tm_cdk_of (LK := lk_RX2) (ix := [31]) lc_RX2 (by decide +kernel)
theorem con_241 (l : Launch) {as : List Value} {M : tm_M} {r : tm_R} (h : F_241 as M = some r) : tm_MA tm_sh l (tm_mt 241) as M r := tm_sound (t := tm_mt 241) tm_Sok_ok tm_CL_ok gg_241 (gm_241 l) (fun _ _ => ⟨rfl, rfl⟩) ck_241 (by decide +kernel) (fun h => by cases h) (fun _ _ _ _ => tm_nos_all (by decide +kernel)) h
def cd_242 : List tm_E := [(0, .iload_n 2, 1, 0, 0, 0), (1, .iconst 1, 1, 0, 0, 0), (2, .if_icmp .eq 8, 3, 10, 0, 0), (5, .iload_n 2, 1, 0, 0, 0), (6, .iconst 2, 1, 0, 0, 0), (7, .if_icmp .ne 7, 3, 14, 0, 0), (10, .iconst 1, 1, 0, 0, 0), (11, .goto 4, 3, 15, 0, 0), (14, .iconst 0, 1, 0, 0, 0), (15, .istore 7, 2, 0, 0, 0), (17, .iload_n 1, 1, 0, 0, 0), (18, .invokestatic 208, 3, 114, 1, 1), (21, .ifCond .eq 29, 3, 50, 0, 0), (24, .iload 7, 2, 0, 0, 0), (26, .ifCond .eq 24, 3, 50, 0, 0), (29, .iload_n 3, 1, 0, 0, 0), (30, .invokestatic 228, 3, 232, 1, 1), (33, .ifCond .eq 17, 3, 50, 0, 0), (36, .iload 4, 2, 0, 0, 0), (38, .invokestatic 228, 3, 232, 1, 1), (41, .ifCond .eq 9, 3, 50, 0, 0), (44, .iload_n 3, 1, 0, 0, 0), (45, .iload 4, 2, 0, 0, 0), (47, .if_icmp .le 5, 3, 52, 0, 0), (50, .iconst (-1), 1, 0, 0, 0), (51, .ireturn, 1, 0, 0, 0), (52, .aload_n 0, 1, 0, 0, 0), (53, .getfield 44, 3, 10, 5, 2), (56, .iload_n 1, 1, 0, 0, 0), (57, .iload 6, 2, 0, 0, 0), (59, .invokevirtual 231, 3, 233, 2, 8), (62, .aload_n 0, 1, 0, 0, 0), (63, .getfield 44, 3, 10, 5, 2), (66, .iload_n 2, 1, 0, 0, 0), (67, .iload_n 3, 1, 0, 0, 0), (68, .iload 4, 2, 0, 0, 0), (70, .iload 5, 2, 0, 0, 0), (72, .invokevirtual 237, 3, 241, 4, 9), (75, .ireturn, 1, 0, 0, 0)]
def cu_242 : List (Nat × List Nat) := [(10, [0, 1, 2, 3, 4, 5, 6]), (15, [0, 1, 2, 3, 4, 5, 6]), (21, [0, 1, 2, 3, 4, 5, 6, 7]), (33, [0, 1, 2, 3, 4, 5, 6]), (41, [0, 1, 2, 3, 4, 5, 6]), (50, []), (62, [0, 2, 3, 4, 5]), (75, [])]
noncomputable def G_242 : tm_G := fun id as M => if id = 114 then F_114 as M else if id = 232 then F_232 as M else if id = 233 then F_233 as M else if id = 241 then F_241 as M else none
noncomputable def F_242 : List Value → tm_M → Option tm_R := tm_m tm_sh none G_242 false cd_242 cu_242 40 8
theorem gg_242 : tm_Gg G_242 := by
  intro id as M r h
  unfold G_242 at h
  rcases tm_ite_e h with ⟨_, h⟩ | ⟨_, h⟩
  · exact gr_114 h
  rcases tm_ite_e h with ⟨_, h⟩ | ⟨_, h⟩
  · exact gr_232 h
  rcases tm_ite_e h with ⟨_, h⟩ | ⟨_, h⟩
  · exact gr_233 h
  rcases tm_ite_e h with ⟨_, h⟩ | ⟨_, h⟩
  · exact gr_241 h
  cases h
theorem gm_242 (l : Launch) : ∀ id as M r, G_242 id as M = some r → tm_MA tm_sh l (tm_mt id) as M r := by
  intro id as M r h
  unfold G_242 at h
  rcases tm_ite_e h with ⟨rfl, h⟩ | ⟨_, h⟩
  · exact con_114 l h
  rcases tm_ite_e h with ⟨rfl, h⟩ | ⟨_, h⟩
  · exact con_232 l h
  rcases tm_ite_e h with ⟨rfl, h⟩ | ⟨_, h⟩
  · exact con_233 l h
  rcases tm_ite_e h with ⟨rfl, h⟩ | ⟨_, h⟩
  · exact con_241 l h
  cases h
theorem gr_242 {as : List Value} {M : tm_M} {r : tm_R} (h : F_242 as M = some r) : tm_gr M r.2 := tm_m_gr gg_242 h
theorem ck_242 : tm_cdk (tm_mt 242).1.cls false tm_mt (tm_mt 242) false cd_242 := tm_cdk_of (LK := lk_RX10) (ix := [81, 88, 88, 83, 89, 83, 91]) lc_RX10 (by decide +kernel)
theorem con_242 (l : Launch) {as : List Value} {M : tm_M} {r : tm_R} (h : F_242 as M = some r) : tm_MA tm_sh l (tm_mt 242) as M r := tm_sound (t := tm_mt 242) tm_Sok_ok tm_CL_ok gg_242 (gm_242 l) (fun _ _ => ⟨rfl, rfl⟩) ck_242 (by decide +kernel) (fun h => by cases h) (fun _ _ _ _ => tm_nos_all (by decide +kernel)) h
def cd_243 : List tm_E := [(0, .iload_n 1, 1, 0, 0, 0), (1, .invokestatic 464, 3, 180, 1, 1), (4, .ifCond .eq 34, 3, 38, 0, 0), (7, .iload_n 2, 1, 0, 0, 0), (8, .iconst 1, 1, 0, 0, 0), (9, .if_icmp .lt 29, 3, 38, 0, 0), (12, .iload_n 2, 1, 0, 0, 0), (13, .iconst 2, 1, 0, 0, 0), (14, .if_icmp .gt 24, 3, 38, 0, 0), (17, .iload_n 3, 1, 0, 0, 0), (18, .invokestatic 521, 3, 237, 1, 1), (21, .ifCond .eq 17, 3, 38, 0, 0), (24, .iload 4, 2, 0, 0, 0), (26, .invokestatic 521, 3, 237, 1, 1), (29, .ifCond .eq 9, 3, 38, 0, 0), (32, .iload_n 3, 1, 0, 0, 0), (33, .iload 4, 2, 0, 0, 0), (35, .if_icmp .le 5, 3, 40, 0, 0), (38, .iconst (-1), 1, 0, 0, 0), (39, .ireturn, 1, 0, 0, 0), (40, .iconst 0, 1, 0, 0, 0), (41, .istore 7, 2, 0, 0, 0), (43, .iload_n 3, 1, 0, 0, 0), (44, .istore 8, 2, 0, 0, 0), (46, .iload 8, 2, 0, 0, 0), (48, .iload 4, 2, 0, 0, 0), (50, .if_icmp .gt 53, 3, 103, 0, 0), (53, .aload_n 0, 1, 0, 0, 0), (54, .iload_n 1, 1, 0, 0, 0), (55, .iload 8, 2, 0, 0, 0), (57, .iload 6, 2, 0, 0, 0), (59, .invokevirtual 524, 3, 239, 3, 45), (62, .istore 9, 2, 0, 0, 0), (64, .iload 7, 2, 0, 0, 0), (66, .iload 9, 2, 0, 0, 0), (68, .iload_n 2, 1, 0, 0, 0), (69, .if_icmp .eq 20, 3, 89, 0, 0), (72, .iload 9, 2, 0, 0, 0), (74, .iconst 3, 1, 0, 0, 0), (75, .if_icmp .eq 14, 3, 89, 0, 0), (78, .iload 5, 2, 0, 0, 0), (80, .ifCond .eq 13, 3, 93, 0, 0), (83, .iload 9, 2, 0, 0, 0), (85, .iconst 4, 1, 0, 0, 0), (86, .if_icmp .ne 7, 3, 93, 0, 0), (89, .iconst 1, 1, 0, 0, 0), (90, .goto 4, 3, 94, 0, 0), (93, .iconst 0, 1, 0, 0, 0), (94, .iadd, 1, 0, 0, 0), (95, .istore 7, 2, 0, 0, 0), (97, .iinc 8 1, 3, 0, 0, 0), (100, .goto (-54), 3, 46, 0, 0), (103, .iload 7, 2, 0, 0, 0), (105, .ireturn, 1, 0, 0, 0)]
def cu_243 : List (Nat × List Nat) := [(4, [0, 1, 2, 3, 4, 5, 6]), (21, [0, 1, 2, 3, 4, 5, 6]), (29, [0, 1, 2, 3, 4, 5, 6]), (38, []), (46, [0, 1, 2, 4, 5, 6, 7, 8]), (62, [0, 1, 2, 4, 5, 6, 7, 8]), (89, [0, 1, 2, 4, 5, 6, 8]), (93, [0, 1, 2, 4, 5, 6, 8]), (94, [0, 1, 2, 4, 5, 6, 8])]
noncomputable def G_243 : tm_G := fun id as M => if id = 180 then F_180 as M else if id = 237 then F_237 as M else if id = 239 then F_239 as M else none
noncomputable def F_243 : List Value → tm_M → Option tm_R := tm_m tm_sh none G_243 false cd_243 cu_243 55 10
theorem gg_243 : tm_Gg G_243 := by
  intro id as M r h
  unfold G_243 at h
  rcases tm_ite_e h with ⟨_, h⟩ | ⟨_, h⟩
  · exact gr_180 h
  rcases tm_ite_e h with ⟨_, h⟩ | ⟨_, h⟩
  · exact gr_237 h
  rcases tm_ite_e h with ⟨_, h⟩ | ⟨_, h⟩
  · exact gr_239 h
  cases h
theorem gm_243 (l : Launch) : ∀ id as M r, G_243 id as M = some r → tm_MA tm_sh l (tm_mt id) as M r := by
  intro id as M r h
  unfold G_243 at h
  rcases tm_ite_e h with ⟨rfl, h⟩ | ⟨_, h⟩
  · exact con_180 l h
  rcases tm_ite_e h with ⟨rfl, h⟩ | ⟨_, h⟩
  · exact con_237 l h
  rcases tm_ite_e h with ⟨rfl, h⟩ | ⟨_, h⟩
  · exact con_239 l h
  cases h
theorem gr_243 {as : List Value} {M : tm_M} {r : tm_R} (h : F_243 as M = some r) : tm_gr M r.2 := tm_m_gr gg_243 h
theorem ck_243 : tm_cdk (tm_mt 243).1.cls false tm_mt (tm_mt 243) false cd_243 := tm_cdk_of (LK := lk_RX11) (ix := [227, 263, 263, 264]) lc_RX11 (by decide +kernel)
theorem con_243 (l : Launch) {as : List Value} {M : tm_M} {r : tm_R} (h : F_243 as M = some r) : tm_MA tm_sh l (tm_mt 243) as M r := tm_sound (t := tm_mt 243) tm_Sok_ok tm_CL_ok gg_243 (gm_243 l) (fun _ _ => ⟨rfl, rfl⟩) ck_243 (by decide +kernel) (fun h => by cases h) (fun _ _ _ _ => tm_nos_all (by decide +kernel)) h
def cd_244 : List tm_E := [(0, .iconst 2, 1, 0, 0, 0), (1, .istore 4, 2, 0, 0, 0), (3, .iconst 0, 1, 0, 0, 0), (4, .istore 5, 2, 0, 0, 0), (6, .iload 5, 2, 0, 0, 0), (8, .iconst 4, 1, 0, 0, 0), (9, .aload_n 1, 1, 0, 0, 0), (10, .getfield 72, 3, 8, 4, 0), (13, .imul, 1, 0, 0, 0), (14, .if_icmp .ge 45, 3, 59, 0, 0), (17, .aload_n 0, 1, 0, 0, 0), (18, .iload_n 3, 1, 0, 0, 0), (19, .iload 5, 2, 0, 0, 0), (21, .iadd, 1, 0, 0, 0), (22, .invokevirtual 69, 3, 235, 1, 9), (25, .istore 6, 2, 0, 0, 0), (27, .iload 6, 2, 0, 0, 0), (29, .iconst 4, 1, 0, 0, 0), (30, .if_icmp .ne 9, 3, 39, 0, 0), (33, .iconst 1, 1, 0, 0, 0), (34, .istore 4, 2, 0, 0, 0), (36, .goto 17, 3, 53, 0, 0), (39, .iload 6, 2, 0, 0, 0), (41, .aload_n 1, 1, 0, 0, 0), (42, .iload 5, 2, 0, 0, 0), (44, .iload_n 2, 1, 0, 0, 0), (45, .invokevirtual 77, 3, 88, 2, 33), (48, .if_icmp .eq 5, 3, 53, 0, 0), (51, .iconst 0, 1, 0, 0, 0), (52, .ireturn, 1, 0, 0, 0), (53, .iinc 5 1, 3, 0, 0, 0), (56, .goto (-50), 3, 6, 0, 0), (59, .iload 4, 2, 0, 0, 0), (61, .ireturn, 1, 0, 0, 0)]
def cu_244 : List (Nat × List Nat) := [(6, [0, 1, 2, 3, 4, 5]), (25, [0, 1, 2, 3, 4, 5]), (48, [0, 1, 2, 3, 4, 5]), (53, [0, 1, 2, 3, 4, 5])]
noncomputable def G_244 : tm_G := fun id as M => if id = 235 then F_235 as M else if id = 88 then F_88 as M else none
noncomputable def F_244 : List Value → tm_M → Option tm_R := tm_m tm_sh none G_244 false cd_244 cu_244 35 7
theorem gg_244 : tm_Gg G_244 := by
  intro id as M r h
  unfold G_244 at h
  rcases tm_ite_e h with ⟨_, h⟩ | ⟨_, h⟩
  · exact gr_235 h
  rcases tm_ite_e h with ⟨_, h⟩ | ⟨_, h⟩
  · exact gr_88 h
  cases h
theorem gm_244 (l : Launch) : ∀ id as M r, G_244 id as M = some r → tm_MA tm_sh l (tm_mt id) as M r := by
  intro id as M r h
  unfold G_244 at h
  rcases tm_ite_e h with ⟨rfl, h⟩ | ⟨_, h⟩
  · exact con_235 l h
  rcases tm_ite_e h with ⟨rfl, h⟩ | ⟨_, h⟩
  · exact con_88 l h
  cases h
theorem gr_244 {as : List Value} {M : tm_M} {r : tm_R} (h : F_244 as M = some r) : tm_gr M r.2 := tm_m_gr gg_244 h
theorem ck_244 : tm_cdk (tm_mt 244).1.cls false tm_mt (tm_mt 244) false cd_244 := tm_cdk_of (LK := lk_RX2) (ix := [32, 31, 33]) lc_RX2 (by decide +kernel)
theorem con_244 (l : Launch) {as : List Value} {M : tm_M} {r : tm_R} (h : F_244 as M = some r) : tm_MA tm_sh l (tm_mt 244) as M r := tm_sound (t := tm_mt 244) tm_Sok_ok tm_CL_ok gg_244 (gm_244 l) (fun _ _ => ⟨rfl, rfl⟩) ck_244 (by decide +kernel) (fun h => by cases h) (fun _ _ _ _ => tm_nos_all (by decide +kernel)) h
def cd_245 : List tm_E := [(0, .iload_n 1, 1, 0, 0, 0), (1, .invokestatic 208, 3, 114, 1, 1), (4, .ifCond .eq 21, 3, 25, 0, 0), (7, .iload_n 2, 1, 0, 0, 0), (8, .invokestatic 211, 3, 221, 1, 1), (11, .ifCond .eq 14, 3, 25, 0, 0), (14, .aload_n 0, 1, 0, 0, 0), (15, .getfield 51, 3, 10, 6, 2), (18, .iload_n 3, 1, 0, 0, 0), (19, .invokevirtual 121, 3, 84, 1, 1), (22, .ifCond .ne 5, 3, 27, 0, 0), (25, .iconst (-1), 1, 0, 0, 0), (26, .ireturn, 1, 0, 0, 0), (27, .aload_n 0, 1, 0, 0, 0), (28, .getfield 44, 3, 10, 5, 2), (31, .iload_n 1, 1, 0, 0, 0), (32, .iload 5, 2, 0, 0, 0), (34, .invokevirtual 231, 3, 233, 2, 8), (37, .aload_n 0, 1, 0, 0, 0), (38, .getfield 44, 3, 10, 5, 2), (41, .aload_n 0, 1, 0, 0, 0), (42, .getfield 51, 3, 10, 6, 2), (45, .getfield 125, 3, 0, 0, 2), (48, .iload_n 3, 1, 0, 0, 0), (49, .aaload, 1, 0, 0, 0), (50, .iload 4, 2, 0, 0, 0), (52, .iconst 4, 1, 0, 0, 0), (53, .iload_n 2, 1, 0, 0, 0), (54, .imul, 1, 0, 0, 0), (55, .invokevirtual 241, 3, 244, 3, 9), (58, .ireturn, 1, 0, 0, 0)]
def cu_245 : List (Nat × List Nat) := [(4, [0, 1, 2, 3, 4, 5]), (11, [0, 1, 2, 3, 4, 5]), (22, [0, 1, 2, 3, 4, 5]), (25, []), (37, [0, 2, 3, 4]), (58, [])]
noncomputable def G_245 : tm_G := fun id as M => if id = 114 then F_114 as M else if id = 221 then F_221 as M else if id = 84 then F_84 as M else if id = 233 then F_233 as M else if id = 244 then F_244 as M else none
noncomputable def F_245 : List Value → tm_M → Option tm_R := tm_m tm_sh none G_245 false cd_245 cu_245 32 6
theorem gg_245 : tm_Gg G_245 := by
  intro id as M r h
  unfold G_245 at h
  rcases tm_ite_e h with ⟨_, h⟩ | ⟨_, h⟩
  · exact gr_114 h
  rcases tm_ite_e h with ⟨_, h⟩ | ⟨_, h⟩
  · exact gr_221 h
  rcases tm_ite_e h with ⟨_, h⟩ | ⟨_, h⟩
  · exact gr_84 h
  rcases tm_ite_e h with ⟨_, h⟩ | ⟨_, h⟩
  · exact gr_233 h
  rcases tm_ite_e h with ⟨_, h⟩ | ⟨_, h⟩
  · exact gr_244 h
  cases h
theorem gm_245 (l : Launch) : ∀ id as M r, G_245 id as M = some r → tm_MA tm_sh l (tm_mt id) as M r := by
  intro id as M r h
  unfold G_245 at h
  rcases tm_ite_e h with ⟨rfl, h⟩ | ⟨_, h⟩
  · exact con_114 l h
  rcases tm_ite_e h with ⟨rfl, h⟩ | ⟨_, h⟩
  · exact con_221 l h
  rcases tm_ite_e h with ⟨rfl, h⟩ | ⟨_, h⟩
  · exact con_84 l h
  rcases tm_ite_e h with ⟨rfl, h⟩ | ⟨_, h⟩
  · exact con_233 l h
  rcases tm_ite_e h with ⟨rfl, h⟩ | ⟨_, h⟩
  · exact con_244 l h
  cases h
theorem gr_245 {as : List Value} {M : tm_M} {r : tm_R} (h : F_245 as M = some r) : tm_gr M r.2 := tm_m_gr gg_245 h
theorem ck_245 : tm_cdk (tm_mt 245).1.cls false tm_mt (tm_mt 245) false cd_245 := tm_cdk_of (LK := lk_RX10) (ix := [81, 82, 37, 51, 83, 89, 83, 37, 52, 92]) lc_RX10 (by decide +kernel)
theorem con_245 (l : Launch) {as : List Value} {M : tm_M} {r : tm_R} (h : F_245 as M = some r) : tm_MA tm_sh l (tm_mt 245) as M r := tm_sound (t := tm_mt 245) tm_Sok_ok tm_CL_ok gg_245 (gm_245 l) (fun _ _ => ⟨rfl, rfl⟩) ck_245 (by decide +kernel) (fun h => by cases h) (fun _ _ _ _ => tm_nos_all (by decide +kernel)) h
def cd_246 : List tm_E := [(0, .iload_n 1, 1, 0, 0, 0), (1, .invokestatic 464, 3, 180, 1, 1), (4, .ifCond .eq 22, 3, 26, 0, 0), (7, .iload_n 2, 1, 0, 0, 0), (8, .ifCond .lt 18, 3, 26, 0, 0), (11, .iload_n 2, 1, 0, 0, 0), (12, .sipush 200, 3, 0, 0, 0), (15, .if_icmp .ge 11, 3, 26, 0, 0), (18, .aload_n 0, 1, 0, 0, 0), (19, .iload_n 3, 1, 0, 0, 0), (20, .invokevirtual 349, 3, 93, 1, 45), (23, .ifCond .ne 5, 3, 28, 0, 0), (26, .iconst (-1), 1, 0, 0, 0), (27, .ireturn, 1, 0, 0, 0), (28, .iconst 2, 1, 0, 0, 0), (29, .istore 6, 2, 0, 0, 0), (31, .iconst 0, 1, 0, 0, 0), (32, .istore 7, 2, 0, 0, 0), (34, .iload 7, 2, 0, 0, 0), (36, .iconst 4, 1, 0, 0, 0), (37, .aload_n 0, 1, 0, 0, 0), (38, .iload_n 3, 1, 0, 0, 0), (39, .invokevirtual 342, 3, 94, 1, 45), (42, .imul, 1, 0, 0, 0), (43, .if_icmp .ge 52, 3, 95, 0, 0), (46, .aload_n 0, 1, 0, 0, 0), (47, .iload_n 1, 1, 0, 0, 0), (48, .iconst 4, 1, 0, 0, 0), (49, .iload_n 2, 1, 0, 0, 0), (50, .imul, 1, 0, 0, 0), (51, .iload 7, 2, 0, 0, 0), (53, .iadd, 1, 0, 0, 0), (54, .iload 5, 2, 0, 0, 0), (56, .invokevirtual 524, 3, 239, 3, 45), (59, .istore 8, 2, 0, 0, 0), (61, .iload 8, 2, 0, 0, 0), (63, .iconst 4, 1, 0, 0, 0), (64, .if_icmp .ne 9, 3, 73, 0, 0), (67, .iconst 1, 1, 0, 0, 0), (68, .istore 6, 2, 0, 0, 0), (70, .goto 19, 3, 89, 0, 0), (73, .iload 8, 2, 0, 0, 0), (75, .aload_n 0, 1, 0, 0, 0), (76, .iload_n 3, 1, 0, 0, 0), (77, .iload 4, 2, 0, 0, 0), (79, .iload 7, 2, 0, 0, 0), (81, .invokevirtual 345, 3, 98, 3, 45), (84, .if_icmp .eq 5, 3, 89, 0, 0), (87, .iconst 0, 1, 0, 0, 0), (88, .ireturn, 1, 0, 0, 0), (89, .iinc 7 1, 3, 0, 0, 0), (92, .goto (-58), 3, 34, 0, 0), (95, .iload 6, 2, 0, 0, 0), (97, .ireturn, 1, 0, 0, 0)]
def cu_246 : List (Nat × List Nat) := [(4, [0, 1, 2, 3, 4, 5]), (23, [0, 1, 2, 3, 4, 5]), (26, []), (34, [0, 1, 2, 3, 4, 5, 6, 7]), (42, [0, 1, 2, 3, 4, 5, 6, 7]), (59, [0, 1, 2, 3, 4, 5, 6, 7]), (84, [0, 1, 2, 3, 4, 5, 6, 7]), (89, [0, 1, 2, 3, 4, 5, 6, 7])]
noncomputable def G_246 : tm_G := fun id as M => if id = 180 then F_180 as M else if id = 93 then F_93 as M else if id = 94 then F_94 as M else if id = 239 then F_239 as M else if id = 98 then F_98 as M else none
noncomputable def F_246 : List Value → tm_M → Option tm_R := tm_m tm_sh none G_246 false cd_246 cu_246 55 9
theorem gg_246 : tm_Gg G_246 := by
  intro id as M r h
  unfold G_246 at h
  rcases tm_ite_e h with ⟨_, h⟩ | ⟨_, h⟩
  · exact gr_180 h
  rcases tm_ite_e h with ⟨_, h⟩ | ⟨_, h⟩
  · exact gr_93 h
  rcases tm_ite_e h with ⟨_, h⟩ | ⟨_, h⟩
  · exact gr_94 h
  rcases tm_ite_e h with ⟨_, h⟩ | ⟨_, h⟩
  · exact gr_239 h
  rcases tm_ite_e h with ⟨_, h⟩ | ⟨_, h⟩
  · exact gr_98 h
  cases h
theorem gm_246 (l : Launch) : ∀ id as M r, G_246 id as M = some r → tm_MA tm_sh l (tm_mt id) as M r := by
  intro id as M r h
  unfold G_246 at h
  rcases tm_ite_e h with ⟨rfl, h⟩ | ⟨_, h⟩
  · exact con_180 l h
  rcases tm_ite_e h with ⟨rfl, h⟩ | ⟨_, h⟩
  · exact con_93 l h
  rcases tm_ite_e h with ⟨rfl, h⟩ | ⟨_, h⟩
  · exact con_94 l h
  rcases tm_ite_e h with ⟨rfl, h⟩ | ⟨_, h⟩
  · exact con_239 l h
  rcases tm_ite_e h with ⟨rfl, h⟩ | ⟨_, h⟩
  · exact con_98 l h
  cases h
theorem gr_246 {as : List Value} {M : tm_M} {r : tm_R} (h : F_246 as M = some r) : tm_gr M r.2 := tm_m_gr gg_246 h
theorem ck_246 : tm_cdk (tm_mt 246).1.cls false tm_mt (tm_mt 246) false cd_246 := tm_cdk_of (LK := lk_RX11) (ix := [227, 156, 154, 264, 155]) lc_RX11 (by decide +kernel)
theorem con_246 (l : Launch) {as : List Value} {M : tm_M} {r : tm_R} (h : F_246 as M = some r) : tm_MA tm_sh l (tm_mt 246) as M r := tm_sound (t := tm_mt 246) tm_Sok_ok tm_CL_ok gg_246 (gm_246 l) (fun _ _ => ⟨rfl, rfl⟩) ck_246 (by decide +kernel) (fun h => by cases h) (fun _ _ _ _ => tm_nos_all (by decide +kernel)) h
def cd_247 : List tm_E := [(0, .iconst 0, 1, 0, 0, 0), (1, .istore_n 3, 1, 0, 0, 0), (2, .iload_n 3, 1, 0, 0, 0), (3, .iconst 4, 1, 0, 0, 0), (4, .aload_n 1, 1, 0, 0, 0), (5, .getfield 81, 3, 4, 6, 0), (8, .imul, 1, 0, 0, 0), (9, .if_icmp .ge 55, 3, 64, 0, 0), (12, .aload_n 1, 1, 0, 0, 0), (13, .iload_n 3, 1, 0, 0, 0), (14, .iconst 4, 1, 0, 0, 0), (15, .idiv, 1, 0, 0, 0), (16, .invokevirtual 84, 3, 174, 1, 17), (19, .iload_n 3, 1, 0, 0, 0), (20, .iconst 4, 1, 0, 0, 0), (21, .irem, 1, 0, 0, 0), (22, .invokestatic 87, 3, 102, 2, 1), (25, .ifCond .ne 6, 3, 31, 0, 0), (28, .goto 30, 3, 58, 0, 0), (31, .aload_n 0, 1, 0, 0, 0), (32, .iload_n 3, 1, 0, 0, 0), (33, .invokevirtual 69, 3, 235, 1, 9), (36, .istore 4, 2, 0, 0, 0), (38, .iload 4, 2, 0, 0, 0), (40, .iconst 4, 1, 0, 0, 0), (41, .if_icmp .ne 10, 3, 51, 0, 0), (44, .iload_n 2, 1, 0, 0, 0), (45, .ifCond .ne 13, 3, 58, 0, 0), (48, .goto 8, 3, 56, 0, 0), (51, .iload 4, 2, 0, 0, 0), (53, .ifCond .eq 5, 3, 58, 0, 0), (56, .iload_n 3, 1, 0, 0, 0), (57, .ireturn, 1, 0, 0, 0), (58, .iinc 3 1, 3, 0, 0, 0), (61, .goto (-59), 3, 2, 0, 0), (64, .iconst (-1), 1, 0, 0, 0), (65, .ireturn, 1, 0, 0, 0)]
def cu_247 : List (Nat × List Nat) := [(2, [0, 1, 2, 3]), (19, [0, 1, 2, 3]), (25, [0, 1, 2, 3]), (36, [0, 1, 2, 3]), (56, [3]), (58, [0, 1, 2, 3])]
noncomputable def G_247 : tm_G := fun id as M => if id = 174 then F_174 as M else if id = 102 then F_102 as M else if id = 235 then F_235 as M else none
noncomputable def F_247 : List Value → tm_M → Option tm_R := tm_m tm_sh none G_247 false cd_247 cu_247 38 5
theorem gg_247 : tm_Gg G_247 := by
  intro id as M r h
  unfold G_247 at h
  rcases tm_ite_e h with ⟨_, h⟩ | ⟨_, h⟩
  · exact gr_174 h
  rcases tm_ite_e h with ⟨_, h⟩ | ⟨_, h⟩
  · exact gr_102 h
  rcases tm_ite_e h with ⟨_, h⟩ | ⟨_, h⟩
  · exact gr_235 h
  cases h
theorem gm_247 (l : Launch) : ∀ id as M r, G_247 id as M = some r → tm_MA tm_sh l (tm_mt id) as M r := by
  intro id as M r h
  unfold G_247 at h
  rcases tm_ite_e h with ⟨rfl, h⟩ | ⟨_, h⟩
  · exact con_174 l h
  rcases tm_ite_e h with ⟨rfl, h⟩ | ⟨_, h⟩
  · exact con_102 l h
  rcases tm_ite_e h with ⟨rfl, h⟩ | ⟨_, h⟩
  · exact con_235 l h
  cases h
theorem gr_247 {as : List Value} {M : tm_M} {r : tm_R} (h : F_247 as M = some r) : tm_gr M r.2 := tm_m_gr gg_247 h
theorem ck_247 : tm_cdk (tm_mt 247).1.cls false tm_mt (tm_mt 247) false cd_247 := tm_cdk_of (LK := lk_RX2) (ix := [34, 35, 36, 31]) lc_RX2 (by decide +kernel)
theorem con_247 (l : Launch) {as : List Value} {M : tm_M} {r : tm_R} (h : F_247 as M = some r) : tm_MA tm_sh l (tm_mt 247) as M r := tm_sound (t := tm_mt 247) tm_Sok_ok tm_CL_ok gg_247 (gm_247 l) (fun _ _ => ⟨rfl, rfl⟩) ck_247 (by decide +kernel) (fun h => by cases h) (fun _ _ _ _ => tm_nos_all (by decide +kernel)) h
def cd_248 : List tm_E := [(0, .iload_n 1, 1, 0, 0, 0), (1, .invokestatic 208, 3, 114, 1, 1), (4, .ifCond .eq 16, 3, 20, 0, 0), (7, .aload_n 0, 1, 0, 0, 0), (8, .getfield 23, 3, 10, 2, 2), (11, .getfield 101, 3, 9, 0, 2), (14, .getfield 149, 3, 4, 5, 0), (17, .ifCond .ne 5, 3, 22, 0, 0), (20, .iconst (-1), 1, 0, 0, 0), (21, .ireturn, 1, 0, 0, 0), (22, .aload_n 0, 1, 0, 0, 0), (23, .getfield 44, 3, 10, 5, 2), (26, .iload_n 1, 1, 0, 0, 0), (27, .iload_n 3, 1, 0, 0, 0), (28, .invokevirtual 231, 3, 233, 2, 8), (31, .aload_n 0, 1, 0, 0, 0), (32, .getfield 44, 3, 10, 5, 2), (35, .aload_n 0, 1, 0, 0, 0), (36, .getfield 23, 3, 10, 2, 2), (39, .getfield 101, 3, 9, 0, 2), (42, .iload_n 2, 1, 0, 0, 0), (43, .invokevirtual 245, 3, 247, 2, 9), (46, .ireturn, 1, 0, 0, 0)]
def cu_248 : List (Nat × List Nat) := [(4, [0, 1, 2, 3]), (20, []), (31, [0, 2]), (46, [])]
noncomputable def G_248 : tm_G := fun id as M => if id = 114 then F_114 as M else if id = 233 then F_233 as M else if id = 247 then F_247 as M else none
noncomputable def F_248 : List Value → tm_M → Option tm_R := tm_m tm_sh none G_248 false cd_248 cu_248 24 4
theorem gg_248 : tm_Gg G_248 := by
  intro id as M r h
  unfold G_248 at h
  rcases tm_ite_e h with ⟨_, h⟩ | ⟨_, h⟩
  · exact gr_114 h
  rcases tm_ite_e h with ⟨_, h⟩ | ⟨_, h⟩
  · exact gr_233 h
  rcases tm_ite_e h with ⟨_, h⟩ | ⟨_, h⟩
  · exact gr_247 h
  cases h
theorem gm_248 (l : Launch) : ∀ id as M r, G_248 id as M = some r → tm_MA tm_sh l (tm_mt id) as M r := by
  intro id as M r h
  unfold G_248 at h
  rcases tm_ite_e h with ⟨rfl, h⟩ | ⟨_, h⟩
  · exact con_114 l h
  rcases tm_ite_e h with ⟨rfl, h⟩ | ⟨_, h⟩
  · exact con_233 l h
  rcases tm_ite_e h with ⟨rfl, h⟩ | ⟨_, h⟩
  · exact con_247 l h
  cases h
theorem gr_248 {as : List Value} {M : tm_M} {r : tm_R} (h : F_248 as M = some r) : tm_gr M r.2 := tm_m_gr gg_248 h
theorem ck_248 : tm_cdk (tm_mt 248).1.cls false tm_mt (tm_mt 248) false cd_248 := tm_cdk_of (LK := lk_RX10) (ix := [81, 41, 42, 62, 83, 89, 83, 41, 42, 93]) lc_RX10 (by decide +kernel)
theorem con_248 (l : Launch) {as : List Value} {M : tm_M} {r : tm_R} (h : F_248 as M = some r) : tm_MA tm_sh l (tm_mt 248) as M r := tm_sound (t := tm_mt 248) tm_Sok_ok tm_CL_ok gg_248 (gm_248 l) (fun _ _ => ⟨rfl, rfl⟩) ck_248 (by decide +kernel) (fun h => by cases h) (fun _ _ _ _ => tm_nos_all (by decide +kernel)) h
def cd_249 : List tm_E := [(0, .iload_n 1, 1, 0, 0, 0), (1, .invokestatic 464, 3, 180, 1, 1), (4, .ifCond .eq 10, 3, 14, 0, 0), (7, .aload_n 0, 1, 0, 0, 0), (8, .getfield 311, 3, 11, 33, 0), (11, .ifCond .ne 5, 3, 16, 0, 0), (14, .iconst (-1), 1, 0, 0, 0), (15, .ireturn, 1, 0, 0, 0), (16, .iconst 0, 1, 0, 0, 0), (17, .istore 4, 2, 0, 0, 0), (19, .iload 4, 2, 0, 0, 0), (21, .iconst 4, 1, 0, 0, 0), (22, .aload_n 0, 1, 0, 0, 0), (23, .getfield 422, 3, 11, 64, 0), (26, .imul, 1, 0, 0, 0), (27, .if_icmp .ge 56, 3, 83, 0, 0), (30, .aload_n 0, 1, 0, 0, 0), (31, .iload_n 1, 1, 0, 0, 0), (32, .iload 4, 2, 0, 0, 0), (34, .iload_n 3, 1, 0, 0, 0), (35, .invokevirtual 524, 3, 239, 3, 45), (38, .istore 5, 2, 0, 0, 0), (40, .aload_n 0, 1, 0, 0, 0), (41, .getfield 104, 3, 11, 44, 2), (44, .iload 4, 2, 0, 0, 0), (46, .iconst 4, 1, 0, 0, 0), (47, .idiv, 1, 0, 0, 0), (48, .iaload, 1, 0, 0, 0), (49, .iload 4, 2, 0, 0, 0), (51, .iconst 4, 1, 0, 0, 0), (52, .irem, 1, 0, 0, 0), (53, .invokestatic 365, 3, 105, 2, 1), (56, .ifCond .eq 21, 3, 77, 0, 0), (59, .iload 5, 2, 0, 0, 0), (61, .ifCond .eq 16, 3, 77, 0, 0), (64, .iload 5, 2, 0, 0, 0), (66, .iconst 4, 1, 0, 0, 0), (67, .if_icmp .ne 7, 3, 74, 0, 0), (70, .iload_n 2, 1, 0, 0, 0), (71, .ifCond .ne 6, 3, 77, 0, 0), (74, .iload 4, 2, 0, 0, 0), (76, .ireturn, 1, 0, 0, 0), (77, .iinc 4 1, 3, 0, 0, 0), (80, .goto (-61), 3, 19, 0, 0), (83, .iconst (-1), 1, 0, 0, 0), (84, .ireturn, 1, 0, 0, 0)]
def cu_249 : List (Nat × List Nat) := [(4, [0, 1, 2, 3]), (14, []), (19, [0, 1, 2, 3, 4]), (38, [0, 1, 2, 3, 4]), (56, [0, 1, 2, 3, 4, 5]), (74, [4]), (77, [0, 1, 2, 3, 4])]
noncomputable def G_249 : tm_G := fun id as M => if id = 180 then F_180 as M else if id = 239 then F_239 as M else if id = 105 then F_105 as M else none
noncomputable def F_249 : List Value → tm_M → Option tm_R := tm_m tm_sh none G_249 false cd_249 cu_249 47 6
theorem gg_249 : tm_Gg G_249 := by
  intro id as M r h
  unfold G_249 at h
  rcases tm_ite_e h with ⟨_, h⟩ | ⟨_, h⟩
  · exact gr_180 h
  rcases tm_ite_e h with ⟨_, h⟩ | ⟨_, h⟩
  · exact gr_239 h
  rcases tm_ite_e h with ⟨_, h⟩ | ⟨_, h⟩
  · exact gr_105 h
  cases h
theorem gm_249 (l : Launch) : ∀ id as M r, G_249 id as M = some r → tm_MA tm_sh l (tm_mt id) as M r := by
  intro id as M r h
  unfold G_249 at h
  rcases tm_ite_e h with ⟨rfl, h⟩ | ⟨_, h⟩
  · exact con_180 l h
  rcases tm_ite_e h with ⟨rfl, h⟩ | ⟨_, h⟩
  · exact con_239 l h
  rcases tm_ite_e h with ⟨rfl, h⟩ | ⟨_, h⟩
  · exact con_105 l h
  cases h
theorem gr_249 {as : List Value} {M : tm_M} {r : tm_R} (h : F_249 as M = some r) : tm_gr M r.2 := tm_m_gr gg_249 h
theorem ck_249 : tm_cdk (tm_mt 249).1.cls false tm_mt (tm_mt 249) false cd_249 := tm_cdk_of (LK := lk_RX11) (ix := [227, 225, 218, 264, 188, 161]) lc_RX11 (by decide +kernel)
theorem con_249 (l : Launch) {as : List Value} {M : tm_M} {r : tm_R} (h : F_249 as M = some r) : tm_MA tm_sh l (tm_mt 249) as M r := tm_sound (t := tm_mt 249) tm_Sok_ok tm_CL_ok gg_249 (gm_249 l) (fun _ _ => ⟨rfl, rfl⟩) ck_249 (by decide +kernel) (fun h => by cases h) (fun _ _ _ _ => tm_nos_all (by decide +kernel)) h
def cd_250 : List tm_E := [(0, .iload_n 1, 1, 0, 0, 0), (1, .tableswitch 113 0 7 #[47, 55, 74, 82, 90, 98, 103, 108], 47, 0, 0, 0), (48, .aload_n 0, 1, 0, 0, 0), (49, .getfield 51, 3, 10, 6, 2), (52, .getfield 108, 3, 0, 1, 0), (55, .ireturn, 1, 0, 0, 0), (56, .aload_n 0, 1, 0, 0, 0), (57, .getfield 97, 3, 10, 10, 0), (60, .ifCond .eq 13, 3, 73, 0, 0), (63, .aload_n 0, 1, 0, 0, 0), (64, .getfield 61, 3, 10, 8, 2), (67, .getfield 114, 3, 7, 6, 0), (70, .goto 4, 3, 74, 0, 0), (73, .iconst 0, 1, 0, 0, 0), (74, .ireturn, 1, 0, 0, 0), (75, .aload_n 0, 1, 0, 0, 0), (76, .getfield 44, 3, 10, 5, 2), (79, .getfield 249, 3, 2, 7, 0), (82, .ireturn, 1, 0, 0, 0), (83, .aload_n 0, 1, 0, 0, 0), (84, .getfield 44, 3, 10, 5, 2), (87, .getfield 250, 3, 2, 8, 0), (90, .ireturn, 1, 0, 0, 0), (91, .aload_n 0, 1, 0, 0, 0), (92, .getfield 37, 3, 10, 4, 2), (95, .getfield 198, 3, 6, 1, 0), (98, .ireturn, 1, 0, 0, 0), (99, .aload_n 0, 1, 0, 0, 0), (100, .getfield 75, 3, 10, 11, 0), (103, .ireturn, 1, 0, 0, 0), (104, .aload_n 0, 1, 0, 0, 0), (105, .getfield 68, 3, 10, 12, 0), (108, .ireturn, 1, 0, 0, 0), (109, .aload_n 0, 1, 0, 0, 0), (110, .getfield 72, 3, 10, 13, 0), (113, .ireturn, 1, 0, 0, 0), (114, .iconst (-1), 1, 0, 0, 0), (115, .ireturn, 1, 0, 0, 0)]
def cu_250 : List (Nat × List Nat) := [(74, [])]
def G_250 : tm_G := fun _ _ _ => none
noncomputable def F_250 : List Value → tm_M → Option tm_R := tm_m tm_sh none G_250 false cd_250 cu_250 39 2
theorem gg_250 : tm_Gg G_250 := fun _ _ _ _ h => by cases h
theorem gm_250 (l : Launch) : ∀ id as M r, G_250 id as M = some r → tm_MA tm_sh l (tm_mt id) as M r := fun _ _ _ _ h => by cases h
theorem gr_250 {as : List Value} {M : tm_M} {r : tm_R} (h : F_250 as M = some r) : tm_gr M r.2 := tm_m_gr gg_250 h
theorem ck_250 : tm_cdk (tm_mt 250).1.cls false tm_mt (tm_mt 250) false cd_250 := tm_cdk_of (LK := lk_RX10) (ix := [37, 44, 55, 47, 48, 83, 94, 83, 95, 75, 78, 29, 57, 60]) lc_RX10 (by decide +kernel)
theorem con_250 (l : Launch) {as : List Value} {M : tm_M} {r : tm_R} (h : F_250 as M = some r) : tm_MA tm_sh l (tm_mt 250) as M r := tm_sound (t := tm_mt 250) tm_Sok_ok tm_CL_ok gg_250 (gm_250 l) (fun _ _ => ⟨rfl, rfl⟩) ck_250 (by decide +kernel) (fun h => by cases h) (fun _ _ _ _ => tm_nos_all (by decide +kernel)) h
def cd_251 : List tm_E := [(0, .iload_n 1, 1, 0, 0, 0), (1, .tableswitch 108 0 7 #[47, 57, 78, 83, 88, 93, 98, 103], 47, 0, 0, 0), (48, .aload_n 0, 1, 0, 0, 0), (49, .getfield 24, 3, 11, 12, 2), (52, .aload_n 0, 1, 0, 0, 0), (53, .getfield 295, 3, 11, 21, 0), (56, .iaload, 1, 0, 0, 0), (57, .ireturn, 1, 0, 0, 0), (58, .aload_n 0, 1, 0, 0, 0), (59, .getfield 308, 3, 11, 32, 0), (62, .ifCond .eq 15, 3, 77, 0, 0), (65, .aload_n 0, 1, 0, 0, 0), (66, .getfield 53, 3, 11, 23, 2), (69, .aload_n 0, 1, 0, 0, 0), (70, .getfield 372, 3, 11, 30, 0), (73, .iaload, 1, 0, 0, 0), (74, .goto 4, 3, 78, 0, 0), (77, .iconst 0, 1, 0, 0, 0), (78, .ireturn, 1, 0, 0, 0), (79, .aload_n 0, 1, 0, 0, 0), (80, .getfield 510, 3, 11, 84, 0), (83, .ireturn, 1, 0, 0, 0), (84, .aload_n 0, 1, 0, 0, 0), (85, .getfield 513, 3, 11, 85, 0), (88, .ireturn, 1, 0, 0, 0), (89, .aload_n 0, 1, 0, 0, 0), (90, .getfield 498, 3, 11, 74, 0), (93, .ireturn, 1, 0, 0, 0), (94, .aload_n 0, 1, 0, 0, 0), (95, .getfield 289, 3, 11, 2, 0), (98, .ireturn, 1, 0, 0, 0), (99, .aload_n 0, 1, 0, 0, 0), (100, .getfield 74, 3, 11, 34, 0), (103, .ireturn, 1, 0, 0, 0), (104, .aload_n 0, 1, 0, 0, 0), (105, .getfield 77, 3, 11, 35, 0), (108, .ireturn, 1, 0, 0, 0), (109, .iconst (-1), 1, 0, 0, 0), (110, .ireturn, 1, 0, 0, 0)]
def cu_251 : List (Nat × List Nat) := [(78, [])]
def G_251 : tm_G := fun _ _ _ => none
noncomputable def F_251 : List Value → tm_M → Option tm_R := tm_m tm_sh none G_251 false cd_251 cu_251 40 2
theorem gg_251 : tm_Gg G_251 := fun _ _ _ _ h => by cases h
theorem gm_251 (l : Launch) : ∀ id as M r, G_251 id as M = some r → tm_MA tm_sh l (tm_mt id) as M r := fun _ _ _ _ h => by cases h
theorem gr_251 {as : List Value} {M : tm_M} {r : tm_R} (h : F_251 as M = some r) : tm_gr M r.2 := tm_m_gr gg_251 h
theorem ck_251 : tm_cdk (tm_mt 251).1.cls false tm_mt (tm_mt 251) false cd_251 := tm_cdk_of (LK := lk_RX11) (ix := [110, 133, 213, 140, 148, 250, 257, 246, 63, 193, 224]) lc_RX11 (by decide +kernel)
theorem con_251 (l : Launch) {as : List Value} {M : tm_M} {r : tm_R} (h : F_251 as M = some r) : tm_MA tm_sh l (tm_mt 251) as M r := tm_sound (t := tm_mt 251) tm_Sok_ok tm_CL_ok gg_251 (gm_251 l) (fun _ _ => ⟨rfl, rfl⟩) ck_251 (by decide +kernel) (fun h => by cases h) (fun _ _ _ _ => tm_nos_all (by decide +kernel)) h
