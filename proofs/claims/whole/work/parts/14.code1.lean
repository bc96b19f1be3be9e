/-! codes, functions and contracts of methods -/
def cd_1 : List tm_E := [(0, .lload_n 0, 1, 0, 0, 0), (1, .ldc2_w 42, 3, 32, 0, 0), (4, .lmul, 1, 0, 0, 0), (5, .iload_n 2, 1, 0, 0, 0), (6, .bipush 97, 2, 0, 0, 0), (8, .isub, 1, 0, 0, 0), (9, .iconst 1, 1, 0, 0, 0), (10, .iadd, 1, 0, 0, 0), (11, .i2l, 1, 0, 0, 0), (12, .ladd, 1, 0, 0, 0), (13, .lreturn, 1, 0, 0, 0)]
def cu_1 : List (Nat × List Nat) := []
def G_1 : tm_G := fun _ _ _ => none
noncomputable def F_1 : List Value → tm_M → Option tm_R := tm_m tm_sh none G_1 false cd_1 cu_1 12 3
theorem gg_1 : tm_Gg G_1 := fun _ _ _ _ h => by cases h
theorem gm_1 (l : Launch) : ∀ id as M r, G_1 id as M = some r → tm_MA tm_sh l (tm_mt id) as M r := fun _ _ _ _ h => by cases h
theorem gr_1 {as : List Value} {M : tm_M} {r : tm_R} (h : F_1 as M = some r) : tm_gr M r.2 := tm_m_gr gg_1 h
theorem ck_1 : tm_cdk (tm_mt 1).1.cls false tm_mt (tm_mt 1) false cd_1 := tm_cdk_of (LK := lk_RX5) (ix := [0]) lc_RX5 (by decide +kernel)
theorem con_1 (l : Launch) {as : List Value} {M : tm_M} {r : tm_R} (h : F_1 as M = some r) : tm_MA tm_sh l (tm_mt 1) as M r := tm_sound (t := tm_mt 1) tm_Sok_ok tm_CL_ok gg_1 (gm_1 l) (fun _ _ => ⟨rfl, rfl⟩) ck_1 (by decide +kernel) (fun h => by cases h) (fun _ _ _ _ => tm_nos_all (by decide +kernel)) h
def cd_2 : List tm_E := [(0, .aload_n 0, 1, 0, 0, 0), (1, .invokespecial 3, 3, 9000, 0, 20), (4, .aload_n 0, 1, 0, 0, 0), (5, .iconst 0, 1, 0, 0, 0), (6, .newarray .byte, 2, 2, 0, 0), (8, .putfield 9, 3, 5, 0, 2), (11, .aload_n 0, 1, 0, 0, 0), (12, .bipush 23, 2, 0, 0, 0), (14, .newarray .long, 2, 4, 0, 0), (16, .putfield 15, 3, 5, 1, 2), (19, .aload_n 0, 1, 0, 0, 0), (20, .iconst (-1), 1, 0, 0, 0), (21, .putfield 19, 3, 5, 5, 0), (24, .aload_n 0, 1, 0, 0, 0), (25, .bipush 35, 2, 0, 0, 0), (27, .putfield 23, 3, 5, 7, 0), (30, .iconst 0, 1, 0, 0, 0), (31, .istore_n 1, 1, 0, 0, 0), (32, .lconst 0, 1, 0, 0, 0), (33, .lstore_n 2, 1, 0, 0, 0), (34, .iconst 0, 1, 0, 0, 0), (35, .istore 4, 2, 0, 0, 0), (37, .iload 4, 2, 0, 0, 0), (39, .ldc 26, 2, 0, 0, 1), (41, .invokevirtual 28, 3, 9001, 0, 0), (44, .if_icmp .ge 53, 3, 97, 0, 0), (47, .ldc 26, 2, 0, 0, 1), (49, .iload 4, 2, 0, 0, 0), (51, .invokevirtual 34, 3, 9002, 1, 0), (54, .istore 5, 2, 0, 0, 0), (56, .iload 5, 2, 0, 0, 0), (58, .bipush 32, 2, 0, 0, 0), (60, .if_icmp .eq 13, 3, 73, 0, 0), (63, .lload_n 2, 1, 0, 0, 0), (64, .iload 5, 2, 0, 0, 0), (66, .invokestatic 38, 3, 1, 2, 2), (69, .lstore_n 2, 1, 0, 0, 0), (70, .goto 21, 3, 91, 0, 0), (73, .iload_n 1, 1, 0, 0, 0), (74, .bipush 23, 2, 0, 0, 0), (76, .if_icmp .ge 15, 3, 91, 0, 0), (79, .aload_n 0, 1, 0, 0, 0), (80, .getfield 15, 3, 5, 1, 2), (83, .iload_n 1, 1, 0, 0, 0), (84, .lload_n 2, 1, 0, 0, 0), (85, .lastore, 1, 0, 0, 0), (86, .iinc 1 1, 3, 0, 0, 0), (89, .lconst 0, 1, 0, 0, 0), (90, .lstore_n 2, 1, 0, 0, 0), (91, .iinc 4 1, 3, 0, 0, 0), (94, .goto (-57), 3, 37, 0, 0), (97, .return_, 1, 0, 0, 0)]
def cu_2 : List (Nat × List Nat) := [(37, [0, 1, 2, 4]), (69, [0, 1, 4]), (91, [0, 1, 2, 4])]
noncomputable def G_2 : tm_G := fun id as M => if id = 1 then F_1 as M else none
noncomputable def F_2 : List Value → tm_M → Option tm_R := tm_m tm_sh none G_2 false cd_2 cu_2 53 6
theorem gg_2 : tm_Gg G_2 := by
  intro id as M r h
  unfold G_2 at h
  rcases tm_ite_e h with ⟨_, h⟩ | ⟨_, h⟩
  · exact gr_1 h
  cases h
theorem gm_2 (l : Launch) : ∀ id as M r, G_2 id as M = some r → tm_MA tm_sh l (tm_mt id) as M r := by
  intro id as M r h
  unfold G_2 at h
  rcases tm_ite_e h with ⟨rfl, h⟩ | ⟨_, h⟩
  · exact con_1 l h
  cases h
theorem gr_2 {as : List Value} {M : tm_M} {r : tm_R} (h : F_2 as M = some r) : tm_gr M r.2 := tm_m_gr gg_2 h
theorem ck_2 : tm_cdk (tm_mt 2).1.cls true tm_mt (tm_mt 2) false cd_2 := tm_cdk_of (LK := lk_RX5) (ix := [1, 2, 3, 4, 5, 6, 7, 8, 9, 8, 10, 11, 12]) lc_RX5 (by decide +kernel)
theorem con_2 (l : Launch) {as : List Value} {M : tm_M} {r : tm_R} (h : F_2 as M = some r) : tm_MA tm_sh l (tm_mt 2) as M r := tm_sound (t := tm_mt 2) tm_Sok_ok tm_CL_ok gg_2 (gm_2 l) (fun _ _ => ⟨rfl, rfl⟩) ck_2 (by decide +kernel) (fun _ => rfl) (fun _ _ _ _ => tm_StrM_ok rfl (Nat.le_of_ble_eq_true rfl) (Nat.le_of_ble_eq_true rfl) (by decide +kernel)) h
def cd_3 : List tm_E := [(0, .aload_n 0, 1, 0, 0, 0), (1, .invokespecial 3, 3, 9000, 0, 16), (4, .aload_n 0, 1, 0, 0, 0), (5, .sipush 600, 3, 0, 0, 0), (8, .newarray .int, 2, 1, 0, 0), (10, .putfield 11, 3, 4, 0, 2), (13, .aload_n 0, 1, 0, 0, 0), (14, .sipush 500, 3, 0, 0, 0), (17, .newarray .int, 2, 1, 0, 0), (19, .putfield 15, 3, 4, 1, 2), (22, .aload_n 0, 1, 0, 0, 0), (23, .sipush 200, 3, 0, 0, 0), (26, .newarray .int, 2, 1, 0, 0), (28, .putfield 18, 3, 4, 2, 2), (31, .aload_n 0, 1, 0, 0, 0), (32, .sipush 1200, 3, 0, 0, 0), (35, .newarray .int, 2, 1, 0, 0), (37, .putfield 21, 3, 4, 3, 2), (40, .aload_n 0, 1, 0, 0, 0), (41, .bipush 12, 2, 0, 0, 0), (43, .newarray .int, 2, 1, 0, 0), (45, .putfield 26, 3, 4, 4, 2), (48, .return_, 1, 0, 0, 0)]
def cu_3 : List (Nat × List Nat) := []
def G_3 : tm_G := fun _ _ _ => none
noncomputable def F_3 : List Value → tm_M → Option tm_R := tm_m tm_sh none G_3 false cd_3 cu_3 24 1
theorem gg_3 : tm_Gg G_3 := fun _ _ _ _ h => by cases h
theorem gm_3 (l : Launch) : ∀ id as M r, G_3 id as M = some r → tm_MA tm_sh l (tm_mt id) as M r := fun _ _ _ _ h => by cases h
theorem gr_3 {as : List Value} {M : tm_M} {r : tm_R} (h : F_3 as M = some r) : tm_gr M r.2 := tm_m_gr gg_3 h
theorem ck_3 : tm_cdk (tm_mt 3).1.cls true tm_mt (tm_mt 3) false cd_3 := tm_cdk_of (LK := lk_RX4) (ix := [0, 1, 2, 1, 3, 1, 4, 1, 5, 1, 6]) lc_RX4 (by decide +kernel)
theorem con_3 (l : Launch) {as : List Value} {M : tm_M} {r : tm_R} (h : F_3 as M = some r) : tm_MA tm_sh l (tm_mt 3) as M r := tm_sound (t := tm_mt 3) tm_Sok_ok tm_CL_ok gg_3 (gm_3 l) (fun _ _ => ⟨rfl, rfl⟩) ck_3 (by decide +kernel) (fun _ => rfl) (fun _ _ _ _ => tm_nos_all (by decide +kernel)) h
def cd_4 : List tm_E := [(0, .aload_n 0, 1, 0, 0, 0), (1, .invokespecial 3, 3, 9000, 0, 12), (4, .return_, 1, 0, 0, 0)]
def cu_4 : List (Nat × List Nat) := []
def G_4 : tm_G := fun _ _ _ => none
noncomputable def F_4 : List Value → tm_M → Option tm_R := tm_m tm_sh none G_4 false cd_4 cu_4 4 1
theorem gg_4 : tm_Gg G_4 := fun _ _ _ _ h => by cases h
theorem gm_4 (l : Launch) : ∀ id as M r, G_4 id as M = some r → tm_MA tm_sh l (tm_mt id) as M r := fun _ _ _ _ h => by cases h
theorem gr_4 {as : List Value} {M : tm_M} {r : tm_R} (h : F_4 as M = some r) : tm_gr M r.2 := tm_m_gr gg_4 h
theorem ck_4 : tm_cdk (tm_mt 4).1.cls true tm_mt (tm_mt 4) false cd_4 := tm_cdk_of (LK := lk_RX3) (ix := [0]) lc_RX3 (by decide +kernel)
theorem con_4 (l : Launch) {as : List Value} {M : tm_M} {r : tm_R} (h : F_4 as M = some r) : tm_MA tm_sh l (tm_mt 4) as M r := tm_sound (t := tm_mt 4) tm_Sok_ok tm_CL_ok gg_4 (gm_4 l) (fun _ _ => ⟨rfl, rfl⟩) ck_4 (by decide +kernel) (fun _ => rfl) (fun _ _ _ _ => tm_nos_all (by decide +kernel)) h
def cd_5 : List tm_E := [(0, .aload_n 0, 1, 0, 0, 0), (1, .invokespecial 3, 3, 9000, 0, 36), (4, .aload_n 0, 1, 0, 0, 0), (5, .new 9, 3, 4, 11, 0), (8, .dup, 1, 0, 0, 0), (9, .invokespecial 11, 3, 3, 0, 16), (12, .putfield 12, 3, 9, 0, 2), (15, .aload_n 0, 1, 0, 0, 0), (16, .bipush 6, 2, 0, 0, 0), (18, .anewarray 18, 3, 6, 0, 0), (21, .putfield 20, 3, 9, 1, 2), (24, .aload_n 0, 1, 0, 0, 0), (25, .iconst 2, 1, 0, 0, 0), (26, .newarray .int, 2, 1, 0, 0), (28, .putfield 24, 3, 9, 2, 2), (31, .aload_n 0, 1, 0, 0, 0), (32, .iconst 2, 1, 0, 0, 0), (33, .newarray .int, 2, 1, 0, 0), (35, .putfield 28, 3, 9, 3, 2), (38, .aload_n 0, 1, 0, 0, 0), (39, .iconst 2, 1, 0, 0, 0), (40, .newarray .boolean, 2, 3, 0, 0), (42, .putfield 31, 3, 9, 4, 2), (45, .iconst 0, 1, 0, 0, 0), (46, .istore_n 1, 1, 0, 0, 0), (47, .iload_n 1, 1, 0, 0, 0), (48, .bipush 6, 2, 0, 0, 0), (50, .if_icmp .ge 22, 3, 72, 0, 0), (53, .aload_n 0, 1, 0, 0, 0), (54, .getfield 20, 3, 9, 1, 2), (57, .iload_n 1, 1, 0, 0, 0), (58, .new 18, 3, 3, 7, 0), (61, .dup, 1, 0, 0, 0), (62, .invokespecial 35, 3, 4, 0, 12), (65, .aastore, 1, 3, 6, 0), (66, .iinc 1 1, 3, 0, 0, 0), (69, .goto (-22), 3, 47, 0, 0), (72, .return_, 1, 0, 0, 0)]
def cu_5 : List (Nat × List Nat) := [(12, [0]), (47, [0, 1]), (65, [0, 1])]
noncomputable def G_5 : tm_G := fun id as M => if id = 3 then F_3 as M else if id = 4 then F_4 as M else none
noncomputable def F_5 : List Value → tm_M → Option tm_R := tm_m tm_sh none G_5 false cd_5 cu_5 39 2
theorem gg_5 : tm_Gg G_5 := by
  intro id as M r h
  unfold G_5 at h
  rcases tm_ite_e h with ⟨_, h⟩ | ⟨_, h⟩
  · exact gr_3 h
  rcases tm_ite_e h with ⟨_, h⟩ | ⟨_, h⟩
  · exact gr_4 h
  cases h
theorem gm_5 (l : Launch) : ∀ id as M r, G_5 id as M = some r → tm_MA tm_sh l (tm_mt id) as M r := by
  intro id as M r h
  unfold G_5 at h
  rcases tm_ite_e h with ⟨rfl, h⟩ | ⟨_, h⟩
  · exact con_3 l h
  rcases tm_ite_e h with ⟨rfl, h⟩ | ⟨_, h⟩
  · exact con_4 l h
  cases h
theorem gr_5 {as : List Value} {M : tm_M} {r : tm_R} (h : F_5 as M = some r) : tm_gr M r.2 := tm_m_gr gg_5 h
theorem ck_5 : tm_cdk (tm_mt 5).1.cls true tm_mt (tm_mt 5) false cd_5 := tm_cdk_of (LK := lk_RX9) (ix := [0, 1, 2, 3, 4, 5, 6, 7, 6, 8, 9, 10, 11, 12, 13]) lc_RX9 (by decide +kernel)
theorem con_5 (l : Launch) {as : List Value} {M : tm_M} {r : tm_R} (h : F_5 as M = some r) : tm_MA tm_sh l (tm_mt 5) as M r := tm_sound (t := tm_mt 5) tm_Sok_ok tm_CL_ok gg_5 (gm_5 l) (fun _ _ => ⟨rfl, rfl⟩) ck_5 (by decide +kernel) (fun _ => rfl) (fun _ _ _ _ => tm_nos_all (by decide +kernel)) h
def cd_6 : List tm_E := [(0, .aload_n 0, 1, 0, 0, 0), (1, .invokespecial 3, 3, 9000, 0, 4), (4, .aload_n 0, 1, 0, 0, 0), (5, .sipush 1024, 3, 0, 0, 0), (8, .newarray .long, 2, 4, 0, 0), (10, .putfield 11, 3, 1, 0, 2), (13, .aload_n 0, 1, 0, 0, 0), (14, .sipush 128, 3, 0, 0, 0), (17, .newarray .int, 2, 1, 0, 0), (19, .putfield 15, 3, 1, 1, 2), (22, .aload_n 0, 1, 0, 0, 0), (23, .sipush 128, 3, 0, 0, 0), (26, .newarray .int, 2, 1, 0, 0), (28, .putfield 19, 3, 1, 2, 2), (31, .aload_n 0, 1, 0, 0, 0), (32, .bipush 24, 2, 0, 0, 0), (34, .newarray .int, 2, 1, 0, 0), (36, .putfield 24, 3, 1, 3, 2), (39, .aload_n 0, 1, 0, 0, 0), (40, .bipush 24, 2, 0, 0, 0), (42, .newarray .int, 2, 1, 0, 0), (44, .putfield 27, 3, 1, 4, 2), (47, .aload_n 0, 1, 0, 0, 0), (48, .bipush 24, 2, 0, 0, 0), (50, .newarray .int, 2, 1, 0, 0), (52, .putfield 30, 3, 1, 5, 2), (55, .aload_n 0, 1, 0, 0, 0), (56, .bipush 12, 2, 0, 0, 0), (58, .newarray .int, 2, 1, 0, 0), (60, .putfield 33, 3, 1, 6, 2), (63, .aload_n 0, 1, 0, 0, 0), (64, .iconst (-1), 1, 0, 0, 0), (65, .putfield 36, 3, 1, 9, 0), (68, .return_, 1, 0, 0, 0)]
def cu_6 : List (Nat × List Nat) := []
def G_6 : tm_G := fun _ _ _ => none
noncomputable def F_6 : List Value → tm_M → Option tm_R := tm_m tm_sh none G_6 false cd_6 cu_6 35 1
theorem gg_6 : tm_Gg G_6 := fun _ _ _ _ h => by cases h
theorem gm_6 (l : Launch) : ∀ id as M r, G_6 id as M = some r → tm_MA tm_sh l (tm_mt id) as M r := fun _ _ _ _ h => by cases h
theorem gr_6 {as : List Value} {M : tm_M} {r : tm_R} (h : F_6 as M = some r) : tm_gr M r.2 := tm_m_gr gg_6 h
theorem ck_6 : tm_cdk (tm_mt 6).1.cls true tm_mt (tm_mt 6) false cd_6 := tm_cdk_of (LK := lk_RX1) (ix := [0, 1, 2, 3, 4, 3, 5, 3, 6, 3, 7, 3, 8, 3, 9, 10]) lc_RX1 (by decide +kernel)
theorem con_6 (l : Launch) {as : List Value} {M : tm_M} {r : tm_R} (h : F_6 as M = some r) : tm_MA tm_sh l (tm_mt 6) as M r := tm_sound (t := tm_mt 6) tm_Sok_ok tm_CL_ok gg_6 (gm_6 l) (fun _ _ => ⟨rfl, rfl⟩) ck_6 (by decide +kernel) (fun _ => rfl) (fun _ _ _ _ => tm_nos_all (by decide +kernel)) h
def cd_7 : List tm_E := [(0, .aload_n 0, 1, 0, 0, 0), (1, .invokespecial 3, 3, 9000, 0, 24), (4, .aload_n 0, 1, 0, 0, 0), (5, .sipush 300, 3, 0, 0, 0), (8, .newarray .int, 2, 1, 0, 0), (10, .putfield 9, 3, 6, 0, 2), (13, .return_, 1, 0, 0, 0)]
def cu_7 : List (Nat × List Nat) := []
def G_7 : tm_G := fun _ _ _ => none
noncomputable def F_7 : List Value → tm_M → Option tm_R := tm_m tm_sh none G_7 false cd_7 cu_7 8 1
theorem gg_7 : tm_Gg G_7 := fun _ _ _ _ h => by cases h
theorem gm_7 (l : Launch) : ∀ id as M r, G_7 id as M = some r → tm_MA tm_sh l (tm_mt id) as M r := fun _ _ _ _ h => by cases h
theorem gr_7 {as : List Value} {M : tm_M} {r : tm_R} (h : F_7 as M = some r) : tm_gr M r.2 := tm_m_gr gg_7 h
theorem ck_7 : tm_cdk (tm_mt 7).1.cls true tm_mt (tm_mt 7) false cd_7 := tm_cdk_of (LK := lk_RX6) (ix := [0, 1, 2]) lc_RX6 (by decide +kernel)
theorem con_7 (l : Launch) {as : List Value} {M : tm_M} {r : tm_R} (h : F_7 as M = some r) : tm_MA tm_sh l (tm_mt 7) as M r := tm_sound (t := tm_mt 7) tm_Sok_ok tm_CL_ok gg_7 (gm_7 l) (fun _ _ => ⟨rfl, rfl⟩) ck_7 (by decide +kernel) (fun _ => rfl) (fun _ _ _ _ => tm_nos_all (by decide +kernel)) h
def cd_8 : List tm_E := [(0, .aload_n 0, 1, 0, 0, 0), (1, .invokespecial 5, 3, 9000, 0, 8), (4, .aload_n 0, 1, 0, 0, 0), (5, .sipush 300, 3, 0, 0, 0), (8, .newarray .long, 2, 4, 0, 0), (10, .putfield 11, 3, 2, 0, 2), (13, .aload_n 0, 1, 0, 0, 0), (14, .bipush 30, 2, 0, 0, 0), (16, .newarray .int, 2, 1, 0, 0), (18, .putfield 15, 3, 2, 1, 2), (21, .aload_n 0, 1, 0, 0, 0), (22, .bipush 30, 2, 0, 0, 0), (24, .newarray .int, 2, 1, 0, 0), (26, .putfield 19, 3, 2, 2, 2), (29, .aload_n 0, 1, 0, 0, 0), (30, .bipush 30, 2, 0, 0, 0), (32, .newarray .int, 2, 1, 0, 0), (34, .putfield 22, 3, 2, 3, 2), (37, .aload_n 0, 1, 0, 0, 0), (38, .bipush 30, 2, 0, 0, 0), (40, .newarray .int, 2, 1, 0, 0), (42, .putfield 25, 3, 2, 4, 2), (45, .aload_n 0, 1, 0, 0, 0), (46, .bipush 30, 2, 0, 0, 0), (48, .newarray .int, 2, 1, 0, 0), (50, .putfield 28, 3, 2, 5, 2), (53, .aload_n 0, 1, 0, 0, 0), (54, .bipush 30, 2, 0, 0, 0), (56, .newarray .int, 2, 1, 0, 0), (58, .putfield 31, 3, 2, 6, 2), (61, .aload_n 0, 1, 0, 0, 0), (62, .bipush 30, 2, 0, 0, 0), (64, .newarray .int, 2, 1, 0, 0), (66, .putfield 34, 3, 2, 9, 2), (69, .return_, 1, 0, 0, 0)]
def cu_8 : List (Nat × List Nat) := []
def G_8 : tm_G := fun _ _ _ => none
noncomputable def F_8 : List Value → tm_M → Option tm_R := tm_m tm_sh none G_8 false cd_8 cu_8 36 1
theorem gg_8 : tm_Gg G_8 := fun _ _ _ _ h => by cases h
theorem gm_8 (l : Launch) : ∀ id as M r, G_8 id as M = some r → tm_MA tm_sh l (tm_mt id) as M r := fun _ _ _ _ h => by cases h
theorem gr_8 {as : List Value} {M : tm_M} {r : tm_R} (h : F_8 as M = some r) : tm_gr M r.2 := tm_m_gr gg_8 h
theorem ck_8 : tm_cdk (tm_mt 8).1.cls true tm_mt (tm_mt 8) false cd_8 := tm_cdk_of (LK := lk_RX2) (ix := [0, 1, 2, 3, 4, 3, 5, 3, 6, 3, 7, 3, 8, 3, 9, 3, 10]) lc_RX2 (by decide +kernel)
theorem con_8 (l : Launch) {as : List Value} {M : tm_M} {r : tm_R} (h : F_8 as M = some r) : tm_MA tm_sh l (tm_mt 8) as M r := tm_sound (t := tm_mt 8) tm_Sok_ok tm_CL_ok gg_8 (gm_8 l) (fun _ _ => ⟨rfl, rfl⟩) ck_8 (by decide +kernel) (fun _ => rfl) (fun _ _ _ _ => tm_nos_all (by decide +kernel)) h
def cd_9 : List tm_E := [(0, .aload_n 0, 1, 0, 0, 0), (1, .invokespecial 3, 3, 9000, 0, 32), (4, .aload_n 0, 1, 0, 0, 0), (5, .bipush 32, 2, 0, 0, 0), (7, .newarray .int, 2, 1, 0, 0), (9, .putfield 11, 3, 8, 0, 2), (12, .aload_n 0, 1, 0, 0, 0), (13, .bipush 8, 2, 0, 0, 0), (15, .newarray .int, 2, 1, 0, 0), (17, .putfield 15, 3, 8, 1, 2), (20, .return_, 1, 0, 0, 0)]
def cu_9 : List (Nat × List Nat) := []
def G_9 : tm_G := fun _ _ _ => none
noncomputable def F_9 : List Value → tm_M → Option tm_R := tm_m tm_sh none G_9 false cd_9 cu_9 12 1
theorem gg_9 : tm_Gg G_9 := fun _ _ _ _ h => by cases h
theorem gm_9 (l : Launch) : ∀ id as M r, G_9 id as M = some r → tm_MA tm_sh l (tm_mt id) as M r := fun _ _ _ _ h => by cases h
theorem gr_9 {as : List Value} {M : tm_M} {r : tm_R} (h : F_9 as M = some r) : tm_gr M r.2 := tm_m_gr gg_9 h
theorem ck_9 : tm_cdk (tm_mt 9).1.cls true tm_mt (tm_mt 9) false cd_9 := tm_cdk_of (LK := lk_RX8) (ix := [0, 1, 2, 1, 3]) lc_RX8 (by decide +kernel)
theorem con_9 (l : Launch) {as : List Value} {M : tm_M} {r : tm_R} (h : F_9 as M = some r) : tm_MA tm_sh l (tm_mt 9) as M r := tm_sound (t := tm_mt 9) tm_Sok_ok tm_CL_ok gg_9 (gm_9 l) (fun _ _ => ⟨rfl, rfl⟩) ck_9 (by decide +kernel) (fun _ => rfl) (fun _ _ _ _ => tm_nos_all (by decide +kernel)) h
def cd_10 : List tm_E := [(0, .aload_n 0, 1, 0, 0, 0), (1, .invokespecial 3, 3, 9000, 0, 0), (4, .aload_n 0, 1, 0, 0, 0), (5, .bipush 12, 2, 0, 0, 0), (7, .anewarray 11, 3, 5, 0, 0), (10, .putfield 13, 3, 0, 0, 2), (13, .iconst 0, 1, 0, 0, 0), (14, .istore_n 1, 1, 0, 0, 0), (15, .iload_n 1, 1, 0, 0, 0), (16, .bipush 12, 2, 0, 0, 0), (18, .if_icmp .ge 22, 3, 40, 0, 0), (21, .aload_n 0, 1, 0, 0, 0), (22, .getfield 13, 3, 0, 0, 2), (25, .iload_n 1, 1, 0, 0, 0), (26, .new 11, 3, 8, 9, 0), (29, .dup, 1, 0, 0, 0), (30, .invokespecial 17, 3, 9, 0, 32), (33, .aastore, 1, 8, 5, 0), (34, .iinc 1 1, 3, 0, 0, 0), (37, .goto (-22), 3, 15, 0, 0), (40, .return_, 1, 0, 0, 0)]
def cu_10 : List (Nat × List Nat) := [(15, [0, 1]), (33, [0, 1])]
noncomputable def G_10 : tm_G := fun id as M => if id = 9 then F_9 as M else none
noncomputable def F_10 : List Value → tm_M → Option tm_R := tm_m tm_sh none G_10 false cd_10 cu_10 22 2
theorem gg_10 : tm_Gg G_10 := by
  intro id as M r h
  unfold G_10 at h
  rcases tm_ite_e h with ⟨_, h⟩ | ⟨_, h⟩
  · exact gr_9 h
  cases h
theorem gm_10 (l : Launch) : ∀ id as M r, G_10 id as M = some r → tm_MA tm_sh l (tm_mt id) as M r := by
  intro id as M r h
  unfold G_10 at h
  rcases tm_ite_e h with ⟨rfl, h⟩ | ⟨_, h⟩
  · exact con_9 l h
  cases h
theorem gr_10 {as : List Value} {M : tm_M} {r : tm_R} (h : F_10 as M = some r) : tm_gr M r.2 := tm_m_gr gg_10 h
theorem ck_10 : tm_cdk (tm_mt 10).1.cls true tm_mt (tm_mt 10) false cd_10 := tm_cdk_of (LK := lk_RX0) (ix := [0, 1, 2, 3, 4, 5]) lc_RX0 (by decide +kernel)
theorem con_10 (l : Launch) {as : List Value} {M : tm_M} {r : tm_R} (h : F_10 as M = some r) : tm_MA tm_sh l (tm_mt 10) as M r := tm_sound (t := tm_mt 10) tm_Sok_ok tm_CL_ok gg_10 (gm_10 l) (fun _ _ => ⟨rfl, rfl⟩) ck_10 (by decide +kernel) (fun _ => rfl) (fun _ _ _ _ => tm_nos_all (by decide +kernel)) h
def cd_11 : List tm_E := [(0, .aload_n 0, 1, 0, 0, 0), (1, .invokespecial 3, 3, 9000, 0, 28), (4, .aload_n 0, 1, 0, 0, 0), (5, .bipush 60, 2, 0, 0, 0), (7, .newarray .int, 2, 1, 0, 0), (9, .putfield 11, 3, 7, 0, 2), (12, .aload_n 0, 1, 0, 0, 0), (13, .bipush 60, 2, 0, 0, 0), (15, .newarray .int, 2, 1, 0, 0), (17, .putfield 15, 3, 7, 1, 2), (20, .aload_n 0, 1, 0, 0, 0), (21, .bipush 60, 2, 0, 0, 0), (23, .newarray .int, 2, 1, 0, 0), (25, .putfield 18, 3, 7, 2, 2), (28, .aload_n 0, 1, 0, 0, 0), (29, .bipush 60, 2, 0, 0, 0), (31, .newarray .int, 2, 1, 0, 0), (33, .putfield 21, 3, 7, 3, 2), (36, .aload_n 0, 1, 0, 0, 0), (37, .bipush 60, 2, 0, 0, 0), (39, .newarray .boolean, 2, 3, 0, 0), (41, .putfield 24, 3, 7, 4, 2), (44, .return_, 1, 0, 0, 0)]
def cu_11 : List (Nat × List Nat) := []
def G_11 : tm_G := fun _ _ _ => none
noncomputable def F_11 : List Value → tm_M → Option tm_R := tm_m tm_sh none G_11 false cd_11 cu_11 24 1
theorem gg_11 : tm_Gg G_11 := fun _ _ _ _ h => by cases h
theorem gm_11 (l : Launch) : ∀ id as M r, G_11 id as M = some r → tm_MA tm_sh l (tm_mt id) as M r := fun _ _ _ _ h => by cases h
theorem gr_11 {as : List Value} {M : tm_M} {r : tm_R} (h : F_11 as M = some r) : tm_gr M r.2 := tm_m_gr gg_11 h
theorem ck_11 : tm_cdk (tm_mt 11).1.cls true tm_mt (tm_mt 11) false cd_11 := tm_cdk_of (LK := lk_RX7) (ix := [0, 1, 2, 1, 3, 1, 4, 1, 5, 6, 7]) lc_RX7 (by decide +kernel)
theorem con_11 (l : Launch) {as : List Value} {M : tm_M} {r : tm_R} (h : F_11 as M = some r) : tm_MA tm_sh l (tm_mt 11) as M r := tm_sound (t := tm_mt 11) tm_Sok_ok tm_CL_ok gg_11 (gm_11 l) (fun _ _ => ⟨rfl, rfl⟩) ck_11 (by decide +kernel) (fun _ => rfl) (fun _ _ _ _ => tm_nos_all (by decide +kernel)) h
def cd_12 : List tm_E := [(0, .aload_n 0, 1, 0, 0, 0), (1, .invokespecial 1, 3, 9000, 0, 40), (4, .aload_n 0, 1, 0, 0, 0), (5, .sipush 1400, 3, 0, 0, 0), (8, .newarray .byte, 2, 2, 0, 0), (10, .putfield 9, 3, 10, 0, 2), (13, .aload_n 0, 1, 0, 0, 0), (14, .new 13, 3, 5, 10, 0), (17, .dup, 1, 0, 0, 0), (18, .invokespecial 15, 3, 2, 0, 20), (21, .putfield 16, 3, 10, 1, 2), (24, .aload_n 0, 1, 0, 0, 0), (25, .new 20, 3, 9, 6, 0), (28, .dup, 1, 0, 0, 0), (29, .invokespecial 22, 3, 5, 0, 36), (32, .putfield 23, 3, 10, 2, 2), (35, .aload_n 0, 1, 0, 0, 0), (36, .new 27, 3, 1, 11, 0), (39, .dup, 1, 0, 0, 0), (40, .invokespecial 29, 3, 6, 0, 4), (43, .putfield 30, 3, 10, 3, 2), (46, .aload_n 0, 1, 0, 0, 0), (47, .new 34, 3, 6, 3, 0), (50, .dup, 1, 0, 0, 0), (51, .invokespecial 36, 3, 7, 0, 24), (54, .putfield 37, 3, 10, 4, 2), (57, .aload_n 0, 1, 0, 0, 0), (58, .new 41, 3, 2, 11, 0), (61, .dup, 1, 0, 0, 0), (62, .invokespecial 43, 3, 8, 0, 8), (65, .putfield 44, 3, 10, 5, 2), (68, .aload_n 0, 1, 0, 0, 0), (69, .new 48, 3, 0, 2, 0), (72, .dup, 1, 0, 0, 0), (73, .invokespecial 50, 3, 10, 0, 0), (76, .putfield 51, 3, 10, 6, 2), (79, .aload_n 0, 1, 0, 0, 0), (80, .new 48, 3, 0, 2, 0), (83, .dup, 1, 0, 0, 0), (84, .invokespecial 50, 3, 10, 0, 0), (87, .putfield 55, 3, 10, 7, 2), (90, .aload_n 0, 1, 0, 0, 0), (91, .new 58, 3, 7, 7, 0), (94, .dup, 1, 0, 0, 0), (95, .invokespecial 60, 3, 11, 0, 28), (98, .putfield 61, 3, 10, 8, 2), (101, .aload_n 0, 1, 0, 0, 0), (102, .new 58, 3, 7, 7, 0), (105, .dup, 1, 0, 0, 0), (106, .invokespecial 60, 3, 11, 0, 28), (109, .putfield 65, 3, 10, 9, 2), (112, .aload_n 0, 1, 0, 0, 0), (113, .iconst 4, 1, 0, 0, 0), (114, .putfield 68, 3, 10, 12, 0), (117, .aload_n 0, 1, 0, 0, 0), (118, .bipush 10, 2, 0, 0, 0), (120, .putfield 72, 3, 10, 13, 0), (123, .return_, 1, 0, 0, 0)]
def cu_12 : List (Nat × List Nat) := [(21, [0]), (32, [0]), (43, [0]), (54, [0]), (65, [0]), (76, [0]), (87, [0]), (98, [0]), (109, [0])]
noncomputable def G_12 : tm_G := fun id as M => if id = 2 then F_2 as M else if id = 5 then F_5 as M else if id = 6 then F_6 as M else if id = 7 then F_7 as M else if id = 8 then F_8 as M else if id = 10 then F_10 as M else if id = 11 then F_11 as M else none
noncomputable def F_12 : List Value → tm_M → Option tm_R := tm_m tm_sh none G_12 false cd_12 cu_12 59 1
theorem gg_12 : tm_Gg G_12 := by
  intro id as M r h
  unfold G_12 at h
  rcases tm_ite_e h with ⟨_, h⟩ | ⟨_, h⟩
  · exact gr_2 h
  rcases tm_ite_e h with ⟨_, h⟩ | ⟨_, h⟩
  · exact gr_5 h
  rcases tm_ite_e h with ⟨_, h⟩ | ⟨_, h⟩
  · exact gr_6 h
  rcases tm_ite_e h with ⟨_, h⟩ | ⟨_, h⟩
  · exact gr_7 h
  rcases tm_ite_e h with ⟨_, h⟩ | ⟨_, h⟩
  · exact gr_8 h
  rcases tm_ite_e h with ⟨_, h⟩ | ⟨_, h⟩
  · exact gr_10 h
  rcases tm_ite_e h with ⟨_, h⟩ | ⟨_, h⟩
  · exact gr_11 h
  cases h
theorem gm_12 (l : Launch) : ∀ id as M r, G_12 id as M = some r → tm_MA tm_sh l (tm_mt id) as M r := by
  intro id as M r h
  unfold G_12 at h
  rcases tm_ite_e h with ⟨rfl, h⟩ | ⟨_, h⟩
  · exact con_2 l h
  rcases tm_ite_e h with ⟨rfl, h⟩ | ⟨_, h⟩
  · exact con_5 l h
  rcases tm_ite_e h with ⟨rfl, h⟩ | ⟨_, h⟩
  · exact con_6 l h
  rcases tm_ite_e h with ⟨rfl, h⟩ | ⟨_, h⟩
  · exact con_7 l h
  rcases tm_ite_e h with ⟨rfl, h⟩ | ⟨_, h⟩
  · exact con_8 l h
  rcases tm_ite_e h with ⟨rfl, h⟩ | ⟨_, h⟩
  · exact con_10 l h
  rcases tm_ite_e h with ⟨rfl, h⟩ | ⟨_, h⟩
  · exact con_11 l h
  cases h
theorem gr_12 {as : List Value} {M : tm_M} {r : tm_R} (h : F_12 as M = some r) : tm_gr M r.2 := tm_m_gr gg_12 h
theorem ck_12 : tm_cdk (tm_mt 12).1.cls true tm_mt (tm_mt 12) false cd_12 := tm_cdk_of (LK := lk_RX10) (ix := [0, 1, 2, 3, 4, 5, 6, 7, 8, 9, 10, 11, 12, 13, 14, 15, 16, 17, 18, 19, 20, 18, 19, 21, 22, 23, 24, 22, 23, 25, 26, 27]) lc_RX10 (by decide +kernel)
theorem con_12 (l : Launch) {as : List Value} {M : tm_M} {r : tm_R} (h : F_12 as M = some r) : tm_MA tm_sh l (tm_mt 12) as M r := tm_sound (t := tm_mt 12) tm_Sok_ok tm_CL_ok gg_12 (gm_12 l) (fun _ _ => ⟨rfl, rfl⟩) ck_12 (by decide +kernel) (fun _ => rfl) (fun _ _ _ _ => tm_nos_all (by decide +kernel)) h
def cd_13 : List tm_E := [(0, .aload_n 0, 1, 0, 0, 0), (1, .invokespecial 1, 3, 9000, 0, 44), (4, .aload_n 0, 1, 0, 0, 0), (5, .sipush 1420, 3, 0, 0, 0), (8, .newarray .byte, 2, 2, 0, 0), (10, .putfield 7, 3, 11, 0, 2), (13, .aload_n 0, 1, 0, 0, 0), (14, .sipush 1400, 3, 0, 0, 0), (17, .newarray .byte, 2, 2, 0, 0), (19, .putfield 13, 3, 11, 1, 2), (22, .aload_n 0, 1, 0, 0, 0), (23, .iconst (-1), 1, 0, 0, 0), (24, .putfield 16, 3, 11, 5, 0), (27, .aload_n 0, 1, 0, 0, 0), (28, .bipush 24, 2, 0, 0, 0), (30, .newarray .long, 2, 4, 0, 0), (32, .putfield 20, 3, 11, 11, 2), (35, .aload_n 0, 1, 0, 0, 0), (36, .iconst 2, 1, 0, 0, 0), (37, .newarray .int, 2, 1, 0, 0), (39, .putfield 24, 3, 11, 12, 2), (42, .aload_n 0, 1, 0, 0, 0), (43, .bipush 24, 2, 0, 0, 0), (45, .newarray .int, 2, 1, 0, 0), (47, .putfield 28, 3, 11, 13, 2), (50, .aload_n 0, 1, 0, 0, 0), (51, .bipush 24, 2, 0, 0, 0), (53, .newarray .int, 2, 1, 0, 0), (55, .putfield 31, 3, 11, 14, 2), (58, .aload_n 0, 1, 0, 0, 0), (59, .bipush 24, 2, 0, 0, 0), (61, .newarray .int, 2, 1, 0, 0), (63, .putfield 34, 3, 11, 15, 2), (66, .aload_n 0, 1, 0, 0, 0), (67, .bipush 24, 2, 0, 0, 0), (69, .newarray .int, 2, 1, 0, 0), (71, .putfield 37, 3, 11, 16, 2), (74, .aload_n 0, 1, 0, 0, 0), (75, .bipush 24, 2, 0, 0, 0), (77, .newarray .int, 2, 1, 0, 0), (79, .putfield 40, 3, 11, 17, 2), (82, .aload_n 0, 1, 0, 0, 0), (83, .sipush 768, 3, 0, 0, 0), (86, .newarray .int, 2, 1, 0, 0), (88, .putfield 43, 3, 11, 18, 2), (91, .aload_n 0, 1, 0, 0, 0), (92, .sipush 192, 3, 0, 0, 0), (95, .newarray .int, 2, 1, 0, 0), (97, .putfield 46, 3, 11, 19, 2), (100, .aload_n 0, 1, 0, 0, 0), (101, .bipush 24, 2, 0, 0, 0), (103, .newarray .boolean, 2, 3, 0, 0), (105, .putfield 49, 3, 11, 20, 2), (108, .aload_n 0, 1, 0, 0, 0), (109, .iconst 2, 1, 0, 0, 0), (110, .newarray .int, 2, 1, 0, 0), (112, .putfield 53, 3, 11, 23, 2), (115, .aload_n 0, 1, 0, 0, 0), (116, .iconst 2, 1, 0, 0, 0), (117, .newarray .int, 2, 1, 0, 0), (119, .putfield 56, 3, 11, 24, 2), (122, .aload_n 0, 1, 0, 0, 0), (123, .bipush 120, 2, 0, 0, 0), (125, .newarray .int, 2, 1, 0, 0), (127, .putfield 59, 3, 11, 25, 2), (130, .aload_n 0, 1, 0, 0, 0), (131, .bipush 120, 2, 0, 0, 0), (133, .newarray .int, 2, 1, 0, 0), (135, .putfield 62, 3, 11, 26, 2), (138, .aload_n 0, 1, 0, 0, 0), (139, .bipush 120, 2, 0, 0, 0), (141, .newarray .int, 2, 1, 0, 0), (143, .putfield 65, 3, 11, 27, 2), (146, .aload_n 0, 1, 0, 0, 0), (147, .bipush 120, 2, 0, 0, 0), (149, .newarray .int, 2, 1, 0, 0), (151, .putfield 68, 3, 11, 28, 2), (154, .aload_n 0, 1, 0, 0, 0), (155, .bipush 120, 2, 0, 0, 0), (157, .newarray .boolean, 2, 3, 0, 0), (159, .putfield 71, 3, 11, 29, 2), (162, .aload_n 0, 1, 0, 0, 0), (163, .iconst 4, 1, 0, 0, 0), (164, .putfield 74, 3, 11, 34, 0), (167, .aload_n 0, 1, 0, 0, 0), (168, .bipush 10, 2, 0, 0, 0), (170, .putfield 77, 3, 11, 35, 0), (173, .aload_n 0, 1, 0, 0, 0), (174, .bipush 6, 2, 0, 0, 0), (176, .newarray .int, 2, 1, 0, 0), (178, .putfield 80, 3, 11, 36, 2), (181, .aload_n 0, 1, 0, 0, 0), (182, .bipush 6, 2, 0, 0, 0), (184, .newarray .int, 2, 1, 0, 0), (186, .putfield 83, 3, 11, 37, 2), (189, .aload_n 0, 1, 0, 0, 0), (190, .bipush 6, 2, 0, 0, 0), (192, .newarray .int, 2, 1, 0, 0), (194, .putfield 86, 3, 11, 38, 2), (197, .aload_n 0, 1, 0, 0, 0), (198, .bipush 6, 2, 0, 0, 0), (200, .newarray .int, 2, 1, 0, 0), (202, .putfield 89, 3, 11, 39, 2), (205, .aload_n 0, 1, 0, 0, 0), (206, .bipush 6, 2, 0, 0, 0), (208, .newarray .int, 2, 1, 0, 0), (210, .putfield 92, 3, 11, 40, 2), (213, .aload_n 0, 1, 0, 0, 0), (214, .iconst 2, 1, 0, 0, 0), (215, .newarray .int, 2, 1, 0, 0), (217, .putfield 95, 3, 11, 41, 2), (220, .aload_n 0, 1, 0, 0, 0), (221, .iconst 2, 1, 0, 0, 0), (222, .newarray .int, 2, 1, 0, 0), (224, .putfield 98, 3, 11, 42, 2), (227, .aload_n 0, 1, 0, 0, 0), (228, .bipush 12, 2, 0, 0, 0), (230, .newarray .int, 2, 1, 0, 0), (232, .putfield 101, 3, 11, 43, 2), (235, .aload_n 0, 1, 0, 0, 0), (236, .sipush 200, 3, 0, 0, 0), (239, .newarray .int, 2, 1, 0, 0), (241, .putfield 104, 3, 11, 44, 2), (244, .aload_n 0, 1, 0, 0, 0), (245, .sipush 1200, 3, 0, 0, 0), (248, .newarray .int, 2, 1, 0, 0), (250, .putfield 107, 3, 11, 45, 2), (253, .aload_n 0, 1, 0, 0, 0), (254, .sipush 1200, 3, 0, 0, 0), (257, .newarray .int, 2, 1, 0, 0), (259, .putfield 110, 3, 11, 46, 2), (262, .aload_n 0, 1, 0, 0, 0), (263, .sipush 1200, 3, 0, 0, 0), (266, .newarray .int, 2, 1, 0, 0), (268, .putfield 113, 3, 11, 47, 2), (271, .aload_n 0, 1, 0, 0, 0), (272, .sipush 1200, 3, 0, 0, 0), (275, .newarray .int, 2, 1, 0, 0), (277, .putfield 116, 3, 11, 48, 2), (280, .aload_n 0, 1, 0, 0, 0), (281, .sipush 4800, 3, 0, 0, 0), (284, .newarray .int, 2, 1, 0, 0), (286, .putfield 119, 3, 11, 49, 2), (289, .aload_n 0, 1, 0, 0, 0), (290, .sipush 200, 3, 0, 0, 0), (293, .newarray .int, 2, 1, 0, 0), (295, .putfield 122, 3, 11, 50, 2), (298, .aload_n 0, 1, 0, 0, 0), (299, .sipush 200, 3, 0, 0, 0), (302, .newarray .int, 2, 1, 0, 0), (304, .putfield 125, 3, 11, 51, 2), (307, .aload_n 0, 1, 0, 0, 0), (308, .sipush 200, 3, 0, 0, 0), (311, .newarray .int, 2, 1, 0, 0), (313, .putfield 128, 3, 11, 52, 2), (316, .aload_n 0, 1, 0, 0, 0), (317, .bipush 100, 2, 0, 0, 0), (319, .newarray .int, 2, 1, 0, 0), (321, .putfield 131, 3, 11, 53, 2), (324, .aload_n 0, 1, 0, 0, 0), (325, .bipush 100, 2, 0, 0, 0), (327, .newarray .int, 2, 1, 0, 0), (329, .putfield 134, 3, 11, 54, 2), (332, .aload_n 0, 1, 0, 0, 0), (333, .bipush 100, 2, 0, 0, 0), (335, .newarray .int, 2, 1, 0, 0), (337, .putfield 137, 3, 11, 55, 2), (340, .aload_n 0, 1, 0, 0, 0), (341, .bipush 100, 2, 0, 0, 0), (343, .newarray .int, 2, 1, 0, 0), (345, .putfield 140, 3, 11, 56, 2), (348, .aload_n 0, 1, 0, 0, 0), (349, .bipush 6, 2, 0, 0, 0), (351, .newarray .boolean, 2, 3, 0, 0), (353, .putfield 143, 3, 11, 57, 2), (356, .aload_n 0, 1, 0, 0, 0), (357, .bipush 100, 2, 0, 0, 0), (359, .newarray .boolean, 2, 3, 0, 0), (361, .putfield 146, 3, 11, 58, 2), (364, .aload_n 0, 1, 0, 0, 0), (365, .bipush 6, 2, 0, 0, 0), (367, .newarray .int, 2, 1, 0, 0), (369, .putfield 149, 3, 11, 67, 2), (372, .aload_n 0, 1, 0, 0, 0), (373, .ldc 152, 2, 0, 65536, 0), (375, .newarray .boolean, 2, 3, 0, 0), (377, .putfield 153, 3, 11, 68, 2), (380, .aload_n 0, 1, 0, 0, 0), (381, .bipush 12, 2, 0, 0, 0), (383, .newarray .int, 2, 1, 0, 0), (385, .putfield 156, 3, 11, 69, 2), (388, .aload_n 0, 1, 0, 0, 0), (389, .sipush 300, 3, 0, 0, 0), (392, .newarray .int, 2, 1, 0, 0), (394, .putfield 159, 3, 11, 73, 2), (397, .aload_n 0, 1, 0, 0, 0), (398, .bipush 100, 2, 0, 0, 0), (400, .newarray .boolean, 2, 3, 0, 0), (402, .putfield 162, 3, 11, 76, 2), (405, .aload_n 0, 1, 0, 0, 0), (406, .bipush 30, 2, 0, 0, 0), (408, .newarray .int, 2, 1, 0, 0), (410, .putfield 165, 3, 11, 77, 2), (413, .aload_n 0, 1, 0, 0, 0), (414, .bipush 30, 2, 0, 0, 0), (416, .newarray .int, 2, 1, 0, 0), (418, .putfield 168, 3, 11, 78, 2), (421, .aload_n 0, 1, 0, 0, 0), (422, .bipush 30, 2, 0, 0, 0), (424, .newarray .int, 2, 1, 0, 0), (426, .putfield 171, 3, 11, 79, 2), (429, .aload_n 0, 1, 0, 0, 0), (430, .bipush 30, 2, 0, 0, 0), (432, .newarray .int, 2, 1, 0, 0), (434, .putfield 174, 3, 11, 80, 2), (437, .aload_n 0, 1, 0, 0, 0), (438, .bipush 30, 2, 0, 0, 0), (440, .newarray .int, 2, 1, 0, 0), (442, .putfield 177, 3, 11, 81, 2), (445, .aload_n 0, 1, 0, 0, 0), (446, .bipush 30, 2, 0, 0, 0), (448, .newarray .int, 2, 1, 0, 0), (450, .putfield 180, 3, 11, 82, 2), (453, .aload_n 0, 1, 0, 0, 0), (454, .sipush 6000, 3, 0, 0, 0), (457, .newarray .byte, 2, 2, 0, 0), (459, .putfield 183, 3, 11, 83, 2), (462, .return_, 1, 0, 0, 0)]
def cu_13 : List (Nat × List Nat) := []
def G_13 : tm_G := fun _ _ _ => none
noncomputable def F_13 : List Value → tm_M → Option tm_R := tm_m tm_sh none G_13 false cd_13 cu_13 229 1
theorem gg_13 : tm_Gg G_13 := fun _ _ _ _ h => by cases h
theorem gm_13 (l : Launch) : ∀ id as M r, G_13 id as M = some r → tm_MA tm_sh l (tm_mt id) as M r := fun _ _ _ _ h => by cases h
theorem gr_13 {as : List Value} {M : tm_M} {r : tm_R} (h : F_13 as M = some r) : tm_gr M r.2 := tm_m_gr gg_13 h
theorem ck_13 : tm_cdk (tm_mt 13).1.cls true tm_mt (tm_mt 13) false cd_13 := tm_cdk_of (LK := lk_RX11) (ix := [0, 1, 2, 1, 3, 4, 5, 6, 7, 8, 7, 9, 7, 10, 7, 11, 7, 12, 7, 13, 7, 14, 7, 15, 16, 17, 7, 18, 7, 19, 7, 20, 7, 21, 7, 22, 7, 23, 16, 24, 25, 26, 7, 27, 7, 28, 7, 29, 7, 30, 7, 31, 7, 32, 7, 33, 7, 34, 7, 35, 7, 36, 7, 37, 7, 38, 7, 39, 7, 40, 7, 41, 7, 42, 7, 43, 7, 44, 7, 45, 7, 46, 7, 47, 16, 48, 16, 49, 7, 50, 51, 16, 52, 7, 53, 7, 54, 16, 55, 7, 56, 7, 57, 7, 58, 7, 59, 7, 60, 7, 61, 1, 62]) lc_RX11 (by decide +kernel)
theorem con_13 (l : Launch) {as : List Value} {M : tm_M} {r : tm_R} (h : F_13 as M = some r) : tm_MA tm_sh l (tm_mt 13) as M r := tm_sound (t := tm_mt 13) tm_Sok_ok tm_CL_ok gg_13 (gm_13 l) (fun _ _ => ⟨rfl, rfl⟩) ck_13 (by decide +kernel) (fun _ => rfl) (fun _ _ _ _ => tm_nos_all (by decide +kernel)) h
def cd_14 : List tm_E := [(0, .iload_n 1, 1, 0, 0, 0), (1, .ifCond .lt 10, 3, 11, 0, 0), (4, .iload_n 1, 1, 0, 0, 0), (5, .sipush 1396, 3, 0, 0, 0), (8, .if_icmp .le 4, 3, 12, 0, 0), (11, .return_, 1, 0, 0, 0), (12, .aload_n 0, 1, 0, 0, 0), (13, .getfield 9, 3, 10, 0, 2), (16, .iload_n 1, 1, 0, 0, 0), (17, .iload_n 2, 1, 0, 0, 0), (18, .bipush 24, 2, 0, 0, 0), (20, .ishr, 1, 0, 0, 0), (21, .i2b, 1, 0, 0, 0), (22, .bastore, 1, 0, 0, 0), (23, .aload_n 0, 1, 0, 0, 0), (24, .getfield 9, 3, 10, 0, 2), (27, .iload_n 1, 1, 0, 0, 0), (28, .iconst 1, 1, 0, 0, 0), (29, .iadd, 1, 0, 0, 0), (30, .iload_n 2, 1, 0, 0, 0), (31, .bipush 16, 2, 0, 0, 0), (33, .ishr, 1, 0, 0, 0), (34, .i2b, 1, 0, 0, 0), (35, .bastore, 1, 0, 0, 0), (36, .aload_n 0, 1, 0, 0, 0), (37, .getfield 9, 3, 10, 0, 2), (40, .iload_n 1, 1, 0, 0, 0), (41, .iconst 2, 1, 0, 0, 0), (42, .iadd, 1, 0, 0, 0), (43, .iload_n 2, 1, 0, 0, 0), (44, .bipush 8, 2, 0, 0, 0), (46, .ishr, 1, 0, 0, 0), (47, .i2b, 1, 0, 0, 0), (48, .bastore, 1, 0, 0, 0), (49, .aload_n 0, 1, 0, 0, 0), (50, .getfield 9, 3, 10, 0, 2), (53, .iload_n 1, 1, 0, 0, 0), (54, .iconst 3, 1, 0, 0, 0), (55, .iadd, 1, 0, 0, 0), (56, .iload_n 2, 1, 0, 0, 0), (57, .i2b, 1, 0, 0, 0), (58, .bastore, 1, 0, 0, 0), (59, .return_, 1, 0, 0, 0)]
def cu_14 : List (Nat × List Nat) := [(11, [])]
def G_14 : tm_G := fun _ _ _ => none
noncomputable def F_14 : List Value → tm_M → Option tm_R := tm_m tm_sh none G_14 false cd_14 cu_14 44 3
theorem gg_14 : tm_Gg G_14 := fun _ _ _ _ h => by cases h
theorem gm_14 (l : Launch) : ∀ id as M r, G_14 id as M = some r → tm_MA tm_sh l (tm_mt id) as M r := fun _ _ _ _ h => by cases h
theorem gr_14 {as : List Value} {M : tm_M} {r : tm_R} (h : F_14 as M = some r) : tm_gr M r.2 := tm_m_gr gg_14 h
theorem ck_14 : tm_cdk (tm_mt 14).1.cls false tm_mt (tm_mt 14) false cd_14 := tm_cdk_of (LK := lk_RX10) (ix := [28, 28, 28, 28]) lc_RX10 (by decide +kernel)
theorem con_14 (l : Launch) {as : List Value} {M : tm_M} {r : tm_R} (h : F_14 as M = some r) : tm_MA tm_sh l (tm_mt 14) as M r := tm_sound (t := tm_mt 14) tm_Sok_ok tm_CL_ok gg_14 (gm_14 l) (fun _ _ => ⟨rfl, rfl⟩) ck_14 (by decide +kernel) (fun h => by cases h) (fun _ _ _ _ => tm_nos_all (by decide +kernel)) h
def cd_15 : List tm_E := [(0, .aload_n 0, 1, 0, 0, 0), (1, .getfield 75, 3, 10, 11, 0), (4, .sipush 1380, 3, 0, 0, 0), (7, .if_icmp .le 5, 3, 12, 0, 0), (10, .iconst (-1), 1, 0, 0, 0), (11, .ireturn, 1, 0, 0, 0), (12, .aload_n 0, 1, 0, 0, 0), (13, .aload_n 0, 1, 0, 0, 0), (14, .getfield 75, 3, 10, 11, 0), (17, .iload_n 1, 1, 0, 0, 0), (18, .invokevirtual 78, 3, 14, 2, 40), (21, .aload_n 0, 1, 0, 0, 0), (22, .aload_n 0, 1, 0, 0, 0), (23, .getfield 75, 3, 10, 11, 0), (26, .iconst 4, 1, 0, 0, 0), (27, .iadd, 1, 0, 0, 0), (28, .iload_n 2, 1, 0, 0, 0), (29, .invokevirtual 78, 3, 14, 2, 40), (32, .aload_n 0, 1, 0, 0, 0), (33, .aload_n 0, 1, 0, 0, 0), (34, .getfield 75, 3, 10, 11, 0), (37, .bipush 8, 2, 0, 0, 0), (39, .iadd, 1, 0, 0, 0), (40, .iload_n 3, 1, 0, 0, 0), (41, .invokevirtual 78, 3, 14, 2, 40), (44, .aload_n 0, 1, 0, 0, 0), (45, .aload_n 0, 1, 0, 0, 0), (46, .getfield 75, 3, 10, 11, 0), (49, .bipush 12, 2, 0, 0, 0), (51, .iadd, 1, 0, 0, 0), (52, .iload 4, 2, 0, 0, 0), (54, .invokevirtual 78, 3, 14, 2, 40), (57, .aload_n 0, 1, 0, 0, 0), (58, .aload_n 0, 1, 0, 0, 0), (59, .getfield 75, 3, 10, 11, 0), (62, .bipush 16, 2, 0, 0, 0), (64, .iadd, 1, 0, 0, 0), (65, .iload 5, 2, 0, 0, 0), (67, .invokevirtual 78, 3, 14, 2, 40), (70, .aload_n 0, 1, 0, 0, 0), (71, .dup, 1, 0, 0, 0), (72, .getfield 75, 3, 10, 11, 0), (75, .bipush 20, 2, 0, 0, 0), (77, .iadd, 1, 0, 0, 0), (78, .putfield 75, 3, 10, 11, 0), (81, .aload_n 0, 1, 0, 0, 0), (82, .getfield 75, 3, 10, 11, 0), (85, .ireturn, 1, 0, 0, 0)]
def cu_15 : List (Nat × List Nat) := [(21, [0, 2, 3, 4, 5]), (32, [0, 3, 4, 5]), (44, [0, 4, 5]), (57, [0, 5]), (70, [0])]
noncomputable def G_15 : tm_G := fun id as M => if id = 14 then F_14 as M else none
noncomputable def F_15 : List Value → tm_M → Option tm_R := tm_m tm_sh none G_15 false cd_15 cu_15 49 6
theorem gg_15 : tm_Gg G_15 := by
  intro id as M r h
  unfold G_15 at h
  rcases tm_ite_e h with ⟨_, h⟩ | ⟨_, h⟩
  · exact gr_14 h
  cases h
theorem gm_15 (l : Launch) : ∀ id as M r, G_15 id as M = some r → tm_MA tm_sh l (tm_mt id) as M r := by
  intro id as M r h
  unfold G_15 at h
  rcases tm_ite_e h with ⟨rfl, h⟩ | ⟨_, h⟩
  · exact con_14 l h
  cases h
theorem gr_15 {as : List Value} {M : tm_M} {r : tm_R} (h : F_15 as M = some r) : tm_gr M r.2 := tm_m_gr gg_15 h
theorem ck_15 : tm_cdk (tm_mt 15).1.cls false tm_mt (tm_mt 15) false cd_15 := tm_cdk_of (LK := lk_RX10) (ix := [29, 29, 30, 29, 30, 29, 30, 29, 30, 29, 30, 29, 31, 29]) lc_RX10 (by decide +kernel)
theorem con_15 (l : Launch) {as : List Value} {M : tm_M} {r : tm_R} (h : F_15 as M = some r) : tm_MA tm_sh l (tm_mt 15) as M r := tm_sound (t := tm_mt 15) tm_Sok_ok tm_CL_ok gg_15 (gm_15 l) (fun _ _ => ⟨rfl, rfl⟩) ck_15 (by decide +kernel) (fun h => by cases h) (fun _ _ _ _ => tm_nos_all (by decide +kernel)) h
def cd_16 : List tm_E := [(0, .aload_n 0, 1, 0, 0, 0), (1, .getfield 289, 3, 11, 2, 0), (4, .bipush 20, 2, 0, 0, 0), (6, .iadd, 1, 0, 0, 0), (7, .sipush 1400, 3, 0, 0, 0), (10, .if_icmp .le 5, 3, 15, 0, 0), (13, .iconst (-1), 1, 0, 0, 0), (14, .ireturn, 1, 0, 0, 0), (15, .iconst 0, 1, 0, 0, 0), (16, .istore 6, 2, 0, 0, 0), (18, .iload 6, 2, 0, 0, 0), (20, .bipush 20, 2, 0, 0, 0), (22, .if_icmp .ge 83, 3, 105, 0, 0), (25, .iload 6, 2, 0, 0, 0), (27, .iconst 4, 1, 0, 0, 0), (28, .if_icmp .ge 7, 3, 35, 0, 0), (31, .iload_n 1, 1, 0, 0, 0), (32, .goto 39, 3, 71, 0, 0), (35, .iload 6, 2, 0, 0, 0), (37, .bipush 8, 2, 0, 0, 0), (39, .if_icmp .ge 7, 3, 46, 0, 0), (42, .iload_n 2, 1, 0, 0, 0), (43, .goto 28, 3, 71, 0, 0), (46, .iload 6, 2, 0, 0, 0), (48, .bipush 12, 2, 0, 0, 0), (50, .if_icmp .ge 7, 3, 57, 0, 0), (53, .iload_n 3, 1, 0, 0, 0), (54, .goto 17, 3, 71, 0, 0), (57, .iload 6, 2, 0, 0, 0), (59, .bipush 16, 2, 0, 0, 0), (61, .if_icmp .ge 8, 3, 69, 0, 0), (64, .iload 4, 2, 0, 0, 0), (66, .goto 5, 3, 71, 0, 0), (69, .iload 5, 2, 0, 0, 0), (71, .istore 7, 2, 0, 0, 0), (73, .aload_n 0, 1, 0, 0, 0), (74, .getfield 7, 3, 11, 0, 2), (77, .aload_n 0, 1, 0, 0, 0), (78, .getfield 289, 3, 11, 2, 0), (81, .iload 6, 2, 0, 0, 0), (83, .iadd, 1, 0, 0, 0), (84, .iload 7, 2, 0, 0, 0), (86, .bipush 24, 2, 0, 0, 0), (88, .bipush 8, 2, 0, 0, 0), (90, .iload 6, 2, 0, 0, 0), (92, .iconst 3, 1, 0, 0, 0), (93, .iand, 1, 0, 0, 0), (94, .imul, 1, 0, 0, 0), (95, .isub, 1, 0, 0, 0), (96, .ishr, 1, 0, 0, 0), (97, .i2b, 1, 0, 0, 0), (98, .bastore, 1, 0, 0, 0), (99, .iinc 6 1, 3, 0, 0, 0), (102, .goto (-84), 3, 18, 0, 0), (105, .aload_n 0, 1, 0, 0, 0), (106, .dup, 1, 0, 0, 0), (107, .getfield 289, 3, 11, 2, 0), (110, .bipush 20, 2, 0, 0, 0), (112, .iadd, 1, 0, 0, 0), (113, .putfield 289, 3, 11, 2, 0), (116, .aload_n 0, 1, 0, 0, 0), (117, .getfield 289, 3, 11, 2, 0), (120, .ireturn, 1, 0, 0, 0)]
def cu_16 : List (Nat × List Nat) := [(18, [0, 1, 2, 3, 4, 5, 6]), (71, [0, 1, 2, 3, 4, 5, 6])]
def G_16 : tm_G := fun _ _ _ => none
noncomputable def F_16 : List Value → tm_M → Option tm_R := tm_m tm_sh none G_16 false cd_16 cu_16 64 8
theorem gg_16 : tm_Gg G_16 := fun _ _ _ _ h => by cases h
theorem gm_16 (l : Launch) : ∀ id as M r, G_16 id as M = some r → tm_MA tm_sh l (tm_mt id) as M r := fun _ _ _ _ h => by cases h
theorem gr_16 {as : List Value} {M : tm_M} {r : tm_R} (h : F_16 as M = some r) : tm_gr M r.2 := tm_m_gr gg_16 h
theorem ck_16 : tm_cdk (tm_mt 16).1.cls false tm_mt (tm_mt 16) false cd_16 := tm_cdk_of (LK := lk_RX11) (ix := [63, 64, 63, 63, 65, 63]) lc_RX11 (by decide +kernel)
theorem con_16 (l : Launch) {as : List Value} {M : tm_M} {r : tm_R} (h : F_16 as M = some r) : tm_MA tm_sh l (tm_mt 16) as M r := tm_sound (t := tm_mt 16) tm_Sok_ok tm_CL_ok gg_16 (gm_16 l) (fun _ _ => ⟨rfl, rfl⟩) ck_16 (by decide +kernel) (fun h => by cases h) (fun _ _ _ _ => tm_nos_all (by decide +kernel)) h
def cd_17 : List tm_E := [(0, .iload_n 1, 1, 0, 0, 0), (1, .ifCond .lt 11, 3, 12, 0, 0), (4, .iload_n 1, 1, 0, 0, 0), (5, .aload_n 0, 1, 0, 0, 0), (6, .getfield 75, 3, 10, 11, 0), (9, .if_icmp .le 5, 3, 14, 0, 0), (12, .iconst (-1), 1, 0, 0, 0), (13, .ireturn, 1, 0, 0, 0), (14, .aload_n 0, 1, 0, 0, 0), (15, .iload_n 1, 1, 0, 0, 0), (16, .putfield 75, 3, 10, 11, 0), (19, .iload_n 1, 1, 0, 0, 0), (20, .ireturn, 1, 0, 0, 0)]
def cu_17 : List (Nat × List Nat) := [(12, [])]
def G_17 : tm_G := fun _ _ _ => none
noncomputable def F_17 : List Value → tm_M → Option tm_R := tm_m tm_sh none G_17 false cd_17 cu_17 14 2
theorem gg_17 : tm_Gg G_17 := fun _ _ _ _ h => by cases h
theorem gm_17 (l : Launch) : ∀ id as M r, G_17 id as M = some r → tm_MA tm_sh l (tm_mt id) as M r := fun _ _ _ _ h => by cases h
theorem gr_17 {as : List Value} {M : tm_M} {r : tm_R} (h : F_17 as M = some r) : tm_gr M r.2 := tm_m_gr gg_17 h
theorem ck_17 : tm_cdk (tm_mt 17).1.cls false tm_mt (tm_mt 17) false cd_17 := tm_cdk_of (LK := lk_RX10) (ix := [29, 31]) lc_RX10 (by decide +kernel)
theorem con_17 (l : Launch) {as : List Value} {M : tm_M} {r : tm_R} (h : F_17 as M = some r) : tm_MA tm_sh l (tm_mt 17) as M r := tm_sound (t := tm_mt 17) tm_Sok_ok tm_CL_ok gg_17 (gm_17 l) (fun _ _ => ⟨rfl, rfl⟩) ck_17 (by decide +kernel) (fun h => by cases h) (fun _ _ _ _ => tm_nos_all (by decide +kernel)) h
def cd_18 : List tm_E := [(0, .iload_n 1, 1, 0, 0, 0), (1, .ifCond .lt 11, 3, 12, 0, 0), (4, .iload_n 1, 1, 0, 0, 0), (5, .aload_n 0, 1, 0, 0, 0), (6, .getfield 289, 3, 11, 2, 0), (9, .if_icmp .le 5, 3, 14, 0, 0), (12, .iconst (-1), 1, 0, 0, 0), (13, .ireturn, 1, 0, 0, 0), (14, .aload_n 0, 1, 0, 0, 0), (15, .iload_n 1, 1, 0, 0, 0), (16, .putfield 289, 3, 11, 2, 0), (19, .iload_n 1, 1, 0, 0, 0), (20, .ireturn, 1, 0, 0, 0)]
def cu_18 : List (Nat × List Nat) := [(12, [])]
def G_18 : tm_G := fun _ _ _ => none
noncomputable def F_18 : List Value → tm_M → Option tm_R := tm_m tm_sh none G_18 false cd_18 cu_18 14 2
theorem gg_18 : tm_Gg G_18 := fun _ _ _ _ h => by cases h
theorem gm_18 (l : Launch) : ∀ id as M r, G_18 id as M = some r → tm_MA tm_sh l (tm_mt id) as M r := fun _ _ _ _ h => by cases h
theorem gr_18 {as : List Value} {M : tm_M} {r : tm_R} (h : F_18 as M = some r) : tm_gr M r.2 := tm_m_gr gg_18 h
theorem ck_18 : tm_cdk (tm_mt 18).1.cls false tm_mt (tm_mt 18) false cd_18 := tm_cdk_of (LK := lk_RX11) (ix := [63, 65]) lc_RX11 (by decide +kernel)
theorem con_18 (l : Launch) {as : List Value} {M : tm_M} {r : tm_R} (h : F_18 as M = some r) : tm_MA tm_sh l (tm_mt 18) as M r := tm_sound (t := tm_mt 18) tm_Sok_ok tm_CL_ok gg_18 (gm_18 l) (fun _ _ => ⟨rfl, rfl⟩) ck_18 (by decide +kernel) (fun h => by cases h) (fun _ _ _ _ => tm_nos_all (by decide +kernel)) h
def cd_19 : List tm_E := [(0, .aload_n 0, 1, 0, 0, 0), (1, .getfield 75, 3, 10, 11, 0), (4, .istore_n 1, 1, 0, 0, 0), (5, .aload_n 0, 1, 0, 0, 0), (6, .iconst 0, 1, 0, 0, 0), (7, .putfield 75, 3, 10, 11, 0), (10, .iload_n 1, 1, 0, 0, 0), (11, .ireturn, 1, 0, 0, 0)]
def cu_19 : List (Nat × List Nat) := []
def G_19 : tm_G := fun _ _ _ => none
noncomputable def F_19 : List Value → tm_M → Option tm_R := tm_m tm_sh none G_19 false cd_19 cu_19 9 2
theorem gg_19 : tm_Gg G_19 := fun _ _ _ _ h => by cases h
theorem gm_19 (l : Launch) : ∀ id as M r, G_19 id as M = some r → tm_MA tm_sh l (tm_mt id) as M r := fun _ _ _ _ h => by cases h
theorem gr_19 {as : List Value} {M : tm_M} {r : tm_R} (h : F_19 as M = some r) : tm_gr M r.2 := tm_m_gr gg_19 h
theorem ck_19 : tm_cdk (tm_mt 19).1.cls false tm_mt (tm_mt 19) false cd_19 := tm_cdk_of (LK := lk_RX10) (ix := [29, 31]) lc_RX10 (by decide +kernel)
theorem con_19 (l : Launch) {as : List Value} {M : tm_M} {r : tm_R} (h : F_19 as M = some r) : tm_MA tm_sh l (tm_mt 19) as M r := tm_sound (t := tm_mt 19) tm_Sok_ok tm_CL_ok gg_19 (gm_19 l) (fun _ _ => ⟨rfl, rfl⟩) ck_19 (by decide +kernel) (fun h => by cases h) (fun _ _ _ _ => tm_nos_all (by decide +kernel)) h
def cd_20 : List tm_E := [(0, .iload_n 0, 1, 0, 0, 0), (1, .bipush 97, 2, 0, 0, 0), (3, .if_icmp .lt 13, 3, 16, 0, 0), (6, .iload_n 0, 1, 0, 0, 0), (7, .bipush 122, 2, 0, 0, 0), (9, .if_icmp .gt 7, 3, 16, 0, 0), (12, .iconst 1, 1, 0, 0, 0), (13, .goto 4, 3, 17, 0, 0), (16, .iconst 0, 1, 0, 0, 0), (17, .ireturn, 1, 0, 0, 0)]
def cu_20 : List (Nat × List Nat) := [(16, []), (17, [])]
def G_20 : tm_G := fun _ _ _ => none
noncomputable def F_20 : List Value → tm_M → Option tm_R := tm_m tm_sh none G_20 true cd_20 cu_20 11 1
theorem gg_20 : tm_Gg G_20 := fun _ _ _ _ h => by cases h
theorem gm_20 (l : Launch) : ∀ id as M r, G_20 id as M = some r → tm_MA tm_sh l (tm_mt id) as M r := fun _ _ _ _ h => by cases h
theorem gr_20 {as : List Value} {M : tm_M} {r : tm_R} (h : F_20 as M = some r) : tm_gr M r.2 := tm_m_gr gg_20 h
theorem ck_20 : tm_cdk (tm_mt 20).1.cls false tm_mt (tm_mt 20) true cd_20 := tm_cdk_of (LK := lk_RX10) (ix := []) lc_RX10 (by decide +kernel)
theorem con_20 (l : Launch) {as : List Value} {M : tm_M} {r : tm_R} (h : F_20 as M = some r) : tm_MA tm_sh l (tm_mt 20) as M r := tm_sound (t := tm_mt 20) tm_Sok_ok tm_CL_ok gg_20 (gm_20 l) (fun _ _ => ⟨rfl, rfl⟩) ck_20 (by decide +kernel) (fun h => by cases h) (fun _ _ _ _ => tm_nos_all (by decide +kernel)) h
def cd_21 : List tm_E := [(0, .iconst 0, 1, 0, 0, 0), (1, .istore_n 1, 1, 0, 0, 0), (2, .iload_n 1, 1, 0, 0, 0), (3, .bipush 23, 2, 0, 0, 0), (5, .if_icmp .ge 25, 3, 30, 0, 0), (8, .aload_n 0, 1, 0, 0, 0), (9, .getfield 15, 3, 5, 1, 2), (12, .iload_n 1, 1, 0, 0, 0), (13, .laload, 1, 0, 0, 0), (14, .aload_n 0, 1, 0, 0, 0), (15, .getfield 89, 3, 5, 9, 1), (18, .lcmp, 1, 0, 0, 0), (19, .ifCond .ne 5, 3, 24, 0, 0), (22, .iload_n 1, 1, 0, 0, 0), (23, .ireturn, 1, 0, 0, 0), (24, .iinc 1 1, 3, 0, 0, 0), (27, .goto (-25), 3, 2, 0, 0), (30, .bipush 30, 2, 0, 0, 0), (32, .ireturn, 1, 0, 0, 0)]
def cu_21 : List (Nat × List Nat) := [(2, [0, 1])]
def G_21 : tm_G := fun _ _ _ => none
noncomputable def F_21 : List Value → tm_M → Option tm_R := tm_m tm_sh none G_21 false cd_21 cu_21 20 2
theorem gg_21 : tm_Gg G_21 := fun _ _ _ _ h => by cases h
theorem gm_21 (l : Launch) : ∀ id as M r, G_21 id as M = some r → tm_MA tm_sh l (tm_mt id) as M r := fun _ _ _ _ h => by cases h
theorem gr_21 {as : List Value} {M : tm_M} {r : tm_R} (h : F_21 as M = some r) : tm_gr M r.2 := tm_m_gr gg_21 h
theorem ck_21 : tm_cdk (tm_mt 21).1.cls false tm_mt (tm_mt 21) false cd_21 := tm_cdk_of (LK := lk_RX5) (ix := [12, 13]) lc_RX5 (by decide +kernel)
theorem con_21 (l : Launch) {as : List Value} {M : tm_M} {r : tm_R} (h : F_21 as M = some r) : tm_MA tm_sh l (tm_mt 21) as M r := tm_sound (t := tm_mt 21) tm_Sok_ok tm_CL_ok gg_21 (gm_21 l) (fun _ _ => ⟨rfl, rfl⟩) ck_21 (by decide +kernel) (fun h => by cases h) (fun _ _ _ _ => tm_nos_all (by decide +kernel)) h
def cd_22 : List tm_E := [(0, .aload_n 0, 1, 0, 0, 0), (1, .lconst 0, 1, 0, 0, 0), (2, .putfield 89, 3, 5, 9, 1), (5, .aload_n 0, 1, 0, 0, 0), (6, .getfield 52, 3, 5, 3, 0), (9, .aload_n 0, 1, 0, 0, 0), (10, .getfield 50, 3, 5, 2, 0), (13, .if_icmp .ge 51, 3, 64, 0, 0), (16, .aload_n 0, 1, 0, 0, 0), (17, .getfield 9, 3, 5, 0, 2), (20, .aload_n 0, 1, 0, 0, 0), (21, .getfield 52, 3, 5, 3, 0), (24, .baload, 1, 0, 0, 0), (25, .invokestatic 71, 3, 20, 1, 1), (28, .ifCond .eq 36, 3, 64, 0, 0), (31, .aload_n 0, 1, 0, 0, 0), (32, .aload_n 0, 1, 0, 0, 0), (33, .getfield 89, 3, 5, 9, 1), (36, .aload_n 0, 1, 0, 0, 0), (37, .getfield 9, 3, 5, 0, 2), (40, .aload_n 0, 1, 0, 0, 0), (41, .getfield 52, 3, 5, 3, 0), (44, .baload, 1, 0, 0, 0), (45, .invokestatic 38, 3, 1, 2, 2), (48, .putfield 89, 3, 5, 9, 1), (51, .aload_n 0, 1, 0, 0, 0), (52, .dup, 1, 0, 0, 0), (53, .getfield 52, 3, 5, 3, 0), (56, .iconst 1, 1, 0, 0, 0), (57, .iadd, 1, 0, 0, 0), (58, .putfield 52, 3, 5, 3, 0), (61, .goto (-56), 3, 5, 0, 0), (64, .aload_n 0, 1, 0, 0, 0), (65, .aload_n 0, 1, 0, 0, 0), (66, .getfield 52, 3, 5, 3, 0), (69, .aload_n 0, 1, 0, 0, 0), (70, .getfield 61, 3, 5, 6, 0), (73, .isub, 1, 0, 0, 0), (74, .bipush 8, 2, 0, 0, 0), (76, .if_icmp .le 8, 3, 84, 0, 0), (79, .bipush 36, 2, 0, 0, 0), (81, .goto 7, 3, 88, 0, 0), (84, .aload_n 0, 1, 0, 0, 0), (85, .invokevirtual 93, 3, 21, 0, 21), (88, .putfield 23, 3, 5, 7, 0), (91, .return_, 1, 0, 0, 0)]
def cu_22 : List (Nat × List Nat) := [(5, [0]), (28, [0]), (48, [0]), (64, [0]), (88, [])]
noncomputable def G_22 : tm_G := fun id as M => if id = 20 then F_20 as M else if id = 1 then F_1 as M else if id = 21 then F_21 as M else none
noncomputable def F_22 : List Value → tm_M → Option tm_R := tm_m tm_sh none G_22 false cd_22 cu_22 47 1
theorem gg_22 : tm_Gg G_22 := by
  intro id as M r h
  unfold G_22 at h
  rcases tm_ite_e h with ⟨_, h⟩ | ⟨_, h⟩
  · exact gr_20 h
  rcases tm_ite_e h with ⟨_, h⟩ | ⟨_, h⟩
  · exact gr_1 h
  rcases tm_ite_e h with ⟨_, h⟩ | ⟨_, h⟩
  · exact gr_21 h
  cases h
theorem gm_22 (l : Launch) : ∀ id as M r, G_22 id as M = some r → tm_MA tm_sh l (tm_mt id) as M r := by
  intro id as M r h
  unfold G_22 at h
  rcases tm_ite_e h with ⟨rfl, h⟩ | ⟨_, h⟩
  · exact con_20 l h
  rcases tm_ite_e h with ⟨rfl, h⟩ | ⟨_, h⟩
  · exact con_1 l h
  rcases tm_ite_e h with ⟨rfl, h⟩ | ⟨_, h⟩
  · exact con_21 l h
  cases h
theorem gr_22 {as : List Value} {M : tm_M} {r : tm_R} (h : F_22 as M = some r) : tm_gr M r.2 := tm_m_gr gg_22 h
theorem ck_22 : tm_cdk (tm_mt 22).1.cls false tm_mt (tm_mt 22) false cd_22 := tm_cdk_of (LK := lk_RX5) (ix := [14, 15, 16, 17, 15, 18, 13, 17, 15, 11, 14, 15, 19, 15, 20, 21, 7]) lc_RX5 (by decide +kernel)
theorem con_22 (l : Launch) {as : List Value} {M : tm_M} {r : tm_R} (h : F_22 as M = some r) : tm_MA tm_sh l (tm_mt 22) as M r := tm_sound (t := tm_mt 22) tm_Sok_ok tm_CL_ok gg_22 (gm_22 l) (fun _ _ => ⟨rfl, rfl⟩) ck_22 (by decide +kernel) (fun h => by cases h) (fun _ _ _ _ => tm_nos_all (by decide +kernel)) h
def cd_23 : List tm_E := [(0, .iload_n 0, 1, 0, 0, 0), (1, .bipush 48, 2, 0, 0, 0), (3, .if_icmp .lt 13, 3, 16, 0, 0), (6, .iload_n 0, 1, 0, 0, 0), (7, .bipush 57, 2, 0, 0, 0), (9, .if_icmp .gt 7, 3, 16, 0, 0), (12, .iconst 1, 1, 0, 0, 0), (13, .goto 4, 3, 17, 0, 0), (16, .iconst 0, 1, 0, 0, 0), (17, .ireturn, 1, 0, 0, 0)]
def cu_23 : List (Nat × List Nat) := [(16, []), (17, [])]
def G_23 : tm_G := fun _ _ _ => none
noncomputable def F_23 : List Value → tm_M → Option tm_R := tm_m tm_sh none G_23 true cd_23 cu_23 11 1
theorem gg_23 : tm_Gg G_23 := fun _ _ _ _ h => by cases h
theorem gm_23 (l : Launch) : ∀ id as M r, G_23 id as M = some r → tm_MA tm_sh l (tm_mt id) as M r := fun _ _ _ _ h => by cases h
theorem gr_23 {as : List Value} {M : tm_M} {r : tm_R} (h : F_23 as M = some r) : tm_gr M r.2 := tm_m_gr gg_23 h
theorem ck_23 : tm_cdk (tm_mt 23).1.cls false tm_mt (tm_mt 23) true cd_23 := tm_cdk_of (LK := lk_RX10) (ix := []) lc_RX10 (by decide +kernel)
theorem con_23 (l : Launch) {as : List Value} {M : tm_M} {r : tm_R} (h : F_23 as M = some r) : tm_MA tm_sh l (tm_mt 23) as M r := tm_sound (t := tm_mt 23) tm_Sok_ok tm_CL_ok gg_23 (gm_23 l) (fun _ _ => ⟨rfl, rfl⟩) ck_23 (by decide +kernel) (fun h => by cases h) (fun _ _ _ _ => tm_nos_all (by decide +kernel)) h
def cd_24 : List tm_E := [(0, .aload_n 0, 1, 0, 0, 0), (1, .iconst 0, 1, 0, 0, 0), (2, .putfield 68, 3, 5, 8, 0), (5, .aload_n 0, 1, 0, 0, 0), (6, .getfield 52, 3, 5, 3, 0), (9, .aload_n 0, 1, 0, 0, 0), (10, .getfield 50, 3, 5, 2, 0), (13, .if_icmp .ge 55, 3, 68, 0, 0), (16, .aload_n 0, 1, 0, 0, 0), (17, .getfield 9, 3, 5, 0, 2), (20, .aload_n 0, 1, 0, 0, 0), (21, .getfield 52, 3, 5, 3, 0), (24, .baload, 1, 0, 0, 0), (25, .invokestatic 77, 3, 23, 1, 1), (28, .ifCond .eq 40, 3, 68, 0, 0), (31, .aload_n 0, 1, 0, 0, 0), (32, .aload_n 0, 1, 0, 0, 0), (33, .getfield 68, 3, 5, 8, 0), (36, .bipush 10, 2, 0, 0, 0), (38, .imul, 1, 0, 0, 0), (39, .aload_n 0, 1, 0, 0, 0), (40, .getfield 9, 3, 5, 0, 2), (43, .aload_n 0, 1, 0, 0, 0), (44, .getfield 52, 3, 5, 3, 0), (47, .baload, 1, 0, 0, 0), (48, .bipush 48, 2, 0, 0, 0), (50, .isub, 1, 0, 0, 0), (51, .iadd, 1, 0, 0, 0), (52, .putfield 68, 3, 5, 8, 0), (55, .aload_n 0, 1, 0, 0, 0), (56, .dup, 1, 0, 0, 0), (57, .getfield 52, 3, 5, 3, 0), (60, .iconst 1, 1, 0, 0, 0), (61, .iadd, 1, 0, 0, 0), (62, .putfield 52, 3, 5, 3, 0), (65, .goto (-60), 3, 5, 0, 0), (68, .aload_n 0, 1, 0, 0, 0), (69, .getfield 52, 3, 5, 3, 0), (72, .aload_n 0, 1, 0, 0, 0), (73, .getfield 50, 3, 5, 2, 0), (76, .if_icmp .ge 22, 3, 98, 0, 0), (79, .aload_n 0, 1, 0, 0, 0), (80, .getfield 9, 3, 5, 0, 2), (83, .aload_n 0, 1, 0, 0, 0), (84, .getfield 52, 3, 5, 3, 0), (87, .baload, 1, 0, 0, 0), (88, .invokestatic 71, 3, 20, 1, 1), (91, .ifCond .eq 7, 3, 98, 0, 0), (94, .iconst 1, 1, 0, 0, 0), (95, .goto 4, 3, 99, 0, 0), (98, .iconst 0, 1, 0, 0, 0), (99, .istore_n 1, 1, 0, 0, 0), (100, .aload_n 0, 1, 0, 0, 0), (101, .aload_n 0, 1, 0, 0, 0), (102, .getfield 52, 3, 5, 3, 0), (105, .aload_n 0, 1, 0, 0, 0), (106, .getfield 61, 3, 5, 6, 0), (109, .isub, 1, 0, 0, 0), (110, .iconst 3, 1, 0, 0, 0), (111, .if_icmp .gt 7, 3, 118, 0, 0), (114, .iload_n 1, 1, 0, 0, 0), (115, .ifCond .eq 8, 3, 123, 0, 0), (118, .bipush 36, 2, 0, 0, 0), (120, .goto 5, 3, 125, 0, 0), (123, .bipush 31, 2, 0, 0, 0), (125, .putfield 23, 3, 5, 7, 0), (128, .return_, 1, 0, 0, 0)]
def cu_24 : List (Nat × List Nat) := [(5, [0]), (28, [0]), (68, [0]), (91, [0]), (98, [0]), (99, [0]), (118, []), (125, [])]
noncomputable def G_24 : tm_G := fun id as M => if id = 23 then F_23 as M else if id = 20 then F_20 as M else none
noncomputable def F_24 : List Value → tm_M → Option tm_R := tm_m tm_sh none G_24 false cd_24 cu_24 68 2
theorem gg_24 : tm_Gg G_24 := by
  intro id as M r h
  unfold G_24 at h
  rcases tm_ite_e h with ⟨_, h⟩ | ⟨_, h⟩
  · exact gr_23 h
  rcases tm_ite_e h with ⟨_, h⟩ | ⟨_, h⟩
  · exact gr_20 h
  cases h
theorem gm_24 (l : Launch) : ∀ id as M r, G_24 id as M = some r → tm_MA tm_sh l (tm_mt id) as M r := by
  intro id as M r h
  unfold G_24 at h
  rcases tm_ite_e h with ⟨rfl, h⟩ | ⟨_, h⟩
  · exact con_23 l h
  rcases tm_ite_e h with ⟨rfl, h⟩ | ⟨_, h⟩
  · exact con_20 l h
  cases h
theorem gr_24 {as : List Value} {M : tm_M} {r : tm_R} (h : F_24 as M = some r) : tm_gr M r.2 := tm_m_gr gg_24 h
theorem ck_24 : tm_cdk (tm_mt 24).1.cls false tm_mt (tm_mt 24) false cd_24 := tm_cdk_of (LK := lk_RX5) (ix := [22, 15, 16, 17, 15, 23, 24, 17, 15, 22, 15, 19, 15, 16, 17, 15, 18, 15, 20, 7]) lc_RX5 (by decide +kernel)
theorem con_24 (l : Launch) {as : List Value} {M : tm_M} {r : tm_R} (h : F_24 as M = some r) : tm_MA tm_sh l (tm_mt 24) as M r := tm_sound (t := tm_mt 24) tm_Sok_ok tm_CL_ok gg_24 (gm_24 l) (fun _ _ => ⟨rfl, rfl⟩) ck_24 (by decide +kernel) (fun h => by cases h) (fun _ _ _ _ => tm_nos_all (by decide +kernel)) h
def cd_25 : List tm_E := [(0, .iload_n 0, 1, 0, 0, 0), (1, .lookupswitch 51 #[(45, 43), (98, 49), (108, 45), (114, 47)], 43, 0, 0, 0), (44, .iconst 0, 1, 0, 0, 0), (45, .ireturn, 1, 0, 0, 0), (46, .iconst 1, 1, 0, 0, 0), (47, .ireturn, 1, 0, 0, 0), (48, .iconst 2, 1, 0, 0, 0), (49, .ireturn, 1, 0, 0, 0), (50, .iconst 3, 1, 0, 0, 0), (51, .ireturn, 1, 0, 0, 0), (52, .iconst (-1), 1, 0, 0, 0), (53, .ireturn, 1, 0, 0, 0)]
def cu_25 : List (Nat × List Nat) := []
def G_25 : tm_G := fun _ _ _ => none
noncomputable def F_25 : List Value → tm_M → Option tm_R := tm_m tm_sh none G_25 false cd_25 cu_25 13 1
theorem gg_25 : tm_Gg G_25 := fun _ _ _ _ h => by cases h
theorem gm_25 (l : Launch) : ∀ id as M r, G_25 id as M = some r → tm_MA tm_sh l (tm_mt id) as M r := fun _ _ _ _ h => by cases h
theorem gr_25 {as : List Value} {M : tm_M} {r : tm_R} (h : F_25 as M = some r) : tm_gr M r.2 := tm_m_gr gg_25 h
theorem ck_25 : tm_cdk (tm_mt 25).1.cls false tm_mt (tm_mt 25) false cd_25 := tm_cdk_of (LK := lk_RX10) (ix := []) lc_RX10 (by decide +kernel)
theorem con_25 (l : Launch) {as : List Value} {M : tm_M} {r : tm_R} (h : F_25 as M = some r) : tm_MA tm_sh l (tm_mt 25) as M r := tm_sound (t := tm_mt 25) tm_Sok_ok tm_CL_ok gg_25 (gm_25 l) (fun _ _ => ⟨rfl, rfl⟩) ck_25 (by decide +kernel) (fun h => by cases h) (fun _ _ _ _ => tm_nos_all (by decide +kernel)) h
def cd_26 : List tm_E := [(0, .aload_n 0, 1, 0, 0, 0), (1, .dup, 1, 0, 0, 0), (2, .getfield 52, 3, 5, 3, 0), (5, .iconst 1, 1, 0, 0, 0), (6, .iadd, 1, 0, 0, 0), (7, .putfield 52, 3, 5, 3, 0), (10, .aload_n 0, 1, 0, 0, 0), (11, .getfield 52, 3, 5, 3, 0), (14, .aload_n 0, 1, 0, 0, 0), (15, .getfield 50, 3, 5, 2, 0), (18, .if_icmp .ge 32, 3, 50, 0, 0), (21, .aload_n 0, 1, 0, 0, 0), (22, .getfield 9, 3, 5, 0, 2), (25, .aload_n 0, 1, 0, 0, 0), (26, .getfield 52, 3, 5, 3, 0), (29, .baload, 1, 0, 0, 0), (30, .invokestatic 96, 3, 25, 1, 1), (33, .iconst (-1), 1, 0, 0, 0), (34, .if_icmp .eq 16, 3, 50, 0, 0), (37, .aload_n 0, 1, 0, 0, 0), (38, .dup, 1, 0, 0, 0), (39, .getfield 52, 3, 5, 3, 0), (42, .iconst 1, 1, 0, 0, 0), (43, .iadd, 1, 0, 0, 0), (44, .putfield 52, 3, 5, 3, 0), (47, .goto (-37), 3, 10, 0, 0), (50, .aload_n 0, 1, 0, 0, 0), (51, .aload_n 0, 1, 0, 0, 0), (52, .getfield 52, 3, 5, 3, 0), (55, .aload_n 0, 1, 0, 0, 0), (56, .getfield 61, 3, 5, 6, 0), (59, .isub, 1, 0, 0, 0), (60, .iconst 1, 1, 0, 0, 0), (61, .isub, 1, 0, 0, 0), (62, .putfield 68, 3, 5, 8, 0), (65, .aload_n 0, 1, 0, 0, 0), (66, .getfield 52, 3, 5, 3, 0), (69, .aload_n 0, 1, 0, 0, 0), (70, .getfield 50, 3, 5, 2, 0), (73, .if_icmp .ge 21, 3, 94, 0, 0), (76, .aload_n 0, 1, 0, 0, 0), (77, .getfield 9, 3, 5, 0, 2), (80, .aload_n 0, 1, 0, 0, 0), (81, .getfield 52, 3, 5, 3, 0), (84, .baload, 1, 0, 0, 0), (85, .bipush 34, 2, 0, 0, 0), (87, .if_icmp .ne 7, 3, 94, 0, 0), (90, .iconst 1, 1, 0, 0, 0), (91, .goto 4, 3, 95, 0, 0), (94, .iconst 0, 1, 0, 0, 0), (95, .istore_n 1, 1, 0, 0, 0), (96, .iload_n 1, 1, 0, 0, 0), (97, .ifCond .eq 13, 3, 110, 0, 0), (100, .aload_n 0, 1, 0, 0, 0), (101, .dup, 1, 0, 0, 0), (102, .getfield 52, 3, 5, 3, 0), (105, .iconst 1, 1, 0, 0, 0), (106, .iadd, 1, 0, 0, 0), (107, .putfield 52, 3, 5, 3, 0), (110, .aload_n 0, 1, 0, 0, 0), (111, .getfield 68, 3, 5, 8, 0), (114, .iconst 4, 1, 0, 0, 0), (115, .if_icmp .lt 25, 3, 140, 0, 0), (118, .aload_n 0, 1, 0, 0, 0), (119, .getfield 68, 3, 5, 8, 0), (122, .bipush 32, 2, 0, 0, 0), (124, .if_icmp .gt 16, 3, 140, 0, 0), (127, .aload_n 0, 1, 0, 0, 0), (128, .getfield 68, 3, 5, 8, 0), (131, .iconst 4, 1, 0, 0, 0), (132, .irem, 1, 0, 0, 0), (133, .ifCond .ne 7, 3, 140, 0, 0), (136, .iconst 1, 1, 0, 0, 0), (137, .goto 4, 3, 141, 0, 0), (140, .iconst 0, 1, 0, 0, 0), (141, .istore_n 2, 1, 0, 0, 0), (142, .aload_n 0, 1, 0, 0, 0), (143, .iload_n 1, 1, 0, 0, 0), (144, .ifCond .eq 12, 3, 156, 0, 0), (147, .iload_n 2, 1, 0, 0, 0), (148, .ifCond .eq 8, 3, 156, 0, 0), (151, .bipush 32, 2, 0, 0, 0), (153, .goto 5, 3, 158, 0, 0), (156, .bipush 36, 2, 0, 0, 0), (158, .putfield 23, 3, 5, 7, 0), (161, .return_, 1, 0, 0, 0)]
def cu_26 : List (Nat × List Nat) := [(10, [0]), (33, [0]), (50, [0]), (94, [0]), (95, [0]), (110, [0, 1]), (140, [0, 1]), (141, [0, 1]), (156, []), (158, [])]
noncomputable def G_26 : tm_G := fun id as M => if id = 25 then F_25 as M else none
noncomputable def F_26 : List Value → tm_M → Option tm_R := tm_m tm_sh none G_26 false cd_26 cu_26 87 3
theorem gg_26 : tm_Gg G_26 := by
  intro id as M r h
  unfold G_26 at h
  rcases tm_ite_e h with ⟨_, h⟩ | ⟨_, h⟩
  · exact gr_25 h
  cases h
theorem gm_26 (l : Launch) : ∀ id as M r, G_26 id as M = some r → tm_MA tm_sh l (tm_mt id) as M r := by
  intro id as M r h
  unfold G_26 at h
  rcases tm_ite_e h with ⟨rfl, h⟩ | ⟨_, h⟩
  · exact con_25 l h
  cases h
theorem gr_26 {as : List Value} {M : tm_M} {r : tm_R} (h : F_26 as M = some r) : tm_gr M r.2 := tm_m_gr gg_26 h
theorem ck_26 : tm_cdk (tm_mt 26).1.cls false tm_mt (tm_mt 26) false cd_26 := tm_cdk_of (LK := lk_RX5) (ix := [15, 19, 15, 16, 17, 15, 25, 15, 19, 15, 20, 22, 15, 16, 17, 15, 15, 19, 24, 24, 24, 7]) lc_RX5 (by decide +kernel)
theorem con_26 (l : Launch) {as : List Value} {M : tm_M} {r : tm_R} (h : F_26 as M = some r) : tm_MA tm_sh l (tm_mt 26) as M r := tm_sound (t := tm_mt 26) tm_Sok_ok tm_CL_ok gg_26 (gm_26 l) (fun _ _ => ⟨rfl, rfl⟩) ck_26 (by decide +kernel) (fun h => by cases h) (fun _ _ _ _ => tm_nos_all (by decide +kernel)) h
def cd_27 : List tm_E := [(0, .aload_n 0, 1, 0, 0, 0), (1, .getfield 9, 3, 5, 0, 2), (4, .aload_n 0, 1, 0, 0, 0), (5, .getfield 52, 3, 5, 3, 0), (8, .baload, 1, 0, 0, 0), (9, .lookupswitch 45 #[(58, 27), (59, 36)], 27, 0, 0, 0), (36, .aload_n 0, 1, 0, 0, 0), (37, .bipush 33, 2, 0, 0, 0), (39, .putfield 23, 3, 5, 7, 0), (42, .goto 18, 3, 60, 0, 0), (45, .aload_n 0, 1, 0, 0, 0), (46, .bipush 34, 2, 0, 0, 0), (48, .putfield 23, 3, 5, 7, 0), (51, .goto 9, 3, 60, 0, 0), (54, .aload_n 0, 1, 0, 0, 0), (55, .bipush 36, 2, 0, 0, 0), (57, .putfield 23, 3, 5, 7, 0), (60, .aload_n 0, 1, 0, 0, 0), (61, .dup, 1, 0, 0, 0), (62, .getfield 52, 3, 5, 3, 0), (65, .iconst 1, 1, 0, 0, 0), (66, .iadd, 1, 0, 0, 0), (67, .putfield 52, 3, 5, 3, 0), (70, .return_, 1, 0, 0, 0)]
def cu_27 : List (Nat × List Nat) := [(60, [0])]
def G_27 : tm_G := fun _ _ _ => none
noncomputable def F_27 : List Value → tm_M → Option tm_R := tm_m tm_sh none G_27 false cd_27 cu_27 25 1
theorem gg_27 : tm_Gg G_27 := fun _ _ _ _ h => by cases h
theorem gm_27 (l : Launch) : ∀ id as M r, G_27 id as M = some r → tm_MA tm_sh l (tm_mt id) as M r := fun _ _ _ _ h => by cases h
theorem gr_27 {as : List Value} {M : tm_M} {r : tm_R} (h : F_27 as M = some r) : tm_gr M r.2 := tm_m_gr gg_27 h
theorem ck_27 : tm_cdk (tm_mt 27).1.cls false tm_mt (tm_mt 27) false cd_27 := tm_cdk_of (LK := lk_RX5) (ix := [17, 15, 7, 7, 7, 15, 19]) lc_RX5 (by decide +kernel)
theorem con_27 (l : Launch) {as : List Value} {M : tm_M} {r : tm_R} (h : F_27 as M = some r) : tm_MA tm_sh l (tm_mt 27) as M r := tm_sound (t := tm_mt 27) tm_Sok_ok tm_CL_ok gg_27 (gm_27 l) (fun _ _ => ⟨rfl, rfl⟩) ck_27 (by decide +kernel) (fun h => by cases h) (fun _ _ _ _ => tm_nos_all (by decide +kernel)) h
def cd_28 : List tm_E := [(0, .aload_n 0, 1, 0, 0, 0), (1, .getfield 52, 3, 5, 3, 0), (4, .aload_n 0, 1, 0, 0, 0), (5, .getfield 50, 3, 5, 2, 0), (8, .if_icmp .ge 44, 3, 52, 0, 0), (11, .aload_n 0, 1, 0, 0, 0), (12, .getfield 9, 3, 5, 0, 2), (15, .aload_n 0, 1, 0, 0, 0), (16, .getfield 52, 3, 5, 3, 0), (19, .baload, 1, 0, 0, 0), (20, .bipush 32, 2, 0, 0, 0), (22, .if_icmp .eq 17, 3, 39, 0, 0), (25, .aload_n 0, 1, 0, 0, 0), (26, .getfield 9, 3, 5, 0, 2), (29, .aload_n 0, 1, 0, 0, 0), (30, .getfield 52, 3, 5, 3, 0), (33, .baload, 1, 0, 0, 0), (34, .bipush 10, 2, 0, 0, 0), (36, .if_icmp .ne 16, 3, 52, 0, 0), (39, .aload_n 0, 1, 0, 0, 0), (40, .dup, 1, 0, 0, 0), (41, .getfield 52, 3, 5, 3, 0), (44, .iconst 1, 1, 0, 0, 0), (45, .iadd, 1, 0, 0, 0), (46, .putfield 52, 3, 5, 3, 0), (49, .goto (-49), 3, 0, 0, 0), (52, .aload_n 0, 1, 0, 0, 0), (53, .aload_n 0, 1, 0, 0, 0), (54, .getfield 52, 3, 5, 3, 0), (57, .putfield 61, 3, 5, 6, 0), (60, .aload_n 0, 1, 0, 0, 0), (61, .getfield 52, 3, 5, 3, 0), (64, .aload_n 0, 1, 0, 0, 0), (65, .getfield 50, 3, 5, 2, 0), (68, .if_icmp .lt 12, 3, 80, 0, 0), (71, .aload_n 0, 1, 0, 0, 0), (72, .bipush 35, 2, 0, 0, 0), (74, .putfield 23, 3, 5, 7, 0), (77, .goto 72, 3, 149, 0, 0), (80, .aload_n 0, 1, 0, 0, 0), (81, .getfield 9, 3, 5, 0, 2), (84, .aload_n 0, 1, 0, 0, 0), (85, .getfield 52, 3, 5, 3, 0), (88, .baload, 1, 0, 0, 0), (89, .invokestatic 71, 3, 20, 1, 1), (92, .ifCond .eq 10, 3, 102, 0, 0), (95, .aload_n 0, 1, 0, 0, 0), (96, .invokevirtual 74, 3, 22, 0, 20), (99, .goto 50, 3, 149, 0, 0), (102, .aload_n 0, 1, 0, 0, 0), (103, .getfield 9, 3, 5, 0, 2), (106, .aload_n 0, 1, 0, 0, 0), (107, .getfield 52, 3, 5, 3, 0), (110, .baload, 1, 0, 0, 0), (111, .invokestatic 77, 3, 23, 1, 1), (114, .ifCond .eq 10, 3, 124, 0, 0), (117, .aload_n 0, 1, 0, 0, 0), (118, .invokevirtual 80, 3, 24, 0, 20), (121, .goto 28, 3, 149, 0, 0), (124, .aload_n 0, 1, 0, 0, 0), (125, .getfield 9, 3, 5, 0, 2), (128, .aload_n 0, 1, 0, 0, 0), (129, .getfield 52, 3, 5, 3, 0), (132, .baload, 1, 0, 0, 0), (133, .bipush 34, 2, 0, 0, 0), (135, .if_icmp .ne 10, 3, 145, 0, 0), (138, .aload_n 0, 1, 0, 0, 0), (139, .invokevirtual 83, 3, 26, 0, 20), (142, .goto 7, 3, 149, 0, 0), (145, .aload_n 0, 1, 0, 0, 0), (146, .invokevirtual 86, 3, 27, 0, 20), (149, .return_, 1, 0, 0, 0)]
def cu_28 : List (Nat × List Nat) := [(0, [0]), (39, [0]), (52, [0]), (92, [0]), (99, []), (114, [0]), (121, []), (142, []), (149, [])]
noncomputable def G_28 : tm_G := fun id as M => if id = 20 then F_20 as M else if id = 22 then F_22 as M else if id = 23 then F_23 as M else if id = 24 then F_24 as M else if id = 26 then F_26 as M else if id = 27 then F_27 as M else none
noncomputable def F_28 : List Value → tm_M → Option tm_R := tm_m tm_sh none G_28 false cd_28 cu_28 73 1
theorem gg_28 : tm_Gg G_28 := by
  intro id as M r h
  unfold G_28 at h
  rcases tm_ite_e h with ⟨_, h⟩ | ⟨_, h⟩
  · exact gr_20 h
  rcases tm_ite_e h with ⟨_, h⟩ | ⟨_, h⟩
  · exact gr_22 h
  rcases tm_ite_e h with ⟨_, h⟩ | ⟨_, h⟩
  · exact gr_23 h
  rcases tm_ite_e h with ⟨_, h⟩ | ⟨_, h⟩
  · exact gr_24 h
  rcases tm_ite_e h with ⟨_, h⟩ | ⟨_, h⟩
  · exact gr_26 h
  rcases tm_ite_e h with ⟨_, h⟩ | ⟨_, h⟩
  · exact gr_27 h
  cases h
theorem gm_28 (l : Launch) : ∀ id as M r, G_28 id as M = some r → tm_MA tm_sh l (tm_mt id) as M r := by
  intro id as M r h
  unfold G_28 at h
  rcases tm_ite_e h with ⟨rfl, h⟩ | ⟨_, h⟩
  · exact con_20 l h
  rcases tm_ite_e h with ⟨rfl, h⟩ | ⟨_, h⟩
  · exact con_22 l h
  rcases tm_ite_e h with ⟨rfl, h⟩ | ⟨_, h⟩
  · exact con_23 l h
  rcases tm_ite_e h with ⟨rfl, h⟩ | ⟨_, h⟩
  · exact con_24 l h
  rcases tm_ite_e h with ⟨rfl, h⟩ | ⟨_, h⟩
  · exact con_26 l h
  rcases tm_ite_e h with ⟨rfl, h⟩ | ⟨_, h⟩
  · exact con_27 l h
  cases h
theorem gr_28 {as : List Value} {M : tm_M} {r : tm_R} (h : F_28 as M = some r) : tm_gr M r.2 := tm_m_gr gg_28 h
theorem ck_28 : tm_cdk (tm_mt 28).1.cls false tm_mt (tm_mt 28) false cd_28 := tm_cdk_of (LK := lk_RX5) (ix := [15, 16, 17, 15, 17, 15, 15, 19, 15, 26, 15, 16, 7, 17, 15, 18, 27, 17, 15, 23, 28, 17, 15, 29, 30]) lc_RX5 (by decide +kernel)
theorem con_28 (l : Launch) {as : List Value} {M : tm_M} {r : tm_R} (h : F_28 as M = some r) : tm_MA tm_sh l (tm_mt 28) as M r := tm_sound (t := tm_mt 28) tm_Sok_ok tm_CL_ok gg_28 (gm_28 l) (fun _ _ => ⟨rfl, rfl⟩) ck_28 (by decide +kernel) (fun h => by cases h) (fun _ _ _ _ => tm_nos_all (by decide +kernel)) h
def cd_29 : List tm_E := [(0, .aload_n 0, 1, 0, 0, 0), (1, .aload_n 1, 1, 0, 0, 0), (2, .putfield 9, 3, 5, 0, 2), (5, .aload_n 0, 1, 0, 0, 0), (6, .iload_n 2, 1, 0, 0, 0), (7, .aload_n 1, 1, 0, 0, 0), (8, .arraylength, 1, 0, 0, 0), (9, .invokestatic 44, 3, 9004, 2, 1), (12, .putfield 50, 3, 5, 2, 0), (15, .aload_n 0, 1, 0, 0, 0), (16, .iconst 0, 1, 0, 0, 0), (17, .putfield 52, 3, 5, 3, 0), (20, .aload_n 0, 1, 0, 0, 0), (21, .iconst 0, 1, 0, 0, 0), (22, .putfield 55, 3, 5, 4, 0), (25, .aload_n 0, 1, 0, 0, 0), (26, .iconst (-1), 1, 0, 0, 0), (27, .putfield 19, 3, 5, 5, 0), (30, .aload_n 0, 1, 0, 0, 0), (31, .invokevirtual 58, 3, 28, 0, 20), (34, .return_, 1, 0, 0, 0)]
def cu_29 : List (Nat × List Nat) := [(34, [])]
noncomputable def G_29 : tm_G := fun id as M => if id = 28 then F_28 as M else none
noncomputable def F_29 : List Value → tm_M → Option tm_R := tm_m tm_sh none G_29 false cd_29 cu_29 22 3
theorem gg_29 : tm_Gg G_29 := by
  intro id as M r h
  unfold G_29 at h
  rcases tm_ite_e h with ⟨_, h⟩ | ⟨_, h⟩
  · exact gr_28 h
  cases h
theorem gm_29 (l : Launch) : ∀ id as M r, G_29 id as M = some r → tm_MA tm_sh l (tm_mt id) as M r := by
  intro id as M r h
  unfold G_29 at h
  rcases tm_ite_e h with ⟨rfl, h⟩ | ⟨_, h⟩
  · exact con_28 l h
  cases h
theorem gr_29 {as : List Value} {M : tm_M} {r : tm_R} (h : F_29 as M = some r) : tm_gr M r.2 := tm_m_gr gg_29 h
theorem ck_29 : tm_cdk (tm_mt 29).1.cls false tm_mt (tm_mt 29) false cd_29 := tm_cdk_of (LK := lk_RX5) (ix := [3, 31, 32, 19, 33, 6, 34]) lc_RX5 (by decide +kernel)
theorem con_29 (l : Launch) {as : List Value} {M : tm_M} {r : tm_R} (h : F_29 as M = some r) : tm_MA tm_sh l (tm_mt 29) as M r := tm_sound (t := tm_mt 29) tm_Sok_ok tm_CL_ok gg_29 (gm_29 l) (fun _ _ => ⟨rfl, rfl⟩) ck_29 (by decide +kernel) (fun h => by cases h) (fun _ _ _ _ => tm_nos_all (by decide +kernel)) h
def cd_30 : List tm_E := [(0, .aload_n 0, 1, 0, 0, 0), (1, .aload_n 0, 1, 0, 0, 0), (2, .getfield 23, 3, 5, 7, 0), (5, .bipush 36, 2, 0, 0, 0), (7, .if_icmp .ne 7, 3, 14, 0, 0), (10, .iconst 1, 1, 0, 0, 0), (11, .goto 4, 3, 15, 0, 0), (14, .iload_n 1, 1, 0, 0, 0), (15, .putfield 55, 3, 5, 4, 0), (18, .aload_n 0, 1, 0, 0, 0), (19, .aload_n 0, 1, 0, 0, 0), (20, .getfield 61, 3, 5, 6, 0), (23, .putfield 19, 3, 5, 5, 0), (26, .iconst 0, 1, 0, 0, 0), (27, .ireturn, 1, 0, 0, 0)]
def cu_30 : List (Nat × List Nat) := [(15, [0])]
def G_30 : tm_G := fun _ _ _ => none
noncomputable def F_30 : List Value → tm_M → Option tm_R := tm_m tm_sh none G_30 true cd_30 cu_30 16 2
theorem gg_30 : tm_Gg G_30 := fun _ _ _ _ h => by cases h
theorem gm_30 (l : Launch) : ∀ id as M r, G_30 id as M = some r → tm_MA tm_sh l (tm_mt id) as M r := fun _ _ _ _ h => by cases h
theorem gr_30 {as : List Value} {M : tm_M} {r : tm_R} (h : F_30 as M = some r) : tm_gr M r.2 := tm_m_gr gg_30 h
theorem ck_30 : tm_cdk (tm_mt 30).1.cls false tm_mt (tm_mt 30) true cd_30 := tm_cdk_of (LK := lk_RX5) (ix := [35, 33, 20, 6]) lc_RX5 (by decide +kernel)
theorem con_30 (l : Launch) {as : List Value} {M : tm_M} {r : tm_R} (h : F_30 as M = some r) : tm_MA tm_sh l (tm_mt 30) as M r := tm_sound (t := tm_mt 30) tm_Sok_ok tm_CL_ok gg_30 (gm_30 l) (fun _ _ => ⟨rfl, rfl⟩) ck_30 (by decide +kernel) (fun h => by cases h) (fun _ _ _ _ => tm_nos_all (by decide +kernel)) h
def cd_31 : List tm_E := [(0, .aload_n 0, 1, 0, 0, 0), (1, .getfield 23, 3, 5, 7, 0), (4, .iload_n 1, 1, 0, 0, 0), (5, .if_icmp .eq 9, 3, 14, 0, 0), (8, .aload_n 0, 1, 0, 0, 0), (9, .iconst 2, 1, 0, 0, 0), (10, .invokevirtual 64, 3, 30, 1, 21), (13, .ireturn, 1, 0, 0, 0), (14, .aload_n 0, 1, 0, 0, 0), (15, .invokevirtual 58, 3, 28, 0, 20), (18, .iconst 1, 1, 0, 0, 0), (19, .ireturn, 1, 0, 0, 0)]
def cu_31 : List (Nat × List Nat) := [(13, []), (18, [])]
noncomputable def G_31 : tm_G := fun id as M => if id = 30 then F_30 as M else if id = 28 then F_28 as M else none
noncomputable def F_31 : List Value → tm_M → Option tm_R := tm_m tm_sh none G_31 true cd_31 cu_31 13 2
theorem gg_31 : tm_Gg G_31 := by
  intro id as M r h
  unfold G_31 at h
  rcases tm_ite_e h with ⟨_, h⟩ | ⟨_, h⟩
  · exact gr_30 h
  rcases tm_ite_e h with ⟨_, h⟩ | ⟨_, h⟩
  · exact gr_28 h
  cases h
theorem gm_31 (l : Launch) : ∀ id as M r, G_31 id as M = some r → tm_MA tm_sh l (tm_mt id) as M r := by
  intro id as M r h
  unfold G_31 at h
  rcases tm_ite_e h with ⟨rfl, h⟩ | ⟨_, h⟩
  · exact con_30 l h
  rcases tm_ite_e h with ⟨rfl, h⟩ | ⟨_, h⟩
  · exact con_28 l h
  cases h
theorem gr_31 {as : List Value} {M : tm_M} {r : tm_R} (h : F_31 as M = some r) : tm_gr M r.2 := tm_m_gr gg_31 h
theorem ck_31 : tm_cdk (tm_mt 31).1.cls false tm_mt (tm_mt 31) true cd_31 := tm_cdk_of (LK := lk_RX5) (ix := [35, 36, 34]) lc_RX5 (by decide +kernel)
theorem con_31 (l : Launch) {as : List Value} {M : tm_M} {r : tm_R} (h : F_31 as M = some r) : tm_MA tm_sh l (tm_mt 31) as M r := tm_sound (t := tm_mt 31) tm_Sok_ok tm_CL_ok gg_31 (gm_31 l) (fun _ _ => ⟨rfl, rfl⟩) ck_31 (by decide +kernel) (fun h => by cases h) (fun _ _ _ _ => tm_nos_all (by decide +kernel)) h
def cd_32 : List tm_E := [(0, .iconst 0, 1, 0, 0, 0), (1, .istore_n 3, 1, 0, 0, 0), (2, .iload_n 3, 1, 0, 0, 0), (3, .aload_n 0, 1, 0, 0, 0), (4, .getfield 18, 3, 0, 1, 0), (7, .if_icmp .ge 31, 3, 38, 0, 0), (10, .iload_n 3, 1, 0, 0, 0), (11, .bipush 12, 2, 0, 0, 0), (13, .if_icmp .ge 25, 3, 38, 0, 0), (16, .aload_n 0, 1, 0, 0, 0), (17, .getfield 13, 3, 0, 0, 2), (20, .iload_n 3, 1, 0, 0, 0), (21, .aaload, 1, 0, 0, 0), (22, .getfield 22, 3, 8, 2, 1), (25, .lload_n 1, 1, 0, 0, 0), (26, .lcmp, 1, 0, 0, 0), (27, .ifCond .ne 5, 3, 32, 0, 0), (30, .iload_n 3, 1, 0, 0, 0), (31, .ireturn, 1, 0, 0, 0), (32, .iinc 3 1, 3, 0, 0, 0), (35, .goto (-33), 3, 2, 0, 0), (38, .iconst (-1), 1, 0, 0, 0), (39, .ireturn, 1, 0, 0, 0)]
def cu_32 : List (Nat × List Nat) := [(2, [0, 1, 3]), (38, [])]
def G_32 : tm_G := fun _ _ _ => none
noncomputable def F_32 : List Value → tm_M → Option tm_R := tm_m tm_sh none G_32 false cd_32 cu_32 24 4
theorem gg_32 : tm_Gg G_32 := fun _ _ _ _ h => by cases h
theorem gm_32 (l : Launch) : ∀ id as M r, G_32 id as M = some r → tm_MA tm_sh l (tm_mt id) as M r := fun _ _ _ _ h => by cases h
theorem gr_32 {as : List Value} {M : tm_M} {r : tm_R} (h : F_32 as M = some r) : tm_gr M r.2 := tm_m_gr gg_32 h
theorem ck_32 : tm_cdk (tm_mt 32).1.cls false tm_mt (tm_mt 32) false cd_32 := tm_cdk_of (LK := lk_RX0) (ix := [6, 3, 7]) lc_RX0 (by decide +kernel)
theorem con_32 (l : Launch) {as : List Value} {M : tm_M} {r : tm_R} (h : F_32 as M = some r) : tm_MA tm_sh l (tm_mt 32) as M r := tm_sound (t := tm_mt 32) tm_Sok_ok tm_CL_ok gg_32 (gm_32 l) (fun _ _ => ⟨rfl, rfl⟩) ck_32 (by decide +kernel) (fun h => by cases h) (fun _ _ _ _ => tm_nos_all (by decide +kernel)) h
def cd_33 : List tm_E := [(0, .iconst 0, 1, 0, 0, 0), (1, .istore_n 2, 1, 0, 0, 0), (2, .aload_n 0, 1, 0, 0, 0), (3, .arraylength, 1, 0, 0, 0), (4, .istore_n 3, 1, 0, 0, 0), (5, .iload_n 2, 1, 0, 0, 0), (6, .iload_n 3, 1, 0, 0, 0), (7, .if_icmp .ge 13, 3, 20, 0, 0), (10, .aload_n 0, 1, 0, 0, 0), (11, .iload_n 2, 1, 0, 0, 0), (12, .iload_n 1, 1, 0, 0, 0), (13, .iastore, 1, 0, 0, 0), (14, .iinc 2 1, 3, 0, 0, 0), (17, .goto (-12), 3, 5, 0, 0), (20, .return_, 1, 0, 0, 0)]
def cu_33 : List (Nat × List Nat) := [(5, [0, 1, 2, 3])]
def G_33 : tm_G := fun _ _ _ => none
noncomputable def F_33 : List Value → tm_M → Option tm_R := tm_m tm_sh none G_33 false cd_33 cu_33 16 4
theorem gg_33 : tm_Gg G_33 := fun _ _ _ _ h => by cases h
theorem gm_33 (l : Launch) : ∀ id as M r, G_33 id as M = some r → tm_MA tm_sh l (tm_mt id) as M r := fun _ _ _ _ h => by cases h
theorem gr_33 {as : List Value} {M : tm_M} {r : tm_R} (h : F_33 as M = some r) : tm_gr M r.2 := tm_m_gr gg_33 h
theorem ck_33 : tm_cdk (tm_mt 33).1.cls false tm_mt (tm_mt 33) false cd_33 := tm_cdk_of (LK := lk_RJ7) (ix := []) lc_RJ7 (by decide +kernel)
theorem con_33 (l : Launch) {as : List Value} {M : tm_M} {r : tm_R} (h : F_33 as M = some r) : tm_MA tm_sh l (tm_mt 33) as M r := tm_sound (t := tm_mt 33) tm_Sok_ok tm_CL_ok gg_33 (gm_33 l) (fun _ _ => ⟨rfl, rfl⟩) ck_33 (by decide +kernel) (fun h => by cases h) (fun _ _ _ _ => tm_nos_all (by decide +kernel)) h
def cd_34 : List tm_E := [(0, .aload_n 0, 1, 0, 0, 0), (1, .lload_n 1, 1, 0, 0, 0), (2, .putfield 18, 3, 8, 2, 1), (5, .aload_n 0, 1, 0, 0, 0), (6, .iconst 0, 1, 0, 0, 0), (7, .putfield 22, 3, 8, 3, 0), (10, .aload_n 0, 1, 0, 0, 0), (11, .iconst 0, 1, 0, 0, 0), (12, .putfield 26, 3, 8, 4, 0), (15, .aload_n 0, 1, 0, 0, 0), (16, .iconst 0, 1, 0, 0, 0), (17, .putfield 29, 3, 8, 5, 0), (20, .aload_n 0, 1, 0, 0, 0), (21, .iconst 0, 1, 0, 0, 0), (22, .putfield 32, 3, 8, 6, 0), (25, .aload_n 0, 1, 0, 0, 0), (26, .iconst (-1), 1, 0, 0, 0), (27, .putfield 35, 3, 8, 7, 0), (30, .aload_n 0, 1, 0, 0, 0), (31, .iconst 0, 1, 0, 0, 0), (32, .putfield 38, 3, 8, 8, 3), (35, .aload_n 0, 1, 0, 0, 0), (36, .getfield 11, 3, 8, 0, 2), (39, .iconst 0, 1, 0, 0, 0), (40, .invokestatic 42, 3, 33, 2, 0), (43, .aload_n 0, 1, 0, 0, 0), (44, .getfield 15, 3, 8, 1, 2), (47, .iconst 0, 1, 0, 0, 0), (48, .invokestatic 42, 3, 33, 2, 0), (51, .return_, 1, 0, 0, 0)]
def cu_34 : List (Nat × List Nat) := [(43, [0]), (51, [])]
noncomputable def G_34 : tm_G := fun id as M => if id = 33 then F_33 as M else none
noncomputable def F_34 : List Value → tm_M → Option tm_R := tm_m tm_sh none G_34 false cd_34 cu_34 31 3
theorem gg_34 : tm_Gg G_34 := by
  intro id as M r h
  unfold G_34 at h
  rcases tm_ite_e h with ⟨_, h⟩ | ⟨_, h⟩
  · exact gr_33 h
  cases h
theorem gm_34 (l : Launch) : ∀ id as M r, G_34 id as M = some r → tm_MA tm_sh l (tm_mt id) as M r := by
  intro id as M r h
  unfold G_34 at h
  rcases tm_ite_e h with ⟨rfl, h⟩ | ⟨_, h⟩
  · exact con_33 l h
  cases h
theorem gr_34 {as : List Value} {M : tm_M} {r : tm_R} (h : F_34 as M = some r) : tm_gr M r.2 := tm_m_gr gg_34 h
theorem ck_34 : tm_cdk (tm_mt 34).1.cls false tm_mt (tm_mt 34) false cd_34 := tm_cdk_of (LK := lk_RX8) (ix := [4, 5, 6, 7, 8, 9, 10, 11, 12, 13, 12]) lc_RX8 (by decide +kernel)
theorem con_34 (l : Launch) {as : List Value} {M : tm_M} {r : tm_R} (h : F_34 as M = some r) : tm_MA tm_sh l (tm_mt 34) as M r := tm_sound (t := tm_mt 34) tm_Sok_ok tm_CL_ok gg_34 (gm_34 l) (fun _ _ => ⟨rfl, rfl⟩) ck_34 (by decide +kernel) (fun h => by cases h) (fun _ _ _ _ => tm_nos_all (by decide +kernel)) h
def cd_35 : List tm_E := [(0, .aload_n 1, 1, 0, 0, 0), (1, .getfield 26, 3, 5, 7, 0), (4, .bipush 30, 2, 0, 0, 0), (6, .if_icmp .eq 9, 3, 15, 0, 0), (9, .aload_n 1, 1, 0, 0, 0), (10, .iconst 2, 1, 0, 0, 0), (11, .invokevirtual 38, 3, 30, 1, 21), (14, .ireturn, 1, 0, 0, 0), (15, .aload_n 0, 1, 0, 0, 0), (16, .aload_n 1, 1, 0, 0, 0), (17, .getfield 54, 3, 5, 9, 1), (20, .invokevirtual 57, 3, 32, 1, 1), (23, .iconst (-1), 1, 0, 0, 0), (24, .if_icmp .eq 9, 3, 33, 0, 0), (27, .aload_n 1, 1, 0, 0, 0), (28, .iconst 3, 1, 0, 0, 0), (29, .invokevirtual 38, 3, 30, 1, 21), (32, .ireturn, 1, 0, 0, 0), (33, .aload_n 2, 1, 0, 0, 0), (34, .aload_n 1, 1, 0, 0, 0), (35, .getfield 54, 3, 5, 9, 1), (38, .invokevirtual 61, 3, 34, 1, 32), (41, .aload_n 1, 1, 0, 0, 0), (42, .invokevirtual 65, 3, 28, 0, 20), (45, .iconst 1, 1, 0, 0, 0), (46, .ireturn, 1, 0, 0, 0)]
def cu_35 : List (Nat × List Nat) := [(14, []), (23, [1, 2]), (32, []), (41, [1]), (45, [])]
noncomputable def G_35 : tm_G := fun id as M => if id = 30 then F_30 as M else if id = 32 then F_32 as M else if id = 34 then F_34 as M else if id = 28 then F_28 as M else none
noncomputable def F_35 : List Value → tm_M → Option tm_R := tm_m tm_sh none G_35 true cd_35 cu_35 27 3
theorem gg_35 : tm_Gg G_35 := by
  intro id as M r h
  unfold G_35 at h
  rcases tm_ite_e h with ⟨_, h⟩ | ⟨_, h⟩
  · exact gr_30 h
  rcases tm_ite_e h with ⟨_, h⟩ | ⟨_, h⟩
  · exact gr_32 h
  rcases tm_ite_e h with ⟨_, h⟩ | ⟨_, h⟩
  · exact gr_34 h
  rcases tm_ite_e h with ⟨_, h⟩ | ⟨_, h⟩
  · exact gr_28 h
  cases h
theorem gm_35 (l : Launch) : ∀ id as M r, G_35 id as M = some r → tm_MA tm_sh l (tm_mt id) as M r := by
  intro id as M r h
  unfold G_35 at h
  rcases tm_ite_e h with ⟨rfl, h⟩ | ⟨_, h⟩
  · exact con_30 l h
  rcases tm_ite_e h with ⟨rfl, h⟩ | ⟨_, h⟩
  · exact con_32 l h
  rcases tm_ite_e h with ⟨rfl, h⟩ | ⟨_, h⟩
  · exact con_34 l h
  rcases tm_ite_e h with ⟨rfl, h⟩ | ⟨_, h⟩
  · exact con_28 l h
  cases h
theorem gr_35 {as : List Value} {M : tm_M} {r : tm_R} (h : F_35 as M = some r) : tm_gr M r.2 := tm_m_gr gg_35 h
theorem ck_35 : tm_cdk (tm_mt 35).1.cls false tm_mt (tm_mt 35) true cd_35 := tm_cdk_of (LK := lk_RX0) (ix := [8, 9, 10, 11, 9, 10, 12, 13]) lc_RX0 (by decide +kernel)
theorem con_35 (l : Launch) {as : List Value} {M : tm_M} {r : tm_R} (h : F_35 as M = some r) : tm_MA tm_sh l (tm_mt 35) as M r := tm_sound (t := tm_mt 35) tm_Sok_ok tm_CL_ok gg_35 (gm_35 l) (fun _ _ => ⟨rfl, rfl⟩) ck_35 (by decide +kernel) (fun h => by cases h) (fun _ _ _ _ => tm_nos_all (by decide +kernel)) h
def cd_36 : List tm_E := [(0, .aload_n 0, 1, 0, 0, 0), (1, .getfield 23, 3, 5, 7, 0), (4, .bipush 31, 2, 0, 0, 0), (6, .if_icmp .eq 9, 3, 15, 0, 0), (9, .aload_n 0, 1, 0, 0, 0), (10, .iconst 2, 1, 0, 0, 0), (11, .invokevirtual 64, 3, 30, 1, 21), (14, .ireturn, 1, 0, 0, 0), (15, .aload_n 0, 1, 0, 0, 0), (16, .getfield 68, 3, 5, 8, 0), (19, .iload_n 1, 1, 0, 0, 0), (20, .if_icmp .lt 11, 3, 31, 0, 0), (23, .aload_n 0, 1, 0, 0, 0), (24, .getfield 68, 3, 5, 8, 0), (27, .iload_n 2, 1, 0, 0, 0), (28, .if_icmp .le 11, 3, 39, 0, 0), (31, .aload_n 0, 1, 0, 0, 0), (32, .iconst 4, 1, 0, 0, 0), (33, .invokevirtual 64, 3, 30, 1, 21), (36, .ifCond .eq 7, 3, 43, 0, 0), (39, .iconst 1, 1, 0, 0, 0), (40, .goto 4, 3, 44, 0, 0), (43, .iconst 0, 1, 0, 0, 0), (44, .ireturn, 1, 0, 0, 0)]
def cu_36 : List (Nat × List Nat) := [(14, []), (31, [0]), (36, []), (39, []), (44, [])]
noncomputable def G_36 : tm_G := fun id as M => if id = 30 then F_30 as M else none
noncomputable def F_36 : List Value → tm_M → Option tm_R := tm_m tm_sh none G_36 true cd_36 cu_36 25 3
theorem gg_36 : tm_Gg G_36 := by
  intro id as M r h
  unfold G_36 at h
  rcases tm_ite_e h with ⟨_, h⟩ | ⟨_, h⟩
  · exact gr_30 h
  cases h
theorem gm_36 (l : Launch) : ∀ id as M r, G_36 id as M = some r → tm_MA tm_sh l (tm_mt id) as M r := by
  intro id as M r h
  unfold G_36 at h
  rcases tm_ite_e h with ⟨rfl, h⟩ | ⟨_, h⟩
  · exact con_30 l h
  cases h
theorem gr_36 {as : List Value} {M : tm_M} {r : tm_R} (h : F_36 as M = some r) : tm_gr M r.2 := tm_m_gr gg_36 h
theorem ck_36 : tm_cdk (tm_mt 36).1.cls false tm_mt (tm_mt 36) true cd_36 := tm_cdk_of (LK := lk_RX5) (ix := [35, 36, 24, 24, 36]) lc_RX5 (by decide +kernel)
theorem con_36 (l : Launch) {as : List Value} {M : tm_M} {r : tm_R} (h : F_36 as M = some r) : tm_MA tm_sh l (tm_mt 36) as M r := tm_sound (t := tm_mt 36) tm_Sok_ok tm_CL_ok gg_36 (gm_36 l) (fun _ _ => ⟨rfl, rfl⟩) ck_36 (by decide +kernel) (fun h => by cases h) (fun _ _ _ _ => tm_nos_all (by decide +kernel)) h
def cd_37 : List tm_E := [(0, .aload_n 1, 1, 0, 0, 0), (1, .iconst 1, 1, 0, 0, 0), (2, .invokevirtual 42, 3, 31, 1, 21), (5, .ifCond .eq 14, 3, 19, 0, 0), (8, .aload_n 1, 1, 0, 0, 0), (9, .iconst 0, 1, 0, 0, 0), (10, .sipush 999, 3, 0, 0, 0), (13, .invokevirtual 68, 3, 36, 2, 21), (16, .ifCond .ne 5, 3, 21, 0, 0), (19, .iconst 0, 1, 0, 0, 0), (20, .ireturn, 1, 0, 0, 0), (21, .aload_n 2, 1, 0, 0, 0), (22, .aload_n 1, 1, 0, 0, 0), (23, .getfield 72, 3, 5, 8, 0), (26, .putfield 75, 3, 8, 3, 0), (29, .aload_n 1, 1, 0, 0, 0), (30, .invokevirtual 65, 3, 28, 0, 20), (33, .iconst 1, 1, 0, 0, 0), (34, .ireturn, 1, 0, 0, 0)]
def cu_37 : List (Nat × List Nat) := [(5, [1, 2]), (16, [1, 2]), (19, []), (33, [])]
noncomputable def G_37 : tm_G := fun id as M => if id = 31 then F_31 as M else if id = 36 then F_36 as M else if id = 28 then F_28 as M else none
noncomputable def F_37 : List Value → tm_M → Option tm_R := tm_m tm_sh none G_37 true cd_37 cu_37 20 3
theorem gg_37 : tm_Gg G_37 := by
  intro id as M r h
  unfold G_37 at h
  rcases tm_ite_e h with ⟨_, h⟩ | ⟨_, h⟩
  · exact gr_31 h
  rcases tm_ite_e h with ⟨_, h⟩ | ⟨_, h⟩
  · exact gr_36 h
  rcases tm_ite_e h with ⟨_, h⟩ | ⟨_, h⟩
  · exact gr_28 h
  cases h
theorem gm_37 (l : Launch) : ∀ id as M r, G_37 id as M = some r → tm_MA tm_sh l (tm_mt id) as M r := by
  intro id as M r h
  unfold G_37 at h
  rcases tm_ite_e h with ⟨rfl, h⟩ | ⟨_, h⟩
  · exact con_31 l h
  rcases tm_ite_e h with ⟨rfl, h⟩ | ⟨_, h⟩
  · exact con_36 l h
  rcases tm_ite_e h with ⟨rfl, h⟩ | ⟨_, h⟩
  · exact con_28 l h
  cases h
theorem gr_37 {as : List Value} {M : tm_M} {r : tm_R} (h : F_37 as M = some r) : tm_gr M r.2 := tm_m_gr gg_37 h
theorem ck_37 : tm_cdk (tm_mt 37).1.cls false tm_mt (tm_mt 37) true cd_37 := tm_cdk_of (LK := lk_RX0) (ix := [14, 15, 16, 17, 13]) lc_RX0 (by decide +kernel)
theorem con_37 (l : Launch) {as : List Value} {M : tm_M} {r : tm_R} (h : F_37 as M = some r) : tm_MA tm_sh l (tm_mt 37) as M r := tm_sound (t := tm_mt 37) tm_Sok_ok tm_CL_ok gg_37 (gm_37 l) (fun _ _ => ⟨rfl, rfl⟩) ck_37 (by decide +kernel) (fun h => by cases h) (fun _ _ _ _ => tm_nos_all (by decide +kernel)) h
def cd_38 : List tm_E := [(0, .aload_n 0, 1, 0, 0, 0), (1, .getfield 61, 3, 5, 6, 0), (4, .iconst 1, 1, 0, 0, 0), (5, .iadd, 1, 0, 0, 0), (6, .iload_n 1, 1, 0, 0, 0), (7, .iadd, 1, 0, 0, 0), (8, .istore_n 2, 1, 0, 0, 0), (9, .iload_n 1, 1, 0, 0, 0), (10, .ifCond .lt 31, 3, 41, 0, 0), (13, .iload_n 1, 1, 0, 0, 0), (14, .aload_n 0, 1, 0, 0, 0), (15, .getfield 68, 3, 5, 8, 0), (18, .if_icmp .ge 23, 3, 41, 0, 0), (21, .iload_n 2, 1, 0, 0, 0), (22, .aload_n 0, 1, 0, 0, 0), (23, .getfield 50, 3, 5, 2, 0), (26, .if_icmp .ge 15, 3, 41, 0, 0), (29, .aload_n 0, 1, 0, 0, 0), (30, .getfield 9, 3, 5, 0, 2), (33, .iload_n 2, 1, 0, 0, 0), (34, .baload, 1, 0, 0, 0), (35, .invokestatic 96, 3, 25, 1, 1), (38, .goto 4, 3, 42, 0, 0), (41, .iconst 0, 1, 0, 0, 0), (42, .ireturn, 1, 0, 0, 0)]
def cu_38 : List (Nat × List Nat) := [(38, []), (41, []), (42, [])]
noncomputable def G_38 : tm_G := fun id as M => if id = 25 then F_25 as M else none
noncomputable def F_38 : List Value → tm_M → Option tm_R := tm_m tm_sh none G_38 false cd_38 cu_38 26 3
theorem gg_38 : tm_Gg G_38 := by
  intro id as M r h
  unfold G_38 at h
  rcases tm_ite_e h with ⟨_, h⟩ | ⟨_, h⟩
  · exact gr_25 h
  cases h
theorem gm_38 (l : Launch) : ∀ id as M r, G_38 id as M = some r → tm_MA tm_sh l (tm_mt id) as M r := by
  intro id as M r h
  unfold G_38 at h
  rcases tm_ite_e h with ⟨rfl, h⟩ | ⟨_, h⟩
  · exact con_25 l h
  cases h
theorem gr_38 {as : List Value} {M : tm_M} {r : tm_R} (h : F_38 as M = some r) : tm_gr M r.2 := tm_m_gr gg_38 h
theorem ck_38 : tm_cdk (tm_mt 38).1.cls false tm_mt (tm_mt 38) false cd_38 := tm_cdk_of (LK := lk_RX5) (ix := [20, 24, 16, 17, 25]) lc_RX5 (by decide +kernel)
theorem con_38 (l : Launch) {as : List Value} {M : tm_M} {r : tm_R} (h : F_38 as M = some r) : tm_MA tm_sh l (tm_mt 38) as M r := tm_sound (t := tm_mt 38) tm_Sok_ok tm_CL_ok gg_38 (gm_38 l) (fun _ _ => ⟨rfl, rfl⟩) ck_38 (by decide +kernel) (fun h => by cases h) (fun _ _ _ _ => tm_nos_all (by decide +kernel)) h
