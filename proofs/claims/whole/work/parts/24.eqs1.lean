/-! the equations of the methods' blocks, over the memory as it stands behind the constructors -/
abbrev tm_Tu : Type := Nat × Nat × Nat × Nat × Nat
def tm_rtl : List (List Nat) := [[], [], [], [], [], [], [], [8, 14, 15, 16, 17], [9, 10, 11, 12, 13], [], [], [], [], [], [18, 19, 20, 21, 22, 23], [], [], [], [], [], [], [], [], [], [25, 26, 27, 28, 29, 30, 31], [], [], [], [], [], [], [], [33], [], [35, 36, 37, 38, 39, 40, 41, 0, 0, 42], [], [], [], [], [], [], [], [], [44], [45, 48, 51, 54, 57, 60, 63, 66, 69, 72, 75, 78], [46, 47], [], [], [49, 50], [], [], [52, 53], [], [], [55, 56], [], [], [58, 59], [], [], [61, 62], [], [], [64, 65], [], [], [67, 68], [], [], [70, 71], [], [], [73, 74], [], [], [76, 77], [], [], [79, 80], [], [], [82], [83, 86, 89, 92, 95, 98, 101, 104, 107, 110, 113, 116], [84, 85], [], [], [87, 88], [], [], [90, 91], [], [], [93, 94], [], [], [96, 97], [], [], [99, 100], [], [], [102, 103], [], [], [105, 106], [], [], [108, 109], [], [], [111, 112], [], [], [114, 115], [], [], [117, 118], [], [], [120, 121, 122, 123, 124], [], [], [], [], [], [126, 127, 128, 129, 130], [], [], [], [], [], [132, 133, 0, 0, 0, 0, 0, 0, 0, 0, 0, 134, 135, 136, 137, 138, 139, 140, 141, 142, 143, 0, 0, 144, 145, 146, 147, 148, 149, 150, 0, 0, 0, 0, 0, 0, 151, 152, 153, 154, 155, 156, 157, 158, 159, 160, 161, 162, 163, 164, 165, 166, 167, 168, 169, 170, 171, 172, 173, 0, 0, 0, 0, 0, 0, 0, 0, 174, 175, 176, 0, 0, 0, 177, 0, 0, 178, 179, 180, 181, 182, 183, 184, 185], [], [], [], [], [], [], [], [], [], [], [], [], [], [], [], [], [], [], [], [], [], [], [], [], [], [], [], [], [], [], [], [], [], [], [], [], [], [], [], [], [], [], [], [], [], [], [], [], [], [], [], [], [], []]
/-- the references: fixed, but for five: the BOOK, its spare, the ROUTINE, its spare, the reader's text -/
def tm_RT (τ : tm_Tu) : Nat → Nat → Nat := fun a k => if a = 2 then [3, 4, 7, 24, 32, 34, τ.1, τ.2.1, τ.2.2.1, τ.2.2.2.1].getD k 0 else if a = 4 then [τ.2.2.2.2, 6].getD k 0 else (tm_rtl.getD a []).getD k 0
def mk (I : Nat → Nat → Int32) (J : Nat → Nat → Int64) (τ : tm_Tu) : tm_M := (I, J, tm_RT τ, 184, 95773)
def kdm (a : Nat) : Nat := if a < 184 + 2 then (tm_sh a).1 else 0
noncomputable def R_1 : tm_K := tm_F tm_sh none G_1 false cd_1 cu_1 12
set_option maxRecDepth 20000 in
theorem e_1 (I : Nat → Nat → Int32) (J : Nat → Nat → Int64) (τ : tm_Tu) (l0 : Int64) (x2 : Int32) : F_1 [.long l0, .int x2] (mk I J τ) = some (some (.long ((l0 * 32) + (((x2 - 97) + 1) : Int32).toInt64)), (mk I J τ)) := rfl
noncomputable def R_14 : tm_K := tm_F tm_sh none G_14 false cd_14 cu_14 44
set_option maxRecDepth 20000 in
theorem e_14 (I : Nat → Nat → Int32) (J : Nat → Nat → Int64) (τ : tm_Tu) (x1 : Int32) (x2 : Int32) : F_14 [.ref 2, .int x1, .int x2] (mk I J τ) = (if x1 < 0 then R_14 11 [] [] (mk I J τ) else (if x1 ≤ 1396 then (if 0 ≤ x1 ∧ x1.toNatClampNeg < 1400 then (if 0 ≤ (x1 + 1) ∧ ((x1 + 1)).toNatClampNeg < 1400 then (if 0 ≤ (x1 + 2) ∧ ((x1 + 2)).toNatClampNeg < 1400 then (if 0 ≤ (x1 + 3) ∧ ((x1 + 3)).toNatClampNeg < 1400 then some (none, (mk (tm_u (tm_u (tm_u (tm_u I 3 x1.toNatClampNeg (((x2 >>> 24) : Int32).toInt8.toInt32 : Int32).toInt8.toInt32) 3 ((x1 + 1)).toNatClampNeg (((x2 >>> 16) : Int32).toInt8.toInt32 : Int32).toInt8.toInt32) 3 ((x1 + 2)).toNatClampNeg (((x2 >>> 8) : Int32).toInt8.toInt32 : Int32).toInt8.toInt32) 3 ((x1 + 3)).toNatClampNeg ((x2 : Int32).toInt8.toInt32 : Int32).toInt8.toInt32) J τ)) else none) else none) else none) else none) else R_14 11 [] [] (mk I J τ))) := rfl
set_option maxRecDepth 20000 in
theorem e_14_11 (I : Nat → Nat → Int32) (J : Nat → Nat → Int64) (τ : tm_Tu)  : R_14 11 [] [] (mk I J τ) = some (none, (mk I J τ)) := (tm_F_fix _ _ _ _ _ _ _ _ _ _ _).trans rfl
noncomputable def R_15 : tm_K := tm_F tm_sh none G_15 false cd_15 cu_15 49
set_option maxRecDepth 20000 in
theorem e_15 (I : Nat → Nat → Int32) (J : Nat → Nat → Int64) (τ : tm_Tu) (x1 : Int32) (x2 : Int32) (x3 : Int32) (x4 : Int32) (x5 : Int32) : F_15 [.ref 2, .int x1, .int x2, .int x3, .int x4, .int x5] (mk I J τ) = (if (I 2 11) ≤ 1380 then (tm_bV (F_14 [.ref 2, .int (I 2 11), .int x1] (mk I J τ)) fun M => R_15 21 [(0, .ref 2), (2, .int x2), (3, .int x3), (4, .int x4), (5, .int x5)] [] M) else some (some (.int (-1)), (mk I J τ))) := rfl
set_option maxRecDepth 20000 in
theorem e_15_21 (I : Nat → Nat → Int32) (J : Nat → Nat → Int64) (τ : tm_Tu) (x2 : Int32) (x3 : Int32) (x4 : Int32) (x5 : Int32) : R_15 21 [(0, .ref 2), (2, .int x2), (3, .int x3), (4, .int x4), (5, .int x5)] [] (mk I J τ) = (tm_bV (F_14 [.ref 2, .int ((I 2 11) + 4), .int x2] (mk I J τ)) fun M => R_15 32 [(0, .ref 2), (3, .int x3), (4, .int x4), (5, .int x5)] [] M) := (tm_F_fix _ _ _ _ _ _ _ _ _ _ _).trans rfl
set_option maxRecDepth 20000 in
theorem e_15_32 (I : Nat → Nat → Int32) (J : Nat → Nat → Int64) (τ : tm_Tu) (x3 : Int32) (x4 : Int32) (x5 : Int32) : R_15 32 [(0, .ref 2), (3, .int x3), (4, .int x4), (5, .int x5)] [] (mk I J τ) = (tm_bV (F_14 [.ref 2, .int ((I 2 11) + 8), .int x3] (mk I J τ)) fun M => R_15 44 [(0, .ref 2), (4, .int x4), (5, .int x5)] [] M) := (tm_F_fix _ _ _ _ _ _ _ _ _ _ _).trans rfl
set_option maxRecDepth 20000 in
theorem e_15_44 (I : Nat → Nat → Int32) (J : Nat → Nat → Int64) (τ : tm_Tu) (x4 : Int32) (x5 : Int32) : R_15 44 [(0, .ref 2), (4, .int x4), (5, .int x5)] [] (mk I J τ) = (tm_bV (F_14 [.ref 2, .int ((I 2 11) + 12), .int x4] (mk I J τ)) fun M => R_15 57 [(0, .ref 2), (5, .int x5)] [] M) := (tm_F_fix _ _ _ _ _ _ _ _ _ _ _).trans rfl
set_option maxRecDepth 20000 in
theorem e_15_57 (I : Nat → Nat → Int32) (J : Nat → Nat → Int64) (τ : tm_Tu) (x5 : Int32) : R_15 57 [(0, .ref 2), (5, .int x5)] [] (mk I J τ) = (tm_bV (F_14 [.ref 2, .int ((I 2 11) + 16), .int x5] (mk I J τ)) fun M => R_15 70 [(0, .ref 2)] [] M) := (tm_F_fix _ _ _ _ _ _ _ _ _ _ _).trans rfl
set_option maxRecDepth 20000 in
theorem e_15_70 (I : Nat → Nat → Int32) (J : Nat → Nat → Int64) (τ : tm_Tu)  : R_15 70 [(0, .ref 2)] [] (mk I J τ) = some (some (.int ((I 2 11) + 20)), (mk (tm_u I 2 11 ((I 2 11) + 20)) J τ)) := (tm_F_fix _ _ _ _ _ _ _ _ _ _ _).trans rfl
noncomputable def R_16 : tm_K := tm_F tm_sh none G_16 false cd_16 cu_16 64
set_option maxRecDepth 20000 in
theorem e_16 (I : Nat → Nat → Int32) (J : Nat → Nat → Int64) (τ : tm_Tu) (x1 : Int32) (x2 : Int32) (x3 : Int32) (x4 : Int32) (x5 : Int32) : F_16 [.ref 131, .int x1, .int x2, .int x3, .int x4, .int x5] (mk I J τ) = (if ((I 131 2) + 20) ≤ 1400 then R_16 18 [(0, .ref 131), (1, .int x1), (2, .int x2), (3, .int x3), (4, .int x4), (5, .int x5), (6, .int 0)] [] (mk I J τ) else some (some (.int (-1)), (mk I J τ))) := rfl
set_option maxRecDepth 20000 in
theorem e_16_18 (I : Nat → Nat → Int32) (J : Nat → Nat → Int64) (τ : tm_Tu) (x1 : Int32) (x2 : Int32) (x3 : Int32) (x4 : Int32) (x5 : Int32) (x6 : Int32) : R_16 18 [(0, .ref 131), (1, .int x1), (2, .int x2), (3, .int x3), (4, .int x4), (5, .int x5), (6, .int x6)] [] (mk I J τ) = (if 20 ≤ x6 then some (some (.int ((I 131 2) + 20)), (mk (tm_u I 131 2 ((I 131 2) + 20)) J τ)) else (if 4 ≤ x6 then (if 8 ≤ x6 then (if 12 ≤ x6 then (if 16 ≤ x6 then R_16 71 [(0, .ref 131), (1, .int x1), (2, .int x2), (3, .int x3), (4, .int x4), (5, .int x5), (6, .int x6)] [.int x5] (mk I J τ) else R_16 71 [(0, .ref 131), (1, .int x1), (2, .int x2), (3, .int x3), (4, .int x4), (5, .int x5), (6, .int x6)] [.int x4] (mk I J τ)) else R_16 71 [(0, .ref 131), (1, .int x1), (2, .int x2), (3, .int x3), (4, .int x4), (5, .int x5), (6, .int x6)] [.int x3] (mk I J τ)) else R_16 71 [(0, .ref 131), (1, .int x1), (2, .int x2), (3, .int x3), (4, .int x4), (5, .int x5), (6, .int x6)] [.int x2] (mk I J τ)) else R_16 71 [(0, .ref 131), (1, .int x1), (2, .int x2), (3, .int x3), (4, .int x4), (5, .int x5), (6, .int x6)] [.int x1] (mk I J τ))) := (tm_F_fix _ _ _ _ _ _ _ _ _ _ _).trans rfl
set_option maxRecDepth 20000 in
theorem e_16_71 (I : Nat → Nat → Int32) (J : Nat → Nat → Int64) (τ : tm_Tu) (x1 : Int32) (x2 : Int32) (x3 : Int32) (x4 : Int32) (x5 : Int32) (x6 : Int32) (xs0 : Int32) : R_16 71 [(0, .ref 131), (1, .int x1), (2, .int x2), (3, .int x3), (4, .int x4), (5, .int x5), (6, .int x6)] [.int xs0] (mk I J τ) = (if 0 ≤ ((I 131 2) + x6) ∧ (((I 131 2) + x6)).toNatClampNeg < 1420 then R_16 18 [(0, .ref 131), (1, .int x1), (2, .int x2), (3, .int x3), (4, .int x4), (5, .int x5), (6, .int (x6 + 1))] [] (mk (tm_u I 132 (((I 131 2) + x6)).toNatClampNeg (((xs0 >>> ((24 - (8 * (x6 &&& 3))) &&& 31)) : Int32).toInt8.toInt32 : Int32).toInt8.toInt32) J τ) else none) := (tm_F_fix _ _ _ _ _ _ _ _ _ _ _).trans rfl
noncomputable def R_17 : tm_K := tm_F tm_sh none G_17 false cd_17 cu_17 14
set_option maxRecDepth 20000 in
theorem e_17 (I : Nat → Nat → Int32) (J : Nat → Nat → Int64) (τ : tm_Tu) (x1 : Int32) : F_17 [.ref 2, .int x1] (mk I J τ) = (if x1 < 0 then R_17 12 [] [] (mk I J τ) else (if x1 ≤ (I 2 11) then some (some (.int x1), (mk (tm_u I 2 11 x1) J τ)) else R_17 12 [] [] (mk I J τ))) := rfl
set_option maxRecDepth 20000 in
theorem e_17_12 (I : Nat → Nat → Int32) (J : Nat → Nat → Int64) (τ : tm_Tu)  : R_17 12 [] [] (mk I J τ) = some (some (.int (-1)), (mk I J τ)) := (tm_F_fix _ _ _ _ _ _ _ _ _ _ _).trans rfl
noncomputable def R_18 : tm_K := tm_F tm_sh none G_18 false cd_18 cu_18 14
set_option maxRecDepth 20000 in
theorem e_18 (I : Nat → Nat → Int32) (J : Nat → Nat → Int64) (τ : tm_Tu) (x1 : Int32) : F_18 [.ref 131, .int x1] (mk I J τ) = (if x1 < 0 then R_18 12 [] [] (mk I J τ) else (if x1 ≤ (I 131 2) then some (some (.int x1), (mk (tm_u I 131 2 x1) J τ)) else R_18 12 [] [] (mk I J τ))) := rfl
set_option maxRecDepth 20000 in
theorem e_18_12 (I : Nat → Nat → Int32) (J : Nat → Nat → Int64) (τ : tm_Tu)  : R_18 12 [] [] (mk I J τ) = some (some (.int (-1)), (mk I J τ)) := (tm_F_fix _ _ _ _ _ _ _ _ _ _ _).trans rfl
noncomputable def R_19 : tm_K := tm_F tm_sh none G_19 false cd_19 cu_19 9
set_option maxRecDepth 20000 in
theorem e_19 (I : Nat → Nat → Int32) (J : Nat → Nat → Int64) (τ : tm_Tu)  : F_19 [.ref 2] (mk I J τ) = some (some (.int (I 2 11)), (mk (tm_u I 2 11 0) J τ)) := rfl
noncomputable def R_20 : tm_K := tm_F tm_sh none G_20 true cd_20 cu_20 11
set_option maxRecDepth 20000 in
theorem e_20 (I : Nat → Nat → Int32) (J : Nat → Nat → Int64) (τ : tm_Tu) (x0 : Int32) : F_20 [.int x0] (mk I J τ) = (if x0 < 97 then R_20 16 [] [] (mk I J τ) else (if 122 < x0 then R_20 16 [] [] (mk I J τ) else R_20 17 [] [.int 1] (mk I J τ))) := rfl
set_option maxRecDepth 20000 in
theorem e_20_16 (I : Nat → Nat → Int32) (J : Nat → Nat → Int64) (τ : tm_Tu)  : R_20 16 [] [] (mk I J τ) = R_20 17 [] [.int 0] (mk I J τ) := (tm_F_fix _ _ _ _ _ _ _ _ _ _ _).trans rfl
set_option maxRecDepth 20000 in
theorem e_20_17 (I : Nat → Nat → Int32) (J : Nat → Nat → Int64) (τ : tm_Tu) (xs0 : Int32) : R_20 17 [] [.int xs0] (mk I J τ) = (if xs0 = 0 ∨ xs0 = 1 then some (some (.int xs0), (mk I J τ)) else none) := (tm_F_fix _ _ _ _ _ _ _ _ _ _ _).trans rfl
noncomputable def R_21 : tm_K := tm_F tm_sh none G_21 false cd_21 cu_21 20
set_option maxRecDepth 20000 in
theorem e_21 (I : Nat → Nat → Int32) (J : Nat → Nat → Int64) (τ : tm_Tu)  : F_21 [.ref 4] (mk I J τ) = R_21 2 [(0, .ref 4), (1, .int 0)] [] (mk I J τ) := rfl
set_option maxRecDepth 20000 in
theorem e_21_2 (I : Nat → Nat → Int32) (J : Nat → Nat → Int64) (τ : tm_Tu) (x1 : Int32) : R_21 2 [(0, .ref 4), (1, .int x1)] [] (mk I J τ) = (if 23 ≤ x1 then some (some (.int 30), (mk I J τ)) else (if 0 ≤ x1 ∧ x1.toNatClampNeg < 23 then (if (lg_cmp (J 6 x1.toNatClampNeg) (J 4 9)) = 0 then some (some (.int x1), (mk I J τ)) else R_21 2 [(0, .ref 4), (1, .int (x1 + 1))] [] (mk I J τ)) else none)) := (tm_F_fix _ _ _ _ _ _ _ _ _ _ _).trans rfl
noncomputable def R_22 : tm_K := tm_F tm_sh none G_22 false cd_22 cu_22 47
set_option maxRecDepth 20000 in
theorem e_22 (I : Nat → Nat → Int32) (J : Nat → Nat → Int64) (τ : tm_Tu)  : F_22 [.ref 4] (mk I J τ) = R_22 5 [(0, .ref 4)] [] (mk I (tm_u J 4 9 0) τ) := rfl
set_option maxRecDepth 20000 in
theorem e_22_5 (I : Nat → Nat → Int32) (J : Nat → Nat → Int64) (τ : tm_Tu)  : R_22 5 [(0, .ref 4)] [] (mk I J τ) = (if (I 4 2) ≤ (I 4 3) then R_22 64 [(0, .ref 4)] [] (mk I J τ) else (if kdm τ.2.2.2.2 = 2 ∨ kdm τ.2.2.2.2 = 3 then (if 0 ≤ (I 4 3) ∧ ((I 4 3)).toNatClampNeg < (tm_sh τ.2.2.2.2).2 then (tm_bI (F_20 [.int (I τ.2.2.2.2 ((I 4 3)).toNatClampNeg)] (mk I J τ)) fun r M => R_22 28 [(0, .ref 4)] [.int r] M) else none) else none)) := (tm_F_fix _ _ _ _ _ _ _ _ _ _ _).trans rfl
set_option maxRecDepth 20000 in
theorem e_22_28 (I : Nat → Nat → Int32) (J : Nat → Nat → Int64) (τ : tm_Tu) (xs0 : Int32) : R_22 28 [(0, .ref 4)] [.int xs0] (mk I J τ) = (if xs0 = 0 then R_22 64 [(0, .ref 4)] [] (mk I J τ) else (if kdm τ.2.2.2.2 = 2 ∨ kdm τ.2.2.2.2 = 3 then (if 0 ≤ (I 4 3) ∧ ((I 4 3)).toNatClampNeg < (tm_sh τ.2.2.2.2).2 then (tm_bJ (F_1 [.long (J 4 9), .int (I τ.2.2.2.2 ((I 4 3)).toNatClampNeg)] (mk I J τ)) fun r M => R_22 48 [(0, .ref 4)] [.long r, .ref 4] M) else none) else none)) := (tm_F_fix _ _ _ _ _ _ _ _ _ _ _).trans rfl
set_option maxRecDepth 20000 in
theorem e_22_48 (I : Nat → Nat → Int32) (J : Nat → Nat → Int64) (τ : tm_Tu) (ls0 : Int64) : R_22 48 [(0, .ref 4)] [.long ls0, .ref 4] (mk I J τ) = R_22 5 [(0, .ref 4)] [] (mk (tm_u I 4 3 ((I 4 3) + 1)) (tm_u J 4 9 ls0) τ) := (tm_F_fix _ _ _ _ _ _ _ _ _ _ _).trans rfl
set_option maxRecDepth 20000 in
theorem e_22_64 (I : Nat → Nat → Int32) (J : Nat → Nat → Int64) (τ : tm_Tu)  : R_22 64 [(0, .ref 4)] [] (mk I J τ) = (if ((I 4 3) - (I 4 6)) ≤ 8 then (tm_bI (F_21 [.ref 4] (mk I J τ)) fun r M => R_22 88 [] [.int r, .ref 4] M) else R_22 88 [] [.int 36, .ref 4] (mk I J τ)) := (tm_F_fix _ _ _ _ _ _ _ _ _ _ _).trans rfl
set_option maxRecDepth 20000 in
theorem e_22_88 (I : Nat → Nat → Int32) (J : Nat → Nat → Int64) (τ : tm_Tu) (xs0 : Int32) : R_22 88 [] [.int xs0, .ref 4] (mk I J τ) = some (none, (mk (tm_u I 4 7 xs0) J τ)) := (tm_F_fix _ _ _ _ _ _ _ _ _ _ _).trans rfl
noncomputable def R_23 : tm_K := tm_F tm_sh none G_23 true cd_23 cu_23 11
set_option maxRecDepth 20000 in
theorem e_23 (I : Nat → Nat → Int32) (J : Nat → Nat → Int64) (τ : tm_Tu) (x0 : Int32) : F_23 [.int x0] (mk I J τ) = (if x0 < 48 then R_23 16 [] [] (mk I J τ) else (if 57 < x0 then R_23 16 [] [] (mk I J τ) else R_23 17 [] [.int 1] (mk I J τ))) := rfl
set_option maxRecDepth 20000 in
theorem e_23_16 (I : Nat → Nat → Int32) (J : Nat → Nat → Int64) (τ : tm_Tu)  : R_23 16 [] [] (mk I J τ) = R_23 17 [] [.int 0] (mk I J τ) := (tm_F_fix _ _ _ _ _ _ _ _ _ _ _).trans rfl
set_option maxRecDepth 20000 in
theorem e_23_17 (I : Nat → Nat → Int32) (J : Nat → Nat → Int64) (τ : tm_Tu) (xs0 : Int32) : R_23 17 [] [.int xs0] (mk I J τ) = (if xs0 = 0 ∨ xs0 = 1 then some (some (.int xs0), (mk I J τ)) else none) := (tm_F_fix _ _ _ _ _ _ _ _ _ _ _).trans rfl
noncomputable def R_24 : tm_K := tm_F tm_sh none G_24 false cd_24 cu_24 68
set_option maxRecDepth 20000 in
theorem e_24 (I : Nat → Nat → Int32) (J : Nat → Nat → Int64) (τ : tm_Tu)  : F_24 [.ref 4] (mk I J τ) = R_24 5 [(0, .ref 4)] [] (mk (tm_u I 4 8 0) J τ) := rfl
set_option maxRecDepth 20000 in
theorem e_24_5 (I : Nat → Nat → Int32) (J : Nat → Nat → Int64) (τ : tm_Tu)  : R_24 5 [(0, .ref 4)] [] (mk I J τ) = (if (I 4 2) ≤ (I 4 3) then R_24 68 [(0, .ref 4)] [] (mk I J τ) else (if kdm τ.2.2.2.2 = 2 ∨ kdm τ.2.2.2.2 = 3 then (if 0 ≤ (I 4 3) ∧ ((I 4 3)).toNatClampNeg < (tm_sh τ.2.2.2.2).2 then (tm_bI (F_23 [.int (I τ.2.2.2.2 ((I 4 3)).toNatClampNeg)] (mk I J τ)) fun r M => R_24 28 [(0, .ref 4)] [.int r] M) else none) else none)) := (tm_F_fix _ _ _ _ _ _ _ _ _ _ _).trans rfl
set_option maxRecDepth 20000 in
theorem e_24_28 (I : Nat → Nat → Int32) (J : Nat → Nat → Int64) (τ : tm_Tu) (xs0 : Int32) : R_24 28 [(0, .ref 4)] [.int xs0] (mk I J τ) = (if xs0 = 0 then R_24 68 [(0, .ref 4)] [] (mk I J τ) else (if kdm τ.2.2.2.2 = 2 ∨ kdm τ.2.2.2.2 = 3 then (if 0 ≤ (I 4 3) ∧ ((I 4 3)).toNatClampNeg < (tm_sh τ.2.2.2.2).2 then R_24 5 [(0, .ref 4)] [] (mk (tm_u (tm_u I 4 8 (((I 4 8) * 10) + ((I τ.2.2.2.2 ((I 4 3)).toNatClampNeg) - 48))) 4 3 ((I 4 3) + 1)) J τ) else none) else none)) := (tm_F_fix _ _ _ _ _ _ _ _ _ _ _).trans rfl
set_option maxRecDepth 20000 in
theorem e_24_68 (I : Nat → Nat → Int32) (J : Nat → Nat → Int64) (τ : tm_Tu)  : R_24 68 [(0, .ref 4)] [] (mk I J τ) = (if (I 4 2) ≤ (I 4 3) then R_24 98 [(0, .ref 4)] [] (mk I J τ) else (if kdm τ.2.2.2.2 = 2 ∨ kdm τ.2.2.2.2 = 3 then (if 0 ≤ (I 4 3) ∧ ((I 4 3)).toNatClampNeg < (tm_sh τ.2.2.2.2).2 then (tm_bI (F_20 [.int (I τ.2.2.2.2 ((I 4 3)).toNatClampNeg)] (mk I J τ)) fun r M => R_24 91 [(0, .ref 4)] [.int r] M) else none) else none)) := (tm_F_fix _ _ _ _ _ _ _ _ _ _ _).trans rfl
set_option maxRecDepth 20000 in
theorem e_24_91 (I : Nat → Nat → Int32) (J : Nat → Nat → Int64) (τ : tm_Tu) (xs0 : Int32) : R_24 91 [(0, .ref 4)] [.int xs0] (mk I J τ) = (if xs0 = 0 then R_24 98 [(0, .ref 4)] [] (mk I J τ) else R_24 99 [(0, .ref 4)] [.int 1] (mk I J τ)) := (tm_F_fix _ _ _ _ _ _ _ _ _ _ _).trans rfl
set_option maxRecDepth 20000 in
theorem e_24_98 (I : Nat → Nat → Int32) (J : Nat → Nat → Int64) (τ : tm_Tu)  : R_24 98 [(0, .ref 4)] [] (mk I J τ) = R_24 99 [(0, .ref 4)] [.int 0] (mk I J τ) := (tm_F_fix _ _ _ _ _ _ _ _ _ _ _).trans rfl
set_option maxRecDepth 20000 in
theorem e_24_99 (I : Nat → Nat → Int32) (J : Nat → Nat → Int64) (τ : tm_Tu) (xs0 : Int32) : R_24 99 [(0, .ref 4)] [.int xs0] (mk I J τ) = (if 3 < ((I 4 3) - (I 4 6)) then R_24 118 [] [.ref 4] (mk I J τ) else (if xs0 = 0 then R_24 125 [] [.int 31, .ref 4] (mk I J τ) else R_24 118 [] [.ref 4] (mk I J τ))) := (tm_F_fix _ _ _ _ _ _ _ _ _ _ _).trans rfl
set_option maxRecDepth 20000 in
theorem e_24_118 (I : Nat → Nat → Int32) (J : Nat → Nat → Int64) (τ : tm_Tu)  : R_24 118 [] [.ref 4] (mk I J τ) = R_24 125 [] [.int 36, .ref 4] (mk I J τ) := (tm_F_fix _ _ _ _ _ _ _ _ _ _ _).trans rfl
set_option maxRecDepth 20000 in
theorem e_24_125 (I : Nat → Nat → Int32) (J : Nat → Nat → Int64) (τ : tm_Tu) (xs0 : Int32) : R_24 125 [] [.int xs0, .ref 4] (mk I J τ) = some (none, (mk (tm_u I 4 7 xs0) J τ)) := (tm_F_fix _ _ _ _ _ _ _ _ _ _ _).trans rfl
noncomputable def R_25 : tm_K := tm_F tm_sh none G_25 false cd_25 cu_25 13
set_option maxRecDepth 20000 in
theorem e_25 (I : Nat → Nat → Int32) (J : Nat → Nat → Int64) (τ : tm_Tu) (x0 : Int32) : F_25 [.int x0] (mk I J τ) = (if (x0 : Int32).toInt = 45 then some (some (.int 0), (mk I J τ)) else (if (x0 : Int32).toInt = 98 then some (some (.int 3), (mk I J τ)) else (if (x0 : Int32).toInt = 108 then some (some (.int 1), (mk I J τ)) else (if (x0 : Int32).toInt = 114 then some (some (.int 2), (mk I J τ)) else some (some (.int (-1)), (mk I J τ)))))) := rfl
noncomputable def R_26 : tm_K := tm_F tm_sh none G_26 false cd_26 cu_26 87
set_option maxRecDepth 20000 in
theorem e_26 (I : Nat → Nat → Int32) (J : Nat → Nat → Int64) (τ : tm_Tu)  : F_26 [.ref 4] (mk I J τ) = R_26 10 [(0, .ref 4)] [] (mk (tm_u I 4 3 ((I 4 3) + 1)) J τ) := rfl
set_option maxRecDepth 20000 in
theorem e_26_10 (I : Nat → Nat → Int32) (J : Nat → Nat → Int64) (τ : tm_Tu)  : R_26 10 [(0, .ref 4)] [] (mk I J τ) = (if (I 4 2) ≤ (I 4 3) then R_26 50 [(0, .ref 4)] [] (mk I J τ) else (if kdm τ.2.2.2.2 = 2 ∨ kdm τ.2.2.2.2 = 3 then (if 0 ≤ (I 4 3) ∧ ((I 4 3)).toNatClampNeg < (tm_sh τ.2.2.2.2).2 then (tm_bI (F_25 [.int (I τ.2.2.2.2 ((I 4 3)).toNatClampNeg)] (mk I J τ)) fun r M => R_26 33 [(0, .ref 4)] [.int r] M) else none) else none)) := (tm_F_fix _ _ _ _ _ _ _ _ _ _ _).trans rfl
set_option maxRecDepth 20000 in
theorem e_26_33 (I : Nat → Nat → Int32) (J : Nat → Nat → Int64) (τ : tm_Tu) (xs0 : Int32) : R_26 33 [(0, .ref 4)] [.int xs0] (mk I J τ) = (if xs0 = (-1) then R_26 50 [(0, .ref 4)] [] (mk I J τ) else R_26 10 [(0, .ref 4)] [] (mk (tm_u I 4 3 ((I 4 3) + 1)) J τ)) := (tm_F_fix _ _ _ _ _ _ _ _ _ _ _).trans rfl
set_option maxRecDepth 20000 in
theorem e_26_50 (I : Nat → Nat → Int32) (J : Nat → Nat → Int64) (τ : tm_Tu)  : R_26 50 [(0, .ref 4)] [] (mk I J τ) = (if (I 4 2) ≤ (I 4 3) then R_26 94 [(0, .ref 4)] [] (mk (tm_u I 4 8 (((I 4 3) - (I 4 6)) - 1)) J τ) else (if kdm τ.2.2.2.2 = 2 ∨ kdm τ.2.2.2.2 = 3 then (if 0 ≤ (I 4 3) ∧ ((I 4 3)).toNatClampNeg < (tm_sh τ.2.2.2.2).2 then (if ((tm_u I 4 8 (((I 4 3) - (I 4 6)) - 1)) τ.2.2.2.2 ((I 4 3)).toNatClampNeg) = 34 then R_26 95 [(0, .ref 4)] [.int 1] (mk (tm_u I 4 8 (((I 4 3) - (I 4 6)) - 1)) J τ) else R_26 94 [(0, .ref 4)] [] (mk (tm_u I 4 8 (((I 4 3) - (I 4 6)) - 1)) J τ)) else none) else none)) := (tm_F_fix _ _ _ _ _ _ _ _ _ _ _).trans rfl
set_option maxRecDepth 20000 in
theorem e_26_94 (I : Nat → Nat → Int32) (J : Nat → Nat → Int64) (τ : tm_Tu)  : R_26 94 [(0, .ref 4)] [] (mk I J τ) = R_26 95 [(0, .ref 4)] [.int 0] (mk I J τ) := (tm_F_fix _ _ _ _ _ _ _ _ _ _ _).trans rfl
set_option maxRecDepth 20000 in
theorem e_26_95 (I : Nat → Nat → Int32) (J : Nat → Nat → Int64) (τ : tm_Tu) (xs0 : Int32) : R_26 95 [(0, .ref 4)] [.int xs0] (mk I J τ) = (if xs0 = 0 then R_26 110 [(0, .ref 4), (1, .int xs0)] [] (mk I J τ) else R_26 110 [(0, .ref 4), (1, .int xs0)] [] (mk (tm_u I 4 3 ((I 4 3) + 1)) J τ)) := (tm_F_fix _ _ _ _ _ _ _ _ _ _ _).trans rfl
set_option maxRecDepth 20000 in
theorem e_26_110 (I : Nat → Nat → Int32) (J : Nat → Nat → Int64) (τ : tm_Tu) (x1 : Int32) : R_26 110 [(0, .ref 4), (1, .int x1)] [] (mk I J τ) = (if (I 4 8) < 4 then R_26 140 [(0, .ref 4), (1, .int x1)] [] (mk I J τ) else (if 32 < (I 4 8) then R_26 140 [(0, .ref 4), (1, .int x1)] [] (mk I J τ) else (if ((I 4 8) - (I 4 8) / 4 * 4) = 0 then R_26 141 [(0, .ref 4), (1, .int x1)] [.int 1] (mk I J τ) else R_26 140 [(0, .ref 4), (1, .int x1)] [] (mk I J τ)))) := (tm_F_fix _ _ _ _ _ _ _ _ _ _ _).trans rfl
set_option maxRecDepth 20000 in
theorem e_26_140 (I : Nat → Nat → Int32) (J : Nat → Nat → Int64) (τ : tm_Tu) (x1 : Int32) : R_26 140 [(0, .ref 4), (1, .int x1)] [] (mk I J τ) = R_26 141 [(0, .ref 4), (1, .int x1)] [.int 0] (mk I J τ) := (tm_F_fix _ _ _ _ _ _ _ _ _ _ _).trans rfl
set_option maxRecDepth 20000 in
theorem e_26_141 (I : Nat → Nat → Int32) (J : Nat → Nat → Int64) (τ : tm_Tu) (x1 : Int32) (xs0 : Int32) : R_26 141 [(0, .ref 4), (1, .int x1)] [.int xs0] (mk I J τ) = (if x1 = 0 then R_26 156 [] [.ref 4] (mk I J τ) else (if xs0 = 0 then R_26 156 [] [.ref 4] (mk I J τ) else R_26 158 [] [.int 32, .ref 4] (mk I J τ))) := (tm_F_fix _ _ _ _ _ _ _ _ _ _ _).trans rfl
set_option maxRecDepth 20000 in
theorem e_26_156 (I : Nat → Nat → Int32) (J : Nat → Nat → Int64) (τ : tm_Tu)  : R_26 156 [] [.ref 4] (mk I J τ) = R_26 158 [] [.int 36, .ref 4] (mk I J τ) := (tm_F_fix _ _ _ _ _ _ _ _ _ _ _).trans rfl
set_option maxRecDepth 20000 in
theorem e_26_158 (I : Nat → Nat → Int32) (J : Nat → Nat → Int64) (τ : tm_Tu) (xs0 : Int32) : R_26 158 [] [.int xs0, .ref 4] (mk I J τ) = some (none, (mk (tm_u I 4 7 xs0) J τ)) := (tm_F_fix _ _ _ _ _ _ _ _ _ _ _).trans rfl
noncomputable def R_27 : tm_K := tm_F tm_sh none G_27 false cd_27 cu_27 25
set_option maxRecDepth 20000 in
theorem e_27 (I : Nat → Nat → Int32) (J : Nat → Nat → Int64) (τ : tm_Tu)  : F_27 [.ref 4] (mk I J τ) = (if kdm τ.2.2.2.2 = 2 ∨ kdm τ.2.2.2.2 = 3 then (if 0 ≤ (I 4 3) ∧ ((I 4 3)).toNatClampNeg < (tm_sh τ.2.2.2.2).2 then (if ((I τ.2.2.2.2 ((I 4 3)).toNatClampNeg) : Int32).toInt = 58 then R_27 60 [(0, .ref 4)] [] (mk (tm_u I 4 7 33) J τ) else (if ((I τ.2.2.2.2 ((I 4 3)).toNatClampNeg) : Int32).toInt = 59 then R_27 60 [(0, .ref 4)] [] (mk (tm_u I 4 7 34) J τ) else R_27 60 [(0, .ref 4)] [] (mk (tm_u I 4 7 36) J τ))) else none) else none) := rfl
set_option maxRecDepth 20000 in
theorem e_27_60 (I : Nat → Nat → Int32) (J : Nat → Nat → Int64) (τ : tm_Tu)  : R_27 60 [(0, .ref 4)] [] (mk I J τ) = some (none, (mk (tm_u I 4 3 ((I 4 3) + 1)) J τ)) := (tm_F_fix _ _ _ _ _ _ _ _ _ _ _).trans rfl
noncomputable def R_28 : tm_K := tm_F tm_sh none G_28 false cd_28 cu_28 73
set_option maxRecDepth 20000 in
theorem e_28 (I : Nat → Nat → Int32) (J : Nat → Nat → Int64) (τ : tm_Tu)  : F_28 [.ref 4] (mk I J τ) = (if (I 4 2) ≤ (I 4 3) then R_28 52 [(0, .ref 4)] [] (mk I J τ) else (if kdm τ.2.2.2.2 = 2 ∨ kdm τ.2.2.2.2 = 3 then (if 0 ≤ (I 4 3) ∧ ((I 4 3)).toNatClampNeg < (tm_sh τ.2.2.2.2).2 then (if (I τ.2.2.2.2 ((I 4 3)).toNatClampNeg) = 32 then R_28 39 [(0, .ref 4)] [] (mk I J τ) else (if kdm τ.2.2.2.2 = 2 ∨ kdm τ.2.2.2.2 = 3 then (if 0 ≤ (I 4 3) ∧ ((I 4 3)).toNatClampNeg < (tm_sh τ.2.2.2.2).2 then (if (I τ.2.2.2.2 ((I 4 3)).toNatClampNeg) = 10 then R_28 39 [(0, .ref 4)] [] (mk I J τ) else R_28 52 [(0, .ref 4)] [] (mk I J τ)) else none) else none)) else none) else none)) := rfl
set_option maxRecDepth 20000 in
theorem e_28_0 (I : Nat → Nat → Int32) (J : Nat → Nat → Int64) (τ : tm_Tu)  : R_28 0 [(0, .ref 4)] [] (mk I J τ) = (if (I 4 2) ≤ (I 4 3) then R_28 52 [(0, .ref 4)] [] (mk I J τ) else (if kdm τ.2.2.2.2 = 2 ∨ kdm τ.2.2.2.2 = 3 then (if 0 ≤ (I 4 3) ∧ ((I 4 3)).toNatClampNeg < (tm_sh τ.2.2.2.2).2 then (if (I τ.2.2.2.2 ((I 4 3)).toNatClampNeg) = 32 then R_28 39 [(0, .ref 4)] [] (mk I J τ) else (if kdm τ.2.2.2.2 = 2 ∨ kdm τ.2.2.2.2 = 3 then (if 0 ≤ (I 4 3) ∧ ((I 4 3)).toNatClampNeg < (tm_sh τ.2.2.2.2).2 then (if (I τ.2.2.2.2 ((I 4 3)).toNatClampNeg) = 10 then R_28 39 [(0, .ref 4)] [] (mk I J τ) else R_28 52 [(0, .ref 4)] [] (mk I J τ)) else none) else none)) else none) else none)) := (tm_F_fix _ _ _ _ _ _ _ _ _ _ _).trans rfl
set_option maxRecDepth 20000 in
theorem e_28_39 (I : Nat → Nat → Int32) (J : Nat → Nat → Int64) (τ : tm_Tu)  : R_28 39 [(0, .ref 4)] [] (mk I J τ) = R_28 0 [(0, .ref 4)] [] (mk (tm_u I 4 3 ((I 4 3) + 1)) J τ) := (tm_F_fix _ _ _ _ _ _ _ _ _ _ _).trans rfl
set_option maxRecDepth 20000 in
theorem e_28_52 (I : Nat → Nat → Int32) (J : Nat → Nat → Int64) (τ : tm_Tu)  : R_28 52 [(0, .ref 4)] [] (mk I J τ) = (if (I 4 3) < (I 4 2) then (if kdm τ.2.2.2.2 = 2 ∨ kdm τ.2.2.2.2 = 3 then (if 0 ≤ (I 4 3) ∧ ((I 4 3)).toNatClampNeg < (tm_sh τ.2.2.2.2).2 then (tm_bI (F_20 [.int ((tm_u I 4 6 (I 4 3)) τ.2.2.2.2 ((I 4 3)).toNatClampNeg)] (mk (tm_u I 4 6 (I 4 3)) J τ)) fun r M => R_28 92 [(0, .ref 4)] [.int r] M) else none) else none) else R_28 149 [] [] (mk (tm_u (tm_u I 4 6 (I 4 3)) 4 7 35) J τ)) := (tm_F_fix _ _ _ _ _ _ _ _ _ _ _).trans rfl
set_option maxRecDepth 20000 in
theorem e_28_92 (I : Nat → Nat → Int32) (J : Nat → Nat → Int64) (τ : tm_Tu) (xs0 : Int32) : R_28 92 [(0, .ref 4)] [.int xs0] (mk I J τ) = (if xs0 = 0 then (if kdm τ.2.2.2.2 = 2 ∨ kdm τ.2.2.2.2 = 3 then (if 0 ≤ (I 4 3) ∧ ((I 4 3)).toNatClampNeg < (tm_sh τ.2.2.2.2).2 then (tm_bI (F_23 [.int (I τ.2.2.2.2 ((I 4 3)).toNatClampNeg)] (mk I J τ)) fun r M => R_28 114 [(0, .ref 4)] [.int r] M) else none) else none) else (tm_bV (F_22 [.ref 4] (mk I J τ)) fun M => R_28 99 [] [] M)) := (tm_F_fix _ _ _ _ _ _ _ _ _ _ _).trans rfl
set_option maxRecDepth 20000 in
theorem e_28_99 (I : Nat → Nat → Int32) (J : Nat → Nat → Int64) (τ : tm_Tu)  : R_28 99 [] [] (mk I J τ) = R_28 149 [] [] (mk I J τ) := (tm_F_fix _ _ _ _ _ _ _ _ _ _ _).trans rfl
set_option maxRecDepth 20000 in
theorem e_28_114 (I : Nat → Nat → Int32) (J : Nat → Nat → Int64) (τ : tm_Tu) (xs0 : Int32) : R_28 114 [(0, .ref 4)] [.int xs0] (mk I J τ) = (if xs0 = 0 then (if kdm τ.2.2.2.2 = 2 ∨ kdm τ.2.2.2.2 = 3 then (if 0 ≤ (I 4 3) ∧ ((I 4 3)).toNatClampNeg < (tm_sh τ.2.2.2.2).2 then (if (I τ.2.2.2.2 ((I 4 3)).toNatClampNeg) = 34 then (tm_bV (F_26 [.ref 4] (mk I J τ)) fun M => R_28 142 [] [] M) else (tm_bV (F_27 [.ref 4] (mk I J τ)) fun M => R_28 149 [] [] M)) else none) else none) else (tm_bV (F_24 [.ref 4] (mk I J τ)) fun M => R_28 121 [] [] M)) := (tm_F_fix _ _ _ _ _ _ _ _ _ _ _).trans rfl
set_option maxRecDepth 20000 in
theorem e_28_121 (I : Nat → Nat → Int32) (J : Nat → Nat → Int64) (τ : tm_Tu)  : R_28 121 [] [] (mk I J τ) = R_28 149 [] [] (mk I J τ) := (tm_F_fix _ _ _ _ _ _ _ _ _ _ _).trans rfl
set_option maxRecDepth 20000 in
theorem e_28_142 (I : Nat → Nat → Int32) (J : Nat → Nat → Int64) (τ : tm_Tu)  : R_28 142 [] [] (mk I J τ) = R_28 149 [] [] (mk I J τ) := (tm_F_fix _ _ _ _ _ _ _ _ _ _ _).trans rfl
set_option maxRecDepth 20000 in
theorem e_28_149 (I : Nat → Nat → Int32) (J : Nat → Nat → Int64) (τ : tm_Tu)  : R_28 149 [] [] (mk I J τ) = some (none, (mk I J τ)) := (tm_F_fix _ _ _ _ _ _ _ _ _ _ _).trans rfl
noncomputable def R_29 : tm_K := tm_F tm_sh none G_29 false cd_29 cu_29 22
set_option maxRecDepth 20000 in
theorem e_29 (I : Nat → Nat → Int32) (J : Nat → Nat → Int64) (τ : tm_Tu) (x2 : Int32) : F_29 [.ref 4, .ref 3, .int x2] (mk I J τ) = (tm_bV (F_28 [.ref 4] (tm_sr (mk (tm_u (tm_u (tm_u (tm_u I 4 2 (if 1400 < x2 then 1400 else x2)) 4 3 0) 4 4 0) 4 5 (-1)) J τ) 4 0 3)) fun M => R_29 34 [] [] M) := rfl
set_option maxRecDepth 20000 in
theorem e_29_34 (I : Nat → Nat → Int32) (J : Nat → Nat → Int64) (τ : tm_Tu)  : R_29 34 [] [] (mk I J τ) = some (none, (mk I J τ)) := (tm_F_fix _ _ _ _ _ _ _ _ _ _ _).trans rfl
noncomputable def R_30 : tm_K := tm_F tm_sh none G_30 true cd_30 cu_30 16
set_option maxRecDepth 20000 in
theorem e_30 (I : Nat → Nat → Int32) (J : Nat → Nat → Int64) (τ : tm_Tu) (x1 : Int32) : F_30 [.ref 4, .int x1] (mk I J τ) = (if (I 4 7) = 36 then R_30 15 [(0, .ref 4)] [.int 1, .ref 4] (mk I J τ) else R_30 15 [(0, .ref 4)] [.int x1, .ref 4] (mk I J τ)) := rfl
set_option maxRecDepth 20000 in
theorem e_30_15 (I : Nat → Nat → Int32) (J : Nat → Nat → Int64) (τ : tm_Tu) (xs0 : Int32) : R_30 15 [(0, .ref 4)] [.int xs0, .ref 4] (mk I J τ) = some (some (.int 0), (mk (tm_u (tm_u I 4 4 xs0) 4 5 (I 4 6)) J τ)) := (tm_F_fix _ _ _ _ _ _ _ _ _ _ _).trans rfl
noncomputable def R_31 : tm_K := tm_F tm_sh none G_31 true cd_31 cu_31 13
set_option maxRecDepth 20000 in
theorem e_31 (I : Nat → Nat → Int32) (J : Nat → Nat → Int64) (τ : tm_Tu) (x1 : Int32) : F_31 [.ref 4, .int x1] (mk I J τ) = (if (I 4 7) = x1 then (tm_bV (F_28 [.ref 4] (mk I J τ)) fun M => R_31 18 [] [] M) else (tm_bI (F_30 [.ref 4, .int 2] (mk I J τ)) fun r M => R_31 13 [] [.int r] M)) := rfl
set_option maxRecDepth 20000 in
theorem e_31_13 (I : Nat → Nat → Int32) (J : Nat → Nat → Int64) (τ : tm_Tu) (xs0 : Int32) : R_31 13 [] [.int xs0] (mk I J τ) = (if xs0 = 0 ∨ xs0 = 1 then some (some (.int xs0), (mk I J τ)) else none) := (tm_F_fix _ _ _ _ _ _ _ _ _ _ _).trans rfl
set_option maxRecDepth 20000 in
theorem e_31_18 (I : Nat → Nat → Int32) (J : Nat → Nat → Int64) (τ : tm_Tu)  : R_31 18 [] [] (mk I J τ) = some (some (.int 1), (mk I J τ)) := (tm_F_fix _ _ _ _ _ _ _ _ _ _ _).trans rfl
noncomputable def R_32 : tm_K := tm_F tm_sh none G_32 false cd_32 cu_32 24
set_option maxRecDepth 20000 in
theorem e_32 (I : Nat → Nat → Int32) (J : Nat → Nat → Int64) (τ : tm_Tu) (a0 : Nat) (l1 : Int64) : F_32 [.ref a0, .long l1] (mk I J τ) = R_32 2 [(0, .ref a0), (1, .long l1), (3, .int 0)] [] (mk I J τ) := rfl
set_option maxRecDepth 20000 in
theorem e_32_2 (I : Nat → Nat → Int32) (J : Nat → Nat → Int64) (τ : tm_Tu) (a0 : Nat) (l1 : Int64) (x3 : Int32) : R_32 2 [(0, .ref a0), (1, .long l1), (3, .int x3)] [] (mk I J τ) = (if kdm a0 = 100 then (if (I a0 1) ≤ x3 then R_32 38 [] [] (mk I J τ) else (if 12 ≤ x3 then R_32 38 [] [] (mk I J τ) else (if kdm a0 = 100 then (if kdm (tm_RT τ a0 0) = 5 ∨ kdm (tm_RT τ a0 0) = 6 then (if 0 ≤ x3 ∧ x3.toNatClampNeg < (tm_sh (tm_RT τ a0 0)).2 then (if kdm (tm_RT τ (tm_RT τ a0 0) x3.toNatClampNeg) = 108 then (if (lg_cmp (J (tm_RT τ (tm_RT τ a0 0) x3.toNatClampNeg) 2) l1) = 0 then some (some (.int x3), (mk I J τ)) else R_32 2 [(0, .ref a0), (1, .long l1), (3, .int (x3 + 1))] [] (mk I J τ)) else none) else none) else none) else none))) else none) := (tm_F_fix _ _ _ _ _ _ _ _ _ _ _).trans rfl
set_option maxRecDepth 20000 in
theorem e_32_38 (I : Nat → Nat → Int32) (J : Nat → Nat → Int64) (τ : tm_Tu)  : R_32 38 [] [] (mk I J τ) = some (some (.int (-1)), (mk I J τ)) := (tm_F_fix _ _ _ _ _ _ _ _ _ _ _).trans rfl
noncomputable def R_33 : tm_K := tm_F tm_sh none G_33 false cd_33 cu_33 16
set_option maxRecDepth 20000 in
theorem e_33 (I : Nat → Nat → Int32) (J : Nat → Nat → Int64) (τ : tm_Tu) (a0 : Nat) (x1 : Int32) : F_33 [.ref a0, .int x1] (mk I J τ) = (if a0 = 1 then none else if 1 ≤ kdm a0 ∧ kdm a0 ≤ 6 then R_33 5 [(0, .ref a0), (1, .int x1), (2, .int 0), (3, .int (Int32.ofNat (tm_sh a0).2))] [] (mk I J τ) else none) := rfl
set_option maxRecDepth 20000 in
theorem e_33_5 (I : Nat → Nat → Int32) (J : Nat → Nat → Int64) (τ : tm_Tu) (a0 : Nat) (x1 : Int32) (x2 : Int32) (x3 : Int32) : R_33 5 [(0, .ref a0), (1, .int x1), (2, .int x2), (3, .int x3)] [] (mk I J τ) = (if x3 ≤ x2 then some (none, (mk I J τ)) else (if kdm a0 = 1 then (if 0 ≤ x2 ∧ x2.toNatClampNeg < (tm_sh a0).2 then R_33 5 [(0, .ref a0), (1, .int x1), (2, .int (x2 + 1)), (3, .int x3)] [] (mk (tm_u I a0 x2.toNatClampNeg x1) J τ) else none) else none)) := (tm_F_fix _ _ _ _ _ _ _ _ _ _ _).trans rfl
noncomputable def R_34 : tm_K := tm_F tm_sh none G_34 false cd_34 cu_34 31
set_option maxRecDepth 20000 in
theorem e_34 (I : Nat → Nat → Int32) (J : Nat → Nat → Int64) (τ : tm_Tu) (a0 : Nat) (l1 : Int64) : F_34 [.ref a0, .long l1] (mk I J τ) = (if kdm a0 = 108 then (if kdm a0 = 108 then (if kdm a0 = 108 then (if kdm a0 = 108 then (if kdm a0 = 108 then (if kdm a0 = 108 then (if kdm a0 = 108 then (if kdm a0 = 108 then (tm_bV (F_33 [.ref (tm_RT τ a0 0), .int 0] (mk (tm_u (tm_u (tm_u (tm_u (tm_u (tm_u I a0 3 0) a0 4 0) a0 5 0) a0 6 0) a0 7 (-1)) a0 8 0) (tm_u J a0 2 l1) τ)) fun M => R_34 43 [(0, .ref a0)] [] M) else none) else none) else none) else none) else none) else none) else none) else none) := rfl
set_option maxRecDepth 20000 in
theorem e_34_43 (I : Nat → Nat → Int32) (J : Nat → Nat → Int64) (τ : tm_Tu) (a0 : Nat) : R_34 43 [(0, .ref a0)] [] (mk I J τ) = (if kdm a0 = 108 then (tm_bV (F_33 [.ref (tm_RT τ a0 1), .int 0] (mk I J τ)) fun M => R_34 51 [] [] M) else none) := (tm_F_fix _ _ _ _ _ _ _ _ _ _ _).trans rfl
set_option maxRecDepth 20000 in
theorem e_34_51 (I : Nat → Nat → Int32) (J : Nat → Nat → Int64) (τ : tm_Tu)  : R_34 51 [] [] (mk I J τ) = some (none, (mk I J τ)) := (tm_F_fix _ _ _ _ _ _ _ _ _ _ _).trans rfl
noncomputable def R_35 : tm_K := tm_F tm_sh none G_35 true cd_35 cu_35 27
set_option maxRecDepth 20000 in
theorem e_35 (I : Nat → Nat → Int32) (J : Nat → Nat → Int64) (τ : tm_Tu) (a0 : Nat) (a2 : Nat) : F_35 [.ref a0, .ref 4, .ref a2] (mk I J τ) = (if (I 4 7) = 30 then (if kdm a0 = 100 then (tm_bI (F_32 [.ref a0, .long (J 4 9)] (mk I J τ)) fun r M => R_35 23 [(1, .ref 4), (2, .ref a2)] [.int r] M) else none) else (tm_bI (F_30 [.ref 4, .int 2] (mk I J τ)) fun r M => R_35 14 [] [.int r] M)) := rfl
set_option maxRecDepth 20000 in
theorem e_35_14 (I : Nat → Nat → Int32) (J : Nat → Nat → Int64) (τ : tm_Tu) (xs0 : Int32) : R_35 14 [] [.int xs0] (mk I J τ) = (if xs0 = 0 ∨ xs0 = 1 then some (some (.int xs0), (mk I J τ)) else none) := (tm_F_fix _ _ _ _ _ _ _ _ _ _ _).trans rfl
set_option maxRecDepth 20000 in
theorem e_35_23 (I : Nat → Nat → Int32) (J : Nat → Nat → Int64) (τ : tm_Tu) (a2 : Nat) (xs0 : Int32) : R_35 23 [(1, .ref 4), (2, .ref a2)] [.int xs0] (mk I J τ) = (if xs0 = (-1) then (if kdm a2 = 108 then (tm_bV (F_34 [.ref a2, .long (J 4 9)] (mk I J τ)) fun M => R_35 41 [(1, .ref 4)] [] M) else none) else (tm_bI (F_30 [.ref 4, .int 3] (mk I J τ)) fun r M => R_35 32 [] [.int r] M)) := (tm_F_fix _ _ _ _ _ _ _ _ _ _ _).trans rfl
set_option maxRecDepth 20000 in
theorem e_35_32 (I : Nat → Nat → Int32) (J : Nat → Nat → Int64) (τ : tm_Tu) (xs0 : Int32) : R_35 32 [] [.int xs0] (mk I J τ) = (if xs0 = 0 ∨ xs0 = 1 then some (some (.int xs0), (mk I J τ)) else none) := (tm_F_fix _ _ _ _ _ _ _ _ _ _ _).trans rfl
set_option maxRecDepth 20000 in
theorem e_35_41 (I : Nat → Nat → Int32) (J : Nat → Nat → Int64) (τ : tm_Tu)  : R_35 41 [(1, .ref 4)] [] (mk I J τ) = (tm_bV (F_28 [.ref 4] (mk I J τ)) fun M => R_35 45 [] [] M) := (tm_F_fix _ _ _ _ _ _ _ _ _ _ _).trans rfl
set_option maxRecDepth 20000 in
theorem e_35_45 (I : Nat → Nat → Int32) (J : Nat → Nat → Int64) (τ : tm_Tu)  : R_35 45 [] [] (mk I J τ) = some (some (.int 1), (mk I J τ)) := (tm_F_fix _ _ _ _ _ _ _ _ _ _ _).trans rfl
noncomputable def R_36 : tm_K := tm_F tm_sh none G_36 true cd_36 cu_36 25
set_option maxRecDepth 20000 in
theorem e_36 (I : Nat → Nat → Int32) (J : Nat → Nat → Int64) (τ : tm_Tu) (x1 : Int32) (x2 : Int32) : F_36 [.ref 4, .int x1, .int x2] (mk I J τ) = (if (I 4 7) = 31 then (if (I 4 8) < x1 then R_36 31 [(0, .ref 4)] [] (mk I J τ) else (if (I 4 8) ≤ x2 then R_36 39 [] [] (mk I J τ) else R_36 31 [(0, .ref 4)] [] (mk I J τ))) else (tm_bI (F_30 [.ref 4, .int 2] (mk I J τ)) fun r M => R_36 14 [] [.int r] M)) := rfl
set_option maxRecDepth 20000 in
theorem e_36_14 (I : Nat → Nat → Int32) (J : Nat → Nat → Int64) (τ : tm_Tu) (xs0 : Int32) : R_36 14 [] [.int xs0] (mk I J τ) = (if xs0 = 0 ∨ xs0 = 1 then some (some (.int xs0), (mk I J τ)) else none) := (tm_F_fix _ _ _ _ _ _ _ _ _ _ _).trans rfl
set_option maxRecDepth 20000 in
theorem e_36_31 (I : Nat → Nat → Int32) (J : Nat → Nat → Int64) (τ : tm_Tu)  : R_36 31 [(0, .ref 4)] [] (mk I J τ) = (tm_bI (F_30 [.ref 4, .int 4] (mk I J τ)) fun r M => R_36 36 [] [.int r] M) := (tm_F_fix _ _ _ _ _ _ _ _ _ _ _).trans rfl
set_option maxRecDepth 20000 in
theorem e_36_36 (I : Nat → Nat → Int32) (J : Nat → Nat → Int64) (τ : tm_Tu) (xs0 : Int32) : R_36 36 [] [.int xs0] (mk I J τ) = (if xs0 = 0 then R_36 44 [] [.int 0] (mk I J τ) else R_36 39 [] [] (mk I J τ)) := (tm_F_fix _ _ _ _ _ _ _ _ _ _ _).trans rfl
set_option maxRecDepth 20000 in
theorem e_36_39 (I : Nat → Nat → Int32) (J : Nat → Nat → Int64) (τ : tm_Tu)  : R_36 39 [] [] (mk I J τ) = R_36 44 [] [.int 1] (mk I J τ) := (tm_F_fix _ _ _ _ _ _ _ _ _ _ _).trans rfl
set_option maxRecDepth 20000 in
theorem e_36_44 (I : Nat → Nat → Int32) (J : Nat → Nat → Int64) (τ : tm_Tu) (xs0 : Int32) : R_36 44 [] [.int xs0] (mk I J τ) = (if xs0 = 0 ∨ xs0 = 1 then some (some (.int xs0), (mk I J τ)) else none) := (tm_F_fix _ _ _ _ _ _ _ _ _ _ _).trans rfl
noncomputable def R_37 : tm_K := tm_F tm_sh none G_37 true cd_37 cu_37 20
set_option maxRecDepth 20000 in
theorem e_37 (I : Nat → Nat → Int32) (J : Nat → Nat → Int64) (τ : tm_Tu) (a0 : Nat) (a2 : Nat) : F_37 [.ref a0, .ref 4, .ref a2] (mk I J τ) = (tm_bI (F_31 [.ref 4, .int 1] (mk I J τ)) fun r M => R_37 5 [(1, .ref 4), (2, .ref a2)] [.int r] M) := rfl
set_option maxRecDepth 20000 in
theorem e_37_5 (I : Nat → Nat → Int32) (J : Nat → Nat → Int64) (τ : tm_Tu) (a2 : Nat) (xs0 : Int32) : R_37 5 [(1, .ref 4), (2, .ref a2)] [.int xs0] (mk I J τ) = (if xs0 = 0 then R_37 19 [] [] (mk I J τ) else (tm_bI (F_36 [.ref 4, .int 0, .int 999] (mk I J τ)) fun r M => R_37 16 [(1, .ref 4), (2, .ref a2)] [.int r] M)) := (tm_F_fix _ _ _ _ _ _ _ _ _ _ _).trans rfl
set_option maxRecDepth 20000 in
theorem e_37_16 (I : Nat → Nat → Int32) (J : Nat → Nat → Int64) (τ : tm_Tu) (a2 : Nat) (xs0 : Int32) : R_37 16 [(1, .ref 4), (2, .ref a2)] [.int xs0] (mk I J τ) = (if xs0 = 0 then R_37 19 [] [] (mk I J τ) else (if kdm a2 = 108 then (tm_bV (F_28 [.ref 4] (mk (tm_u I a2 3 (I 4 8)) J τ)) fun M => R_37 33 [] [] M) else none)) := (tm_F_fix _ _ _ _ _ _ _ _ _ _ _).trans rfl
set_option maxRecDepth 20000 in
theorem e_37_19 (I : Nat → Nat → Int32) (J : Nat → Nat → Int64) (τ : tm_Tu)  : R_37 19 [] [] (mk I J τ) = some (some (.int 0), (mk I J τ)) := (tm_F_fix _ _ _ _ _ _ _ _ _ _ _).trans rfl
set_option maxRecDepth 20000 in
theorem e_37_33 (I : Nat → Nat → Int32) (J : Nat → Nat → Int64) (τ : tm_Tu)  : R_37 33 [] [] (mk I J τ) = some (some (.int 1), (mk I J τ)) := (tm_F_fix _ _ _ _ _ _ _ _ _ _ _).trans rfl
noncomputable def R_38 : tm_K := tm_F tm_sh none G_38 false cd_38 cu_38 26
set_option maxRecDepth 20000 in
theorem e_38 (I : Nat → Nat → Int32) (J : Nat → Nat → Int64) (τ : tm_Tu) (x1 : Int32) : F_38 [.ref 4, .int x1] (mk I J τ) = (if x1 < 0 then R_38 41 [] [] (mk I J τ) else (if (I 4 8) ≤ x1 then R_38 41 [] [] (mk I J τ) else (if (I 4 2) ≤ (((I 4 6) + 1) + x1) then R_38 41 [] [] (mk I J τ) else (if kdm τ.2.2.2.2 = 2 ∨ kdm τ.2.2.2.2 = 3 then (if 0 ≤ (((I 4 6) + 1) + x1) ∧ ((((I 4 6) + 1) + x1)).toNatClampNeg < (tm_sh τ.2.2.2.2).2 then (tm_bI (F_25 [.int (I τ.2.2.2.2 ((((I 4 6) + 1) + x1)).toNatClampNeg)] (mk I J τ)) fun r M => R_38 38 [] [.int r] M) else none) else none)))) := rfl
set_option maxRecDepth 20000 in
theorem e_38_38 (I : Nat → Nat → Int32) (J : Nat → Nat → Int64) (τ : tm_Tu) (xs0 : Int32) : R_38 38 [] [.int xs0] (mk I J τ) = R_38 42 [] [.int xs0] (mk I J τ) := (tm_F_fix _ _ _ _ _ _ _ _ _ _ _).trans rfl
set_option maxRecDepth 20000 in
theorem e_38_41 (I : Nat → Nat → Int32) (J : Nat → Nat → Int64) (τ : tm_Tu)  : R_38 41 [] [] (mk I J τ) = R_38 42 [] [.int 0] (mk I J τ) := (tm_F_fix _ _ _ _ _ _ _ _ _ _ _).trans rfl
set_option maxRecDepth 20000 in
theorem e_38_42 (I : Nat → Nat → Int32) (J : Nat → Nat → Int64) (τ : tm_Tu) (xs0 : Int32) : R_38 42 [] [.int xs0] (mk I J τ) = some (some (.int xs0), (mk I J τ)) := (tm_F_fix _ _ _ _ _ _ _ _ _ _ _).trans rfl
noncomputable def R_39 : tm_K := tm_F tm_sh none G_39 false cd_39 cu_39 28
set_option maxRecDepth 20000 in
theorem e_39 (I : Nat → Nat → Int32) (J : Nat → Nat → Int64) (τ : tm_Tu) (a0 : Nat) : F_39 [.ref a0, .ref 4] (mk I J τ) = (if kdm a0 = 108 then R_39 12 [(0, .ref a0), (1, .ref 4), (2, .int 0)] [] (mk (tm_u I a0 4 ((I 4 8) / 4)) J τ) else none) := rfl
set_option maxRecDepth 20000 in
theorem e_39_12 (I : Nat → Nat → Int32) (J : Nat → Nat → Int64) (τ : tm_Tu) (a0 : Nat) (x2 : Int32) : R_39 12 [(0, .ref a0), (1, .ref 4), (2, .int x2)] [] (mk I J τ) = (if kdm a0 = 108 then (if (4 * (I a0 4)) ≤ x2 then R_39 45 [] [] (mk I J τ) else (if 32 ≤ x2 then R_39 45 [] [] (mk I J τ) else (if kdm a0 = 108 then (tm_bI (F_38 [.ref 4, .int x2] (mk I J τ)) fun r M => R_39 38 [(0, .ref a0), (1, .ref 4), (2, .int x2)] [.int r, .int x2, .ref (tm_RT τ a0 0)] M) else none))) else none) := (tm_F_fix _ _ _ _ _ _ _ _ _ _ _).trans rfl
set_option maxRecDepth 20000 in
theorem e_39_38 (I : Nat → Nat → Int32) (J : Nat → Nat → Int64) (τ : tm_Tu) (a0 : Nat) (x2 : Int32) (xs0 : Int32) (xs1 : Int32) (as2 : Nat) : R_39 38 [(0, .ref a0), (1, .ref 4), (2, .int x2)] [.int xs0, .int xs1, .ref as2] (mk I J τ) = (if kdm as2 = 1 then (if 0 ≤ xs1 ∧ xs1.toNatClampNeg < (tm_sh as2).2 then R_39 12 [(0, .ref a0), (1, .ref 4), (2, .int (x2 + 1))] [] (mk (tm_u I as2 xs1.toNatClampNeg xs0) J τ) else none) else none) := (tm_F_fix _ _ _ _ _ _ _ _ _ _ _).trans rfl
set_option maxRecDepth 20000 in
theorem e_39_45 (I : Nat → Nat → Int32) (J : Nat → Nat → Int64) (τ : tm_Tu)  : R_39 45 [] [] (mk I J τ) = some (none, (mk I J τ)) := (tm_F_fix _ _ _ _ _ _ _ _ _ _ _).trans rfl
noncomputable def R_40 : tm_K := tm_F tm_sh none G_40 true cd_40 cu_40 16
set_option maxRecDepth 20000 in
theorem e_40 (I : Nat → Nat → Int32) (J : Nat → Nat → Int64) (τ : tm_Tu) (a0 : Nat) (a2 : Nat) : F_40 [.ref a0, .ref 4, .ref a2] (mk I J τ) = (if (I 4 7) = 32 then (if kdm a2 = 108 then (tm_bV (F_39 [.ref a2, .ref 4] (mk I J τ)) fun M => R_40 20 [(1, .ref 4)] [] M) else none) else (tm_bI (F_30 [.ref 4, .int 2] (mk I J τ)) fun r M => R_40 14 [] [.int r] M)) := rfl
set_option maxRecDepth 20000 in
theorem e_40_14 (I : Nat → Nat → Int32) (J : Nat → Nat → Int64) (τ : tm_Tu) (xs0 : Int32) : R_40 14 [] [.int xs0] (mk I J τ) = (if xs0 = 0 ∨ xs0 = 1 then some (some (.int xs0), (mk I J τ)) else none) := (tm_F_fix _ _ _ _ _ _ _ _ _ _ _).trans rfl
set_option maxRecDepth 20000 in
theorem e_40_20 (I : Nat → Nat → Int32) (J : Nat → Nat → Int64) (τ : tm_Tu)  : R_40 20 [(1, .ref 4)] [] (mk I J τ) = (tm_bV (F_28 [.ref 4] (mk I J τ)) fun M => R_40 24 [] [] M) := (tm_F_fix _ _ _ _ _ _ _ _ _ _ _).trans rfl
set_option maxRecDepth 20000 in
theorem e_40_24 (I : Nat → Nat → Int32) (J : Nat → Nat → Int64) (τ : tm_Tu)  : R_40 24 [] [] (mk I J τ) = some (some (.int 1), (mk I J τ)) := (tm_F_fix _ _ _ _ _ _ _ _ _ _ _).trans rfl
noncomputable def R_41 : tm_K := tm_F tm_sh none G_41 true cd_41 cu_41 32
set_option maxRecDepth 20000 in
theorem e_41 (I : Nat → Nat → Int32) (J : Nat → Nat → Int64) (τ : tm_Tu) (a0 : Nat) (a2 : Nat) : F_41 [.ref a0, .ref 4, .ref a2] (mk I J τ) = (tm_bI (F_31 [.ref 4, .int 0] (mk I J τ)) fun r M => R_41 5 [(0, .ref a0), (1, .ref 4), (2, .ref a2)] [.int r] M) := rfl
set_option maxRecDepth 20000 in
theorem e_41_5 (I : Nat → Nat → Int32) (J : Nat → Nat → Int64) (τ : tm_Tu) (a0 : Nat) (a2 : Nat) (xs0 : Int32) : R_41 5 [(0, .ref a0), (1, .ref 4), (2, .ref a2)] [.int xs0] (mk I J τ) = (if xs0 = 0 then R_41 56 [] [] (mk I J τ) else (if kdm a0 = 100 then (tm_bI (F_35 [.ref a0, .ref 4, .ref a2] (mk I J τ)) fun r M => R_41 14 [(0, .ref a0), (1, .ref 4), (2, .ref a2)] [.int r] M) else none)) := (tm_F_fix _ _ _ _ _ _ _ _ _ _ _).trans rfl
set_option maxRecDepth 20000 in
theorem e_41_14 (I : Nat → Nat → Int32) (J : Nat → Nat → Int64) (τ : tm_Tu) (a0 : Nat) (a2 : Nat) (xs0 : Int32) : R_41 14 [(0, .ref a0), (1, .ref 4), (2, .ref a2)] [.int xs0] (mk I J τ) = (if xs0 = 0 then R_41 56 [] [] (mk I J τ) else (if kdm a0 = 100 then (tm_bI (F_37 [.ref a0, .ref 4, .ref a2] (mk I J τ)) fun r M => R_41 23 [(0, .ref a0), (1, .ref 4), (2, .ref a2)] [.int r] M) else none)) := (tm_F_fix _ _ _ _ _ _ _ _ _ _ _).trans rfl
set_option maxRecDepth 20000 in
theorem e_41_23 (I : Nat → Nat → Int32) (J : Nat → Nat → Int64) (τ : tm_Tu) (a0 : Nat) (a2 : Nat) (xs0 : Int32) : R_41 23 [(0, .ref a0), (1, .ref 4), (2, .ref a2)] [.int xs0] (mk I J τ) = (if xs0 = 0 then R_41 56 [] [] (mk I J τ) else (tm_bI (F_31 [.ref 4, .int 33] (mk I J τ)) fun r M => R_41 32 [(0, .ref a0), (1, .ref 4), (2, .ref a2)] [.int r] M)) := (tm_F_fix _ _ _ _ _ _ _ _ _ _ _).trans rfl
set_option maxRecDepth 20000 in
theorem e_41_32 (I : Nat → Nat → Int32) (J : Nat → Nat → Int64) (τ : tm_Tu) (a0 : Nat) (a2 : Nat) (xs0 : Int32) : R_41 32 [(0, .ref a0), (1, .ref 4), (2, .ref a2)] [.int xs0] (mk I J τ) = (if xs0 = 0 then R_41 56 [] [] (mk I J τ) else (tm_bI (F_31 [.ref 4, .int 2] (mk I J τ)) fun r M => R_41 40 [(0, .ref a0), (1, .ref 4), (2, .ref a2)] [.int r] M)) := (tm_F_fix _ _ _ _ _ _ _ _ _ _ _).trans rfl
set_option maxRecDepth 20000 in
theorem e_41_40 (I : Nat → Nat → Int32) (J : Nat → Nat → Int64) (τ : tm_Tu) (a0 : Nat) (a2 : Nat) (xs0 : Int32) : R_41 40 [(0, .ref a0), (1, .ref 4), (2, .ref a2)] [.int xs0] (mk I J τ) = (if xs0 = 0 then R_41 56 [] [] (mk I J τ) else (if kdm a0 = 100 then (tm_bI (F_40 [.ref a0, .ref 4, .ref a2] (mk I J τ)) fun r M => R_41 49 [] [.int r] M) else none)) := (tm_F_fix _ _ _ _ _ _ _ _ _ _ _).trans rfl
set_option maxRecDepth 20000 in
theorem e_41_49 (I : Nat → Nat → Int32) (J : Nat → Nat → Int64) (τ : tm_Tu) (xs0 : Int32) : R_41 49 [] [.int xs0] (mk I J τ) = (if xs0 = 0 then R_41 56 [] [] (mk I J τ) else R_41 57 [] [.int 1] (mk I J τ)) := (tm_F_fix _ _ _ _ _ _ _ _ _ _ _).trans rfl
set_option maxRecDepth 20000 in
theorem e_41_56 (I : Nat → Nat → Int32) (J : Nat → Nat → Int64) (τ : tm_Tu)  : R_41 56 [] [] (mk I J τ) = R_41 57 [] [.int 0] (mk I J τ) := (tm_F_fix _ _ _ _ _ _ _ _ _ _ _).trans rfl
set_option maxRecDepth 20000 in
theorem e_41_57 (I : Nat → Nat → Int32) (J : Nat → Nat → Int64) (τ : tm_Tu) (xs0 : Int32) : R_41 57 [] [.int xs0] (mk I J τ) = (if xs0 = 0 ∨ xs0 = 1 then some (some (.int xs0), (mk I J τ)) else none) := (tm_F_fix _ _ _ _ _ _ _ _ _ _ _).trans rfl
noncomputable def R_42 : tm_K := tm_F tm_sh none G_42 true cd_42 cu_42 29
set_option maxRecDepth 20000 in
theorem e_42 (I : Nat → Nat → Int32) (J : Nat → Nat → Int64) (τ : tm_Tu) (a0 : Nat) (x1 : Int32) (x2 : Int32) (x3 : Int32) : F_42 [.ref a0, .int x1, .int x2, .int x3] (mk I J τ) = R_42 7 [(0, .ref a0), (2, .int x2), (3, .int x3), (4, .int (if x1 < 0 then 0 else x1))] [] (mk I J τ) := rfl
set_option maxRecDepth 20000 in
theorem e_42_7 (I : Nat → Nat → Int32) (J : Nat → Nat → Int64) (τ : tm_Tu) (a0 : Nat) (x2 : Int32) (x3 : Int32) (x4 : Int32) : R_42 7 [(0, .ref a0), (2, .int x2), (3, .int x3), (4, .int x4)] [] (mk I J τ) = (if x2 < x4 then R_42 49 [] [] (mk I J τ) else (if kdm a0 = 108 then (if (tm_RT τ a0 1) = 1 then none else if 1 ≤ kdm (tm_RT τ a0 1) ∧ kdm (tm_RT τ a0 1) ≤ 6 then (if (Int32.ofNat (tm_sh (tm_RT τ a0 1)).2) ≤ x4 then R_42 49 [] [] (mk I J τ) else (if kdm a0 = 108 then (if (tm_RT τ a0 1) = 1 then none else (if kdm (tm_RT τ a0 1) = 1 then (if 0 ≤ x4 ∧ x4.toNatClampNeg < (tm_sh (tm_RT τ a0 1)).2 then (if (I (tm_RT τ a0 1) x4.toNatClampNeg) = 0 then (if kdm a0 = 108 then (if kdm (tm_RT τ a0 1) = 1 then (if 0 ≤ x4 ∧ x4.toNatClampNeg < (tm_sh (tm_RT τ a0 1)).2 then R_42 7 [(0, .ref a0), (2, .int x2), (3, .int x3), (4, .int (x4 + 1))] [] (mk (tm_u I (tm_RT τ a0 1) x4.toNatClampNeg x3) J τ) else none) else none) else none) else some (some (.int 0), (mk I J τ))) else none) else none)) else none)) else none) else none)) := (tm_F_fix _ _ _ _ _ _ _ _ _ _ _).trans rfl
set_option maxRecDepth 20000 in
theorem e_42_49 (I : Nat → Nat → Int32) (J : Nat → Nat → Int64) (τ : tm_Tu)  : R_42 49 [] [] (mk I J τ) = some (some (.int 1), (mk I J τ)) := (tm_F_fix _ _ _ _ _ _ _ _ _ _ _).trans rfl
noncomputable def R_43 : tm_K := tm_F tm_sh none G_43 true cd_43 cu_43 30
set_option maxRecDepth 20000 in
theorem e_43 (I : Nat → Nat → Int32) (J : Nat → Nat → Int64) (τ : tm_Tu) (a0 : Nat) (a2 : Nat) (x3 : Int32) (x4 : Int32) : F_43 [.ref a0, .ref 4, .ref a2, .int x3, .int x4] (mk I J τ) = (tm_bV (F_28 [.ref 4] (mk I J τ)) fun M => R_43 4 [(1, .ref 4), (2, .ref a2), (3, .int x3), (4, .int x4)] [] M) := rfl
set_option maxRecDepth 20000 in
theorem e_43_4 (I : Nat → Nat → Int32) (J : Nat → Nat → Int64) (τ : tm_Tu) (a2 : Nat) (x3 : Int32) (x4 : Int32) : R_43 4 [(1, .ref 4), (2, .ref a2), (3, .int x3), (4, .int x4)] [] (mk I J τ) = (if kdm a2 = 108 then (tm_bI (F_36 [.ref 4, .int x3, .int ((I a2 4) - 1)] (mk I J τ)) fun r M => R_43 15 [(1, .ref 4), (2, .ref a2), (3, .int x3), (4, .int x4)] [.int r] M) else none) := (tm_F_fix _ _ _ _ _ _ _ _ _ _ _).trans rfl
set_option maxRecDepth 20000 in
theorem e_43_15 (I : Nat → Nat → Int32) (J : Nat → Nat → Int64) (τ : tm_Tu) (a2 : Nat) (x3 : Int32) (x4 : Int32) (xs0 : Int32) : R_43 15 [(1, .ref 4), (2, .ref a2), (3, .int x3), (4, .int x4)] [.int xs0] (mk I J τ) = (if xs0 = 0 then some (some (.int 0), (mk I J τ)) else (if kdm a2 = 108 then (tm_bI (F_42 [.ref a2, .int (x3 + 1), .int (I 4 8), .int x4] (mk I J τ)) fun r M => R_43 33 [(1, .ref 4)] [.int r] M) else none)) := (tm_F_fix _ _ _ _ _ _ _ _ _ _ _).trans rfl
set_option maxRecDepth 20000 in
theorem e_43_33 (I : Nat → Nat → Int32) (J : Nat → Nat → Int64) (τ : tm_Tu) (xs0 : Int32) : R_43 33 [(1, .ref 4)] [.int xs0] (mk I J τ) = (if xs0 = 0 then (tm_bI (F_30 [.ref 4, .int 5] (mk I J τ)) fun r M => R_43 41 [] [.int r] M) else (tm_bV (F_28 [.ref 4] (mk I J τ)) fun M => R_43 46 [] [] M)) := (tm_F_fix _ _ _ _ _ _ _ _ _ _ _).trans rfl
set_option maxRecDepth 20000 in
theorem e_43_41 (I : Nat → Nat → Int32) (J : Nat → Nat → Int64) (τ : tm_Tu) (xs0 : Int32) : R_43 41 [] [.int xs0] (mk I J τ) = (if xs0 = 0 ∨ xs0 = 1 then some (some (.int xs0), (mk I J τ)) else none) := (tm_F_fix _ _ _ _ _ _ _ _ _ _ _).trans rfl
set_option maxRecDepth 20000 in
theorem e_43_46 (I : Nat → Nat → Int32) (J : Nat → Nat → Int64) (τ : tm_Tu)  : R_43 46 [] [] (mk I J τ) = some (some (.int 1), (mk I J τ)) := (tm_F_fix _ _ _ _ _ _ _ _ _ _ _).trans rfl
noncomputable def R_44 : tm_K := tm_F tm_sh none G_44 true cd_44 cu_44 71
set_option maxRecDepth 20000 in
theorem e_44 (I : Nat → Nat → Int32) (J : Nat → Nat → Int64) (τ : tm_Tu) (a0 : Nat) (a2 : Nat) : F_44 [.ref a0, .ref 4, .ref a2] (mk I J τ) = (if (I 4 7) = 5 then (tm_bV (F_28 [.ref 4] (mk I J τ)) fun M => R_44 14 [(0, .ref a0), (1, .ref 4), (2, .ref a2)] [] M) else R_44 53 [(0, .ref a0), (1, .ref 4), (2, .ref a2), (3, .int 1)] [] (mk I J τ)) := rfl
set_option maxRecDepth 20000 in
theorem e_44_14 (I : Nat → Nat → Int32) (J : Nat → Nat → Int64) (τ : tm_Tu) (a0 : Nat) (a2 : Nat) : R_44 14 [(0, .ref a0), (1, .ref 4), (2, .ref a2)] [] (mk I J τ) = (if (I 4 7) = 10 then R_44 38 [(0, .ref a0), (1, .ref 4), (2, .ref a2)] [] (mk I J τ) else (if (I 4 7) = 11 then R_44 38 [(0, .ref a0), (1, .ref 4), (2, .ref a2)] [] (mk I J τ) else (tm_bI (F_30 [.ref 4, .int 2] (mk I J τ)) fun r M => R_44 37 [] [.int r] M))) := (tm_F_fix _ _ _ _ _ _ _ _ _ _ _).trans rfl
set_option maxRecDepth 20000 in
theorem e_44_37 (I : Nat → Nat → Int32) (J : Nat → Nat → Int64) (τ : tm_Tu) (xs0 : Int32) : R_44 37 [] [.int xs0] (mk I J τ) = (if xs0 = 0 ∨ xs0 = 1 then some (some (.int xs0), (mk I J τ)) else none) := (tm_F_fix _ _ _ _ _ _ _ _ _ _ _).trans rfl
set_option maxRecDepth 20000 in
theorem e_44_38 (I : Nat → Nat → Int32) (J : Nat → Nat → Int64) (τ : tm_Tu) (a0 : Nat) (a2 : Nat) : R_44 38 [(0, .ref a0), (1, .ref 4), (2, .ref a2)] [] (mk I J τ) = (if (I 4 7) = 10 then R_44 52 [(0, .ref a0), (1, .ref 4), (2, .ref a2)] [.int 2] (mk I J τ) else R_44 52 [(0, .ref a0), (1, .ref 4), (2, .ref a2)] [.int 3] (mk I J τ)) := (tm_F_fix _ _ _ _ _ _ _ _ _ _ _).trans rfl
set_option maxRecDepth 20000 in
theorem e_44_52 (I : Nat → Nat → Int32) (J : Nat → Nat → Int64) (τ : tm_Tu) (a0 : Nat) (a2 : Nat) (xs0 : Int32) : R_44 52 [(0, .ref a0), (1, .ref 4), (2, .ref a2)] [.int xs0] (mk I J τ) = R_44 53 [(0, .ref a0), (1, .ref 4), (2, .ref a2), (3, .int xs0)] [] (mk I J τ) := (tm_F_fix _ _ _ _ _ _ _ _ _ _ _).trans rfl
set_option maxRecDepth 20000 in
theorem e_44_53 (I : Nat → Nat → Int32) (J : Nat → Nat → Int64) (τ : tm_Tu) (a0 : Nat) (a2 : Nat) (x3 : Int32) : R_44 53 [(0, .ref a0), (1, .ref 4), (2, .ref a2), (3, .int x3)] [] (mk I J τ) = (tm_bV (F_28 [.ref 4] (mk I J τ)) fun M => R_44 57 [(0, .ref a0), (1, .ref 4), (2, .ref a2), (3, .int x3)] [] M) := (tm_F_fix _ _ _ _ _ _ _ _ _ _ _).trans rfl
set_option maxRecDepth 20000 in
theorem e_44_57 (I : Nat → Nat → Int32) (J : Nat → Nat → Int64) (τ : tm_Tu) (a0 : Nat) (a2 : Nat) (x3 : Int32) : R_44 57 [(0, .ref a0), (1, .ref 4), (2, .ref a2), (3, .int x3)] [] (mk I J τ) = (if kdm a2 = 108 then (tm_bI (F_36 [.ref 4, .int 0, .int ((I a2 4) - 1)] (mk I J τ)) fun r M => R_44 68 [(0, .ref a0), (1, .ref 4), (2, .ref a2), (3, .int x3)] [.int r] M) else none) := (tm_F_fix _ _ _ _ _ _ _ _ _ _ _).trans rfl
set_option maxRecDepth 20000 in
theorem e_44_68 (I : Nat → Nat → Int32) (J : Nat → Nat → Int64) (τ : tm_Tu) (a0 : Nat) (a2 : Nat) (x3 : Int32) (xs0 : Int32) : R_44 68 [(0, .ref a0), (1, .ref 4), (2, .ref a2), (3, .int x3)] [.int xs0] (mk I J τ) = (if xs0 = 0 then some (some (.int 0), (mk I J τ)) else (if kdm a2 = 108 then (tm_bI (F_42 [.ref a2, .int (I 4 8), .int (I 4 8), .int x3] (mk I J τ)) fun r M => R_44 88 [(0, .ref a0), (1, .ref 4), (2, .ref a2), (3, .int x3), (4, .int (I 4 8))] [.int r] M) else none)) := (tm_F_fix _ _ _ _ _ _ _ _ _ _ _).trans rfl
set_option maxRecDepth 20000 in
theorem e_44_88 (I : Nat → Nat → Int32) (J : Nat → Nat → Int64) (τ : tm_Tu) (a0 : Nat) (a2 : Nat) (x3 : Int32) (x4 : Int32) (xs0 : Int32) : R_44 88 [(0, .ref a0), (1, .ref 4), (2, .ref a2), (3, .int x3), (4, .int x4)] [.int xs0] (mk I J τ) = (if xs0 = 0 then (tm_bI (F_30 [.ref 4, .int 5] (mk I J τ)) fun r M => R_44 96 [] [.int r] M) else (tm_bV (F_28 [.ref 4] (mk I J τ)) fun M => R_44 101 [(0, .ref a0), (1, .ref 4), (2, .ref a2), (3, .int x3), (4, .int x4)] [] M)) := (tm_F_fix _ _ _ _ _ _ _ _ _ _ _).trans rfl
set_option maxRecDepth 20000 in
theorem e_44_96 (I : Nat → Nat → Int32) (J : Nat → Nat → Int64) (τ : tm_Tu) (xs0 : Int32) : R_44 96 [] [.int xs0] (mk I J τ) = (if xs0 = 0 ∨ xs0 = 1 then some (some (.int xs0), (mk I J τ)) else none) := (tm_F_fix _ _ _ _ _ _ _ _ _ _ _).trans rfl
set_option maxRecDepth 20000 in
theorem e_44_101 (I : Nat → Nat → Int32) (J : Nat → Nat → Int64) (τ : tm_Tu) (a0 : Nat) (a2 : Nat) (x3 : Int32) (x4 : Int32) : R_44 101 [(0, .ref a0), (1, .ref 4), (2, .ref a2), (3, .int x3), (4, .int x4)] [] (mk I J τ) = (if (I 4 7) = 4 then (if kdm a0 = 100 then (tm_bI (F_43 [.ref a0, .ref 4, .ref a2, .int x4, .int x3] (mk I J τ)) fun r M => R_44 118 [] [.int r] M) else none) else R_44 121 [] [] (mk I J τ)) := (tm_F_fix _ _ _ _ _ _ _ _ _ _ _).trans rfl
set_option maxRecDepth 20000 in
theorem e_44_118 (I : Nat → Nat → Int32) (J : Nat → Nat → Int64) (τ : tm_Tu) (xs0 : Int32) : R_44 118 [] [.int xs0] (mk I J τ) = (if xs0 = 0 then R_44 126 [] [.int 0] (mk I J τ) else R_44 121 [] [] (mk I J τ)) := (tm_F_fix _ _ _ _ _ _ _ _ _ _ _).trans rfl
set_option maxRecDepth 20000 in
theorem e_44_121 (I : Nat → Nat → Int32) (J : Nat → Nat → Int64) (τ : tm_Tu)  : R_44 121 [] [] (mk I J τ) = R_44 126 [] [.int 1] (mk I J τ) := (tm_F_fix _ _ _ _ _ _ _ _ _ _ _).trans rfl
set_option maxRecDepth 20000 in
theorem e_44_126 (I : Nat → Nat → Int32) (J : Nat → Nat → Int64) (τ : tm_Tu) (xs0 : Int32) : R_44 126 [] [.int xs0] (mk I J τ) = (if xs0 = 0 ∨ xs0 = 1 then some (some (.int xs0), (mk I J τ)) else none) := (tm_F_fix _ _ _ _ _ _ _ _ _ _ _).trans rfl
noncomputable def R_45 : tm_K := tm_F tm_sh none G_45 true cd_45 cu_45 25
set_option maxRecDepth 20000 in
theorem e_45 (I : Nat → Nat → Int32) (J : Nat → Nat → Int64) (τ : tm_Tu) (a0 : Nat) (a2 : Nat) : F_45 [.ref a0, .ref 4, .ref a2] (mk I J τ) = (if kdm a2 = 108 then (if (I a2 5) = 0 then (tm_bV (F_28 [.ref 4] (mk I J τ)) fun M => R_45 17 [(1, .ref 4), (2, .ref a2)] [] M) else (tm_bI (F_30 [.ref 4, .int 2] (mk I J τ)) fun r M => R_45 12 [] [.int r] M)) else none) := rfl
set_option maxRecDepth 20000 in
theorem e_45_12 (I : Nat → Nat → Int32) (J : Nat → Nat → Int64) (τ : tm_Tu) (xs0 : Int32) : R_45 12 [] [.int xs0] (mk I J τ) = (if xs0 = 0 ∨ xs0 = 1 then some (some (.int xs0), (mk I J τ)) else none) := (tm_F_fix _ _ _ _ _ _ _ _ _ _ _).trans rfl
set_option maxRecDepth 20000 in
theorem e_45_17 (I : Nat → Nat → Int32) (J : Nat → Nat → Int64) (τ : tm_Tu) (a2 : Nat) : R_45 17 [(1, .ref 4), (2, .ref a2)] [] (mk I J τ) = (tm_bI (F_36 [.ref 4, .int 1, .int 3] (mk I J τ)) fun r M => R_45 23 [(1, .ref 4), (2, .ref a2)] [.int r] M) := (tm_F_fix _ _ _ _ _ _ _ _ _ _ _).trans rfl
set_option maxRecDepth 20000 in
theorem e_45_23 (I : Nat → Nat → Int32) (J : Nat → Nat → Int64) (τ : tm_Tu) (a2 : Nat) (xs0 : Int32) : R_45 23 [(1, .ref 4), (2, .ref a2)] [.int xs0] (mk I J τ) = (if xs0 = 0 then some (some (.int 0), (mk I J τ)) else (if kdm a2 = 108 then (tm_bV (F_28 [.ref 4] (mk (tm_u I a2 5 (I 4 8)) J τ)) fun M => R_45 40 [] [] M) else none)) := (tm_F_fix _ _ _ _ _ _ _ _ _ _ _).trans rfl
set_option maxRecDepth 20000 in
theorem e_45_40 (I : Nat → Nat → Int32) (J : Nat → Nat → Int64) (τ : tm_Tu)  : R_45 40 [] [] (mk I J τ) = some (some (.int 1), (mk I J τ)) := (tm_F_fix _ _ _ _ _ _ _ _ _ _ _).trans rfl
noncomputable def R_46 : tm_K := tm_F tm_sh none G_46 true cd_46 cu_46 33
set_option maxRecDepth 20000 in
theorem e_46 (I : Nat → Nat → Int32) (J : Nat → Nat → Int64) (τ : tm_Tu) (a0 : Nat) (a2 : Nat) : F_46 [.ref a0, .ref 4, .ref a2] (mk I J τ) = (if kdm a2 = 108 then (if (I a2 6) = 0 then (tm_bV (F_28 [.ref 4] (mk I J τ)) fun M => R_46 17 [(1, .ref 4), (2, .ref a2)] [] M) else (tm_bI (F_30 [.ref 4, .int 2] (mk I J τ)) fun r M => R_46 12 [] [.int r] M)) else none) := rfl
set_option maxRecDepth 20000 in
theorem e_46_12 (I : Nat → Nat → Int32) (J : Nat → Nat → Int64) (τ : tm_Tu) (xs0 : Int32) : R_46 12 [] [.int xs0] (mk I J τ) = (if xs0 = 0 ∨ xs0 = 1 then some (some (.int xs0), (mk I J τ)) else none) := (tm_F_fix _ _ _ _ _ _ _ _ _ _ _).trans rfl
set_option maxRecDepth 20000 in
theorem e_46_17 (I : Nat → Nat → Int32) (J : Nat → Nat → Int64) (τ : tm_Tu) (a2 : Nat) : R_46 17 [(1, .ref 4), (2, .ref a2)] [] (mk I J τ) = (if ((I 4 7) : Int32).toInt = 11 then (if kdm a2 = 108 then R_46 78 [(1, .ref 4)] [] (mk (tm_u I a2 6 3) J τ) else none) else (if ((I 4 7) : Int32).toInt = 12 then (if kdm a2 = 108 then R_46 78 [(1, .ref 4)] [] (mk (tm_u I a2 6 1) J τ) else none) else (if ((I 4 7) : Int32).toInt = 13 then (if kdm a2 = 108 then R_46 78 [(1, .ref 4)] [] (mk (tm_u I a2 6 2) J τ) else none) else (tm_bI (F_30 [.ref 4, .int 2] (mk I J τ)) fun r M => R_46 77 [] [.int r] M)))) := (tm_F_fix _ _ _ _ _ _ _ _ _ _ _).trans rfl
set_option maxRecDepth 20000 in
theorem e_46_77 (I : Nat → Nat → Int32) (J : Nat → Nat → Int64) (τ : tm_Tu) (xs0 : Int32) : R_46 77 [] [.int xs0] (mk I J τ) = (if xs0 = 0 ∨ xs0 = 1 then some (some (.int xs0), (mk I J τ)) else none) := (tm_F_fix _ _ _ _ _ _ _ _ _ _ _).trans rfl
set_option maxRecDepth 20000 in
theorem e_46_78 (I : Nat → Nat → Int32) (J : Nat → Nat → Int64) (τ : tm_Tu)  : R_46 78 [(1, .ref 4)] [] (mk I J τ) = (tm_bV (F_28 [.ref 4] (mk I J τ)) fun M => R_46 82 [] [] M) := (tm_F_fix _ _ _ _ _ _ _ _ _ _ _).trans rfl
set_option maxRecDepth 20000 in
theorem e_46_82 (I : Nat → Nat → Int32) (J : Nat → Nat → Int64) (τ : tm_Tu)  : R_46 82 [] [] (mk I J τ) = some (some (.int 1), (mk I J τ)) := (tm_F_fix _ _ _ _ _ _ _ _ _ _ _).trans rfl
noncomputable def R_47 : tm_K := tm_F tm_sh none G_47 true cd_47 cu_47 26
set_option maxRecDepth 20000 in
theorem e_47 (I : Nat → Nat → Int32) (J : Nat → Nat → Int64) (τ : tm_Tu) (a0 : Nat) (a2 : Nat) : F_47 [.ref a0, .ref 4, .ref a2] (mk I J τ) = (if kdm a2 = 108 then (if (I a2 7) = (-1) then (tm_bV (F_28 [.ref 4] (mk I J τ)) fun M => R_47 18 [(1, .ref 4), (2, .ref a2)] [] M) else (tm_bI (F_30 [.ref 4, .int 2] (mk I J τ)) fun r M => R_47 13 [] [.int r] M)) else none) := rfl
set_option maxRecDepth 20000 in
theorem e_47_13 (I : Nat → Nat → Int32) (J : Nat → Nat → Int64) (τ : tm_Tu) (xs0 : Int32) : R_47 13 [] [.int xs0] (mk I J τ) = (if xs0 = 0 ∨ xs0 = 1 then some (some (.int xs0), (mk I J τ)) else none) := (tm_F_fix _ _ _ _ _ _ _ _ _ _ _).trans rfl
set_option maxRecDepth 20000 in
theorem e_47_18 (I : Nat → Nat → Int32) (J : Nat → Nat → Int64) (τ : tm_Tu) (a2 : Nat) : R_47 18 [(1, .ref 4), (2, .ref a2)] [] (mk I J τ) = (tm_bI (F_36 [.ref 4, .int 0, .int 3] (mk I J τ)) fun r M => R_47 24 [(1, .ref 4), (2, .ref a2)] [.int r] M) := (tm_F_fix _ _ _ _ _ _ _ _ _ _ _).trans rfl
set_option maxRecDepth 20000 in
theorem e_47_24 (I : Nat → Nat → Int32) (J : Nat → Nat → Int64) (τ : tm_Tu) (a2 : Nat) (xs0 : Int32) : R_47 24 [(1, .ref 4), (2, .ref a2)] [.int xs0] (mk I J τ) = (if xs0 = 0 then some (some (.int 0), (mk I J τ)) else (if kdm a2 = 108 then (tm_bV (F_28 [.ref 4] (mk (tm_u I a2 7 (I 4 8)) J τ)) fun M => R_47 41 [] [] M) else none)) := (tm_F_fix _ _ _ _ _ _ _ _ _ _ _).trans rfl
set_option maxRecDepth 20000 in
theorem e_47_41 (I : Nat → Nat → Int32) (J : Nat → Nat → Int64) (τ : tm_Tu)  : R_47 41 [] [] (mk I J τ) = some (some (.int 1), (mk I J τ)) := (tm_F_fix _ _ _ _ _ _ _ _ _ _ _).trans rfl
noncomputable def R_48 : tm_K := tm_F tm_sh none G_48 true cd_48 cu_48 15
set_option maxRecDepth 20000 in
theorem e_48 (I : Nat → Nat → Int32) (J : Nat → Nat → Int64) (τ : tm_Tu) (a0 : Nat) (a2 : Nat) : F_48 [.ref a0, .ref 4, .ref a2] (mk I J τ) = (if kdm a2 = 108 then (if (I a2 8) = 0 then (tm_bV (F_28 [.ref 4] (mk I J τ)) fun M => R_48 17 [(2, .ref a2)] [] M) else (tm_bI (F_30 [.ref 4, .int 2] (mk I J τ)) fun r M => R_48 12 [] [.int r] M)) else none) := rfl
set_option maxRecDepth 20000 in
theorem e_48_12 (I : Nat → Nat → Int32) (J : Nat → Nat → Int64) (τ : tm_Tu) (xs0 : Int32) : R_48 12 [] [.int xs0] (mk I J τ) = (if xs0 = 0 ∨ xs0 = 1 then some (some (.int xs0), (mk I J τ)) else none) := (tm_F_fix _ _ _ _ _ _ _ _ _ _ _).trans rfl
set_option maxRecDepth 20000 in
theorem e_48_17 (I : Nat → Nat → Int32) (J : Nat → Nat → Int64) (τ : tm_Tu) (a2 : Nat) : R_48 17 [(2, .ref a2)] [] (mk I J τ) = (if kdm a2 = 108 then some (some (.int 1), (mk (tm_u I a2 8 1) J τ)) else none) := (tm_F_fix _ _ _ _ _ _ _ _ _ _ _).trans rfl
noncomputable def R_49 : tm_K := tm_F tm_sh none G_49 true cd_49 cu_49 63
set_option maxRecDepth 20000 in
theorem e_49 (I : Nat → Nat → Int32) (J : Nat → Nat → Int64) (τ : tm_Tu) (a0 : Nat) (a2 : Nat) : F_49 [.ref a0, .ref 4, .ref a2] (mk I J τ) = R_49 5 [(0, .ref a0), (1, .ref 4), (2, .ref a2), (3, .int 1), (4, .int 0)] [] (mk I J τ) := rfl
set_option maxRecDepth 20000 in
theorem e_49_5 (I : Nat → Nat → Int32) (J : Nat → Nat → Int64) (τ : tm_Tu) (a0 : Nat) (a2 : Nat) (x3 : Int32) (x4 : Int32) : R_49 5 [(0, .ref a0), (1, .ref 4), (2, .ref a2), (3, .int x3), (4, .int x4)] [] (mk I J τ) = (if 1400 ≤ x4 then R_49 134 [(1, .ref 4), (3, .int x3)] [] (mk I J τ) else (if x3 = 0 then R_49 134 [(1, .ref 4), (3, .int x3)] [] (mk I J τ) else (if (I 4 7) = 34 then R_49 134 [(1, .ref 4), (3, .int x3)] [] (mk I J τ) else (if ((I 4 7) : Int32).toInt = 3 then (if kdm a0 = 100 then (tm_bI (F_44 [.ref a0, .ref 4, .ref a2] (mk I J τ)) fun r M => R_49 78 [(0, .ref a0), (1, .ref 4), (2, .ref a2), (4, .int x4)] [.int r] M) else none) else (if ((I 4 7) : Int32).toInt = 4 then (tm_bI (F_30 [.ref 4, .int 2] (mk I J τ)) fun r M => R_49 127 [(0, .ref a0), (1, .ref 4), (2, .ref a2), (4, .int x4)] [.int r] M) else (if ((I 4 7) : Int32).toInt = 5 then (if kdm a0 = 100 then (tm_bI (F_44 [.ref a0, .ref 4, .ref a2] (mk I J τ)) fun r M => R_49 78 [(0, .ref a0), (1, .ref 4), (2, .ref a2), (4, .int x4)] [.int r] M) else none) else (if ((I 4 7) : Int32).toInt = 6 then (if kdm a0 = 100 then (tm_bI (F_45 [.ref a0, .ref 4, .ref a2] (mk I J τ)) fun r M => R_49 88 [(0, .ref a0), (1, .ref 4), (2, .ref a2), (4, .int x4)] [.int r] M) else none) else (if ((I 4 7) : Int32).toInt = 7 then (if kdm a0 = 100 then (tm_bI (F_46 [.ref a0, .ref 4, .ref a2] (mk I J τ)) fun r M => R_49 98 [(0, .ref a0), (1, .ref 4), (2, .ref a2), (4, .int x4)] [.int r] M) else none) else (if ((I 4 7) : Int32).toInt = 8 then (if kdm a0 = 100 then (tm_bI (F_47 [.ref a0, .ref 4, .ref a2] (mk I J τ)) fun r M => R_49 108 [(0, .ref a0), (1, .ref 4), (2, .ref a2), (4, .int x4)] [.int r] M) else none) else (if ((I 4 7) : Int32).toInt = 9 then (if kdm a0 = 100 then (tm_bI (F_48 [.ref a0, .ref 4, .ref a2] (mk I J τ)) fun r M => R_49 118 [(0, .ref a0), (1, .ref 4), (2, .ref a2), (4, .int x4)] [.int r] M) else none) else (tm_bI (F_30 [.ref 4, .int 2] (mk I J τ)) fun r M => R_49 127 [(0, .ref a0), (1, .ref 4), (2, .ref a2), (4, .int x4)] [.int r] M))))))))))) := (tm_F_fix _ _ _ _ _ _ _ _ _ _ _).trans rfl
set_option maxRecDepth 20000 in
theorem e_49_78 (I : Nat → Nat → Int32) (J : Nat → Nat → Int64) (τ : tm_Tu) (a0 : Nat) (a2 : Nat) (x4 : Int32) (xs0 : Int32) : R_49 78 [(0, .ref a0), (1, .ref 4), (2, .ref a2), (4, .int x4)] [.int xs0] (mk I J τ) = R_49 128 [(0, .ref a0), (1, .ref 4), (2, .ref a2), (3, .int xs0), (4, .int x4)] [] (mk I J τ) := (tm_F_fix _ _ _ _ _ _ _ _ _ _ _).trans rfl
set_option maxRecDepth 20000 in
theorem e_49_88 (I : Nat → Nat → Int32) (J : Nat → Nat → Int64) (τ : tm_Tu) (a0 : Nat) (a2 : Nat) (x4 : Int32) (xs0 : Int32) : R_49 88 [(0, .ref a0), (1, .ref 4), (2, .ref a2), (4, .int x4)] [.int xs0] (mk I J τ) = R_49 128 [(0, .ref a0), (1, .ref 4), (2, .ref a2), (3, .int xs0), (4, .int x4)] [] (mk I J τ) := (tm_F_fix _ _ _ _ _ _ _ _ _ _ _).trans rfl
set_option maxRecDepth 20000 in
theorem e_49_98 (I : Nat → Nat → Int32) (J : Nat → Nat → Int64) (τ : tm_Tu) (a0 : Nat) (a2 : Nat) (x4 : Int32) (xs0 : Int32) : R_49 98 [(0, .ref a0), (1, .ref 4), (2, .ref a2), (4, .int x4)] [.int xs0] (mk I J τ) = R_49 128 [(0, .ref a0), (1, .ref 4), (2, .ref a2), (3, .int xs0), (4, .int x4)] [] (mk I J τ) := (tm_F_fix _ _ _ _ _ _ _ _ _ _ _).trans rfl
set_option maxRecDepth 20000 in
theorem e_49_108 (I : Nat → Nat → Int32) (J : Nat → Nat → Int64) (τ : tm_Tu) (a0 : Nat) (a2 : Nat) (x4 : Int32) (xs0 : Int32) : R_49 108 [(0, .ref a0), (1, .ref 4), (2, .ref a2), (4, .int x4)] [.int xs0] (mk I J τ) = R_49 128 [(0, .ref a0), (1, .ref 4), (2, .ref a2), (3, .int xs0), (4, .int x4)] [] (mk I J τ) := (tm_F_fix _ _ _ _ _ _ _ _ _ _ _).trans rfl
set_option maxRecDepth 20000 in
theorem e_49_118 (I : Nat → Nat → Int32) (J : Nat → Nat → Int64) (τ : tm_Tu) (a0 : Nat) (a2 : Nat) (x4 : Int32) (xs0 : Int32) : R_49 118 [(0, .ref a0), (1, .ref 4), (2, .ref a2), (4, .int x4)] [.int xs0] (mk I J τ) = R_49 128 [(0, .ref a0), (1, .ref 4), (2, .ref a2), (3, .int xs0), (4, .int x4)] [] (mk I J τ) := (tm_F_fix _ _ _ _ _ _ _ _ _ _ _).trans rfl
set_option maxRecDepth 20000 in
theorem e_49_127 (I : Nat → Nat → Int32) (J : Nat → Nat → Int64) (τ : tm_Tu) (a0 : Nat) (a2 : Nat) (x4 : Int32) (xs0 : Int32) : R_49 127 [(0, .ref a0), (1, .ref 4), (2, .ref a2), (4, .int x4)] [.int xs0] (mk I J τ) = R_49 128 [(0, .ref a0), (1, .ref 4), (2, .ref a2), (3, .int xs0), (4, .int x4)] [] (mk I J τ) := (tm_F_fix _ _ _ _ _ _ _ _ _ _ _).trans rfl
set_option maxRecDepth 20000 in
theorem e_49_128 (I : Nat → Nat → Int32) (J : Nat → Nat → Int64) (τ : tm_Tu) (a0 : Nat) (a2 : Nat) (x3 : Int32) (x4 : Int32) : R_49 128 [(0, .ref a0), (1, .ref 4), (2, .ref a2), (3, .int x3), (4, .int x4)] [] (mk I J τ) = R_49 5 [(0, .ref a0), (1, .ref 4), (2, .ref a2), (3, .int x3), (4, .int (x4 + 1))] [] (mk I J τ) := (tm_F_fix _ _ _ _ _ _ _ _ _ _ _).trans rfl
set_option maxRecDepth 20000 in
theorem e_49_134 (I : Nat → Nat → Int32) (J : Nat → Nat → Int64) (τ : tm_Tu) (x3 : Int32) : R_49 134 [(1, .ref 4), (3, .int x3)] [] (mk I J τ) = (if x3 = 0 then R_49 151 [] [] (mk I J τ) else (tm_bI (F_31 [.ref 4, .int 34] (mk I J τ)) fun r M => R_49 144 [] [.int r] M)) := (tm_F_fix _ _ _ _ _ _ _ _ _ _ _).trans rfl
set_option maxRecDepth 20000 in
theorem e_49_144 (I : Nat → Nat → Int32) (J : Nat → Nat → Int64) (τ : tm_Tu) (xs0 : Int32) : R_49 144 [] [.int xs0] (mk I J τ) = (if xs0 = 0 then R_49 151 [] [] (mk I J τ) else R_49 152 [] [.int 1] (mk I J τ)) := (tm_F_fix _ _ _ _ _ _ _ _ _ _ _).trans rfl
set_option maxRecDepth 20000 in
theorem e_49_151 (I : Nat → Nat → Int32) (J : Nat → Nat → Int64) (τ : tm_Tu)  : R_49 151 [] [] (mk I J τ) = R_49 152 [] [.int 0] (mk I J τ) := (tm_F_fix _ _ _ _ _ _ _ _ _ _ _).trans rfl
set_option maxRecDepth 20000 in
theorem e_49_152 (I : Nat → Nat → Int32) (J : Nat → Nat → Int64) (τ : tm_Tu) (xs0 : Int32) : R_49 152 [] [.int xs0] (mk I J τ) = (if xs0 = 0 ∨ xs0 = 1 then some (some (.int xs0), (mk I J τ)) else none) := (tm_F_fix _ _ _ _ _ _ _ _ _ _ _).trans rfl
