/-! the equations, further -/
noncomputable def R_50 : tm_K := tm_F tm_sh none G_50 true cd_50 cu_50 50
set_option maxRecDepth 20000 in
theorem e_50 (I : Nat → Nat → Int32) (J : Nat → Nat → Int64) (τ : tm_Tu) (a0 : Nat) : F_50 [.ref a0, .ref 4] (mk I J τ) = (if kdm a0 = 100 then R_50 5 [(0, .ref a0), (1, .ref 4)] [] (mk (tm_u I a0 1 0) J τ) else none) := rfl
set_option maxRecDepth 20000 in
theorem e_50_5 (I : Nat → Nat → Int32) (J : Nat → Nat → Int64) (τ : tm_Tu) (a0 : Nat) : R_50 5 [(0, .ref a0), (1, .ref 4)] [] (mk I J τ) = (if kdm a0 = 100 then (if 12 ≤ (I a0 1) then R_50 70 [(1, .ref 4)] [] (mk I J τ) else (if (I 4 7) = 0 then (if kdm a0 = 100 then (if kdm a0 = 100 then (if kdm (tm_RT τ a0 0) = 5 ∨ kdm (tm_RT τ a0 0) = 6 then (if 0 ≤ (I a0 1) ∧ ((I a0 1)).toNatClampNeg < (tm_sh (tm_RT τ a0 0)).2 then (if kdm a0 = 100 then (tm_bI (F_41 [.ref a0, .ref 4, .ref (tm_RT τ (tm_RT τ a0 0) ((I a0 1)).toNatClampNeg)] (mk I J τ)) fun r M => R_50 35 [(0, .ref a0), (1, .ref 4)] [.int r] M) else none) else none) else none) else none) else none) else R_50 70 [(1, .ref 4)] [] (mk I J τ))) else none) := (tm_F_fix _ _ _ _ _ _ _ _ _ _ _).trans rfl
set_option maxRecDepth 20000 in
theorem e_50_35 (I : Nat → Nat → Int32) (J : Nat → Nat → Int64) (τ : tm_Tu) (a0 : Nat) (xs0 : Int32) : R_50 35 [(0, .ref a0), (1, .ref 4)] [.int xs0] (mk I J τ) = (if xs0 = 0 then R_50 55 [] [] (mk I J τ) else (if kdm a0 = 100 then (if kdm a0 = 100 then (if kdm (tm_RT τ a0 0) = 5 ∨ kdm (tm_RT τ a0 0) = 6 then (if 0 ≤ (I a0 1) ∧ ((I a0 1)).toNatClampNeg < (tm_sh (tm_RT τ a0 0)).2 then (if kdm a0 = 100 then (tm_bI (F_49 [.ref a0, .ref 4, .ref (tm_RT τ (tm_RT τ a0 0) ((I a0 1)).toNatClampNeg)] (mk I J τ)) fun r M => R_50 52 [(0, .ref a0), (1, .ref 4)] [.int r] M) else none) else none) else none) else none) else none)) := (tm_F_fix _ _ _ _ _ _ _ _ _ _ _).trans rfl
set_option maxRecDepth 20000 in
theorem e_50_52 (I : Nat → Nat → Int32) (J : Nat → Nat → Int64) (τ : tm_Tu) (a0 : Nat) (xs0 : Int32) : R_50 52 [(0, .ref a0), (1, .ref 4)] [.int xs0] (mk I J τ) = (if xs0 = 0 then R_50 55 [] [] (mk I J τ) else (if kdm a0 = 100 then (if kdm a0 = 100 then R_50 5 [(0, .ref a0), (1, .ref 4)] [] (mk (tm_u I a0 1 ((I a0 1) + 1)) J τ) else none) else none)) := (tm_F_fix _ _ _ _ _ _ _ _ _ _ _).trans rfl
set_option maxRecDepth 20000 in
theorem e_50_55 (I : Nat → Nat → Int32) (J : Nat → Nat → Int64) (τ : tm_Tu)  : R_50 55 [] [] (mk I J τ) = some (some (.int 0), (mk I J τ)) := (tm_F_fix _ _ _ _ _ _ _ _ _ _ _).trans rfl
set_option maxRecDepth 20000 in
theorem e_50_70 (I : Nat → Nat → Int32) (J : Nat → Nat → Int64) (τ : tm_Tu)  : R_50 70 [(1, .ref 4)] [] (mk I J τ) = (if (I 4 7) = 35 then R_50 87 [] [] (mk I J τ) else (tm_bI (F_30 [.ref 4, .int 2] (mk I J τ)) fun r M => R_50 84 [] [.int r] M)) := (tm_F_fix _ _ _ _ _ _ _ _ _ _ _).trans rfl
set_option maxRecDepth 20000 in
theorem e_50_84 (I : Nat → Nat → Int32) (J : Nat → Nat → Int64) (τ : tm_Tu) (xs0 : Int32) : R_50 84 [] [.int xs0] (mk I J τ) = (if xs0 = 0 then R_50 92 [] [.int 0] (mk I J τ) else R_50 87 [] [] (mk I J τ)) := (tm_F_fix _ _ _ _ _ _ _ _ _ _ _).trans rfl
set_option maxRecDepth 20000 in
theorem e_50_87 (I : Nat → Nat → Int32) (J : Nat → Nat → Int64) (τ : tm_Tu)  : R_50 87 [] [] (mk I J τ) = R_50 92 [] [.int 1] (mk I J τ) := (tm_F_fix _ _ _ _ _ _ _ _ _ _ _).trans rfl
set_option maxRecDepth 20000 in
theorem e_50_92 (I : Nat → Nat → Int32) (J : Nat → Nat → Int64) (τ : tm_Tu) (xs0 : Int32) : R_50 92 [] [.int xs0] (mk I J τ) = (if xs0 = 0 ∨ xs0 = 1 then some (some (.int xs0), (mk I J τ)) else none) := (tm_F_fix _ _ _ _ _ _ _ _ _ _ _).trans rfl
noncomputable def R_51 : tm_K := tm_F tm_sh none G_51 false cd_51 cu_51 8
set_option maxRecDepth 20000 in
theorem e_51 (I : Nat → Nat → Int32) (J : Nat → Nat → Int64) (τ : tm_Tu)  : F_51 [.ref 24] (mk I J τ) = some (none, (mk (tm_u (tm_u I 24 10 0) 24 9 (-1)) J τ)) := rfl
noncomputable def R_52 : tm_K := tm_F tm_sh none G_52 false cd_52 cu_52 8
set_option maxRecDepth 20000 in
theorem e_52 (I : Nat → Nat → Int32) (J : Nat → Nat → Int64) (τ : tm_Tu)  : F_52 [.ref 8] (mk I J τ) = some (none, (mk (tm_u (tm_u I 8 5 0) 8 6 0) J τ)) := rfl
noncomputable def R_53 : tm_K := tm_F tm_sh none G_53 false cd_53 cu_53 40
set_option maxRecDepth 20000 in
theorem e_53 (I : Nat → Nat → Int32) (J : Nat → Nat → Int64) (τ : tm_Tu)  : F_53 [.ref 2] (mk I J τ) = (tm_bI (F_19 [.ref 2] (mk I J τ)) fun r M => R_53 12 [(0, .ref 2)] [.int r, .ref 3, .ref 4] M) := rfl
set_option maxRecDepth 20000 in
theorem e_53_12 (I : Nat → Nat → Int32) (J : Nat → Nat → Int64) (τ : tm_Tu) (xs0 : Int32) : R_53 12 [(0, .ref 2)] [.int xs0, .ref 3, .ref 4] (mk I J τ) = (tm_bV (F_29 [.ref 4, .ref 3, .int xs0] (mk I J τ)) fun M => R_53 15 [(0, .ref 2)] [] M) := (tm_F_fix _ _ _ _ _ _ _ _ _ _ _).trans rfl
set_option maxRecDepth 20000 in
theorem e_53_15 (I : Nat → Nat → Int32) (J : Nat → Nat → Int64) (τ : tm_Tu)  : R_53 15 [(0, .ref 2)] [] (mk I J τ) = (if kdm τ.2.1 = 100 then (tm_bI (F_50 [.ref τ.2.1, .ref 4] (mk I J τ)) fun r M => R_53 26 [(0, .ref 2)] [.int r] M) else none) := (tm_F_fix _ _ _ _ _ _ _ _ _ _ _).trans rfl
set_option maxRecDepth 20000 in
theorem e_53_26 (I : Nat → Nat → Int32) (J : Nat → Nat → Int64) (τ : tm_Tu) (xs0 : Int32) : R_53 26 [(0, .ref 2)] [.int xs0] (mk I J τ) = (if xs0 = 0 then some (some (.int (-1)), (mk I J τ)) else (tm_bV (F_51 [.ref 24] (tm_sr (tm_sr (mk I J τ) 2 7 τ.1) 2 6 τ.2.1)) fun M => R_53 56 [(0, .ref 2)] [] M)) := (tm_F_fix _ _ _ _ _ _ _ _ _ _ _).trans rfl
set_option maxRecDepth 20000 in
theorem e_53_56 (I : Nat → Nat → Int32) (J : Nat → Nat → Int64) (τ : tm_Tu)  : R_53 56 [(0, .ref 2)] [] (mk I J τ) = (tm_bV (F_52 [.ref 8] (mk (tm_u I 2 10 0) J τ)) fun M => R_53 71 [(0, .ref 2)] [] M) := (tm_F_fix _ _ _ _ _ _ _ _ _ _ _).trans rfl
set_option maxRecDepth 20000 in
theorem e_53_71 (I : Nat → Nat → Int32) (J : Nat → Nat → Int64) (τ : tm_Tu)  : R_53 71 [(0, .ref 2)] [] (mk I J τ) = (if kdm τ.1 = 100 then some (some (.int (I τ.1 1)), (mk I J τ)) else none) := (tm_F_fix _ _ _ _ _ _ _ _ _ _ _).trans rfl
noncomputable def R_54 : tm_K := tm_F tm_sh none G_54 false cd_54 cu_54 34
set_option maxRecDepth 20000 in
theorem e_54 (I : Nat → Nat → Int32) (J : Nat → Nat → Int64) (τ : tm_Tu)  : F_54 [.ref 131] (mk I J τ) = R_54 20 [(0, .ref 131), (1, .int 0)] [] (mk (tm_u (tm_u (tm_u I 131 4 0) 131 5 (-1)) 131 3 (I 131 2)) J τ) := rfl
set_option maxRecDepth 20000 in
theorem e_54_20 (I : Nat → Nat → Int32) (J : Nat → Nat → Int64) (τ : tm_Tu) (x1 : Int32) : R_54 20 [(0, .ref 131), (1, .int x1)] [] (mk I J τ) = (if (I 131 3) ≤ x1 then some (none, (mk (tm_u (tm_u I 131 2 0) 131 7 0) J τ)) else (if 0 ≤ x1 ∧ x1.toNatClampNeg < 1420 then (if 0 ≤ x1 ∧ x1.toNatClampNeg < 1400 then R_54 20 [(0, .ref 131), (1, .int (x1 + 1))] [] (mk (tm_u I 133 x1.toNatClampNeg ((I 132 x1.toNatClampNeg) : Int32).toInt8.toInt32) J τ) else none) else none)) := (tm_F_fix _ _ _ _ _ _ _ _ _ _ _).trans rfl
noncomputable def R_55 : tm_K := tm_F tm_sh none G_55 false cd_55 cu_55 14
set_option maxRecDepth 20000 in
theorem e_55 (I : Nat → Nat → Int32) (J : Nat → Nat → Int64) (τ : tm_Tu) (x1 : Int32) : F_55 [.ref 131, .int x1] (mk I J τ) = (if (I 131 3) ≤ x1 then R_55 22 [] [.int 0] (mk I J τ) else (if 0 ≤ x1 ∧ x1.toNatClampNeg < 1400 then R_55 22 [] [.int ((I 133 x1.toNatClampNeg) &&& 255)] (mk I J τ) else none)) := rfl
set_option maxRecDepth 20000 in
theorem e_55_22 (I : Nat → Nat → Int32) (J : Nat → Nat → Int64) (τ : tm_Tu) (xs0 : Int32) : R_55 22 [] [.int xs0] (mk I J τ) = some (some (.int xs0), (mk I J τ)) := (tm_F_fix _ _ _ _ _ _ _ _ _ _ _).trans rfl
noncomputable def R_56 : tm_K := tm_F tm_sh none G_56 true cd_56 cu_56 11
set_option maxRecDepth 20000 in
theorem e_56 (I : Nat → Nat → Int32) (J : Nat → Nat → Int64) (τ : tm_Tu) (x0 : Int32) : F_56 [.int x0] (mk I J τ) = (if x0 < 97 then R_56 16 [] [] (mk I J τ) else (if 122 < x0 then R_56 16 [] [] (mk I J τ) else R_56 17 [] [.int 1] (mk I J τ))) := rfl
set_option maxRecDepth 20000 in
theorem e_56_16 (I : Nat → Nat → Int32) (J : Nat → Nat → Int64) (τ : tm_Tu)  : R_56 16 [] [] (mk I J τ) = R_56 17 [] [.int 0] (mk I J τ) := (tm_F_fix _ _ _ _ _ _ _ _ _ _ _).trans rfl
set_option maxRecDepth 20000 in
theorem e_56_17 (I : Nat → Nat → Int32) (J : Nat → Nat → Int64) (τ : tm_Tu) (xs0 : Int32) : R_56 17 [] [.int xs0] (mk I J τ) = (if xs0 = 0 ∨ xs0 = 1 then some (some (.int xs0), (mk I J τ)) else none) := (tm_F_fix _ _ _ _ _ _ _ _ _ _ _).trans rfl
noncomputable def R_57 : tm_K := tm_F tm_sh none G_57 true cd_57 cu_57 103
set_option maxRecDepth 20000 in
theorem e_57 (I : Nat → Nat → Int32) (J : Nat → Nat → Int64) (τ : tm_Tu) (l0 : Int64) : F_57 [.long l0] (mk I J τ) = (if (lg_cmp l0 500135715691) = 0 then R_57 112 [(0, .long l0)] [] (mk I J τ) else (if (lg_cmp l0 512970880104) = 0 then R_57 112 [(0, .long l0)] [] (mk I J τ) else (if (lg_cmp l0 1717921140) = 0 then R_57 112 [(0, .long l0)] [] (mk I J τ) else (if (lg_cmp l0 427121668979) = 0 then R_57 112 [(0, .long l0)] [] (mk I J τ) else (if (lg_cmp l0 29807) = 0 then R_57 112 [(0, .long l0)] [] (mk I J τ) else (if (lg_cmp l0 7300710) = 0 then R_57 112 [(0, .long l0)] [] (mk I J τ) else (if (lg_cmp l0 1953854062) = 0 then R_57 112 [(0, .long l0)] [] (mk I J τ) else (if (lg_cmp l0 1718775661) = 0 then R_57 112 [(0, .long l0)] [] (mk I J τ) else (if (lg_cmp l0 112568465714791) = 0 then R_57 112 [(0, .long l0)] [] (mk I J τ) else (if (lg_cmp l0 418431069797) = 0 then R_57 112 [(0, .long l0)] [] (mk I J τ) else (if (lg_cmp l0 97) = 0 then R_57 112 [(0, .long l0)] [] (mk I J τ) else (if (lg_cmp l0 98) = 0 then R_57 112 [(0, .long l0)] [] (mk I J τ) else (if (lg_cmp l0 108) = 0 then R_57 112 [(0, .long l0)] [] (mk I J τ) else (if (lg_cmp l0 114) = 0 then R_57 112 [(0, .long l0)] [] (mk I J τ) else R_57 117 [(0, .long l0)] [.int 0] (mk I J τ))))))))))))))) := rfl
set_option maxRecDepth 20000 in
theorem e_57_112 (I : Nat → Nat → Int32) (J : Nat → Nat → Int64) (τ : tm_Tu) (l0 : Int64) : R_57 112 [(0, .long l0)] [] (mk I J τ) = R_57 117 [(0, .long l0)] [.int 1] (mk I J τ) := (tm_F_fix _ _ _ _ _ _ _ _ _ _ _).trans rfl
set_option maxRecDepth 20000 in
theorem e_57_117 (I : Nat → Nat → Int32) (J : Nat → Nat → Int64) (τ : tm_Tu) (l0 : Int64) (xs0 : Int32) : R_57 117 [(0, .long l0)] [.int xs0] (mk I J τ) = (if xs0 = 0 then (if (lg_cmp l0 422607680627) = 0 then R_57 194 [] [] (mk I J τ) else (if (lg_cmp l0 24948) = 0 then R_57 194 [] [] (mk I J τ) else (if (lg_cmp l0 26990) = 0 then R_57 194 [] [] (mk I J τ) else (if (lg_cmp l0 7304564) = 0 then R_57 194 [] [] (mk I J τ) else (if (lg_cmp l0 1685022067) = 0 then R_57 194 [] [] (mk I J τ) else (if (lg_cmp l0 7883958458510370148) = 0 then R_57 194 [] [] (mk I J τ) else (if (lg_cmp l0 499850634611) = 0 then R_57 194 [] [] (mk I J τ) else (if (lg_cmp l0 1818584692) = 0 then R_57 194 [] [] (mk I J τ) else (if (lg_cmp l0 491394656372) = 0 then R_57 194 [] [] (mk I J τ) else R_57 199 [] [.int 0] (mk I J τ)))))))))) else R_57 194 [] [] (mk I J τ)) := (tm_F_fix _ _ _ _ _ _ _ _ _ _ _).trans rfl
set_option maxRecDepth 20000 in
theorem e_57_194 (I : Nat → Nat → Int32) (J : Nat → Nat → Int64) (τ : tm_Tu)  : R_57 194 [] [] (mk I J τ) = R_57 199 [] [.int 1] (mk I J τ) := (tm_F_fix _ _ _ _ _ _ _ _ _ _ _).trans rfl
set_option maxRecDepth 20000 in
theorem e_57_199 (I : Nat → Nat → Int32) (J : Nat → Nat → Int64) (τ : tm_Tu) (xs0 : Int32) : R_57 199 [] [.int xs0] (mk I J τ) = (if xs0 = 0 ∨ xs0 = 1 then some (some (.int xs0), (mk I J τ)) else none) := (tm_F_fix _ _ _ _ _ _ _ _ _ _ _).trans rfl
noncomputable def R_58 : tm_K := tm_F tm_sh none G_58 true cd_58 cu_58 11
set_option maxRecDepth 20000 in
theorem e_58 (I : Nat → Nat → Int32) (J : Nat → Nat → Int64) (τ : tm_Tu) (x0 : Int32) : F_58 [.int x0] (mk I J τ) = (if x0 < 48 then R_58 16 [] [] (mk I J τ) else (if 57 < x0 then R_58 16 [] [] (mk I J τ) else R_58 17 [] [.int 1] (mk I J τ))) := rfl
set_option maxRecDepth 20000 in
theorem e_58_16 (I : Nat → Nat → Int32) (J : Nat → Nat → Int64) (τ : tm_Tu)  : R_58 16 [] [] (mk I J τ) = R_58 17 [] [.int 0] (mk I J τ) := (tm_F_fix _ _ _ _ _ _ _ _ _ _ _).trans rfl
set_option maxRecDepth 20000 in
theorem e_58_17 (I : Nat → Nat → Int32) (J : Nat → Nat → Int64) (τ : tm_Tu) (xs0 : Int32) : R_58 17 [] [.int xs0] (mk I J τ) = (if xs0 = 0 ∨ xs0 = 1 then some (some (.int xs0), (mk I J τ)) else none) := (tm_F_fix _ _ _ _ _ _ _ _ _ _ _).trans rfl
noncomputable def R_59 : tm_K := tm_F tm_sh none G_59 false cd_59 cu_59 23
set_option maxRecDepth 20000 in
theorem e_59 (I : Nat → Nat → Int32) (J : Nat → Nat → Int64) (τ : tm_Tu) (x0 : Int32) : F_59 [.int x0] (mk I J τ) = (if x0 = 45 then R_59 41 [] [.int 0] (mk I J τ) else (if x0 = 108 then R_59 41 [] [.int 1] (mk I J τ) else (if x0 = 114 then R_59 41 [] [.int 2] (mk I J τ) else (if x0 = 98 then R_59 41 [] [.int 3] (mk I J τ) else R_59 41 [] [.int (-1)] (mk I J τ))))) := rfl
set_option maxRecDepth 20000 in
theorem e_59_41 (I : Nat → Nat → Int32) (J : Nat → Nat → Int64) (τ : tm_Tu) (xs0 : Int32) : R_59 41 [] [.int xs0] (mk I J τ) = some (some (.int xs0), (mk I J τ)) := (tm_F_fix _ _ _ _ _ _ _ _ _ _ _).trans rfl
noncomputable def R_60 : tm_K := tm_F tm_sh none G_60 false cd_60 cu_60 252
set_option maxRecDepth 20000 in
theorem e_60 (I : Nat → Nat → Int32) (J : Nat → Nat → Int64) (τ : tm_Tu)  : F_60 [.ref 131] (mk I J τ) = R_60 8 [(0, .ref 131)] [] (mk (tm_u I 131 6 (I 131 7)) J τ) := rfl
set_option maxRecDepth 20000 in
theorem e_60_8 (I : Nat → Nat → Int32) (J : Nat → Nat → Int64) (τ : tm_Tu)  : R_60 8 [(0, .ref 131)] [] (mk I J τ) = (if (I 131 3) ≤ (I 131 6) then R_60 58 [(0, .ref 131)] [] (mk I J τ) else (tm_bI (F_55 [.ref 131, .int (I 131 6)] (mk I J τ)) fun r M => R_60 27 [(0, .ref 131)] [.int r] M)) := (tm_F_fix _ _ _ _ _ _ _ _ _ _ _).trans rfl
set_option maxRecDepth 20000 in
theorem e_60_27 (I : Nat → Nat → Int32) (J : Nat → Nat → Int64) (τ : tm_Tu) (xs0 : Int32) : R_60 27 [(0, .ref 131)] [.int xs0] (mk I J τ) = (if xs0 = 32 then R_60 45 [(0, .ref 131)] [] (mk I J τ) else (tm_bI (F_55 [.ref 131, .int (I 131 6)] (mk I J τ)) fun r M => R_60 40 [(0, .ref 131)] [.int r] M)) := (tm_F_fix _ _ _ _ _ _ _ _ _ _ _).trans rfl
set_option maxRecDepth 20000 in
theorem e_60_40 (I : Nat → Nat → Int32) (J : Nat → Nat → Int64) (τ : tm_Tu) (xs0 : Int32) : R_60 40 [(0, .ref 131)] [.int xs0] (mk I J τ) = (if xs0 = 10 then R_60 45 [(0, .ref 131)] [] (mk I J τ) else R_60 58 [(0, .ref 131)] [] (mk I J τ)) := (tm_F_fix _ _ _ _ _ _ _ _ _ _ _).trans rfl
set_option maxRecDepth 20000 in
theorem e_60_45 (I : Nat → Nat → Int32) (J : Nat → Nat → Int64) (τ : tm_Tu)  : R_60 45 [(0, .ref 131)] [] (mk I J τ) = R_60 8 [(0, .ref 131)] [] (mk (tm_u I 131 6 ((I 131 6) + 1)) J τ) := (tm_F_fix _ _ _ _ _ _ _ _ _ _ _).trans rfl
set_option maxRecDepth 20000 in
theorem e_60_58 (I : Nat → Nat → Int32) (J : Nat → Nat → Int64) (τ : tm_Tu)  : R_60 58 [(0, .ref 131)] [] (mk I J τ) = (tm_bI (F_55 [.ref 131, .int (I 131 6)] (mk I J τ)) fun r M => R_60 66 [(0, .ref 131)] [.int r] M) := (tm_F_fix _ _ _ _ _ _ _ _ _ _ _).trans rfl
set_option maxRecDepth 20000 in
theorem e_60_66 (I : Nat → Nat → Int32) (J : Nat → Nat → Int64) (τ : tm_Tu) (xs0 : Int32) : R_60 66 [(0, .ref 131)] [.int xs0] (mk I J τ) = (if (I 131 6) < (I 131 3) then (tm_bI (F_56 [.int xs0] (mk (tm_u I 131 7 ((I 131 6) + 1)) J τ)) fun r M => R_60 116 [(0, .ref 131), (1, .int xs0)] [.int r] M) else R_60 491 [] [] (mk (tm_u (tm_u (tm_u (tm_u I 131 7 ((I 131 6) + 1)) 131 8 0) 131 6 (I 131 3)) 131 7 (I 131 3)) J τ)) := (tm_F_fix _ _ _ _ _ _ _ _ _ _ _).trans rfl
set_option maxRecDepth 20000 in
theorem e_60_116 (I : Nat → Nat → Int32) (J : Nat → Nat → Int64) (τ : tm_Tu) (x1 : Int32) (xs0 : Int32) : R_60 116 [(0, .ref 131), (1, .int x1)] [.int xs0] (mk I J τ) = (if xs0 = 0 then (tm_bI (F_58 [.int x1] (mk I J τ)) fun r M => R_60 243 [(0, .ref 131), (1, .int x1)] [.int r] M) else R_60 119 [(0, .ref 131)] [] (mk I J τ)) := (tm_F_fix _ _ _ _ _ _ _ _ _ _ _).trans rfl
set_option maxRecDepth 20000 in
theorem e_60_119 (I : Nat → Nat → Int32) (J : Nat → Nat → Int64) (τ : tm_Tu)  : R_60 119 [(0, .ref 131)] [] (mk I J τ) = (tm_bI (F_55 [.ref 131, .int (I 131 7)] (mk I J τ)) fun r M => R_60 127 [(0, .ref 131)] [.int r] M) := (tm_F_fix _ _ _ _ _ _ _ _ _ _ _).trans rfl
set_option maxRecDepth 20000 in
theorem e_60_127 (I : Nat → Nat → Int32) (J : Nat → Nat → Int64) (τ : tm_Tu) (xs0 : Int32) : R_60 127 [(0, .ref 131)] [.int xs0] (mk I J τ) = (tm_bI (F_56 [.int xs0] (mk I J τ)) fun r M => R_60 130 [(0, .ref 131)] [.int r] M) := (tm_F_fix _ _ _ _ _ _ _ _ _ _ _).trans rfl
set_option maxRecDepth 20000 in
theorem e_60_130 (I : Nat → Nat → Int32) (J : Nat → Nat → Int64) (τ : tm_Tu) (xs0 : Int32) : R_60 130 [(0, .ref 131)] [.int xs0] (mk I J τ) = (if xs0 = 0 then R_60 156 [(0, .ref 131), (2, .int (I 131 6))] [] (mk I (tm_u J 131 10 0) τ) else R_60 119 [(0, .ref 131)] [] (mk (tm_u I 131 7 ((I 131 7) + 1)) J τ)) := (tm_F_fix _ _ _ _ _ _ _ _ _ _ _).trans rfl
set_option maxRecDepth 20000 in
theorem e_60_156 (I : Nat → Nat → Int32) (J : Nat → Nat → Int64) (τ : tm_Tu) (x2 : Int32) : R_60 156 [(0, .ref 131), (2, .int x2)] [] (mk I J τ) = (if (I 131 7) ≤ x2 then R_60 199 [(0, .ref 131)] [] (mk I J τ) else (if ((I 131 6) + 8) ≤ x2 then R_60 199 [(0, .ref 131)] [] (mk I J τ) else (tm_bI (F_55 [.ref 131, .int x2] (mk I J τ)) fun r M => R_60 188 [(0, .ref 131), (2, .int x2)] [.int r, .long ((J 131 10) <<< ((8 : Int32).toInt64 &&& 63)), .ref 131] M))) := (tm_F_fix _ _ _ _ _ _ _ _ _ _ _).trans rfl
set_option maxRecDepth 20000 in
theorem e_60_188 (I : Nat → Nat → Int32) (J : Nat → Nat → Int64) (τ : tm_Tu) (x2 : Int32) (xs0 : Int32) (ls1 : Int64) : R_60 188 [(0, .ref 131), (2, .int x2)] [.int xs0, .long ls1, .ref 131] (mk I J τ) = R_60 156 [(0, .ref 131), (2, .int (x2 + 1))] [] (mk I (tm_u J 131 10 (ls1 ||| (xs0 : Int32).toInt64)) τ) := (tm_F_fix _ _ _ _ _ _ _ _ _ _ _).trans rfl
set_option maxRecDepth 20000 in
theorem e_60_199 (I : Nat → Nat → Int32) (J : Nat → Nat → Int64) (τ : tm_Tu)  : R_60 199 [(0, .ref 131)] [] (mk I J τ) = (if ((I 131 7) - (I 131 6)) ≤ 8 then (tm_bI (F_57 [.long (J 131 10)] (mk I J τ)) fun r M => R_60 225 [] [.int r, .ref 131] M) else R_60 233 [] [.int 1, .ref 131] (mk I J τ)) := (tm_F_fix _ _ _ _ _ _ _ _ _ _ _).trans rfl
set_option maxRecDepth 20000 in
theorem e_60_225 (I : Nat → Nat → Int32) (J : Nat → Nat → Int64) (τ : tm_Tu) (xs0 : Int32) : R_60 225 [] [.int xs0, .ref 131] (mk I J τ) = (if xs0 = 0 then R_60 233 [] [.int 2, .ref 131] (mk I J τ) else R_60 233 [] [.int 3, .ref 131] (mk I J τ)) := (tm_F_fix _ _ _ _ _ _ _ _ _ _ _).trans rfl
set_option maxRecDepth 20000 in
theorem e_60_233 (I : Nat → Nat → Int32) (J : Nat → Nat → Int64) (τ : tm_Tu) (xs0 : Int32) : R_60 233 [] [.int xs0, .ref 131] (mk I J τ) = R_60 491 [] [] (mk (tm_u I 131 8 xs0) J τ) := (tm_F_fix _ _ _ _ _ _ _ _ _ _ _).trans rfl
set_option maxRecDepth 20000 in
theorem e_60_243 (I : Nat → Nat → Int32) (J : Nat → Nat → Int64) (τ : tm_Tu) (x1 : Int32) (xs0 : Int32) : R_60 243 [(0, .ref 131), (1, .int x1)] [.int xs0] (mk I J τ) = (if xs0 = 0 then (if x1 = 34 then R_60 367 [(0, .ref 131)] [] (mk I J τ) else (if x1 = 58 then R_60 482 [] [.ref 131] (mk I J τ) else (if x1 = 59 then R_60 482 [] [.ref 131] (mk I J τ) else R_60 488 [] [.int 1, .ref 131] (mk I J τ)))) else R_60 259 [(0, .ref 131)] [] (mk (tm_u (tm_u I 131 9 0) 131 7 (I 131 6)) J τ)) := (tm_F_fix _ _ _ _ _ _ _ _ _ _ _).trans rfl
set_option maxRecDepth 20000 in
theorem e_60_259 (I : Nat → Nat → Int32) (J : Nat → Nat → Int64) (τ : tm_Tu)  : R_60 259 [(0, .ref 131)] [] (mk I J τ) = (tm_bI (F_55 [.ref 131, .int (I 131 7)] (mk I J τ)) fun r M => R_60 267 [(0, .ref 131)] [.int r] M) := (tm_F_fix _ _ _ _ _ _ _ _ _ _ _).trans rfl
set_option maxRecDepth 20000 in
theorem e_60_267 (I : Nat → Nat → Int32) (J : Nat → Nat → Int64) (τ : tm_Tu) (xs0 : Int32) : R_60 267 [(0, .ref 131)] [.int xs0] (mk I J τ) = (tm_bI (F_58 [.int xs0] (mk I J τ)) fun r M => R_60 270 [(0, .ref 131)] [.int r] M) := (tm_F_fix _ _ _ _ _ _ _ _ _ _ _).trans rfl
set_option maxRecDepth 20000 in
theorem e_60_270 (I : Nat → Nat → Int32) (J : Nat → Nat → Int64) (τ : tm_Tu) (xs0 : Int32) : R_60 270 [(0, .ref 131)] [.int xs0] (mk I J τ) = (if xs0 = 0 then (if 3 < ((I 131 7) - (I 131 6)) then R_60 350 [] [.ref 131] (mk I J τ) else (tm_bI (F_55 [.ref 131, .int (I 131 7)] (mk I J τ)) fun r M => R_60 344 [] [.int r, .ref 131] M)) else (if 3 ≤ ((I 131 7) - (I 131 6)) then R_60 309 [(0, .ref 131)] [] (mk I J τ) else (tm_bI (F_55 [.ref 131, .int (I 131 7)] (mk I J τ)) fun r M => R_60 302 [(0, .ref 131)] [.int r, .int (10 * (I 131 9)), .ref 131] M))) := (tm_F_fix _ _ _ _ _ _ _ _ _ _ _).trans rfl
set_option maxRecDepth 20000 in
theorem e_60_302 (I : Nat → Nat → Int32) (J : Nat → Nat → Int64) (τ : tm_Tu) (xs0 : Int32) (xs1 : Int32) : R_60 302 [(0, .ref 131)] [.int xs0, .int xs1, .ref 131] (mk I J τ) = R_60 309 [(0, .ref 131)] [] (mk (tm_u I 131 9 ((xs1 + xs0) - 48)) J τ) := (tm_F_fix _ _ _ _ _ _ _ _ _ _ _).trans rfl
set_option maxRecDepth 20000 in
theorem e_60_309 (I : Nat → Nat → Int32) (J : Nat → Nat → Int64) (τ : tm_Tu)  : R_60 309 [(0, .ref 131)] [] (mk I J τ) = R_60 259 [(0, .ref 131)] [] (mk (tm_u I 131 7 ((I 131 7) + 1)) J τ) := (tm_F_fix _ _ _ _ _ _ _ _ _ _ _).trans rfl
set_option maxRecDepth 20000 in
theorem e_60_344 (I : Nat → Nat → Int32) (J : Nat → Nat → Int64) (τ : tm_Tu) (xs0 : Int32) : R_60 344 [] [.int xs0, .ref 131] (mk I J τ) = (tm_bI (F_56 [.int xs0] (mk I J τ)) fun r M => R_60 347 [] [.int r, .ref 131] M) := (tm_F_fix _ _ _ _ _ _ _ _ _ _ _).trans rfl
set_option maxRecDepth 20000 in
theorem e_60_347 (I : Nat → Nat → Int32) (J : Nat → Nat → Int64) (τ : tm_Tu) (xs0 : Int32) : R_60 347 [] [.int xs0, .ref 131] (mk I J τ) = (if xs0 = 0 then R_60 355 [] [.int 4, .ref 131] (mk I J τ) else R_60 350 [] [.ref 131] (mk I J τ)) := (tm_F_fix _ _ _ _ _ _ _ _ _ _ _).trans rfl
set_option maxRecDepth 20000 in
theorem e_60_350 (I : Nat → Nat → Int32) (J : Nat → Nat → Int64) (τ : tm_Tu)  : R_60 350 [] [.ref 131] (mk I J τ) = R_60 355 [] [.int 1, .ref 131] (mk I J τ) := (tm_F_fix _ _ _ _ _ _ _ _ _ _ _).trans rfl
set_option maxRecDepth 20000 in
theorem e_60_355 (I : Nat → Nat → Int32) (J : Nat → Nat → Int64) (τ : tm_Tu) (xs0 : Int32) : R_60 355 [] [.int xs0, .ref 131] (mk I J τ) = R_60 491 [] [] (mk (tm_u I 131 8 xs0) J τ) := (tm_F_fix _ _ _ _ _ _ _ _ _ _ _).trans rfl
set_option maxRecDepth 20000 in
theorem e_60_367 (I : Nat → Nat → Int32) (J : Nat → Nat → Int64) (τ : tm_Tu)  : R_60 367 [(0, .ref 131)] [] (mk I J τ) = (tm_bI (F_55 [.ref 131, .int (I 131 7)] (mk I J τ)) fun r M => R_60 375 [(0, .ref 131)] [.int r] M) := (tm_F_fix _ _ _ _ _ _ _ _ _ _ _).trans rfl
set_option maxRecDepth 20000 in
theorem e_60_375 (I : Nat → Nat → Int32) (J : Nat → Nat → Int64) (τ : tm_Tu) (xs0 : Int32) : R_60 375 [(0, .ref 131)] [.int xs0] (mk I J τ) = (tm_bI (F_59 [.int xs0] (mk I J τ)) fun r M => R_60 378 [(0, .ref 131)] [.int r] M) := (tm_F_fix _ _ _ _ _ _ _ _ _ _ _).trans rfl
set_option maxRecDepth 20000 in
theorem e_60_378 (I : Nat → Nat → Int32) (J : Nat → Nat → Int64) (τ : tm_Tu) (xs0 : Int32) : R_60 378 [(0, .ref 131)] [.int xs0] (mk I J τ) = (if xs0 < 0 then R_60 405 [(0, .ref 131)] [] (mk I J τ) else (if (I 131 3) ≤ (I 131 7) then R_60 405 [(0, .ref 131)] [] (mk I J τ) else R_60 367 [(0, .ref 131)] [] (mk (tm_u I 131 7 ((I 131 7) + 1)) J τ))) := (tm_F_fix _ _ _ _ _ _ _ _ _ _ _).trans rfl
set_option maxRecDepth 20000 in
theorem e_60_405 (I : Nat → Nat → Int32) (J : Nat → Nat → Int64) (τ : tm_Tu)  : R_60 405 [(0, .ref 131)] [] (mk I J τ) = (tm_bI (F_55 [.ref 131, .int (I 131 7)] (mk I J τ)) fun r M => R_60 426 [(0, .ref 131), (2, .int (((I 131 7) - (I 131 6)) - 1))] [.int r, .ref 131] M) := (tm_F_fix _ _ _ _ _ _ _ _ _ _ _).trans rfl
set_option maxRecDepth 20000 in
theorem e_60_426 (I : Nat → Nat → Int32) (J : Nat → Nat → Int64) (τ : tm_Tu) (x2 : Int32) (xs0 : Int32) : R_60 426 [(0, .ref 131), (2, .int x2)] [.int xs0, .ref 131] (mk I J τ) = (if xs0 = 34 then (if x2 < 4 then R_60 452 [(0, .ref 131)] [.ref 131] (mk I J τ) else (if 32 < x2 then R_60 452 [(0, .ref 131)] [.ref 131] (mk I J τ) else (if (x2 - x2 / 4 * 4) = 0 then R_60 453 [(0, .ref 131)] [.int 5, .ref 131] (mk I J τ) else R_60 452 [(0, .ref 131)] [.ref 131] (mk I J τ)))) else R_60 452 [(0, .ref 131)] [.ref 131] (mk I J τ)) := (tm_F_fix _ _ _ _ _ _ _ _ _ _ _).trans rfl
set_option maxRecDepth 20000 in
theorem e_60_452 (I : Nat → Nat → Int32) (J : Nat → Nat → Int64) (τ : tm_Tu)  : R_60 452 [(0, .ref 131)] [.ref 131] (mk I J τ) = R_60 453 [(0, .ref 131)] [.int 1, .ref 131] (mk I J τ) := (tm_F_fix _ _ _ _ _ _ _ _ _ _ _).trans rfl
set_option maxRecDepth 20000 in
theorem e_60_453 (I : Nat → Nat → Int32) (J : Nat → Nat → Int64) (τ : tm_Tu) (xs0 : Int32) : R_60 453 [(0, .ref 131)] [.int xs0, .ref 131] (mk I J τ) = R_60 491 [] [] (mk (tm_u (tm_u I 131 8 xs0) 131 7 ((I 131 7) + 1)) J τ) := (tm_F_fix _ _ _ _ _ _ _ _ _ _ _).trans rfl
set_option maxRecDepth 20000 in
theorem e_60_482 (I : Nat → Nat → Int32) (J : Nat → Nat → Int64) (τ : tm_Tu)  : R_60 482 [] [.ref 131] (mk I J τ) = R_60 488 [] [.int 6, .ref 131] (mk I J τ) := (tm_F_fix _ _ _ _ _ _ _ _ _ _ _).trans rfl
set_option maxRecDepth 20000 in
theorem e_60_488 (I : Nat → Nat → Int32) (J : Nat → Nat → Int64) (τ : tm_Tu) (xs0 : Int32) : R_60 488 [] [.int xs0, .ref 131] (mk I J τ) = R_60 491 [] [] (mk (tm_u I 131 8 xs0) J τ) := (tm_F_fix _ _ _ _ _ _ _ _ _ _ _).trans rfl
set_option maxRecDepth 20000 in
theorem e_60_491 (I : Nat → Nat → Int32) (J : Nat → Nat → Int64) (τ : tm_Tu)  : R_60 491 [] [] (mk I J τ) = some (none, (mk I J τ)) := (tm_F_fix _ _ _ _ _ _ _ _ _ _ _).trans rfl
noncomputable def R_61 : tm_K := tm_F tm_sh none G_61 true cd_61 cu_61 8
set_option maxRecDepth 20000 in
theorem e_61 (I : Nat → Nat → Int32) (J : Nat → Nat → Int64) (τ : tm_Tu)  : F_61 [.ref 131] (mk I J τ) = (if (I 131 4) = 0 then R_61 12 [] [.int 1] (mk I J τ) else R_61 12 [] [.int 0] (mk I J τ)) := rfl
set_option maxRecDepth 20000 in
theorem e_61_12 (I : Nat → Nat → Int32) (J : Nat → Nat → Int64) (τ : tm_Tu) (xs0 : Int32) : R_61 12 [] [.int xs0] (mk I J τ) = (if xs0 = 0 ∨ xs0 = 1 then some (some (.int xs0), (mk I J τ)) else none) := (tm_F_fix _ _ _ _ _ _ _ _ _ _ _).trans rfl
noncomputable def R_62 : tm_K := tm_F tm_sh none G_62 true cd_62 cu_62 14
set_option maxRecDepth 20000 in
theorem e_62 (I : Nat → Nat → Int32) (J : Nat → Nat → Int64) (τ : tm_Tu) (l1 : Int64) : F_62 [.ref 131, .long l1] (mk I J τ) = (if (I 131 8) = 3 then (if (lg_cmp (J 131 10) l1) = 0 then R_62 22 [] [.int 1] (mk I J τ) else R_62 21 [] [] (mk I J τ)) else R_62 21 [] [] (mk I J τ)) := rfl
set_option maxRecDepth 20000 in
theorem e_62_21 (I : Nat → Nat → Int32) (J : Nat → Nat → Int64) (τ : tm_Tu)  : R_62 21 [] [] (mk I J τ) = R_62 22 [] [.int 0] (mk I J τ) := (tm_F_fix _ _ _ _ _ _ _ _ _ _ _).trans rfl
set_option maxRecDepth 20000 in
theorem e_62_22 (I : Nat → Nat → Int32) (J : Nat → Nat → Int64) (τ : tm_Tu) (xs0 : Int32) : R_62 22 [] [.int xs0] (mk I J τ) = (if xs0 = 0 ∨ xs0 = 1 then some (some (.int xs0), (mk I J τ)) else none) := (tm_F_fix _ _ _ _ _ _ _ _ _ _ _).trans rfl
noncomputable def R_63 : tm_K := tm_F tm_sh none G_63 false cd_63 cu_63 12
set_option maxRecDepth 20000 in
theorem e_63 (I : Nat → Nat → Int32) (J : Nat → Nat → Int64) (τ : tm_Tu) (x1 : Int32) (x2 : Int32) : F_63 [.ref 131, .int x1, .int x2] (mk I J τ) = (if (I 131 4) ≤ 0 then some (none, (mk (tm_u (tm_u I 131 4 x1) 131 5 x2) J τ)) else some (none, (mk I J τ))) := rfl
noncomputable def R_64 : tm_K := tm_F tm_sh none G_64 false cd_64 cu_64 13
set_option maxRecDepth 20000 in
theorem e_64 (I : Nat → Nat → Int32) (J : Nat → Nat → Int64) (τ : tm_Tu)  : F_64 [.ref 131] (mk I J τ) = (if (I 131 8) = 1 then R_64 14 [(0, .ref 131)] [.int 1, .ref 131] (mk I J τ) else R_64 14 [(0, .ref 131)] [.int 2, .ref 131] (mk I J τ)) := rfl
set_option maxRecDepth 20000 in
theorem e_64_14 (I : Nat → Nat → Int32) (J : Nat → Nat → Int64) (τ : tm_Tu) (xs0 : Int32) : R_64 14 [(0, .ref 131)] [.int xs0, .ref 131] (mk I J τ) = (tm_bV (F_63 [.ref 131, .int xs0, .int (I 131 6)] (mk I J τ)) fun M => R_64 21 [] [] M) := (tm_F_fix _ _ _ _ _ _ _ _ _ _ _).trans rfl
set_option maxRecDepth 20000 in
theorem e_64_21 (I : Nat → Nat → Int32) (J : Nat → Nat → Int64) (τ : tm_Tu)  : R_64 21 [] [] (mk I J τ) = some (none, (mk I J τ)) := (tm_F_fix _ _ _ _ _ _ _ _ _ _ _).trans rfl
noncomputable def R_65 : tm_K := tm_F tm_sh none G_65 false cd_65 cu_65 32
set_option maxRecDepth 20000 in
theorem e_65 (I : Nat → Nat → Int32) (J : Nat → Nat → Int64) (τ : tm_Tu) (x1 : Int32) (l2 : Int64) : F_65 [.ref 131, .int x1, .long l2] (mk I J τ) = R_65 6 [(0, .ref 131), (1, .int x1), (2, .long l2), (4, .int (12 * x1))] [] (mk I J τ) := rfl
set_option maxRecDepth 20000 in
theorem e_65_6 (I : Nat → Nat → Int32) (J : Nat → Nat → Int64) (τ : tm_Tu) (x1 : Int32) (l2 : Int64) (x4 : Int32) : R_65 6 [(0, .ref 131), (1, .int x1), (2, .long l2), (4, .int x4)] [] (mk I J τ) = (if 0 ≤ x1 ∧ x1.toNatClampNeg < 2 then (if ((12 * x1) + (I 135 x1.toNatClampNeg)) ≤ x4 then some (some (.int (-1)), (mk I J τ)) else (if 0 ≤ x4 ∧ x4.toNatClampNeg < 24 then (if (lg_cmp (J 134 x4.toNatClampNeg) l2) = 0 then some (some (.int (x4 - (12 * x1))), (mk I J τ)) else R_65 6 [(0, .ref 131), (1, .int x1), (2, .long l2), (4, .int (x4 + 1))] [] (mk I J τ)) else none)) else none) := (tm_F_fix _ _ _ _ _ _ _ _ _ _ _).trans rfl
noncomputable def R_66 : tm_K := tm_F tm_sh none G_66 false cd_66 cu_66 13
set_option maxRecDepth 20000 in
theorem e_66 (I : Nat → Nat → Int32) (J : Nat → Nat → Int64) (τ : tm_Tu) (x1 : Int32) : F_66 [.ref 131, .int x1] (mk I J τ) = (tm_bI (F_61 [.ref 131] (mk I J τ)) fun r M => R_66 4 [(0, .ref 131), (1, .int x1)] [.int r] M) := rfl
set_option maxRecDepth 20000 in
theorem e_66_4 (I : Nat → Nat → Int32) (J : Nat → Nat → Int64) (τ : tm_Tu) (x1 : Int32) (xs0 : Int32) : R_66 4 [(0, .ref 131), (1, .int x1)] [.int xs0] (mk I J τ) = (if xs0 = 0 then some (none, (mk I J τ)) else (if x1 = 0 then (tm_bV (F_64 [.ref 131] (mk I J τ)) fun M => R_66 23 [] [] M) else (tm_bV (F_60 [.ref 131] (mk I J τ)) fun M => R_66 16 [] [] M))) := (tm_F_fix _ _ _ _ _ _ _ _ _ _ _).trans rfl
set_option maxRecDepth 20000 in
theorem e_66_16 (I : Nat → Nat → Int32) (J : Nat → Nat → Int64) (τ : tm_Tu)  : R_66 16 [] [] (mk I J τ) = R_66 23 [] [] (mk I J τ) := (tm_F_fix _ _ _ _ _ _ _ _ _ _ _).trans rfl
set_option maxRecDepth 20000 in
theorem e_66_23 (I : Nat → Nat → Int32) (J : Nat → Nat → Int64) (τ : tm_Tu)  : R_66 23 [] [] (mk I J τ) = some (none, (mk I J τ)) := (tm_F_fix _ _ _ _ _ _ _ _ _ _ _).trans rfl
noncomputable def R_67 : tm_K := tm_F tm_sh none G_67 false cd_67 cu_67 43
set_option maxRecDepth 20000 in
theorem e_67 (I : Nat → Nat → Int32) (J : Nat → Nat → Int64) (τ : tm_Tu) (x1 : Int32) (x2 : Int32) : F_67 [.ref 131, .int x1, .int x2] (mk I J τ) = (tm_bI (F_61 [.ref 131] (mk I J τ)) fun r M => R_67 4 [(0, .ref 131), (1, .int x1), (2, .int x2)] [.int r] M) := rfl
set_option maxRecDepth 20000 in
theorem e_67_4 (I : Nat → Nat → Int32) (J : Nat → Nat → Int64) (τ : tm_Tu) (x1 : Int32) (x2 : Int32) (xs0 : Int32) : R_67 4 [(0, .ref 131), (1, .int x1), (2, .int x2)] [.int xs0] (mk I J τ) = (if xs0 = 0 then some (some (.int x1), (mk I J τ)) else (if (I 131 8) = 4 then R_67 21 [(0, .ref 131), (1, .int x1), (2, .int x2)] [] (mk I J τ) else (tm_bV (F_64 [.ref 131] (mk I J τ)) fun M => R_67 21 [(0, .ref 131), (1, .int x1), (2, .int x2)] [] M))) := (tm_F_fix _ _ _ _ _ _ _ _ _ _ _).trans rfl
set_option maxRecDepth 20000 in
theorem e_67_21 (I : Nat → Nat → Int32) (J : Nat → Nat → Int64) (τ : tm_Tu) (x1 : Int32) (x2 : Int32) : R_67 21 [(0, .ref 131), (1, .int x1), (2, .int x2)] [] (mk I J τ) = (tm_bI (F_61 [.ref 131] (mk I J τ)) fun r M => R_67 25 [(0, .ref 131), (1, .int x1), (2, .int x2)] [.int r] M) := (tm_F_fix _ _ _ _ _ _ _ _ _ _ _).trans rfl
set_option maxRecDepth 20000 in
theorem e_67_25 (I : Nat → Nat → Int32) (J : Nat → Nat → Int64) (τ : tm_Tu) (x1 : Int32) (x2 : Int32) (xs0 : Int32) : R_67 25 [(0, .ref 131), (1, .int x1), (2, .int x2)] [.int xs0] (mk I J τ) = (if xs0 = 0 then R_67 53 [(0, .ref 131), (1, .int x1)] [] (mk I J τ) else (if (I 131 9) < x1 then R_67 44 [(0, .ref 131), (1, .int x1)] [] (mk I J τ) else (if (I 131 9) ≤ x2 then R_67 53 [(0, .ref 131), (1, .int x1)] [] (mk I J τ) else R_67 44 [(0, .ref 131), (1, .int x1)] [] (mk I J τ)))) := (tm_F_fix _ _ _ _ _ _ _ _ _ _ _).trans rfl
set_option maxRecDepth 20000 in
theorem e_67_44 (I : Nat → Nat → Int32) (J : Nat → Nat → Int64) (τ : tm_Tu) (x1 : Int32) : R_67 44 [(0, .ref 131), (1, .int x1)] [] (mk I J τ) = (tm_bV (F_63 [.ref 131, .int 4, .int (I 131 6)] (mk I J τ)) fun M => R_67 53 [(0, .ref 131), (1, .int x1)] [] M) := (tm_F_fix _ _ _ _ _ _ _ _ _ _ _).trans rfl
set_option maxRecDepth 20000 in
theorem e_67_53 (I : Nat → Nat → Int32) (J : Nat → Nat → Int64) (τ : tm_Tu) (x1 : Int32) : R_67 53 [(0, .ref 131), (1, .int x1)] [] (mk I J τ) = (tm_bI (F_61 [.ref 131] (mk I J τ)) fun r M => R_67 62 [(0, .ref 131), (1, .int x1), (3, .int (I 131 9))] [.int r] M) := (tm_F_fix _ _ _ _ _ _ _ _ _ _ _).trans rfl
set_option maxRecDepth 20000 in
theorem e_67_62 (I : Nat → Nat → Int32) (J : Nat → Nat → Int64) (τ : tm_Tu) (x1 : Int32) (x3 : Int32) (xs0 : Int32) : R_67 62 [(0, .ref 131), (1, .int x1), (3, .int x3)] [.int xs0] (mk I J τ) = (if xs0 = 0 then R_67 69 [(0, .ref 131), (1, .int x1), (3, .int x3)] [] (mk I J τ) else (tm_bV (F_60 [.ref 131] (mk I J τ)) fun M => R_67 69 [(0, .ref 131), (1, .int x1), (3, .int x3)] [] M)) := (tm_F_fix _ _ _ _ _ _ _ _ _ _ _).trans rfl
set_option maxRecDepth 20000 in
theorem e_67_69 (I : Nat → Nat → Int32) (J : Nat → Nat → Int64) (τ : tm_Tu) (x1 : Int32) (x3 : Int32) : R_67 69 [(0, .ref 131), (1, .int x1), (3, .int x3)] [] (mk I J τ) = (tm_bI (F_61 [.ref 131] (mk I J τ)) fun r M => R_67 73 [(1, .int x1), (3, .int x3)] [.int r] M) := (tm_F_fix _ _ _ _ _ _ _ _ _ _ _).trans rfl
set_option maxRecDepth 20000 in
theorem e_67_73 (I : Nat → Nat → Int32) (J : Nat → Nat → Int64) (τ : tm_Tu) (x1 : Int32) (x3 : Int32) (xs0 : Int32) : R_67 73 [(1, .int x1), (3, .int x3)] [.int xs0] (mk I J τ) = (if xs0 = 0 then R_67 81 [] [.int x1] (mk I J τ) else R_67 81 [] [.int x3] (mk I J τ)) := (tm_F_fix _ _ _ _ _ _ _ _ _ _ _).trans rfl
set_option maxRecDepth 20000 in
theorem e_67_81 (I : Nat → Nat → Int32) (J : Nat → Nat → Int64) (τ : tm_Tu) (xs0 : Int32) : R_67 81 [] [.int xs0] (mk I J τ) = some (some (.int xs0), (mk I J τ)) := (tm_F_fix _ _ _ _ _ _ _ _ _ _ _).trans rfl
noncomputable def R_68 : tm_K := tm_F tm_sh none G_68 true cd_68 cu_68 15
set_option maxRecDepth 20000 in
theorem e_68 (I : Nat → Nat → Int32) (J : Nat → Nat → Int64) (τ : tm_Tu) (x1 : Int32) : F_68 [.ref 131, .int x1] (mk I J τ) = (if (I 131 8) = 6 then (tm_bI (F_55 [.ref 131, .int (I 131 6)] (mk I J τ)) fun r M => R_68 17 [(1, .int x1)] [.int r] M) else R_68 25 [] [] (mk I J τ)) := rfl
set_option maxRecDepth 20000 in
theorem e_68_17 (I : Nat → Nat → Int32) (J : Nat → Nat → Int64) (τ : tm_Tu) (x1 : Int32) (xs0 : Int32) : R_68 17 [(1, .int x1)] [.int xs0] (mk I J τ) = (if xs0 = x1 then R_68 26 [] [.int 1] (mk I J τ) else R_68 25 [] [] (mk I J τ)) := (tm_F_fix _ _ _ _ _ _ _ _ _ _ _).trans rfl
set_option maxRecDepth 20000 in
theorem e_68_25 (I : Nat → Nat → Int32) (J : Nat → Nat → Int64) (τ : tm_Tu)  : R_68 25 [] [] (mk I J τ) = R_68 26 [] [.int 0] (mk I J τ) := (tm_F_fix _ _ _ _ _ _ _ _ _ _ _).trans rfl
set_option maxRecDepth 20000 in
theorem e_68_26 (I : Nat → Nat → Int32) (J : Nat → Nat → Int64) (τ : tm_Tu) (xs0 : Int32) : R_68 26 [] [.int xs0] (mk I J τ) = (if xs0 = 0 ∨ xs0 = 1 then some (some (.int xs0), (mk I J τ)) else none) := (tm_F_fix _ _ _ _ _ _ _ _ _ _ _).trans rfl
noncomputable def R_69 : tm_K := tm_F tm_sh none G_69 true cd_69 cu_69 14
set_option maxRecDepth 20000 in
theorem e_69 (I : Nat → Nat → Int32) (J : Nat → Nat → Int64) (τ : tm_Tu) (l1 : Int64) : F_69 [.ref 131, .long l1] (mk I J τ) = (tm_bI (F_61 [.ref 131] (mk I J τ)) fun r M => R_69 4 [(0, .ref 131), (1, .long l1)] [.int r] M) := rfl
set_option maxRecDepth 20000 in
theorem e_69_4 (I : Nat → Nat → Int32) (J : Nat → Nat → Int64) (τ : tm_Tu) (l1 : Int64) (xs0 : Int32) : R_69 4 [(0, .ref 131), (1, .long l1)] [.int xs0] (mk I J τ) = (if xs0 = 0 then R_69 15 [] [] (mk I J τ) else (tm_bI (F_62 [.ref 131, .long l1] (mk I J τ)) fun r M => R_69 12 [(0, .ref 131)] [.int r] M)) := (tm_F_fix _ _ _ _ _ _ _ _ _ _ _).trans rfl
set_option maxRecDepth 20000 in
theorem e_69_12 (I : Nat → Nat → Int32) (J : Nat → Nat → Int64) (τ : tm_Tu) (xs0 : Int32) : R_69 12 [(0, .ref 131)] [.int xs0] (mk I J τ) = (if xs0 = 0 then R_69 15 [] [] (mk I J τ) else (tm_bV (F_60 [.ref 131] (mk I J τ)) fun M => R_69 21 [] [] M)) := (tm_F_fix _ _ _ _ _ _ _ _ _ _ _).trans rfl
set_option maxRecDepth 20000 in
theorem e_69_15 (I : Nat → Nat → Int32) (J : Nat → Nat → Int64) (τ : tm_Tu)  : R_69 15 [] [] (mk I J τ) = some (some (.int 0), (mk I J τ)) := (tm_F_fix _ _ _ _ _ _ _ _ _ _ _).trans rfl
set_option maxRecDepth 20000 in
theorem e_69_21 (I : Nat → Nat → Int32) (J : Nat → Nat → Int64) (τ : tm_Tu)  : R_69 21 [] [] (mk I J τ) = some (some (.int 1), (mk I J τ)) := (tm_F_fix _ _ _ _ _ _ _ _ _ _ _).trans rfl
noncomputable def R_70 : tm_K := tm_F tm_sh none G_70 false cd_70 cu_70 96
set_option maxRecDepth 20000 in
theorem e_70 (I : Nat → Nat → Int32) (J : Nat → Nat → Int64) (τ : tm_Tu) (x1 : Int32) (x2 : Int32) : F_70 [.ref 131, .int x1, .int x2] (mk I J τ) = (if 0 ≤ x1 ∧ x1.toNatClampNeg < 24 then (tm_bI (F_67 [.ref 131, .int 0, .int ((I 137 x1.toNatClampNeg) - 1)] (mk I J τ)) fun r M => R_70 18 [(0, .ref 131), (1, .int x1), (2, .int x2), (3, .int (I 131 6))] [.int r] M) else none) := rfl
set_option maxRecDepth 20000 in
theorem e_70_18 (I : Nat → Nat → Int32) (J : Nat → Nat → Int64) (τ : tm_Tu) (x1 : Int32) (x2 : Int32) (x3 : Int32) (xs0 : Int32) : R_70 18 [(0, .ref 131), (1, .int x1), (2, .int x2), (3, .int x3)] [.int xs0] (mk I J τ) = (tm_bI (F_61 [.ref 131] (mk I J τ)) fun r M => R_70 24 [(0, .ref 131), (1, .int x1), (2, .int x2), (3, .int x3), (4, .int xs0)] [.int r] M) := (tm_F_fix _ _ _ _ _ _ _ _ _ _ _).trans rfl
set_option maxRecDepth 20000 in
theorem e_70_24 (I : Nat → Nat → Int32) (J : Nat → Nat → Int64) (τ : tm_Tu) (x1 : Int32) (x2 : Int32) (x3 : Int32) (x4 : Int32) (xs0 : Int32) : R_70 24 [(0, .ref 131), (1, .int x1), (2, .int x2), (3, .int x3), (4, .int x4)] [.int xs0] (mk I J τ) = (if xs0 = 0 then R_70 48 [(0, .ref 131), (1, .int x1), (2, .int x2), (4, .int x4)] [] (mk I J τ) else (if 0 ≤ ((8 * x1) + x4) ∧ (((8 * x1) + x4)).toNatClampNeg < 192 then (if (I 142 (((8 * x1) + x4)).toNatClampNeg) < 0 then R_70 48 [(0, .ref 131), (1, .int x1), (2, .int x2), (4, .int x4)] [] (mk I J τ) else (tm_bV (F_63 [.ref 131, .int 5, .int x3] (mk I J τ)) fun M => R_70 48 [(0, .ref 131), (1, .int x1), (2, .int x2), (4, .int x4)] [] M)) else none)) := (tm_F_fix _ _ _ _ _ _ _ _ _ _ _).trans rfl
set_option maxRecDepth 20000 in
theorem e_70_48 (I : Nat → Nat → Int32) (J : Nat → Nat → Int64) (τ : tm_Tu) (x1 : Int32) (x2 : Int32) (x4 : Int32) : R_70 48 [(0, .ref 131), (1, .int x1), (2, .int x2), (4, .int x4)] [] (mk I J τ) = (tm_bI (F_61 [.ref 131] (mk I J τ)) fun r M => R_70 52 [(0, .ref 131), (1, .int x1), (2, .int x2), (4, .int x4)] [.int r] M) := (tm_F_fix _ _ _ _ _ _ _ _ _ _ _).trans rfl
set_option maxRecDepth 20000 in
theorem e_70_52 (I : Nat → Nat → Int32) (J : Nat → Nat → Int64) (τ : tm_Tu) (x1 : Int32) (x2 : Int32) (x4 : Int32) (xs0 : Int32) : R_70 52 [(0, .ref 131), (1, .int x1), (2, .int x2), (4, .int x4)] [.int xs0] (mk I J τ) = (if xs0 = 0 then some (none, (mk I J τ)) else (if 0 ≤ ((8 * x1) + x4) ∧ (((8 * x1) + x4)).toNatClampNeg < 192 then (tm_bI (F_69 [.ref 131, .long 29807] (mk (tm_u I 142 (((8 * x1) + x4)).toNatClampNeg x2) J τ)) fun r M => R_70 76 [(0, .ref 131), (1, .int x1), (2, .int x2), (4, .int x4)] [.int r] M) else none)) := (tm_F_fix _ _ _ _ _ _ _ _ _ _ _).trans rfl
set_option maxRecDepth 20000 in
theorem e_70_76 (I : Nat → Nat → Int32) (J : Nat → Nat → Int64) (τ : tm_Tu) (x1 : Int32) (x2 : Int32) (x4 : Int32) (xs0 : Int32) : R_70 76 [(0, .ref 131), (1, .int x1), (2, .int x2), (4, .int x4)] [.int xs0] (mk I J τ) = (if xs0 = 0 then some (none, (mk I J τ)) else (if 0 ≤ x1 ∧ x1.toNatClampNeg < 24 then (tm_bI (F_67 [.ref 131, .int x4, .int ((I 137 x1.toNatClampNeg) - 1)] (mk I J τ)) fun r M => R_70 99 [(0, .ref 131), (1, .int x1), (2, .int x2), (3, .int (I 131 6)), (4, .int x4)] [.int r] M) else none)) := (tm_F_fix _ _ _ _ _ _ _ _ _ _ _).trans rfl
set_option maxRecDepth 20000 in
theorem e_70_99 (I : Nat → Nat → Int32) (J : Nat → Nat → Int64) (τ : tm_Tu) (x1 : Int32) (x2 : Int32) (x3 : Int32) (x4 : Int32) (xs0 : Int32) : R_70 99 [(0, .ref 131), (1, .int x1), (2, .int x2), (3, .int x3), (4, .int x4)] [.int xs0] (mk I J τ) = R_70 107 [(0, .ref 131), (1, .int x1), (2, .int x2), (3, .int x3), (5, .int xs0), (6, .int (x4 + 1))] [] (mk I J τ) := (tm_F_fix _ _ _ _ _ _ _ _ _ _ _).trans rfl
set_option maxRecDepth 20000 in
theorem e_70_107 (I : Nat → Nat → Int32) (J : Nat → Nat → Int64) (τ : tm_Tu) (x1 : Int32) (x2 : Int32) (x3 : Int32) (x5 : Int32) (x6 : Int32) : R_70 107 [(0, .ref 131), (1, .int x1), (2, .int x2), (3, .int x3), (5, .int x5), (6, .int x6)] [] (mk I J τ) = (if x5 < x6 then R_70 161 [] [] (mk I J τ) else (tm_bI (F_61 [.ref 131] (mk I J τ)) fun r M => R_70 118 [(0, .ref 131), (1, .int x1), (2, .int x2), (3, .int x3), (5, .int x5), (6, .int x6)] [.int r] M)) := (tm_F_fix _ _ _ _ _ _ _ _ _ _ _).trans rfl
set_option maxRecDepth 20000 in
theorem e_70_118 (I : Nat → Nat → Int32) (J : Nat → Nat → Int64) (τ : tm_Tu) (x1 : Int32) (x2 : Int32) (x3 : Int32) (x5 : Int32) (x6 : Int32) (xs0 : Int32) : R_70 118 [(0, .ref 131), (1, .int x1), (2, .int x2), (3, .int x3), (5, .int x5), (6, .int x6)] [.int xs0] (mk I J τ) = (if xs0 = 0 then R_70 161 [] [] (mk I J τ) else (if 0 ≤ ((8 * x1) + x6) ∧ (((8 * x1) + x6)).toNatClampNeg < 192 then (if (I 142 (((8 * x1) + x6)).toNatClampNeg) < 0 then R_70 142 [(0, .ref 131), (1, .int x1), (2, .int x2), (3, .int x3), (5, .int x5), (6, .int x6)] [] (mk I J τ) else (tm_bV (F_63 [.ref 131, .int 5, .int x3] (mk I J τ)) fun M => R_70 142 [(0, .ref 131), (1, .int x1), (2, .int x2), (3, .int x3), (5, .int x5), (6, .int x6)] [] M)) else none)) := (tm_F_fix _ _ _ _ _ _ _ _ _ _ _).trans rfl
set_option maxRecDepth 20000 in
theorem e_70_142 (I : Nat → Nat → Int32) (J : Nat → Nat → Int64) (τ : tm_Tu) (x1 : Int32) (x2 : Int32) (x3 : Int32) (x5 : Int32) (x6 : Int32) : R_70 142 [(0, .ref 131), (1, .int x1), (2, .int x2), (3, .int x3), (5, .int x5), (6, .int x6)] [] (mk I J τ) = (if 0 ≤ ((8 * x1) + x6) ∧ (((8 * x1) + x6)).toNatClampNeg < 192 then R_70 107 [(0, .ref 131), (1, .int x1), (2, .int x2), (3, .int x3), (5, .int x5), (6, .int (x6 + 1))] [] (mk (tm_u I 142 (((8 * x1) + x6)).toNatClampNeg x2) J τ) else none) := (tm_F_fix _ _ _ _ _ _ _ _ _ _ _).trans rfl
set_option maxRecDepth 20000 in
theorem e_70_161 (I : Nat → Nat → Int32) (J : Nat → Nat → Int64) (τ : tm_Tu)  : R_70 161 [] [] (mk I J τ) = some (none, (mk I J τ)) := (tm_F_fix _ _ _ _ _ _ _ _ _ _ _).trans rfl
noncomputable def R_71 : tm_K := tm_F tm_sh none G_71 false cd_71 cu_71 175
set_option maxRecDepth 20000 in
theorem e_71 (I : Nat → Nat → Int32) (J : Nat → Nat → Int64) (τ : tm_Tu) (x1 : Int32) : F_71 [.ref 131, .int x1] (mk I J τ) = R_71 4 [(0, .ref 131), (1, .int x1), (2, .int 0), (3, .int 1)] [] (mk I J τ) := rfl
set_option maxRecDepth 20000 in
theorem e_71_4 (I : Nat → Nat → Int32) (J : Nat → Nat → Int64) (τ : tm_Tu) (x1 : Int32) (x2 : Int32) (x3 : Int32) : R_71 4 [(0, .ref 131), (1, .int x1), (2, .int x2), (3, .int x3)] [] (mk I J τ) = (if x3 = 0 then R_71 359 [] [] (mk I J τ) else (tm_bI (F_61 [.ref 131] (mk I J τ)) fun r M => R_71 12 [(0, .ref 131), (1, .int x1), (2, .int x2), (3, .int x3)] [.int r] M)) := (tm_F_fix _ _ _ _ _ _ _ _ _ _ _).trans rfl
set_option maxRecDepth 20000 in
theorem e_71_12 (I : Nat → Nat → Int32) (J : Nat → Nat → Int64) (τ : tm_Tu) (x1 : Int32) (x2 : Int32) (x3 : Int32) (xs0 : Int32) : R_71 12 [(0, .ref 131), (1, .int x1), (2, .int x2), (3, .int x3)] [.int xs0] (mk I J τ) = (if xs0 = 0 then R_71 359 [] [] (mk I J τ) else (tm_bI (F_62 [.ref 131, .long 1953854062] (mk I J τ)) fun r M => R_71 22 [(0, .ref 131), (1, .int x1), (2, .int x2), (3, .int x3)] [.int r] M)) := (tm_F_fix _ _ _ _ _ _ _ _ _ _ _).trans rfl
set_option maxRecDepth 20000 in
theorem e_71_22 (I : Nat → Nat → Int32) (J : Nat → Nat → Int64) (τ : tm_Tu) (x1 : Int32) (x2 : Int32) (x3 : Int32) (xs0 : Int32) : R_71 22 [(0, .ref 131), (1, .int x1), (2, .int x2), (3, .int x3)] [.int xs0] (mk I J τ) = (if xs0 = 0 then R_71 29 [(0, .ref 131), (1, .int x1), (2, .int x2), (3, .int x3)] [] (mk I J τ) else (if x2 = 0 then R_71 29 [(0, .ref 131), (1, .int x1), (2, .int x2), (3, .int x3)] [] (mk I J τ) else R_71 86 [(0, .ref 131), (1, .int x1), (2, .int x2), (3, .int x3)] [] (mk I J τ))) := (tm_F_fix _ _ _ _ _ _ _ _ _ _ _).trans rfl
set_option maxRecDepth 20000 in
theorem e_71_29 (I : Nat → Nat → Int32) (J : Nat → Nat → Int64) (τ : tm_Tu) (x1 : Int32) (x2 : Int32) (x3 : Int32) : R_71 29 [(0, .ref 131), (1, .int x1), (2, .int x2), (3, .int x3)] [] (mk I J τ) = (tm_bI (F_62 [.ref 131, .long 1718775661] (mk I J τ)) fun r M => R_71 36 [(0, .ref 131), (1, .int x1), (2, .int x2), (3, .int x3)] [.int r] M) := (tm_F_fix _ _ _ _ _ _ _ _ _ _ _).trans rfl
set_option maxRecDepth 20000 in
theorem e_71_36 (I : Nat → Nat → Int32) (J : Nat → Nat → Int64) (τ : tm_Tu) (x1 : Int32) (x2 : Int32) (x3 : Int32) (xs0 : Int32) : R_71 36 [(0, .ref 131), (1, .int x1), (2, .int x2), (3, .int x3)] [.int xs0] (mk I J τ) = (if xs0 = 0 then R_71 48 [(0, .ref 131), (1, .int x1), (2, .int x2), (3, .int x3)] [] (mk I J τ) else (if 0 ≤ x1 ∧ x1.toNatClampNeg < 24 then (if (I 139 x1.toNatClampNeg) = 0 then R_71 48 [(0, .ref 131), (1, .int x1), (2, .int x2), (3, .int x3)] [] (mk I J τ) else R_71 86 [(0, .ref 131), (1, .int x1), (2, .int x2), (3, .int x3)] [] (mk I J τ)) else none)) := (tm_F_fix _ _ _ _ _ _ _ _ _ _ _).trans rfl
set_option maxRecDepth 20000 in
theorem e_71_48 (I : Nat → Nat → Int32) (J : Nat → Nat → Int64) (τ : tm_Tu) (x1 : Int32) (x2 : Int32) (x3 : Int32) : R_71 48 [(0, .ref 131), (1, .int x1), (2, .int x2), (3, .int x3)] [] (mk I J τ) = (tm_bI (F_62 [.ref 131, .long 112568465714791] (mk I J τ)) fun r M => R_71 55 [(0, .ref 131), (1, .int x1), (2, .int x2), (3, .int x3)] [.int r] M) := (tm_F_fix _ _ _ _ _ _ _ _ _ _ _).trans rfl
set_option maxRecDepth 20000 in
theorem e_71_55 (I : Nat → Nat → Int32) (J : Nat → Nat → Int64) (τ : tm_Tu) (x1 : Int32) (x2 : Int32) (x3 : Int32) (xs0 : Int32) : R_71 55 [(0, .ref 131), (1, .int x1), (2, .int x2), (3, .int x3)] [.int xs0] (mk I J τ) = (if xs0 = 0 then R_71 67 [(0, .ref 131), (1, .int x1), (2, .int x2), (3, .int x3)] [] (mk I J τ) else (if 0 ≤ x1 ∧ x1.toNatClampNeg < 24 then (if 0 ≤ (I 140 x1.toNatClampNeg) then R_71 86 [(0, .ref 131), (1, .int x1), (2, .int x2), (3, .int x3)] [] (mk I J τ) else R_71 67 [(0, .ref 131), (1, .int x1), (2, .int x2), (3, .int x3)] [] (mk I J τ)) else none)) := (tm_F_fix _ _ _ _ _ _ _ _ _ _ _).trans rfl
set_option maxRecDepth 20000 in
theorem e_71_67 (I : Nat → Nat → Int32) (J : Nat → Nat → Int64) (τ : tm_Tu) (x1 : Int32) (x2 : Int32) (x3 : Int32) : R_71 67 [(0, .ref 131), (1, .int x1), (2, .int x2), (3, .int x3)] [] (mk I J τ) = (tm_bI (F_62 [.ref 131, .long 418431069797] (mk I J τ)) fun r M => R_71 74 [(0, .ref 131), (1, .int x1), (2, .int x2), (3, .int x3)] [.int r] M) := (tm_F_fix _ _ _ _ _ _ _ _ _ _ _).trans rfl
set_option maxRecDepth 20000 in
theorem e_71_74 (I : Nat → Nat → Int32) (J : Nat → Nat → Int64) (τ : tm_Tu) (x1 : Int32) (x2 : Int32) (x3 : Int32) (xs0 : Int32) : R_71 74 [(0, .ref 131), (1, .int x1), (2, .int x2), (3, .int x3)] [.int xs0] (mk I J τ) = (if xs0 = 0 then R_71 90 [(0, .ref 131), (1, .int x1), (2, .int x2), (3, .int x3)] [] (mk I J τ) else (if 0 ≤ x1 ∧ x1.toNatClampNeg < 24 then (if (I 143 x1.toNatClampNeg) = 0 then R_71 90 [(0, .ref 131), (1, .int x1), (2, .int x2), (3, .int x3)] [] (mk I J τ) else R_71 86 [(0, .ref 131), (1, .int x1), (2, .int x2), (3, .int x3)] [] (mk I J τ)) else none)) := (tm_F_fix _ _ _ _ _ _ _ _ _ _ _).trans rfl
set_option maxRecDepth 20000 in
theorem e_71_86 (I : Nat → Nat → Int32) (J : Nat → Nat → Int64) (τ : tm_Tu) (x1 : Int32) (x2 : Int32) (x3 : Int32) : R_71 86 [(0, .ref 131), (1, .int x1), (2, .int x2), (3, .int x3)] [] (mk I J τ) = R_71 91 [(0, .ref 131), (1, .int x1), (2, .int x2), (3, .int x3)] [.int 1] (mk I J τ) := (tm_F_fix _ _ _ _ _ _ _ _ _ _ _).trans rfl
set_option maxRecDepth 20000 in
theorem e_71_90 (I : Nat → Nat → Int32) (J : Nat → Nat → Int64) (τ : tm_Tu) (x1 : Int32) (x2 : Int32) (x3 : Int32) : R_71 90 [(0, .ref 131), (1, .int x1), (2, .int x2), (3, .int x3)] [] (mk I J τ) = R_71 91 [(0, .ref 131), (1, .int x1), (2, .int x2), (3, .int x3)] [.int 0] (mk I J τ) := (tm_F_fix _ _ _ _ _ _ _ _ _ _ _).trans rfl
set_option maxRecDepth 20000 in
theorem e_71_91 (I : Nat → Nat → Int32) (J : Nat → Nat → Int64) (τ : tm_Tu) (x1 : Int32) (x2 : Int32) (x3 : Int32) (xs0 : Int32) : R_71 91 [(0, .ref 131), (1, .int x1), (2, .int x2), (3, .int x3)] [.int xs0] (mk I J τ) = (if xs0 = 0 then R_71 102 [(0, .ref 131), (1, .int x1), (2, .int x2), (3, .int x3)] [] (mk I J τ) else (tm_bV (F_64 [.ref 131] (mk I J τ)) fun M => R_71 102 [(0, .ref 131), (1, .int x1), (2, .int x2), (3, .int x3)] [] M)) := (tm_F_fix _ _ _ _ _ _ _ _ _ _ _).trans rfl
set_option maxRecDepth 20000 in
theorem e_71_102 (I : Nat → Nat → Int32) (J : Nat → Nat → Int64) (τ : tm_Tu) (x1 : Int32) (x2 : Int32) (x3 : Int32) : R_71 102 [(0, .ref 131), (1, .int x1), (2, .int x2), (3, .int x3)] [] (mk I J τ) = (tm_bI (F_61 [.ref 131] (mk I J τ)) fun r M => R_71 106 [(0, .ref 131), (1, .int x1), (2, .int x2), (3, .int x3)] [.int r] M) := (tm_F_fix _ _ _ _ _ _ _ _ _ _ _).trans rfl
set_option maxRecDepth 20000 in
theorem e_71_106 (I : Nat → Nat → Int32) (J : Nat → Nat → Int64) (τ : tm_Tu) (x1 : Int32) (x2 : Int32) (x3 : Int32) (xs0 : Int32) : R_71 106 [(0, .ref 131), (1, .int x1), (2, .int x2), (3, .int x3)] [.int xs0] (mk I J τ) = (if xs0 = 0 then some (none, (mk I J τ)) else (tm_bI (F_69 [.ref 131, .long 427121668979] (mk I J τ)) fun r M => R_71 117 [(0, .ref 131), (1, .int x1), (2, .int x2), (3, .int x3)] [.int r] M)) := (tm_F_fix _ _ _ _ _ _ _ _ _ _ _).trans rfl
set_option maxRecDepth 20000 in
theorem e_71_117 (I : Nat → Nat → Int32) (J : Nat → Nat → Int64) (τ : tm_Tu) (x1 : Int32) (x2 : Int32) (x3 : Int32) (xs0 : Int32) : R_71 117 [(0, .ref 131), (1, .int x1), (2, .int x2), (3, .int x3)] [.int xs0] (mk I J τ) = (if xs0 = 0 then (tm_bI (F_69 [.ref 131, .long 7300710] (mk I J τ)) fun r M => R_71 136 [(0, .ref 131), (1, .int x1), (2, .int x2), (3, .int x3)] [.int r] M) else (tm_bV (F_70 [.ref 131, .int x1, .int 1] (mk I J τ)) fun M => R_71 126 [(0, .ref 131), (1, .int x1), (2, .int x2), (3, .int x3)] [] M)) := (tm_F_fix _ _ _ _ _ _ _ _ _ _ _).trans rfl
set_option maxRecDepth 20000 in
theorem e_71_126 (I : Nat → Nat → Int32) (J : Nat → Nat → Int64) (τ : tm_Tu) (x1 : Int32) (x2 : Int32) (x3 : Int32) : R_71 126 [(0, .ref 131), (1, .int x1), (2, .int x2), (3, .int x3)] [] (mk I J τ) = R_71 356 [(0, .ref 131), (1, .int x1), (2, .int x2), (3, .int x3)] [] (mk I J τ) := (tm_F_fix _ _ _ _ _ _ _ _ _ _ _).trans rfl
set_option maxRecDepth 20000 in
theorem e_71_136 (I : Nat → Nat → Int32) (J : Nat → Nat → Int64) (τ : tm_Tu) (x1 : Int32) (x2 : Int32) (x3 : Int32) (xs0 : Int32) : R_71 136 [(0, .ref 131), (1, .int x1), (2, .int x2), (3, .int x3)] [.int xs0] (mk I J τ) = (if xs0 = 0 then (tm_bI (F_69 [.ref 131, .long 1953854062] (mk I J τ)) fun r M => R_71 202 [(0, .ref 131), (1, .int x1), (2, .int x2), (3, .int x3)] [.int r] M) else (tm_bI (F_62 [.ref 131, .long 97] (mk I J τ)) fun r M => R_71 146 [(0, .ref 131), (1, .int x1), (2, .int x2), (3, .int x3)] [.int r] M)) := (tm_F_fix _ _ _ _ _ _ _ _ _ _ _).trans rfl
set_option maxRecDepth 20000 in
theorem e_71_146 (I : Nat → Nat → Int32) (J : Nat → Nat → Int64) (τ : tm_Tu) (x1 : Int32) (x2 : Int32) (x3 : Int32) (xs0 : Int32) : R_71 146 [(0, .ref 131), (1, .int x1), (2, .int x2), (3, .int x3)] [.int xs0] (mk I J τ) = (if xs0 = 0 then R_71 154 [(0, .ref 131), (1, .int x1), (2, .int x2), (3, .int x3)] [.int 3] (mk I J τ) else R_71 154 [(0, .ref 131), (1, .int x1), (2, .int x2), (3, .int x3)] [.int 2] (mk I J τ)) := (tm_F_fix _ _ _ _ _ _ _ _ _ _ _).trans rfl
set_option maxRecDepth 20000 in
theorem e_71_154 (I : Nat → Nat → Int32) (J : Nat → Nat → Int64) (τ : tm_Tu) (x1 : Int32) (x2 : Int32) (x3 : Int32) (xs0 : Int32) : R_71 154 [(0, .ref 131), (1, .int x1), (2, .int x2), (3, .int x3)] [.int xs0] (mk I J τ) = (tm_bI (F_62 [.ref 131, .long 97] (mk I J τ)) fun r M => R_71 164 [(0, .ref 131), (1, .int x1), (2, .int x2), (3, .int x3), (5, .int xs0)] [.int r, .ref 131] M) := (tm_F_fix _ _ _ _ _ _ _ _ _ _ _).trans rfl
set_option maxRecDepth 20000 in
theorem e_71_164 (I : Nat → Nat → Int32) (J : Nat → Nat → Int64) (τ : tm_Tu) (x1 : Int32) (x2 : Int32) (x3 : Int32) (x5 : Int32) (xs0 : Int32) : R_71 164 [(0, .ref 131), (1, .int x1), (2, .int x2), (3, .int x3), (5, .int x5)] [.int xs0, .ref 131] (mk I J τ) = (if xs0 = 0 then (tm_bI (F_62 [.ref 131, .long 98] (mk I J τ)) fun r M => R_71 174 [(0, .ref 131), (1, .int x1), (2, .int x2), (3, .int x3), (5, .int x5)] [.int r, .ref 131] M) else R_71 177 [(0, .ref 131), (1, .int x1), (2, .int x2), (3, .int x3), (5, .int x5)] [.ref 131] (mk I J τ)) := (tm_F_fix _ _ _ _ _ _ _ _ _ _ _).trans rfl
set_option maxRecDepth 20000 in
theorem e_71_174 (I : Nat → Nat → Int32) (J : Nat → Nat → Int64) (τ : tm_Tu) (x1 : Int32) (x2 : Int32) (x3 : Int32) (x5 : Int32) (xs0 : Int32) : R_71 174 [(0, .ref 131), (1, .int x1), (2, .int x2), (3, .int x3), (5, .int x5)] [.int xs0, .ref 131] (mk I J τ) = (if xs0 = 0 then R_71 182 [(0, .ref 131), (1, .int x1), (2, .int x2), (3, .int x3), (5, .int x5)] [.int 0, .ref 131] (mk I J τ) else R_71 177 [(0, .ref 131), (1, .int x1), (2, .int x2), (3, .int x3), (5, .int x5)] [.ref 131] (mk I J τ)) := (tm_F_fix _ _ _ _ _ _ _ _ _ _ _).trans rfl
set_option maxRecDepth 20000 in
theorem e_71_177 (I : Nat → Nat → Int32) (J : Nat → Nat → Int64) (τ : tm_Tu) (x1 : Int32) (x2 : Int32) (x3 : Int32) (x5 : Int32) : R_71 177 [(0, .ref 131), (1, .int x1), (2, .int x2), (3, .int x3), (5, .int x5)] [.ref 131] (mk I J τ) = R_71 182 [(0, .ref 131), (1, .int x1), (2, .int x2), (3, .int x3), (5, .int x5)] [.int 1, .ref 131] (mk I J τ) := (tm_F_fix _ _ _ _ _ _ _ _ _ _ _).trans rfl
set_option maxRecDepth 20000 in
theorem e_71_182 (I : Nat → Nat → Int32) (J : Nat → Nat → Int64) (τ : tm_Tu) (x1 : Int32) (x2 : Int32) (x3 : Int32) (x5 : Int32) (xs0 : Int32) : R_71 182 [(0, .ref 131), (1, .int x1), (2, .int x2), (3, .int x3), (5, .int x5)] [.int xs0, .ref 131] (mk I J τ) = (tm_bV (F_66 [.ref 131, .int xs0] (mk I J τ)) fun M => R_71 185 [(0, .ref 131), (1, .int x1), (2, .int x2), (3, .int x3), (5, .int x5)] [] M) := (tm_F_fix _ _ _ _ _ _ _ _ _ _ _).trans rfl
set_option maxRecDepth 20000 in
theorem e_71_185 (I : Nat → Nat → Int32) (J : Nat → Nat → Int64) (τ : tm_Tu) (x1 : Int32) (x2 : Int32) (x3 : Int32) (x5 : Int32) : R_71 185 [(0, .ref 131), (1, .int x1), (2, .int x2), (3, .int x3), (5, .int x5)] [] (mk I J τ) = (tm_bV (F_70 [.ref 131, .int x1, .int x5] (mk I J τ)) fun M => R_71 192 [(0, .ref 131), (1, .int x1), (2, .int x2), (3, .int x3)] [] M) := (tm_F_fix _ _ _ _ _ _ _ _ _ _ _).trans rfl
set_option maxRecDepth 20000 in
theorem e_71_192 (I : Nat → Nat → Int32) (J : Nat → Nat → Int64) (τ : tm_Tu) (x1 : Int32) (x2 : Int32) (x3 : Int32) : R_71 192 [(0, .ref 131), (1, .int x1), (2, .int x2), (3, .int x3)] [] (mk I J τ) = R_71 356 [(0, .ref 131), (1, .int x1), (2, .int x2), (3, .int x3)] [] (mk I J τ) := (tm_F_fix _ _ _ _ _ _ _ _ _ _ _).trans rfl
set_option maxRecDepth 20000 in
theorem e_71_202 (I : Nat → Nat → Int32) (J : Nat → Nat → Int64) (τ : tm_Tu) (x1 : Int32) (x2 : Int32) (x3 : Int32) (xs0 : Int32) : R_71 202 [(0, .ref 131), (1, .int x1), (2, .int x2), (3, .int x3)] [.int xs0] (mk I J τ) = (if xs0 = 0 then (tm_bI (F_69 [.ref 131, .long 1718775661] (mk I J τ)) fun r M => R_71 229 [(0, .ref 131), (1, .int x1), (2, .int x2), (3, .int x3)] [.int r] M) else (tm_bI (F_67 [.ref 131, .int 1, .int 3] (mk I J τ)) fun r M => R_71 216 [(0, .ref 131), (1, .int x1), (3, .int x3)] [.int r, .int x1, .ref 138] M)) := (tm_F_fix _ _ _ _ _ _ _ _ _ _ _).trans rfl
set_option maxRecDepth 20000 in
theorem e_71_216 (I : Nat → Nat → Int32) (J : Nat → Nat → Int64) (τ : tm_Tu) (x1 : Int32) (x3 : Int32) (xs0 : Int32) (xs1 : Int32) : R_71 216 [(0, .ref 131), (1, .int x1), (3, .int x3)] [.int xs0, .int xs1, .ref 138] (mk I J τ) = (if 0 ≤ xs1 ∧ xs1.toNatClampNeg < 24 then R_71 356 [(0, .ref 131), (1, .int x1), (2, .int 1), (3, .int x3)] [] (mk (tm_u I 138 xs1.toNatClampNeg xs0) J τ) else none) := (tm_F_fix _ _ _ _ _ _ _ _ _ _ _).trans rfl
set_option maxRecDepth 20000 in
theorem e_71_229 (I : Nat → Nat → Int32) (J : Nat → Nat → Int64) (τ : tm_Tu) (x1 : Int32) (x2 : Int32) (x3 : Int32) (xs0 : Int32) : R_71 229 [(0, .ref 131), (1, .int x1), (2, .int x2), (3, .int x3)] [.int xs0] (mk I J τ) = (if xs0 = 0 then (tm_bI (F_69 [.ref 131, .long 112568465714791] (mk I J τ)) fun r M => R_71 316 [(0, .ref 131), (1, .int x1), (2, .int x2), (3, .int x3)] [.int r] M) else (tm_bI (F_62 [.ref 131, .long 108] (mk I J τ)) fun r M => R_71 244 [(0, .ref 131), (1, .int x1), (2, .int x2), (3, .int x3)] [.int r, .int x1, .ref 139] M)) := (tm_F_fix _ _ _ _ _ _ _ _ _ _ _).trans rfl
set_option maxRecDepth 20000 in
theorem e_71_244 (I : Nat → Nat → Int32) (J : Nat → Nat → Int64) (τ : tm_Tu) (x1 : Int32) (x2 : Int32) (x3 : Int32) (xs0 : Int32) (xs1 : Int32) : R_71 244 [(0, .ref 131), (1, .int x1), (2, .int x2), (3, .int x3)] [.int xs0, .int xs1, .ref 139] (mk I J τ) = (if xs0 = 0 then (tm_bI (F_62 [.ref 131, .long 114] (mk I J τ)) fun r M => R_71 258 [(0, .ref 131), (1, .int x1), (2, .int x2), (3, .int x3)] [.int r, .int xs1, .ref 139] M) else R_71 266 [(0, .ref 131), (1, .int x1), (2, .int x2), (3, .int x3)] [.int 1, .int xs1, .ref 139] (mk I J τ)) := (tm_F_fix _ _ _ _ _ _ _ _ _ _ _).trans rfl
set_option maxRecDepth 20000 in
theorem e_71_258 (I : Nat → Nat → Int32) (J : Nat → Nat → Int64) (τ : tm_Tu) (x1 : Int32) (x2 : Int32) (x3 : Int32) (xs0 : Int32) (xs1 : Int32) : R_71 258 [(0, .ref 131), (1, .int x1), (2, .int x2), (3, .int x3)] [.int xs0, .int xs1, .ref 139] (mk I J τ) = (if xs0 = 0 then R_71 266 [(0, .ref 131), (1, .int x1), (2, .int x2), (3, .int x3)] [.int 3, .int xs1, .ref 139] (mk I J τ) else R_71 266 [(0, .ref 131), (1, .int x1), (2, .int x2), (3, .int x3)] [.int 2, .int xs1, .ref 139] (mk I J τ)) := (tm_F_fix _ _ _ _ _ _ _ _ _ _ _).trans rfl
set_option maxRecDepth 20000 in
theorem e_71_266 (I : Nat → Nat → Int32) (J : Nat → Nat → Int64) (τ : tm_Tu) (x1 : Int32) (x2 : Int32) (x3 : Int32) (xs0 : Int32) (xs1 : Int32) : R_71 266 [(0, .ref 131), (1, .int x1), (2, .int x2), (3, .int x3)] [.int xs0, .int xs1, .ref 139] (mk I J τ) = (if 0 ≤ xs1 ∧ xs1.toNatClampNeg < 24 then (tm_bI (F_62 [.ref 131, .long 108] (mk (tm_u I 139 xs1.toNatClampNeg xs0) J τ)) fun r M => R_71 275 [(0, .ref 131), (1, .int x1), (2, .int x2), (3, .int x3)] [.int r, .ref 131] M) else none) := (tm_F_fix _ _ _ _ _ _ _ _ _ _ _).trans rfl
set_option maxRecDepth 20000 in
theorem e_71_275 (I : Nat → Nat → Int32) (J : Nat → Nat → Int64) (τ : tm_Tu) (x1 : Int32) (x2 : Int32) (x3 : Int32) (xs0 : Int32) : R_71 275 [(0, .ref 131), (1, .int x1), (2, .int x2), (3, .int x3)] [.int xs0, .ref 131] (mk I J τ) = (if xs0 = 0 then (tm_bI (F_62 [.ref 131, .long 114] (mk I J τ)) fun r M => R_71 285 [(0, .ref 131), (1, .int x1), (2, .int x2), (3, .int x3)] [.int r, .ref 131] M) else R_71 298 [(0, .ref 131), (1, .int x1), (2, .int x2), (3, .int x3)] [.ref 131] (mk I J τ)) := (tm_F_fix _ _ _ _ _ _ _ _ _ _ _).trans rfl
set_option maxRecDepth 20000 in
theorem e_71_285 (I : Nat → Nat → Int32) (J : Nat → Nat → Int64) (τ : tm_Tu) (x1 : Int32) (x2 : Int32) (x3 : Int32) (xs0 : Int32) : R_71 285 [(0, .ref 131), (1, .int x1), (2, .int x2), (3, .int x3)] [.int xs0, .ref 131] (mk I J τ) = (if xs0 = 0 then (tm_bI (F_62 [.ref 131, .long 98] (mk I J τ)) fun r M => R_71 295 [(0, .ref 131), (1, .int x1), (2, .int x2), (3, .int x3)] [.int r, .ref 131] M) else R_71 298 [(0, .ref 131), (1, .int x1), (2, .int x2), (3, .int x3)] [.ref 131] (mk I J τ)) := (tm_F_fix _ _ _ _ _ _ _ _ _ _ _).trans rfl
set_option maxRecDepth 20000 in
theorem e_71_295 (I : Nat → Nat → Int32) (J : Nat → Nat → Int64) (τ : tm_Tu) (x1 : Int32) (x2 : Int32) (x3 : Int32) (xs0 : Int32) : R_71 295 [(0, .ref 131), (1, .int x1), (2, .int x2), (3, .int x3)] [.int xs0, .ref 131] (mk I J τ) = (if xs0 = 0 then R_71 303 [(0, .ref 131), (1, .int x1), (2, .int x2), (3, .int x3)] [.int 0, .ref 131] (mk I J τ) else R_71 298 [(0, .ref 131), (1, .int x1), (2, .int x2), (3, .int x3)] [.ref 131] (mk I J τ)) := (tm_F_fix _ _ _ _ _ _ _ _ _ _ _).trans rfl
set_option maxRecDepth 20000 in
theorem e_71_298 (I : Nat → Nat → Int32) (J : Nat → Nat → Int64) (τ : tm_Tu) (x1 : Int32) (x2 : Int32) (x3 : Int32) : R_71 298 [(0, .ref 131), (1, .int x1), (2, .int x2), (3, .int x3)] [.ref 131] (mk I J τ) = R_71 303 [(0, .ref 131), (1, .int x1), (2, .int x2), (3, .int x3)] [.int 1, .ref 131] (mk I J τ) := (tm_F_fix _ _ _ _ _ _ _ _ _ _ _).trans rfl
set_option maxRecDepth 20000 in
theorem e_71_303 (I : Nat → Nat → Int32) (J : Nat → Nat → Int64) (τ : tm_Tu) (x1 : Int32) (x2 : Int32) (x3 : Int32) (xs0 : Int32) : R_71 303 [(0, .ref 131), (1, .int x1), (2, .int x2), (3, .int x3)] [.int xs0, .ref 131] (mk I J τ) = (tm_bV (F_66 [.ref 131, .int xs0] (mk I J τ)) fun M => R_71 306 [(0, .ref 131), (1, .int x1), (2, .int x2), (3, .int x3)] [] M) := (tm_F_fix _ _ _ _ _ _ _ _ _ _ _).trans rfl
set_option maxRecDepth 20000 in
theorem e_71_306 (I : Nat → Nat → Int32) (J : Nat → Nat → Int64) (τ : tm_Tu) (x1 : Int32) (x2 : Int32) (x3 : Int32) : R_71 306 [(0, .ref 131), (1, .int x1), (2, .int x2), (3, .int x3)] [] (mk I J τ) = R_71 356 [(0, .ref 131), (1, .int x1), (2, .int x2), (3, .int x3)] [] (mk I J τ) := (tm_F_fix _ _ _ _ _ _ _ _ _ _ _).trans rfl
set_option maxRecDepth 20000 in
theorem e_71_316 (I : Nat → Nat → Int32) (J : Nat → Nat → Int64) (τ : tm_Tu) (x1 : Int32) (x2 : Int32) (x3 : Int32) (xs0 : Int32) : R_71 316 [(0, .ref 131), (1, .int x1), (2, .int x2), (3, .int x3)] [.int xs0] (mk I J τ) = (if xs0 = 0 then (tm_bI (F_69 [.ref 131, .long 418431069797] (mk I J τ)) fun r M => R_71 341 [(0, .ref 131), (1, .int x1), (2, .int x2), (3, .int x3)] [.int r] M) else (tm_bI (F_67 [.ref 131, .int 0, .int 3] (mk I J τ)) fun r M => R_71 330 [(0, .ref 131), (1, .int x1), (2, .int x2), (3, .int x3)] [.int r, .int x1, .ref 140] M)) := (tm_F_fix _ _ _ _ _ _ _ _ _ _ _).trans rfl
set_option maxRecDepth 20000 in
theorem e_71_330 (I : Nat → Nat → Int32) (J : Nat → Nat → Int64) (τ : tm_Tu) (x1 : Int32) (x2 : Int32) (x3 : Int32) (xs0 : Int32) (xs1 : Int32) : R_71 330 [(0, .ref 131), (1, .int x1), (2, .int x2), (3, .int x3)] [.int xs0, .int xs1, .ref 140] (mk I J τ) = (if 0 ≤ xs1 ∧ xs1.toNatClampNeg < 24 then R_71 356 [(0, .ref 131), (1, .int x1), (2, .int x2), (3, .int x3)] [] (mk (tm_u I 140 xs1.toNatClampNeg xs0) J τ) else none) := (tm_F_fix _ _ _ _ _ _ _ _ _ _ _).trans rfl
set_option maxRecDepth 20000 in
theorem e_71_341 (I : Nat → Nat → Int32) (J : Nat → Nat → Int64) (τ : tm_Tu) (x1 : Int32) (x2 : Int32) (x3 : Int32) (xs0 : Int32) : R_71 341 [(0, .ref 131), (1, .int x1), (2, .int x2), (3, .int x3)] [.int xs0] (mk I J τ) = (if xs0 = 0 then R_71 356 [(0, .ref 131), (1, .int x1), (2, .int x2), (3, .int 0)] [] (mk I J τ) else (if 0 ≤ x1 ∧ x1.toNatClampNeg < 24 then R_71 356 [(0, .ref 131), (1, .int x1), (2, .int x2), (3, .int x3)] [] (mk (tm_u I 143 x1.toNatClampNeg 1) J τ) else none)) := (tm_F_fix _ _ _ _ _ _ _ _ _ _ _).trans rfl
set_option maxRecDepth 20000 in
theorem e_71_356 (I : Nat → Nat → Int32) (J : Nat → Nat → Int64) (τ : tm_Tu) (x1 : Int32) (x2 : Int32) (x3 : Int32) : R_71 356 [(0, .ref 131), (1, .int x1), (2, .int x2), (3, .int x3)] [] (mk I J τ) = R_71 4 [(0, .ref 131), (1, .int x1), (2, .int x2), (3, .int x3)] [] (mk I J τ) := (tm_F_fix _ _ _ _ _ _ _ _ _ _ _).trans rfl
set_option maxRecDepth 20000 in
theorem e_71_359 (I : Nat → Nat → Int32) (J : Nat → Nat → Int64) (τ : tm_Tu)  : R_71 359 [] [] (mk I J τ) = some (none, (mk I J τ)) := (tm_F_fix _ _ _ _ _ _ _ _ _ _ _).trans rfl
noncomputable def R_72 : tm_K := tm_F tm_sh none G_72 false cd_72 cu_72 196
set_option maxRecDepth 20000 in
theorem e_72 (I : Nat → Nat → Int32) (J : Nat → Nat → Int64) (τ : tm_Tu)  : F_72 [.ref 131] (mk I J τ) = (tm_bI (F_62 [.ref 131, .long 500135715691] (mk I J τ)) fun r M => R_72 7 [(0, .ref 131)] [.int r] M) := rfl
set_option maxRecDepth 20000 in
theorem e_72_7 (I : Nat → Nat → Int32) (J : Nat → Nat → Int64) (τ : tm_Tu) (xs0 : Int32) : R_72 7 [(0, .ref 131)] [.int xs0] (mk I J τ) = (if xs0 = 0 then R_72 24 [(0, .ref 131)] [] (mk I J τ) else (if 0 ≤ (I 131 22) ∧ ((I 131 22)).toNatClampNeg < 2 then (if (I 135 ((I 131 22)).toNatClampNeg) = 12 then R_72 24 [(0, .ref 131)] [] (mk I J τ) else R_72 28 [(0, .ref 131)] [] (mk I J τ)) else none)) := (tm_F_fix _ _ _ _ _ _ _ _ _ _ _).trans rfl
set_option maxRecDepth 20000 in
theorem e_72_24 (I : Nat → Nat → Int32) (J : Nat → Nat → Int64) (τ : tm_Tu)  : R_72 24 [(0, .ref 131)] [] (mk I J τ) = (tm_bV (F_64 [.ref 131] (mk I J τ)) fun M => R_72 28 [(0, .ref 131)] [] M) := (tm_F_fix _ _ _ _ _ _ _ _ _ _ _).trans rfl
set_option maxRecDepth 20000 in
theorem e_72_28 (I : Nat → Nat → Int32) (J : Nat → Nat → Int64) (τ : tm_Tu)  : R_72 28 [(0, .ref 131)] [] (mk I J τ) = (tm_bI (F_61 [.ref 131] (mk I J τ)) fun r M => R_72 32 [(0, .ref 131)] [.int r] M) := (tm_F_fix _ _ _ _ _ _ _ _ _ _ _).trans rfl
set_option maxRecDepth 20000 in
theorem e_72_32 (I : Nat → Nat → Int32) (J : Nat → Nat → Int64) (τ : tm_Tu) (xs0 : Int32) : R_72 32 [(0, .ref 131)] [.int xs0] (mk I J τ) = (if xs0 = 0 then some (none, (mk I J τ)) else (tm_bV (F_60 [.ref 131] (mk I J τ)) fun M => R_72 40 [(0, .ref 131)] [] M)) := (tm_F_fix _ _ _ _ _ _ _ _ _ _ _).trans rfl
set_option maxRecDepth 20000 in
theorem e_72_40 (I : Nat → Nat → Int32) (J : Nat → Nat → Int64) (τ : tm_Tu)  : R_72 40 [(0, .ref 131)] [] (mk I J τ) = (if 0 ≤ (I 131 22) ∧ ((I 131 22)).toNatClampNeg < 2 then (if (I 131 8) = 2 then (tm_bI (F_65 [.ref 131, .int (I 131 22), .long (J 131 10)] (mk I J τ)) fun r M => R_72 78 [(0, .ref 131), (1, .int ((12 * (I 131 22)) + (I 135 ((I 131 22)).toNatClampNeg)))] [.int r] M) else R_72 90 [(0, .ref 131), (1, .int ((12 * (I 131 22)) + (I 135 ((I 131 22)).toNatClampNeg)))] [] (mk I J τ)) else none) := (tm_F_fix _ _ _ _ _ _ _ _ _ _ _).trans rfl
set_option maxRecDepth 20000 in
theorem e_72_78 (I : Nat → Nat → Int32) (J : Nat → Nat → Int64) (τ : tm_Tu) (x1 : Int32) (xs0 : Int32) : R_72 78 [(0, .ref 131), (1, .int x1)] [.int xs0] (mk I J τ) = (if xs0 < 0 then R_72 90 [(0, .ref 131), (1, .int x1)] [] (mk I J τ) else (tm_bV (F_63 [.ref 131, .int 3, .int (I 131 6)] (mk I J τ)) fun M => R_72 90 [(0, .ref 131), (1, .int x1)] [] M)) := (tm_F_fix _ _ _ _ _ _ _ _ _ _ _).trans rfl
set_option maxRecDepth 20000 in
theorem e_72_90 (I : Nat → Nat → Int32) (J : Nat → Nat → Int64) (τ : tm_Tu) (x1 : Int32) : R_72 90 [(0, .ref 131), (1, .int x1)] [] (mk I J τ) = (if 0 ≤ x1 ∧ x1.toNatClampNeg < 24 then (if (I 131 8) = 2 then R_72 114 [(0, .ref 131), (1, .int x1)] [.int 1, .ref 131] (mk I (tm_u J 134 x1.toNatClampNeg (J 131 10)) τ) else R_72 114 [(0, .ref 131), (1, .int x1)] [.int 0, .ref 131] (mk I (tm_u J 134 x1.toNatClampNeg (J 131 10)) τ)) else none) := (tm_F_fix _ _ _ _ _ _ _ _ _ _ _).trans rfl
set_option maxRecDepth 20000 in
theorem e_72_114 (I : Nat → Nat → Int32) (J : Nat → Nat → Int64) (τ : tm_Tu) (x1 : Int32) (xs0 : Int32) : R_72 114 [(0, .ref 131), (1, .int x1)] [.int xs0, .ref 131] (mk I J τ) = (tm_bV (F_66 [.ref 131, .int xs0] (mk I J τ)) fun M => R_72 117 [(0, .ref 131), (1, .int x1)] [] M) := (tm_F_fix _ _ _ _ _ _ _ _ _ _ _).trans rfl
set_option maxRecDepth 20000 in
theorem e_72_117 (I : Nat → Nat → Int32) (J : Nat → Nat → Int64) (τ : tm_Tu) (x1 : Int32) : R_72 117 [(0, .ref 131), (1, .int x1)] [] (mk I J τ) = (tm_bI (F_62 [.ref 131, .long 512970880104] (mk I J τ)) fun r M => R_72 125 [(0, .ref 131), (1, .int x1)] [.int r, .ref 131] M) := (tm_F_fix _ _ _ _ _ _ _ _ _ _ _).trans rfl
set_option maxRecDepth 20000 in
theorem e_72_125 (I : Nat → Nat → Int32) (J : Nat → Nat → Int64) (τ : tm_Tu) (x1 : Int32) (xs0 : Int32) : R_72 125 [(0, .ref 131), (1, .int x1)] [.int xs0, .ref 131] (mk I J τ) = (tm_bV (F_66 [.ref 131, .int xs0] (mk I J τ)) fun M => R_72 128 [(0, .ref 131), (1, .int x1)] [] M) := (tm_F_fix _ _ _ _ _ _ _ _ _ _ _).trans rfl
set_option maxRecDepth 20000 in
theorem e_72_128 (I : Nat → Nat → Int32) (J : Nat → Nat → Int64) (τ : tm_Tu) (x1 : Int32) : R_72 128 [(0, .ref 131), (1, .int x1)] [] (mk I J τ) = (tm_bI (F_67 [.ref 131, .int 0, .int 999] (mk I J τ)) fun r M => R_72 141 [(0, .ref 131), (1, .int x1)] [.int r, .int x1, .ref 136] M) := (tm_F_fix _ _ _ _ _ _ _ _ _ _ _).trans rfl
set_option maxRecDepth 20000 in
theorem e_72_141 (I : Nat → Nat → Int32) (J : Nat → Nat → Int64) (τ : tm_Tu) (x1 : Int32) (xs0 : Int32) (xs1 : Int32) : R_72 141 [(0, .ref 131), (1, .int x1)] [.int xs0, .int xs1, .ref 136] (mk I J τ) = (if 0 ≤ xs1 ∧ xs1.toNatClampNeg < 24 then (tm_bI (F_68 [.ref 131, .int 58] (mk (tm_u I 136 xs1.toNatClampNeg xs0) J τ)) fun r M => R_72 149 [(0, .ref 131), (1, .int x1)] [.int r, .ref 131] M) else none) := (tm_F_fix _ _ _ _ _ _ _ _ _ _ _).trans rfl
set_option maxRecDepth 20000 in
theorem e_72_149 (I : Nat → Nat → Int32) (J : Nat → Nat → Int64) (τ : tm_Tu) (x1 : Int32) (xs0 : Int32) : R_72 149 [(0, .ref 131), (1, .int x1)] [.int xs0, .ref 131] (mk I J τ) = (tm_bV (F_66 [.ref 131, .int xs0] (mk I J τ)) fun M => R_72 152 [(0, .ref 131), (1, .int x1)] [] M) := (tm_F_fix _ _ _ _ _ _ _ _ _ _ _).trans rfl
set_option maxRecDepth 20000 in
theorem e_72_152 (I : Nat → Nat → Int32) (J : Nat → Nat → Int64) (τ : tm_Tu) (x1 : Int32) : R_72 152 [(0, .ref 131), (1, .int x1)] [] (mk I J τ) = (tm_bI (F_62 [.ref 131, .long 1717921140] (mk I J τ)) fun r M => R_72 160 [(0, .ref 131), (1, .int x1)] [.int r, .ref 131] M) := (tm_F_fix _ _ _ _ _ _ _ _ _ _ _).trans rfl
set_option maxRecDepth 20000 in
theorem e_72_160 (I : Nat → Nat → Int32) (J : Nat → Nat → Int64) (τ : tm_Tu) (x1 : Int32) (xs0 : Int32) : R_72 160 [(0, .ref 131), (1, .int x1)] [.int xs0, .ref 131] (mk I J τ) = (tm_bV (F_66 [.ref 131, .int xs0] (mk I J τ)) fun M => R_72 163 [(0, .ref 131), (1, .int x1)] [] M) := (tm_F_fix _ _ _ _ _ _ _ _ _ _ _).trans rfl
set_option maxRecDepth 20000 in
theorem e_72_163 (I : Nat → Nat → Int32) (J : Nat → Nat → Int64) (τ : tm_Tu) (x1 : Int32) : R_72 163 [(0, .ref 131), (1, .int x1)] [] (mk I J τ) = (tm_bI (F_61 [.ref 131] (mk I J τ)) fun r M => R_72 167 [(0, .ref 131), (1, .int x1)] [.int r] M) := (tm_F_fix _ _ _ _ _ _ _ _ _ _ _).trans rfl
set_option maxRecDepth 20000 in
theorem e_72_167 (I : Nat → Nat → Int32) (J : Nat → Nat → Int64) (τ : tm_Tu) (x1 : Int32) (xs0 : Int32) : R_72 167 [(0, .ref 131), (1, .int x1)] [.int xs0] (mk I J τ) = (if xs0 = 0 then R_72 182 [(0, .ref 131), (1, .int x1)] [] (mk I J τ) else (if (I 131 8) = 5 then R_72 182 [(0, .ref 131), (1, .int x1)] [] (mk I J τ) else (tm_bV (F_64 [.ref 131] (mk I J τ)) fun M => R_72 182 [(0, .ref 131), (1, .int x1)] [] M))) := (tm_F_fix _ _ _ _ _ _ _ _ _ _ _).trans rfl
set_option maxRecDepth 20000 in
theorem e_72_182 (I : Nat → Nat → Int32) (J : Nat → Nat → Int64) (τ : tm_Tu) (x1 : Int32) : R_72 182 [(0, .ref 131), (1, .int x1)] [] (mk I J τ) = (tm_bI (F_61 [.ref 131] (mk I J τ)) fun r M => R_72 186 [(0, .ref 131), (1, .int x1)] [.int r] M) := (tm_F_fix _ _ _ _ _ _ _ _ _ _ _).trans rfl
set_option maxRecDepth 20000 in
theorem e_72_186 (I : Nat → Nat → Int32) (J : Nat → Nat → Int64) (τ : tm_Tu) (x1 : Int32) (xs0 : Int32) : R_72 186 [(0, .ref 131), (1, .int x1)] [.int xs0] (mk I J τ) = (if xs0 = 0 then some (none, (mk I J τ)) else (if 0 ≤ x1 ∧ x1.toNatClampNeg < 24 then R_72 211 [(0, .ref 131), (1, .int x1), (2, .int 0)] [] (mk (tm_u I 137 x1.toNatClampNeg ((((I 131 7) - (I 131 6)) - 2) / 4)) J τ) else none)) := (tm_F_fix _ _ _ _ _ _ _ _ _ _ _).trans rfl
set_option maxRecDepth 20000 in
theorem e_72_211 (I : Nat → Nat → Int32) (J : Nat → Nat → Int64) (τ : tm_Tu) (x1 : Int32) (x2 : Int32) : R_72 211 [(0, .ref 131), (1, .int x1), (2, .int x2)] [] (mk I J τ) = (if 0 ≤ x1 ∧ x1.toNatClampNeg < 24 then (if (4 * (I 137 x1.toNatClampNeg)) ≤ x2 then R_72 257 [(0, .ref 131), (1, .int x1), (2, .int 0)] [] (mk I J τ) else (tm_bI (F_55 [.ref 131, .int (((I 131 6) + 1) + x2)] (mk I J τ)) fun r M => R_72 245 [(0, .ref 131), (1, .int x1), (2, .int x2)] [.int r, .int ((32 * x1) + x2), .ref 141] M)) else none) := (tm_F_fix _ _ _ _ _ _ _ _ _ _ _).trans rfl
set_option maxRecDepth 20000 in
theorem e_72_245 (I : Nat → Nat → Int32) (J : Nat → Nat → Int64) (τ : tm_Tu) (x1 : Int32) (x2 : Int32) (xs0 : Int32) (xs1 : Int32) : R_72 245 [(0, .ref 131), (1, .int x1), (2, .int x2)] [.int xs0, .int xs1, .ref 141] (mk I J τ) = (tm_bI (F_59 [.int xs0] (mk I J τ)) fun r M => R_72 248 [(0, .ref 131), (1, .int x1), (2, .int x2)] [.int r, .int xs1, .ref 141] M) := (tm_F_fix _ _ _ _ _ _ _ _ _ _ _).trans rfl
set_option maxRecDepth 20000 in
theorem e_72_248 (I : Nat → Nat → Int32) (J : Nat → Nat → Int64) (τ : tm_Tu) (x1 : Int32) (x2 : Int32) (xs0 : Int32) (xs1 : Int32) : R_72 248 [(0, .ref 131), (1, .int x1), (2, .int x2)] [.int xs0, .int xs1, .ref 141] (mk I J τ) = (if 0 ≤ xs1 ∧ xs1.toNatClampNeg < 768 then R_72 211 [(0, .ref 131), (1, .int x1), (2, .int (x2 + 1))] [] (mk (tm_u I 141 xs1.toNatClampNeg xs0) J τ) else none) := (tm_F_fix _ _ _ _ _ _ _ _ _ _ _).trans rfl
set_option maxRecDepth 20000 in
theorem e_72_257 (I : Nat → Nat → Int32) (J : Nat → Nat → Int64) (τ : tm_Tu) (x1 : Int32) (x2 : Int32) : R_72 257 [(0, .ref 131), (1, .int x1), (2, .int x2)] [] (mk I J τ) = (if 8 ≤ x2 then (if 0 ≤ x1 ∧ x1.toNatClampNeg < 24 then (if 0 ≤ x1 ∧ x1.toNatClampNeg < 24 then (if 0 ≤ x1 ∧ x1.toNatClampNeg < 24 then (if 0 ≤ x1 ∧ x1.toNatClampNeg < 24 then (tm_bV (F_60 [.ref 131] (mk (tm_u (tm_u (tm_u (tm_u I 138 x1.toNatClampNeg 0) 139 x1.toNatClampNeg 0) 140 x1.toNatClampNeg (-1)) 143 x1.toNatClampNeg 0) J τ)) fun M => R_72 313 [(0, .ref 131), (1, .int x1)] [] M) else none) else none) else none) else none) else (if 0 ≤ ((8 * x1) + x2) ∧ (((8 * x1) + x2)).toNatClampNeg < 192 then R_72 257 [(0, .ref 131), (1, .int x1), (2, .int (x2 + 1))] [] (mk (tm_u I 142 (((8 * x1) + x2)).toNatClampNeg (-1)) J τ) else none)) := (tm_F_fix _ _ _ _ _ _ _ _ _ _ _).trans rfl
set_option maxRecDepth 20000 in
theorem e_72_313 (I : Nat → Nat → Int32) (J : Nat → Nat → Int64) (τ : tm_Tu) (x1 : Int32) : R_72 313 [(0, .ref 131), (1, .int x1)] [] (mk I J τ) = (tm_bV (F_71 [.ref 131, .int x1] (mk I J τ)) fun M => R_72 318 [(0, .ref 131)] [] M) := (tm_F_fix _ _ _ _ _ _ _ _ _ _ _).trans rfl
set_option maxRecDepth 20000 in
theorem e_72_318 (I : Nat → Nat → Int32) (J : Nat → Nat → Int64) (τ : tm_Tu)  : R_72 318 [(0, .ref 131)] [] (mk I J τ) = (tm_bI (F_68 [.ref 131, .int 59] (mk I J τ)) fun r M => R_72 325 [(0, .ref 131)] [.int r, .ref 131] M) := (tm_F_fix _ _ _ _ _ _ _ _ _ _ _).trans rfl
set_option maxRecDepth 20000 in
theorem e_72_325 (I : Nat → Nat → Int32) (J : Nat → Nat → Int64) (τ : tm_Tu) (xs0 : Int32) : R_72 325 [(0, .ref 131)] [.int xs0, .ref 131] (mk I J τ) = (tm_bV (F_66 [.ref 131, .int xs0] (mk I J τ)) fun M => R_72 328 [(0, .ref 131)] [] M) := (tm_F_fix _ _ _ _ _ _ _ _ _ _ _).trans rfl
set_option maxRecDepth 20000 in
theorem e_72_328 (I : Nat → Nat → Int32) (J : Nat → Nat → Int64) (τ : tm_Tu)  : R_72 328 [(0, .ref 131)] [] (mk I J τ) = (if 0 ≤ (I 131 22) ∧ ((I 131 22)).toNatClampNeg < 2 then (if 0 ≤ (I 131 22) ∧ ((I 131 22)).toNatClampNeg < 2 then some (none, (mk (tm_u I 135 ((I 131 22)).toNatClampNeg ((I 135 ((I 131 22)).toNatClampNeg) + 1)) J τ)) else none) else none) := (tm_F_fix _ _ _ _ _ _ _ _ _ _ _).trans rfl
