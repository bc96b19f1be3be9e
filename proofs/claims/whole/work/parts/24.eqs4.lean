/-! the equations, further -/
noncomputable def R_102 : tm_K := tm_F tm_sh none G_102 true cd_102 cu_102 27
set_option maxRecDepth 20000 in
theorem e_102 (I : Nat → Nat → Int32) (J : Nat → Nat → Int64) (τ : tm_Tu) (x0 : Int32) (x1 : Int32) : F_102 [.int x0, .int x1] (mk I J τ) = (if x1 = 0 then (if x0 = 0 then R_102 18 [] [] (mk I J τ) else (if x0 = 1 then R_102 18 [] [] (mk I J τ) else (if x0 = 3 then R_102 18 [] [] (mk I J τ) else R_102 23 [] [.int 0] (mk I J τ)))) else (if x1 = 2 then (if x0 = 0 then R_102 38 [] [] (mk I J τ) else (if x0 = 2 then R_102 38 [] [] (mk I J τ) else R_102 42 [] [] (mk I J τ))) else R_102 42 [] [] (mk I J τ))) := rfl
set_option maxRecDepth 20000 in
theorem e_102_18 (I : Nat → Nat → Int32) (J : Nat → Nat → Int64) (τ : tm_Tu)  : R_102 18 [] [] (mk I J τ) = R_102 23 [] [.int 1] (mk I J τ) := (tm_F_fix _ _ _ _ _ _ _ _ _ _ _).trans rfl
set_option maxRecDepth 20000 in
theorem e_102_23 (I : Nat → Nat → Int32) (J : Nat → Nat → Int64) (τ : tm_Tu) (xs0 : Int32) : R_102 23 [] [.int xs0] (mk I J τ) = (if xs0 = 0 ∨ xs0 = 1 then some (some (.int xs0), (mk I J τ)) else none) := (tm_F_fix _ _ _ _ _ _ _ _ _ _ _).trans rfl
set_option maxRecDepth 20000 in
theorem e_102_38 (I : Nat → Nat → Int32) (J : Nat → Nat → Int64) (τ : tm_Tu)  : R_102 38 [] [] (mk I J τ) = R_102 43 [] [.int 1] (mk I J τ) := (tm_F_fix _ _ _ _ _ _ _ _ _ _ _).trans rfl
set_option maxRecDepth 20000 in
theorem e_102_42 (I : Nat → Nat → Int32) (J : Nat → Nat → Int64) (τ : tm_Tu)  : R_102 42 [] [] (mk I J τ) = R_102 43 [] [.int 0] (mk I J τ) := (tm_F_fix _ _ _ _ _ _ _ _ _ _ _).trans rfl
set_option maxRecDepth 20000 in
theorem e_102_43 (I : Nat → Nat → Int32) (J : Nat → Nat → Int64) (τ : tm_Tu) (xs0 : Int32) : R_102 43 [] [.int xs0] (mk I J τ) = (if xs0 = 0 ∨ xs0 = 1 then some (some (.int xs0), (mk I J τ)) else none) := (tm_F_fix _ _ _ _ _ _ _ _ _ _ _).trans rfl
noncomputable def R_103 : tm_K := tm_F tm_sh none G_103 false cd_103 cu_103 30
set_option maxRecDepth 20000 in
theorem e_103 (I : Nat → Nat → Int32) (J : Nat → Nat → Int64) (τ : tm_Tu) (a0 : Nat) : F_103 [.ref a0] (mk I J τ) = R_103 2 [(0, .ref a0), (1, .int 0)] [] (mk I J τ) := rfl
set_option maxRecDepth 20000 in
theorem e_103_2 (I : Nat → Nat → Int32) (J : Nat → Nat → Int64) (τ : tm_Tu) (a0 : Nat) (x1 : Int32) : R_103 2 [(0, .ref a0), (1, .int x1)] [] (mk I J τ) = (if kdm a0 = 108 then (if (4 * (I a0 4)) ≤ x1 then some (some (.int (-1)), (mk I J τ)) else (if kdm a0 = 108 then (tm_bI (F_88 [.ref a0, .int x1, .int 0] (mk I J τ)) fun r M => R_103 18 [(0, .ref a0), (1, .int x1)] [.int r] M) else none)) else none) := (tm_F_fix _ _ _ _ _ _ _ _ _ _ _).trans rfl
set_option maxRecDepth 20000 in
theorem e_103_18 (I : Nat → Nat → Int32) (J : Nat → Nat → Int64) (τ : tm_Tu) (a0 : Nat) (x1 : Int32) (xs0 : Int32) : R_103 18 [(0, .ref a0), (1, .int x1)] [.int xs0] (mk I J τ) = (if xs0 = 0 then R_103 39 [(0, .ref a0), (1, .int x1)] [] (mk I J τ) else (if kdm a0 = 108 then (tm_bI (F_90 [.ref a0, .int (x1 / 4)] (mk I J τ)) fun r M => R_103 28 [(0, .ref a0), (1, .int x1)] [.int r] M) else none)) := (tm_F_fix _ _ _ _ _ _ _ _ _ _ _).trans rfl
set_option maxRecDepth 20000 in
theorem e_103_28 (I : Nat → Nat → Int32) (J : Nat → Nat → Int64) (τ : tm_Tu) (a0 : Nat) (x1 : Int32) (xs0 : Int32) : R_103 28 [(0, .ref a0), (1, .int x1)] [.int xs0] (mk I J τ) = (tm_bI (F_102 [.int xs0, .int (x1 - x1 / 4 * 4)] (mk I J τ)) fun r M => R_103 34 [(0, .ref a0), (1, .int x1)] [.int r] M) := (tm_F_fix _ _ _ _ _ _ _ _ _ _ _).trans rfl
set_option maxRecDepth 20000 in
theorem e_103_34 (I : Nat → Nat → Int32) (J : Nat → Nat → Int64) (τ : tm_Tu) (a0 : Nat) (x1 : Int32) (xs0 : Int32) : R_103 34 [(0, .ref a0), (1, .int x1)] [.int xs0] (mk I J τ) = (if xs0 = 0 then R_103 39 [(0, .ref a0), (1, .int x1)] [] (mk I J τ) else some (some (.int x1), (mk I J τ))) := (tm_F_fix _ _ _ _ _ _ _ _ _ _ _).trans rfl
set_option maxRecDepth 20000 in
theorem e_103_39 (I : Nat → Nat → Int32) (J : Nat → Nat → Int64) (τ : tm_Tu) (a0 : Nat) (x1 : Int32) : R_103 39 [(0, .ref a0), (1, .int x1)] [] (mk I J τ) = R_103 2 [(0, .ref a0), (1, .int (x1 + 1))] [] (mk I J τ) := (tm_F_fix _ _ _ _ _ _ _ _ _ _ _).trans rfl
noncomputable def R_104 : tm_K := tm_F tm_sh none G_104 false cd_104 cu_104 15
set_option maxRecDepth 20000 in
theorem e_104 (I : Nat → Nat → Int32) (J : Nat → Nat → Int64) (τ : tm_Tu) (x1 : Int32) : F_104 [.ref 2, .int x1] (mk I J τ) = (if kdm τ.1 = 100 then (tm_bI (F_84 [.ref τ.1, .int x1] (mk I J τ)) fun r M => R_104 8 [(0, .ref 2), (1, .int x1)] [.int r] M) else none) := rfl
set_option maxRecDepth 20000 in
theorem e_104_8 (I : Nat → Nat → Int32) (J : Nat → Nat → Int64) (τ : tm_Tu) (x1 : Int32) (xs0 : Int32) : R_104 8 [(0, .ref 2), (1, .int x1)] [.int xs0] (mk I J τ) = (if xs0 = 0 then R_104 28 [] [.int (-2)] (mk I J τ) else (if kdm τ.1 = 100 then (if kdm (tm_RT τ τ.1 0) = 5 ∨ kdm (tm_RT τ τ.1 0) = 6 then (if 0 ≤ x1 ∧ x1.toNatClampNeg < (tm_sh (tm_RT τ τ.1 0)).2 then (if kdm (tm_RT τ (tm_RT τ τ.1 0) x1.toNatClampNeg) = 108 then (tm_bI (F_103 [.ref (tm_RT τ (tm_RT τ τ.1 0) x1.toNatClampNeg)] (mk I J τ)) fun r M => R_104 23 [] [.int r] M) else none) else none) else none) else none)) := (tm_F_fix _ _ _ _ _ _ _ _ _ _ _).trans rfl
set_option maxRecDepth 20000 in
theorem e_104_23 (I : Nat → Nat → Int32) (J : Nat → Nat → Int64) (τ : tm_Tu) (xs0 : Int32) : R_104 23 [] [.int xs0] (mk I J τ) = R_104 28 [] [.int xs0] (mk I J τ) := (tm_F_fix _ _ _ _ _ _ _ _ _ _ _).trans rfl
set_option maxRecDepth 20000 in
theorem e_104_28 (I : Nat → Nat → Int32) (J : Nat → Nat → Int64) (τ : tm_Tu) (xs0 : Int32) : R_104 28 [] [.int xs0] (mk I J τ) = some (some (.int xs0), (mk I J τ)) := (tm_F_fix _ _ _ _ _ _ _ _ _ _ _).trans rfl
noncomputable def R_105 : tm_K := tm_F tm_sh none G_105 true cd_105 cu_105 23
set_option maxRecDepth 20000 in
theorem e_105 (I : Nat → Nat → Int32) (J : Nat → Nat → Int64) (τ : tm_Tu) (x0 : Int32) (x1 : Int32) : F_105 [.int x0, .int x1] (mk I J τ) = (if x1 = 0 then (if x0 = 0 then R_105 32 [] [] (mk I J τ) else (if x0 = 1 then R_105 32 [] [] (mk I J τ) else (if x0 = 3 then R_105 32 [] [] (mk I J τ) else R_105 18 [(0, .int x0), (1, .int x1)] [] (mk I J τ)))) else R_105 18 [(0, .int x0), (1, .int x1)] [] (mk I J τ)) := rfl
set_option maxRecDepth 20000 in
theorem e_105_18 (I : Nat → Nat → Int32) (J : Nat → Nat → Int64) (τ : tm_Tu) (x0 : Int32) (x1 : Int32) : R_105 18 [(0, .int x0), (1, .int x1)] [] (mk I J τ) = (if x1 = 2 then (if x0 = 0 then R_105 32 [] [] (mk I J τ) else (if x0 = 2 then R_105 32 [] [] (mk I J τ) else R_105 36 [] [] (mk I J τ))) else R_105 36 [] [] (mk I J τ)) := (tm_F_fix _ _ _ _ _ _ _ _ _ _ _).trans rfl
set_option maxRecDepth 20000 in
theorem e_105_32 (I : Nat → Nat → Int32) (J : Nat → Nat → Int64) (τ : tm_Tu)  : R_105 32 [] [] (mk I J τ) = R_105 37 [] [.int 1] (mk I J τ) := (tm_F_fix _ _ _ _ _ _ _ _ _ _ _).trans rfl
set_option maxRecDepth 20000 in
theorem e_105_36 (I : Nat → Nat → Int32) (J : Nat → Nat → Int64) (τ : tm_Tu)  : R_105 36 [] [] (mk I J τ) = R_105 37 [] [.int 0] (mk I J τ) := (tm_F_fix _ _ _ _ _ _ _ _ _ _ _).trans rfl
set_option maxRecDepth 20000 in
theorem e_105_37 (I : Nat → Nat → Int32) (J : Nat → Nat → Int64) (τ : tm_Tu) (xs0 : Int32) : R_105 37 [] [.int xs0] (mk I J τ) = (if xs0 = 0 ∨ xs0 = 1 then some (some (.int xs0), (mk I J τ)) else none) := (tm_F_fix _ _ _ _ _ _ _ _ _ _ _).trans rfl
noncomputable def R_106 : tm_K := tm_F tm_sh none G_106 false cd_106 cu_106 33
set_option maxRecDepth 20000 in
theorem e_106 (I : Nat → Nat → Int32) (J : Nat → Nat → Int64) (τ : tm_Tu) (x1 : Int32) : F_106 [.ref 131, .int x1] (mk I J τ) = R_106 2 [(0, .ref 131), (1, .int x1), (2, .int 0)] [] (mk I J τ) := rfl
set_option maxRecDepth 20000 in
theorem e_106_2 (I : Nat → Nat → Int32) (J : Nat → Nat → Int64) (τ : tm_Tu) (x1 : Int32) (x2 : Int32) : R_106 2 [(0, .ref 131), (1, .int x1), (2, .int x2)] [] (mk I J τ) = (tm_bI (F_94 [.ref 131, .int x1] (mk I J τ)) fun r M => R_106 9 [(0, .ref 131), (1, .int x1), (2, .int x2)] [.int r, .int 4, .int x2] M) := (tm_F_fix _ _ _ _ _ _ _ _ _ _ _).trans rfl
set_option maxRecDepth 20000 in
theorem e_106_9 (I : Nat → Nat → Int32) (J : Nat → Nat → Int64) (τ : tm_Tu) (x1 : Int32) (x2 : Int32) (xs0 : Int32) (xs1 : Int32) (xs2 : Int32) : R_106 9 [(0, .ref 131), (1, .int x1), (2, .int x2)] [.int xs0, .int xs1, .int xs2] (mk I J τ) = (if (xs1 * xs0) ≤ xs2 then some (some (.int (-1)), (mk I J τ)) else (tm_bI (F_98 [.ref 131, .int x1, .int 0, .int x2] (mk I J τ)) fun r M => R_106 20 [(0, .ref 131), (1, .int x1), (2, .int x2)] [.int r] M)) := (tm_F_fix _ _ _ _ _ _ _ _ _ _ _).trans rfl
set_option maxRecDepth 20000 in
theorem e_106_20 (I : Nat → Nat → Int32) (J : Nat → Nat → Int64) (τ : tm_Tu) (x1 : Int32) (x2 : Int32) (xs0 : Int32) : R_106 20 [(0, .ref 131), (1, .int x1), (2, .int x2)] [.int xs0] (mk I J τ) = (if xs0 = 0 then R_106 42 [(0, .ref 131), (1, .int x1), (2, .int x2)] [] (mk I J τ) else (tm_bI (F_100 [.ref 131, .int x1, .int (x2 / 4)] (mk I J τ)) fun r M => R_106 31 [(0, .ref 131), (1, .int x1), (2, .int x2)] [.int r] M)) := (tm_F_fix _ _ _ _ _ _ _ _ _ _ _).trans rfl
set_option maxRecDepth 20000 in
theorem e_106_31 (I : Nat → Nat → Int32) (J : Nat → Nat → Int64) (τ : tm_Tu) (x1 : Int32) (x2 : Int32) (xs0 : Int32) : R_106 31 [(0, .ref 131), (1, .int x1), (2, .int x2)] [.int xs0] (mk I J τ) = (tm_bI (F_105 [.int xs0, .int (x2 - x2 / 4 * 4)] (mk I J τ)) fun r M => R_106 37 [(0, .ref 131), (1, .int x1), (2, .int x2)] [.int r] M) := (tm_F_fix _ _ _ _ _ _ _ _ _ _ _).trans rfl
set_option maxRecDepth 20000 in
theorem e_106_37 (I : Nat → Nat → Int32) (J : Nat → Nat → Int64) (τ : tm_Tu) (x1 : Int32) (x2 : Int32) (xs0 : Int32) : R_106 37 [(0, .ref 131), (1, .int x1), (2, .int x2)] [.int xs0] (mk I J τ) = (if xs0 = 0 then R_106 42 [(0, .ref 131), (1, .int x1), (2, .int x2)] [] (mk I J τ) else some (some (.int x2), (mk I J τ))) := (tm_F_fix _ _ _ _ _ _ _ _ _ _ _).trans rfl
set_option maxRecDepth 20000 in
theorem e_106_42 (I : Nat → Nat → Int32) (J : Nat → Nat → Int64) (τ : tm_Tu) (x1 : Int32) (x2 : Int32) : R_106 42 [(0, .ref 131), (1, .int x1), (2, .int x2)] [] (mk I J τ) = R_106 2 [(0, .ref 131), (1, .int x1), (2, .int (x2 + 1))] [] (mk I J τ) := (tm_F_fix _ _ _ _ _ _ _ _ _ _ _).trans rfl
noncomputable def R_107 : tm_K := tm_F tm_sh none G_107 false cd_107 cu_107 11
set_option maxRecDepth 20000 in
theorem e_107 (I : Nat → Nat → Int32) (J : Nat → Nat → Int64) (τ : tm_Tu) (x1 : Int32) : F_107 [.ref 131, .int x1] (mk I J τ) = (tm_bI (F_93 [.ref 131, .int x1] (mk I J τ)) fun r M => R_107 5 [(0, .ref 131), (1, .int x1)] [.int r] M) := rfl
set_option maxRecDepth 20000 in
theorem e_107_5 (I : Nat → Nat → Int32) (J : Nat → Nat → Int64) (τ : tm_Tu) (x1 : Int32) (xs0 : Int32) : R_107 5 [(0, .ref 131), (1, .int x1)] [.int xs0] (mk I J τ) = (if xs0 = 0 then R_107 18 [] [.int (-2)] (mk I J τ) else (tm_bI (F_106 [.ref 131, .int x1] (mk I J τ)) fun r M => R_107 13 [] [.int r] M)) := (tm_F_fix _ _ _ _ _ _ _ _ _ _ _).trans rfl
set_option maxRecDepth 20000 in
theorem e_107_13 (I : Nat → Nat → Int32) (J : Nat → Nat → Int64) (τ : tm_Tu) (xs0 : Int32) : R_107 13 [] [.int xs0] (mk I J τ) = R_107 18 [] [.int xs0] (mk I J τ) := (tm_F_fix _ _ _ _ _ _ _ _ _ _ _).trans rfl
set_option maxRecDepth 20000 in
theorem e_107_18 (I : Nat → Nat → Int32) (J : Nat → Nat → Int64) (τ : tm_Tu) (xs0 : Int32) : R_107 18 [] [.int xs0] (mk I J τ) = some (some (.int xs0), (mk I J τ)) := (tm_F_fix _ _ _ _ _ _ _ _ _ _ _).trans rfl
noncomputable def R_108 : tm_K := tm_F tm_sh none G_108 true cd_108 cu_108 21
set_option maxRecDepth 20000 in
theorem e_108 (I : Nat → Nat → Int32) (J : Nat → Nat → Int64) (τ : tm_Tu) (x1 : Int32) (x2 : Int32) : F_108 [.ref 2, .int x1, .int x2] (mk I J τ) = (if x1 < 0 then R_108 20 [] [] (mk I J τ) else (if 20 < x1 then R_108 20 [] [] (mk I J τ) else (if x2 < 0 then R_108 20 [] [] (mk I J τ) else (if x2 ≤ 99 then some (some (.int 1), (mk (tm_u (tm_u I 2 12 x1) 2 13 x2) J τ)) else R_108 20 [] [] (mk I J τ))))) := rfl
set_option maxRecDepth 20000 in
theorem e_108_20 (I : Nat → Nat → Int32) (J : Nat → Nat → Int64) (τ : tm_Tu)  : R_108 20 [] [] (mk I J τ) = some (some (.int 0), (mk I J τ)) := (tm_F_fix _ _ _ _ _ _ _ _ _ _ _).trans rfl
noncomputable def R_109 : tm_K := tm_F tm_sh none G_109 true cd_109 cu_109 21
set_option maxRecDepth 20000 in
theorem e_109 (I : Nat → Nat → Int32) (J : Nat → Nat → Int64) (τ : tm_Tu) (x1 : Int32) (x2 : Int32) : F_109 [.ref 131, .int x1, .int x2] (mk I J τ) = (if x1 < 0 then R_109 20 [] [] (mk I J τ) else (if 20 < x1 then R_109 20 [] [] (mk I J τ) else (if x2 < 0 then R_109 20 [] [] (mk I J τ) else (if x2 ≤ 99 then some (some (.int 1), (mk (tm_u (tm_u I 131 34 x1) 131 35 x2) J τ)) else R_109 20 [] [] (mk I J τ))))) := rfl
set_option maxRecDepth 20000 in
theorem e_109_20 (I : Nat → Nat → Int32) (J : Nat → Nat → Int64) (τ : tm_Tu)  : R_109 20 [] [] (mk I J τ) = some (some (.int 0), (mk I J τ)) := (tm_F_fix _ _ _ _ _ _ _ _ _ _ _).trans rfl
noncomputable def R_110 : tm_K := tm_F tm_sh none G_110 false cd_110 cu_110 11
set_option maxRecDepth 20000 in
theorem e_110 (I : Nat → Nat → Int32) (J : Nat → Nat → Int64) (τ : tm_Tu) (a0 : Nat) : F_110 [.ref a0] (mk I J τ) = (if kdm a0 = 103 then (if kdm a0 = 103 then (if kdm a0 = 103 then some (none, (mk (tm_u (tm_u (tm_u I a0 3 (-1)) a0 4 0) a0 5 0) J τ)) else none) else none) else none) := rfl
noncomputable def R_111 : tm_K := tm_F tm_sh none G_111 false cd_111 cu_111 16
set_option maxRecDepth 20000 in
theorem e_111 (I : Nat → Nat → Int32) (J : Nat → Nat → Int64) (τ : tm_Tu) (a0 : Nat) (x1 : Int32) : F_111 [.ref a0, .int x1] (mk I J τ) = (if kdm a0 = 103 then (if kdm a0 = 103 then (if kdm a0 = 103 then (if kdm a0 = 103 then (if kdm a0 = 103 then (tm_bV (F_110 [.ref a0] (mk (tm_u (tm_u (tm_u (tm_u I a0 0 x1) a0 1 0) a0 2 0) a0 6 0) J τ)) fun M => R_111 24 [] [] M) else none) else none) else none) else none) else none) := rfl
set_option maxRecDepth 20000 in
theorem e_111_24 (I : Nat → Nat → Int32) (J : Nat → Nat → Int64) (τ : tm_Tu)  : R_111 24 [] [] (mk I J τ) = some (none, (mk I J τ)) := (tm_F_fix _ _ _ _ _ _ _ _ _ _ _).trans rfl
noncomputable def R_112 : tm_K := tm_F tm_sh none G_112 false cd_112 cu_112 42
set_option maxRecDepth 20000 in
theorem e_112 (I : Nat → Nat → Int32) (J : Nat → Nat → Int64) (τ : tm_Tu)  : F_112 [.ref 7] (mk I J τ) = R_112 2 [(0, .ref 7), (1, .int 0)] [] (mk I J τ) := rfl
set_option maxRecDepth 20000 in
theorem e_112_2 (I : Nat → Nat → Int32) (J : Nat → Nat → Int64) (τ : tm_Tu) (x1 : Int32) : R_112 2 [(0, .ref 7), (1, .int x1)] [] (mk I J τ) = (if 6 ≤ x1 then R_112 37 [(0, .ref 7), (1, .int 0)] [] (mk I J τ) else (if 0 ≤ x1 ∧ x1.toNatClampNeg < 6 then (if 2 ≤ x1 then R_112 26 [(0, .ref 7), (1, .int x1)] [.int 0, .ref (tm_RT τ 14 x1.toNatClampNeg)] (mk I J τ) else R_112 26 [(0, .ref 7), (1, .int x1)] [.int (2 + x1), .ref (tm_RT τ 14 x1.toNatClampNeg)] (mk I J τ)) else none)) := (tm_F_fix _ _ _ _ _ _ _ _ _ _ _).trans rfl
set_option maxRecDepth 20000 in
theorem e_112_26 (I : Nat → Nat → Int32) (J : Nat → Nat → Int64) (τ : tm_Tu) (x1 : Int32) (xs0 : Int32) (as1 : Nat) : R_112 26 [(0, .ref 7), (1, .int x1)] [.int xs0, .ref as1] (mk I J τ) = (if kdm as1 = 103 then (tm_bV (F_111 [.ref as1, .int xs0] (mk I J τ)) fun M => R_112 29 [(0, .ref 7), (1, .int x1)] [] M) else none) := (tm_F_fix _ _ _ _ _ _ _ _ _ _ _).trans rfl
set_option maxRecDepth 20000 in
theorem e_112_29 (I : Nat → Nat → Int32) (J : Nat → Nat → Int64) (τ : tm_Tu) (x1 : Int32) : R_112 29 [(0, .ref 7), (1, .int x1)] [] (mk I J τ) = R_112 2 [(0, .ref 7), (1, .int (x1 + 1))] [] (mk I J τ) := (tm_F_fix _ _ _ _ _ _ _ _ _ _ _).trans rfl
set_option maxRecDepth 20000 in
theorem e_112_37 (I : Nat → Nat → Int32) (J : Nat → Nat → Int64) (τ : tm_Tu) (x1 : Int32) : R_112 37 [(0, .ref 7), (1, .int x1)] [] (mk I J τ) = (if 2 ≤ x1 then some (none, (mk (tm_u I 7 5 0) J τ)) else (if 0 ≤ x1 ∧ x1.toNatClampNeg < 2 then (if 0 ≤ x1 ∧ x1.toNatClampNeg < 2 then R_112 37 [(0, .ref 7), (1, .int (x1 + 1))] [] (mk (tm_u (tm_u I 15 x1.toNatClampNeg x1) 16 x1.toNatClampNeg (-1)) J τ) else none) else none)) := (tm_F_fix _ _ _ _ _ _ _ _ _ _ _).trans rfl
noncomputable def R_113 : tm_K := tm_F tm_sh none G_113 false cd_113 cu_113 26
set_option maxRecDepth 20000 in
theorem e_113 (I : Nat → Nat → Int32) (J : Nat → Nat → Int64) (τ : tm_Tu) (x1 : Int32) : F_113 [.ref 8, .int x1] (mk I J τ) = (tm_bV (F_33 [.ref 13, .int 0] (mk (tm_u (tm_u (tm_u (tm_u (tm_u (tm_u I 8 5 1) 8 6 (if 200 < x1 then 200 else x1)) 8 7 0) 8 8 0) 8 9 0) 8 10 0) J τ)) fun M => R_113 44 [] [] M) := rfl
set_option maxRecDepth 20000 in
theorem e_113_44 (I : Nat → Nat → Int32) (J : Nat → Nat → Int64) (τ : tm_Tu)  : R_113 44 [] [] (mk I J τ) = some (none, (mk I J τ)) := (tm_F_fix _ _ _ _ _ _ _ _ _ _ _).trans rfl
noncomputable def R_114 : tm_K := tm_F tm_sh none G_114 true cd_114 cu_114 10
set_option maxRecDepth 20000 in
theorem e_114 (I : Nat → Nat → Int32) (J : Nat → Nat → Int64) (τ : tm_Tu) (x0 : Int32) : F_114 [.int x0] (mk I J τ) = (if x0 < 0 then R_114 14 [] [] (mk I J τ) else (if 6 ≤ x0 then R_114 14 [] [] (mk I J τ) else R_114 15 [] [.int 1] (mk I J τ))) := rfl
set_option maxRecDepth 20000 in
theorem e_114_14 (I : Nat → Nat → Int32) (J : Nat → Nat → Int64) (τ : tm_Tu)  : R_114 14 [] [] (mk I J τ) = R_114 15 [] [.int 0] (mk I J τ) := (tm_F_fix _ _ _ _ _ _ _ _ _ _ _).trans rfl
set_option maxRecDepth 20000 in
theorem e_114_15 (I : Nat → Nat → Int32) (J : Nat → Nat → Int64) (τ : tm_Tu) (xs0 : Int32) : R_114 15 [] [.int xs0] (mk I J τ) = (if xs0 = 0 ∨ xs0 = 1 then some (some (.int xs0), (mk I J τ)) else none) := (tm_F_fix _ _ _ _ _ _ _ _ _ _ _).trans rfl
noncomputable def R_115 : tm_K := tm_F tm_sh none G_115 false cd_115 cu_115 20
set_option maxRecDepth 20000 in
theorem e_115 (I : Nat → Nat → Int32) (J : Nat → Nat → Int64) (τ : tm_Tu)  : F_115 [.ref 7] (mk I J τ) = R_115 4 [(0, .ref 7), (1, .int 0), (2, .int 0)] [] (mk I J τ) := rfl
set_option maxRecDepth 20000 in
theorem e_115_4 (I : Nat → Nat → Int32) (J : Nat → Nat → Int64) (τ : tm_Tu) (x1 : Int32) (x2 : Int32) : R_115 4 [(0, .ref 7), (1, .int x1), (2, .int x2)] [] (mk I J τ) = (if 6 ≤ x2 then some (some (.int x1), (mk I J τ)) else (if 0 ≤ x2 ∧ x2.toNatClampNeg < 6 then (if kdm (tm_RT τ 14 x2.toNatClampNeg) = 103 then (if (I (tm_RT τ 14 x2.toNatClampNeg) 0) = 1 then R_115 26 [(0, .ref 7), (1, .int (x1 + 1)), (2, .int x2)] [] (mk I J τ) else R_115 26 [(0, .ref 7), (1, .int x1), (2, .int x2)] [] (mk I J τ)) else none) else none)) := (tm_F_fix _ _ _ _ _ _ _ _ _ _ _).trans rfl
set_option maxRecDepth 20000 in
theorem e_115_26 (I : Nat → Nat → Int32) (J : Nat → Nat → Int64) (τ : tm_Tu) (x1 : Int32) (x2 : Int32) : R_115 26 [(0, .ref 7), (1, .int x1), (2, .int x2)] [] (mk I J τ) = R_115 4 [(0, .ref 7), (1, .int x1), (2, .int (x2 + 1))] [] (mk I J τ) := (tm_F_fix _ _ _ _ _ _ _ _ _ _ _).trans rfl
noncomputable def R_116 : tm_K := tm_F tm_sh none G_116 true cd_116 cu_116 13
set_option maxRecDepth 20000 in
theorem e_116 (I : Nat → Nat → Int32) (J : Nat → Nat → Int64) (τ : tm_Tu) (a0 : Nat) : F_116 [.ref a0] (mk I J τ) = (if kdm a0 = 103 then (if (I a0 0) = 1 then (if kdm a0 = 103 then (if (I a0 3) = (-1) then R_116 20 [] [] (mk I J τ) else R_116 21 [] [.int 1] (mk I J τ)) else none) else R_116 20 [] [] (mk I J τ)) else none) := rfl
set_option maxRecDepth 20000 in
theorem e_116_20 (I : Nat → Nat → Int32) (J : Nat → Nat → Int64) (τ : tm_Tu)  : R_116 20 [] [] (mk I J τ) = R_116 21 [] [.int 0] (mk I J τ) := (tm_F_fix _ _ _ _ _ _ _ _ _ _ _).trans rfl
set_option maxRecDepth 20000 in
theorem e_116_21 (I : Nat → Nat → Int32) (J : Nat → Nat → Int64) (τ : tm_Tu) (xs0 : Int32) : R_116 21 [] [.int xs0] (mk I J τ) = (if xs0 = 0 ∨ xs0 = 1 then some (some (.int xs0), (mk I J τ)) else none) := (tm_F_fix _ _ _ _ _ _ _ _ _ _ _).trans rfl
noncomputable def R_117 : tm_K := tm_F tm_sh none G_117 true cd_117 cu_117 32
set_option maxRecDepth 20000 in
theorem e_117 (I : Nat → Nat → Int32) (J : Nat → Nat → Int64) (τ : tm_Tu) (a1 : Nat) : F_117 [.ref 7, .ref a1] (mk I J τ) = R_117 2 [(0, .ref 7), (1, .ref a1), (2, .int 0)] [] (mk I J τ) := rfl
set_option maxRecDepth 20000 in
theorem e_117_2 (I : Nat → Nat → Int32) (J : Nat → Nat → Int64) (τ : tm_Tu) (a1 : Nat) (x2 : Int32) : R_117 2 [(0, .ref 7), (1, .ref a1), (2, .int x2)] [] (mk I J τ) = (if 6 ≤ x2 then some (some (.int 0), (mk I J τ)) else (if 0 ≤ x2 ∧ x2.toNatClampNeg < 6 then (if kdm (tm_RT τ 14 x2.toNatClampNeg) = 103 then (tm_bI (F_116 [.ref (tm_RT τ 14 x2.toNatClampNeg)] (mk I J τ)) fun r M => R_117 19 [(0, .ref 7), (1, .ref a1), (2, .int x2), (3, .ref (tm_RT τ 14 x2.toNatClampNeg))] [.int r] M) else none) else none)) := (tm_F_fix _ _ _ _ _ _ _ _ _ _ _).trans rfl
set_option maxRecDepth 20000 in
theorem e_117_19 (I : Nat → Nat → Int32) (J : Nat → Nat → Int64) (τ : tm_Tu) (a1 : Nat) (x2 : Int32) (a3 : Nat) (xs0 : Int32) : R_117 19 [(0, .ref 7), (1, .ref a1), (2, .int x2), (3, .ref a3)] [.int xs0] (mk I J τ) = (if xs0 = 0 then R_117 50 [(0, .ref 7), (1, .ref a1), (2, .int x2)] [] (mk I J τ) else (if kdm a3 = 103 then (if kdm a1 = 100 then (tm_bI (F_84 [.ref a1, .int (I a3 3)] (mk I J τ)) fun r M => R_117 30 [(0, .ref 7), (1, .ref a1), (2, .int x2), (3, .ref a3)] [.int r] M) else none) else none)) := (tm_F_fix _ _ _ _ _ _ _ _ _ _ _).trans rfl
set_option maxRecDepth 20000 in
theorem e_117_30 (I : Nat → Nat → Int32) (J : Nat → Nat → Int64) (τ : tm_Tu) (a1 : Nat) (x2 : Int32) (a3 : Nat) (xs0 : Int32) : R_117 30 [(0, .ref 7), (1, .ref a1), (2, .int x2), (3, .ref a3)] [.int xs0] (mk I J τ) = (if xs0 = 0 then R_117 50 [(0, .ref 7), (1, .ref a1), (2, .int x2)] [] (mk I J τ) else (if kdm a1 = 100 then (if kdm a3 = 103 then (if kdm (tm_RT τ a1 0) = 5 ∨ kdm (tm_RT τ a1 0) = 6 then (if 0 ≤ (I a3 3) ∧ ((I a3 3)).toNatClampNeg < (tm_sh (tm_RT τ a1 0)).2 then (if kdm (tm_RT τ (tm_RT τ a1 0) ((I a3 3)).toNatClampNeg) = 108 then (if (I (tm_RT τ (tm_RT τ a1 0) ((I a3 3)).toNatClampNeg) 8) = 0 then R_117 50 [(0, .ref 7), (1, .ref a1), (2, .int x2)] [] (mk I J τ) else some (some (.int 1), (mk I J τ))) else none) else none) else none) else none) else none)) := (tm_F_fix _ _ _ _ _ _ _ _ _ _ _).trans rfl
set_option maxRecDepth 20000 in
theorem e_117_50 (I : Nat → Nat → Int32) (J : Nat → Nat → Int64) (τ : tm_Tu) (a1 : Nat) (x2 : Int32) : R_117 50 [(0, .ref 7), (1, .ref a1), (2, .int x2)] [] (mk I J τ) = R_117 2 [(0, .ref 7), (1, .ref a1), (2, .int (x2 + 1))] [] (mk I J τ) := (tm_F_fix _ _ _ _ _ _ _ _ _ _ _).trans rfl
noncomputable def R_118 : tm_K := tm_F tm_sh none G_118 false cd_118 cu_118 44
set_option maxRecDepth 20000 in
theorem e_118 (I : Nat → Nat → Int32) (J : Nat → Nat → Int64) (τ : tm_Tu) (a1 : Nat) (a2 : Nat) (x3 : Int32) : F_118 [.ref 7, .ref a1, .ref a2, .int x3] (mk I J τ) = (if kdm a2 = 103 then (if (I a2 0) = 0 then (tm_bI (F_115 [.ref 7] (mk I J τ)) fun r M => R_118 13 [(0, .ref 7), (1, .ref a1), (2, .ref a2), (3, .int x3)] [.int r] M) else some (some (.int 1), (mk I J τ))) else none) := rfl
set_option maxRecDepth 20000 in
theorem e_118_13 (I : Nat → Nat → Int32) (J : Nat → Nat → Int64) (τ : tm_Tu) (a1 : Nat) (a2 : Nat) (x3 : Int32) (xs0 : Int32) : R_118 13 [(0, .ref 7), (1, .ref a1), (2, .ref a2), (3, .int x3)] [.int xs0] (mk I J τ) = (if xs0 < 3 then (if (I 7 5) = 1 then R_118 43 [] [] (mk I J τ) else (if x3 = 0 then R_118 40 [(0, .ref 7), (1, .ref a1), (2, .ref a2), (3, .int x3)] [.int 2, .int (I 7 5)] (mk I J τ) else R_118 40 [(0, .ref 7), (1, .ref a1), (2, .ref a2), (3, .int x3)] [.int 3, .int (I 7 5)] (mk I J τ))) else some (some (.int 2), (mk I J τ))) := (tm_F_fix _ _ _ _ _ _ _ _ _ _ _).trans rfl
set_option maxRecDepth 20000 in
theorem e_118_40 (I : Nat → Nat → Int32) (J : Nat → Nat → Int64) (τ : tm_Tu) (a1 : Nat) (a2 : Nat) (x3 : Int32) (xs0 : Int32) (xs1 : Int32) : R_118 40 [(0, .ref 7), (1, .ref a1), (2, .ref a2), (3, .int x3)] [.int xs0, .int xs1] (mk I J τ) = (if xs1 = xs0 then R_118 43 [] [] (mk I J τ) else (tm_bI (F_117 [.ref 7, .ref a1] (mk I J τ)) fun r M => R_118 50 [(2, .ref a2), (3, .int x3)] [.int r] M)) := (tm_F_fix _ _ _ _ _ _ _ _ _ _ _).trans rfl
set_option maxRecDepth 20000 in
theorem e_118_43 (I : Nat → Nat → Int32) (J : Nat → Nat → Int64) (τ : tm_Tu)  : R_118 43 [] [] (mk I J τ) = some (some (.int 3), (mk I J τ)) := (tm_F_fix _ _ _ _ _ _ _ _ _ _ _).trans rfl
set_option maxRecDepth 20000 in
theorem e_118_50 (I : Nat → Nat → Int32) (J : Nat → Nat → Int64) (τ : tm_Tu) (a2 : Nat) (x3 : Int32) (xs0 : Int32) : R_118 50 [(2, .ref a2), (3, .int x3)] [.int xs0] (mk I J τ) = (if xs0 = 0 then (if kdm a2 = 103 then (tm_bV (F_111 [.ref a2, .int 1] (mk I J τ)) fun M => R_118 61 [(2, .ref a2), (3, .int x3)] [] M) else none) else some (some (.int 6), (mk I J τ))) := (tm_F_fix _ _ _ _ _ _ _ _ _ _ _).trans rfl
set_option maxRecDepth 20000 in
theorem e_118_61 (I : Nat → Nat → Int32) (J : Nat → Nat → Int64) (τ : tm_Tu) (a2 : Nat) (x3 : Int32) : R_118 61 [(2, .ref a2), (3, .int x3)] [] (mk I J τ) = (if x3 = 0 then R_118 71 [] [.int 1, .ref a2] (mk I J τ) else R_118 71 [] [.int 2, .ref a2] (mk I J τ)) := (tm_F_fix _ _ _ _ _ _ _ _ _ _ _).trans rfl
set_option maxRecDepth 20000 in
theorem e_118_71 (I : Nat → Nat → Int32) (J : Nat → Nat → Int64) (τ : tm_Tu) (xs0 : Int32) (as1 : Nat) : R_118 71 [] [.int xs0, .ref as1] (mk I J τ) = (if kdm as1 = 103 then some (some (.int 0), (mk (tm_u I as1 1 xs0) J τ)) else none) := (tm_F_fix _ _ _ _ _ _ _ _ _ _ _).trans rfl
noncomputable def R_119 : tm_K := tm_F tm_sh none G_119 true cd_119 cu_119 13
set_option maxRecDepth 20000 in
theorem e_119 (I : Nat → Nat → Int32) (J : Nat → Nat → Int64) (τ : tm_Tu) (a0 : Nat) : F_119 [.ref a0] (mk I J τ) = (if kdm a0 = 103 then (if (I a0 0) = 1 then (if kdm a0 = 103 then (if (I a0 3) = (-1) then R_119 21 [] [.int 1] (mk I J τ) else R_119 20 [] [] (mk I J τ)) else none) else R_119 20 [] [] (mk I J τ)) else none) := rfl
set_option maxRecDepth 20000 in
theorem e_119_20 (I : Nat → Nat → Int32) (J : Nat → Nat → Int64) (τ : tm_Tu)  : R_119 20 [] [] (mk I J τ) = R_119 21 [] [.int 0] (mk I J τ) := (tm_F_fix _ _ _ _ _ _ _ _ _ _ _).trans rfl
set_option maxRecDepth 20000 in
theorem e_119_21 (I : Nat → Nat → Int32) (J : Nat → Nat → Int64) (τ : tm_Tu) (xs0 : Int32) : R_119 21 [] [.int xs0] (mk I J τ) = (if xs0 = 0 ∨ xs0 = 1 then some (some (.int xs0), (mk I J τ)) else none) := (tm_F_fix _ _ _ _ _ _ _ _ _ _ _).trans rfl
noncomputable def R_120 : tm_K := tm_F tm_sh none G_120 false cd_120 cu_120 21
set_option maxRecDepth 20000 in
theorem e_120 (I : Nat → Nat → Int32) (J : Nat → Nat → Int64) (τ : tm_Tu) (a1 : Nat) (x2 : Int32) : F_120 [.ref 7, .ref a1, .int x2] (mk I J τ) = (if kdm a1 = 103 then (tm_bI (F_119 [.ref a1] (mk I J τ)) fun r M => R_120 4 [(1, .ref a1), (2, .int x2)] [.int r] M) else none) := rfl
set_option maxRecDepth 20000 in
theorem e_120_4 (I : Nat → Nat → Int32) (J : Nat → Nat → Int64) (τ : tm_Tu) (a1 : Nat) (x2 : Int32) (xs0 : Int32) : R_120 4 [(1, .ref a1), (2, .int x2)] [.int xs0] (mk I J τ) = (if xs0 = 0 then some (some (.int 1), (mk I J τ)) else (if kdm a1 = 103 then (if x2 = 0 then R_120 22 [(1, .ref a1)] [.int 2, .int (I a1 1)] (mk I J τ) else R_120 22 [(1, .ref a1)] [.int 1, .int (I a1 1)] (mk I J τ)) else none)) := (tm_F_fix _ _ _ _ _ _ _ _ _ _ _).trans rfl
set_option maxRecDepth 20000 in
theorem e_120_22 (I : Nat → Nat → Int32) (J : Nat → Nat → Int64) (τ : tm_Tu) (a1 : Nat) (xs0 : Int32) (xs1 : Int32) : R_120 22 [(1, .ref a1)] [.int xs0, .int xs1] (mk I J τ) = (if xs1 = xs0 then some (some (.int 4), (mk I J τ)) else (if kdm a1 = 103 then (tm_bV (F_111 [.ref a1, .int 0] (mk I J τ)) fun M => R_120 32 [] [] M) else none)) := (tm_F_fix _ _ _ _ _ _ _ _ _ _ _).trans rfl
set_option maxRecDepth 20000 in
theorem e_120_32 (I : Nat → Nat → Int32) (J : Nat → Nat → Int64) (τ : tm_Tu)  : R_120 32 [] [] (mk I J τ) = some (some (.int 0), (mk I J τ)) := (tm_F_fix _ _ _ _ _ _ _ _ _ _ _).trans rfl
noncomputable def R_121 : tm_K := tm_F tm_sh none G_121 true cd_121 cu_121 22
set_option maxRecDepth 20000 in
theorem e_121 (I : Nat → Nat → Int32) (J : Nat → Nat → Int64) (τ : tm_Tu) (a0 : Nat) (x1 : Int32) (x2 : Int32) (x3 : Int32) : F_121 [.ref a0, .int x1, .int x2, .int x3] (mk I J τ) = (if kdm a0 = 108 then (tm_bI (F_87 [.ref a0, .int x3] (mk I J τ)) fun r M => R_121 5 [(0, .ref a0), (1, .int x1), (2, .int x2)] [.int r] M) else none) := rfl
set_option maxRecDepth 20000 in
theorem e_121_5 (I : Nat → Nat → Int32) (J : Nat → Nat → Int64) (τ : tm_Tu) (a0 : Nat) (x1 : Int32) (x2 : Int32) (xs0 : Int32) : R_121 5 [(0, .ref a0), (1, .int x1), (2, .int x2)] [.int xs0] (mk I J τ) = (if xs0 = 0 then R_121 18 [(0, .ref a0), (2, .int x2)] [] (mk I J τ) else (if xs0 = x1 then R_121 18 [(0, .ref a0), (2, .int x2)] [] (mk I J τ) else R_121 38 [] [] (mk I J τ))) := (tm_F_fix _ _ _ _ _ _ _ _ _ _ _).trans rfl
set_option maxRecDepth 20000 in
theorem e_121_18 (I : Nat → Nat → Int32) (J : Nat → Nat → Int64) (τ : tm_Tu) (a0 : Nat) (x2 : Int32) : R_121 18 [(0, .ref a0), (2, .int x2)] [] (mk I J τ) = (if kdm a0 = 108 then (if (I a0 7) = (-1) then R_121 34 [] [] (mk I J τ) else (if kdm a0 = 108 then (if (I a0 7) = x2 then R_121 34 [] [] (mk I J τ) else R_121 38 [] [] (mk I J τ)) else none)) else none) := (tm_F_fix _ _ _ _ _ _ _ _ _ _ _).trans rfl
set_option maxRecDepth 20000 in
theorem e_121_34 (I : Nat → Nat → Int32) (J : Nat → Nat → Int64) (τ : tm_Tu)  : R_121 34 [] [] (mk I J τ) = R_121 39 [] [.int 1] (mk I J τ) := (tm_F_fix _ _ _ _ _ _ _ _ _ _ _).trans rfl
set_option maxRecDepth 20000 in
theorem e_121_38 (I : Nat → Nat → Int32) (J : Nat → Nat → Int64) (τ : tm_Tu)  : R_121 38 [] [] (mk I J τ) = R_121 39 [] [.int 0] (mk I J τ) := (tm_F_fix _ _ _ _ _ _ _ _ _ _ _).trans rfl
set_option maxRecDepth 20000 in
theorem e_121_39 (I : Nat → Nat → Int32) (J : Nat → Nat → Int64) (τ : tm_Tu) (xs0 : Int32) : R_121 39 [] [.int xs0] (mk I J τ) = (if xs0 = 0 ∨ xs0 = 1 then some (some (.int xs0), (mk I J τ)) else none) := (tm_F_fix _ _ _ _ _ _ _ _ _ _ _).trans rfl
noncomputable def R_122 : tm_K := tm_F tm_sh none G_122 false cd_122 cu_122 11
set_option maxRecDepth 20000 in
theorem e_122 (I : Nat → Nat → Int32) (J : Nat → Nat → Int64) (τ : tm_Tu) (a0 : Nat) (x1 : Int32) (x2 : Int32) (x3 : Int32) : F_122 [.ref a0, .int x1, .int x2, .int x3] (mk I J τ) = (if kdm a0 = 103 then (if kdm a0 = 103 then (if x2 = 0 ∨ x2 = 1 then (if kdm a0 = 103 then some (none, (mk (tm_u (tm_u (tm_u I a0 3 x1) a0 4 x2) a0 5 x3) J τ)) else none) else none) else none) else none) := rfl
noncomputable def R_123 : tm_K := tm_F tm_sh none G_123 false cd_123 cu_123 41
set_option maxRecDepth 20000 in
theorem e_123 (I : Nat → Nat → Int32) (J : Nat → Nat → Int64) (τ : tm_Tu) (a1 : Nat) (a2 : Nat) (x3 : Int32) (x4 : Int32) (x5 : Int32) : F_123 [.ref 7, .ref a1, .ref a2, .int x3, .int x4, .int x5] (mk I J τ) = (if kdm a2 = 103 then (tm_bI (F_119 [.ref a2] (mk I J τ)) fun r M => R_123 4 [(0, .ref 7), (1, .ref a1), (2, .ref a2), (3, .int x3), (4, .int x4), (5, .int x5)] [.int r] M) else none) := rfl
set_option maxRecDepth 20000 in
theorem e_123_4 (I : Nat → Nat → Int32) (J : Nat → Nat → Int64) (τ : tm_Tu) (a1 : Nat) (a2 : Nat) (x3 : Int32) (x4 : Int32) (x5 : Int32) (xs0 : Int32) : R_123 4 [(0, .ref 7), (1, .ref a1), (2, .ref a2), (3, .int x3), (4, .int x4), (5, .int x5)] [.int xs0] (mk I J τ) = (if xs0 = 0 then R_123 15 [] [] (mk I J τ) else (if kdm a1 = 100 then (tm_bI (F_84 [.ref a1, .int x3] (mk I J τ)) fun r M => R_123 12 [(0, .ref 7), (1, .ref a1), (2, .ref a2), (3, .int x3), (4, .int x4), (5, .int x5)] [.int r] M) else none)) := (tm_F_fix _ _ _ _ _ _ _ _ _ _ _).trans rfl
set_option maxRecDepth 20000 in
theorem e_123_12 (I : Nat → Nat → Int32) (J : Nat → Nat → Int64) (τ : tm_Tu) (a1 : Nat) (a2 : Nat) (x3 : Int32) (x4 : Int32) (x5 : Int32) (xs0 : Int32) : R_123 12 [(0, .ref 7), (1, .ref a1), (2, .ref a2), (3, .int x3), (4, .int x4), (5, .int x5)] [.int xs0] (mk I J τ) = (if xs0 = 0 then R_123 15 [] [] (mk I J τ) else (if kdm a1 = 100 then (if kdm (tm_RT τ a1 0) = 5 ∨ kdm (tm_RT τ a1 0) = 6 then (if 0 ≤ x3 ∧ x3.toNatClampNeg < (tm_sh (tm_RT τ a1 0)).2 then (if kdm a2 = 103 then (if kdm a2 = 103 then (if kdm (tm_RT τ (tm_RT τ a1 0) x3.toNatClampNeg) = 108 then (tm_bI (F_121 [.ref (tm_RT τ (tm_RT τ a1 0) x3.toNatClampNeg), .int (I a2 1), .int (I a2 2), .int x4] (mk I J τ)) fun r M => R_123 40 [(0, .ref 7), (2, .ref a2), (3, .int x3), (4, .int x4), (5, .int x5), (6, .ref (tm_RT τ (tm_RT τ a1 0) x3.toNatClampNeg))] [.int r] M) else none) else none) else none) else none) else none) else none)) := (tm_F_fix _ _ _ _ _ _ _ _ _ _ _).trans rfl
set_option maxRecDepth 20000 in
theorem e_123_15 (I : Nat → Nat → Int32) (J : Nat → Nat → Int64) (τ : tm_Tu)  : R_123 15 [] [] (mk I J τ) = some (some (.int 1), (mk I J τ)) := (tm_F_fix _ _ _ _ _ _ _ _ _ _ _).trans rfl
set_option maxRecDepth 20000 in
theorem e_123_40 (I : Nat → Nat → Int32) (J : Nat → Nat → Int64) (τ : tm_Tu) (a2 : Nat) (x3 : Int32) (x4 : Int32) (x5 : Int32) (a6 : Nat) (xs0 : Int32) : R_123 40 [(0, .ref 7), (2, .ref a2), (3, .int x3), (4, .int x4), (5, .int x5), (6, .ref a6)] [.int xs0] (mk I J τ) = (if xs0 = 0 then some (some (.int 5), (mk I J τ)) else (if kdm a6 = 108 then (if (I a6 8) = 0 then R_123 64 [(2, .ref a2), (3, .int x3), (4, .int x4), (5, .int x5)] [] (mk I J τ) else (tm_bI (F_115 [.ref 7] (mk I J τ)) fun r M => R_123 57 [(2, .ref a2), (3, .int x3), (4, .int x4), (5, .int x5)] [.int r] M)) else none)) := (tm_F_fix _ _ _ _ _ _ _ _ _ _ _).trans rfl
set_option maxRecDepth 20000 in
theorem e_123_57 (I : Nat → Nat → Int32) (J : Nat → Nat → Int64) (τ : tm_Tu) (a2 : Nat) (x3 : Int32) (x4 : Int32) (x5 : Int32) (xs0 : Int32) : R_123 57 [(2, .ref a2), (3, .int x3), (4, .int x4), (5, .int x5)] [.int xs0] (mk I J τ) = (if xs0 ≤ 1 then R_123 64 [(2, .ref a2), (3, .int x3), (4, .int x4), (5, .int x5)] [] (mk I J τ) else some (some (.int 6), (mk I J τ))) := (tm_F_fix _ _ _ _ _ _ _ _ _ _ _).trans rfl
set_option maxRecDepth 20000 in
theorem e_123_64 (I : Nat → Nat → Int32) (J : Nat → Nat → Int64) (τ : tm_Tu) (a2 : Nat) (x3 : Int32) (x4 : Int32) (x5 : Int32) : R_123 64 [(2, .ref a2), (3, .int x3), (4, .int x4), (5, .int x5)] [] (mk I J τ) = (if kdm a2 = 103 then (tm_bV (F_122 [.ref a2, .int x3, .int x4, .int x5] (mk I J τ)) fun M => R_123 73 [] [] M) else none) := (tm_F_fix _ _ _ _ _ _ _ _ _ _ _).trans rfl
set_option maxRecDepth 20000 in
theorem e_123_73 (I : Nat → Nat → Int32) (J : Nat → Nat → Int64) (τ : tm_Tu)  : R_123 73 [] [] (mk I J τ) = some (some (.int 0), (mk I J τ)) := (tm_F_fix _ _ _ _ _ _ _ _ _ _ _).trans rfl
noncomputable def R_124 : tm_K := tm_F tm_sh none G_124 false cd_124 cu_124 48
set_option maxRecDepth 20000 in
theorem e_124 (I : Nat → Nat → Int32) (J : Nat → Nat → Int64) (τ : tm_Tu) (x1 : Int32) (x2 : Int32) : F_124 [.ref 7, .int x1, .int x2] (mk I J τ) = (if 0 ≤ x1 ∧ x1.toNatClampNeg < 6 then (if kdm (tm_RT τ 14 x1.toNatClampNeg) = 103 then (if (I (tm_RT τ 14 x1.toNatClampNeg) 0) = 0 then R_124 21 [(0, .ref 7), (1, .int x1), (2, .int x2), (3, .ref (tm_RT τ 14 x1.toNatClampNeg))] [] (mk I J τ) else (if kdm (tm_RT τ 14 x1.toNatClampNeg) = 103 then (tm_bI (F_119 [.ref (tm_RT τ 14 x1.toNatClampNeg)] (mk I J τ)) fun r M => R_124 18 [(0, .ref 7), (1, .int x1), (2, .int x2), (3, .ref (tm_RT τ 14 x1.toNatClampNeg))] [.int r] M) else none)) else none) else none) := rfl
set_option maxRecDepth 20000 in
theorem e_124_18 (I : Nat → Nat → Int32) (J : Nat → Nat → Int64) (τ : tm_Tu) (x1 : Int32) (x2 : Int32) (a3 : Nat) (xs0 : Int32) : R_124 18 [(0, .ref 7), (1, .int x1), (2, .int x2), (3, .ref a3)] [.int xs0] (mk I J τ) = (if xs0 = 0 then R_124 26 [(0, .ref 7), (1, .int x1), (2, .int x2), (3, .ref a3)] [.int 0] (mk I J τ) else R_124 21 [(0, .ref 7), (1, .int x1), (2, .int x2), (3, .ref a3)] [] (mk I J τ)) := (tm_F_fix _ _ _ _ _ _ _ _ _ _ _).trans rfl
set_option maxRecDepth 20000 in
theorem e_124_21 (I : Nat → Nat → Int32) (J : Nat → Nat → Int64) (τ : tm_Tu) (x1 : Int32) (x2 : Int32) (a3 : Nat) : R_124 21 [(0, .ref 7), (1, .int x1), (2, .int x2), (3, .ref a3)] [] (mk I J τ) = R_124 26 [(0, .ref 7), (1, .int x1), (2, .int x2), (3, .ref a3)] [.int 1] (mk I J τ) := (tm_F_fix _ _ _ _ _ _ _ _ _ _ _).trans rfl
set_option maxRecDepth 20000 in
theorem e_124_26 (I : Nat → Nat → Int32) (J : Nat → Nat → Int64) (τ : tm_Tu) (x1 : Int32) (x2 : Int32) (a3 : Nat) (xs0 : Int32) : R_124 26 [(0, .ref 7), (1, .int x1), (2, .int x2), (3, .ref a3)] [.int xs0] (mk I J τ) = (if xs0 = 0 then R_124 52 [] [] (mk I J τ) else (if x2 < 0 then R_124 52 [] [] (mk I J τ) else (if 1 < x2 then R_124 52 [] [] (mk I J τ) else (if 0 ≤ x2 ∧ x2.toNatClampNeg < 2 then (if (I 16 x2.toNatClampNeg) = (-1) then (if kdm a3 = 103 then (tm_bV (F_111 [.ref a3, .int (4 + x2)] (mk I J τ)) fun M => R_124 61 [(0, .ref 7), (1, .int x1), (2, .int x2)] [] M) else none) else R_124 52 [] [] (mk I J τ)) else none)))) := (tm_F_fix _ _ _ _ _ _ _ _ _ _ _).trans rfl
set_option maxRecDepth 20000 in
theorem e_124_52 (I : Nat → Nat → Int32) (J : Nat → Nat → Int64) (τ : tm_Tu)  : R_124 52 [] [] (mk I J τ) = some (some (.int 1), (mk I J τ)) := (tm_F_fix _ _ _ _ _ _ _ _ _ _ _).trans rfl
set_option maxRecDepth 20000 in
theorem e_124_61 (I : Nat → Nat → Int32) (J : Nat → Nat → Int64) (τ : tm_Tu) (x1 : Int32) (x2 : Int32) : R_124 61 [(0, .ref 7), (1, .int x1), (2, .int x2)] [] (mk I J τ) = (if 0 ≤ x2 ∧ x2.toNatClampNeg < 2 then (if 0 ≤ x2 ∧ x2.toNatClampNeg < 2 then some (some (.int 0), (mk (tm_u (tm_u I 16 x2.toNatClampNeg x1) 17 x2.toNatClampNeg 0) J τ)) else none) else none) := (tm_F_fix _ _ _ _ _ _ _ _ _ _ _).trans rfl
noncomputable def R_125 : tm_K := tm_F tm_sh none G_125 false cd_125 cu_125 36
set_option maxRecDepth 20000 in
theorem e_125 (I : Nat → Nat → Int32) (J : Nat → Nat → Int64) (τ : tm_Tu) (x1 : Int32) (x2 : Int32) (x3 : Int32) : F_125 [.ref 8, .int x1, .int x2, .int x3] (mk I J τ) = (if 200 ≤ (I 8 7) then R_125 46 [(0, .ref 8)] [] (mk I J τ) else (if 0 ≤ ((I 8 7) * 3) ∧ (((I 8 7) * 3)).toNatClampNeg < 600 then (if 0 ≤ (((I 8 7) * 3) + 1) ∧ ((((I 8 7) * 3) + 1)).toNatClampNeg < 600 then (if 0 ≤ (((I 8 7) * 3) + 2) ∧ ((((I 8 7) * 3) + 2)).toNatClampNeg < 600 then R_125 46 [(0, .ref 8)] [] (mk (tm_u (tm_u (tm_u I 9 (((I 8 7) * 3)).toNatClampNeg x1) 9 ((((I 8 7) * 3) + 1)).toNatClampNeg x2) 9 ((((I 8 7) * 3) + 2)).toNatClampNeg x3) J τ) else none) else none) else none)) := rfl
set_option maxRecDepth 20000 in
theorem e_125_46 (I : Nat → Nat → Int32) (J : Nat → Nat → Int64) (τ : tm_Tu)  : R_125 46 [(0, .ref 8)] [] (mk I J τ) = some (none, (mk (tm_u I 8 7 ((I 8 7) + 1)) J τ)) := (tm_F_fix _ _ _ _ _ _ _ _ _ _ _).trans rfl
noncomputable def R_126 : tm_K := tm_F tm_sh none G_126 false cd_126 cu_126 71
set_option maxRecDepth 20000 in
theorem e_126 (I : Nat → Nat → Int32) (J : Nat → Nat → Int64) (τ : tm_Tu) (a1 : Nat) (a2 : Nat) (x3 : Int32) : F_126 [.ref 7, .ref a1, .ref a2, .int x3] (mk I J τ) = (if kdm a2 = 107 then (if (tm_RT τ a2 0) = 1 then none else (if kdm (tm_RT τ a2 0) = 1 then (if 0 ≤ x3 ∧ x3.toNatClampNeg < (tm_sh (tm_RT τ a2 0)).2 then (if kdm a2 = 107 then (if (tm_RT τ a2 1) = 1 then none else (if kdm (tm_RT τ a2 1) = 1 then (if 0 ≤ x3 ∧ x3.toNatClampNeg < (tm_sh (tm_RT τ a2 1)).2 then (if kdm a2 = 107 then (if (tm_RT τ a2 3) = 1 then none else (if kdm (tm_RT τ a2 3) = 1 then (if 0 ≤ x3 ∧ x3.toNatClampNeg < (tm_sh (tm_RT τ a2 3)).2 then (tm_bI (F_114 [.int (I (tm_RT τ a2 1) x3.toNatClampNeg)] (mk I J τ)) fun r M => R_126 29 [(0, .ref 7), (1, .ref a1), (2, .ref a2), (3, .int x3), (4, .int (I (tm_RT τ a2 0) x3.toNatClampNeg)), (5, .int (I (tm_RT τ a2 1) x3.toNatClampNeg)), (6, .int (I (tm_RT τ a2 3) x3.toNatClampNeg))] [.int r] M) else none) else none)) else none) else none) else none)) else none) else none) else none)) else none) := rfl
set_option maxRecDepth 20000 in
theorem e_126_29 (I : Nat → Nat → Int32) (J : Nat → Nat → Int64) (τ : tm_Tu) (a1 : Nat) (a2 : Nat) (x3 : Int32) (x4 : Int32) (x5 : Int32) (x6 : Int32) (xs0 : Int32) : R_126 29 [(0, .ref 7), (1, .ref a1), (2, .ref a2), (3, .int x3), (4, .int x4), (5, .int x5), (6, .int x6)] [.int xs0] (mk I J τ) = (if xs0 = 0 then some (none, (mk I J τ)) else (if 0 ≤ x5 ∧ x5.toNatClampNeg < 6 then (if kdm a2 = 107 then (if (tm_RT τ a2 2) = 1 then none else (if kdm (tm_RT τ a2 2) = 1 then (if 0 ≤ x3 ∧ x3.toNatClampNeg < (tm_sh (tm_RT τ a2 2)).2 then (if ((I (tm_RT τ a2 2) x3.toNatClampNeg) : Int32).toInt = 16 then (tm_bI (F_118 [.ref 7, .ref a1, .ref (tm_RT τ 14 x5.toNatClampNeg), .int x6] (mk I J τ)) fun r M => R_126 85 [(0, .ref 7), (4, .int x4), (5, .int x5)] [.int r] M) else (if ((I (tm_RT τ a2 2) x3.toNatClampNeg) : Int32).toInt = 17 then (tm_bI (F_120 [.ref 7, .ref (tm_RT τ 14 x5.toNatClampNeg), .int x6] (mk I J τ)) fun r M => R_126 98 [(0, .ref 7), (4, .int x4), (5, .int x5)] [.int r] M) else (if ((I (tm_RT τ a2 2) x3.toNatClampNeg) : Int32).toInt = 18 then (if kdm a2 = 107 then (if kdm (tm_RT τ a2 4) = 2 ∨ kdm (tm_RT τ a2 4) = 3 then (if 0 ≤ x3 ∧ x3.toNatClampNeg < (tm_sh (tm_RT τ a2 4)).2 then (tm_bI (F_123 [.ref 7, .ref a1, .ref (tm_RT τ 14 x5.toNatClampNeg), .int x6, .int (I (tm_RT τ a2 4) x3.toNatClampNeg), .int x4] (mk I J τ)) fun r M => R_126 120 [(0, .ref 7), (4, .int x4), (5, .int x5)] [.int r] M) else none) else none) else none) else (tm_bI (F_124 [.ref 7, .int x5, .int x6] (mk I J τ)) fun r M => R_126 133 [(0, .ref 7), (4, .int x4), (5, .int x5)] [.int r] M)))) else none) else none)) else none) else none)) := (tm_F_fix _ _ _ _ _ _ _ _ _ _ _).trans rfl
set_option maxRecDepth 20000 in
theorem e_126_85 (I : Nat → Nat → Int32) (J : Nat → Nat → Int64) (τ : tm_Tu) (x4 : Int32) (x5 : Int32) (xs0 : Int32) : R_126 85 [(0, .ref 7), (4, .int x4), (5, .int x5)] [.int xs0] (mk I J τ) = R_126 135 [(0, .ref 7), (4, .int x4), (5, .int x5), (8, .int xs0)] [] (mk I J τ) := (tm_F_fix _ _ _ _ _ _ _ _ _ _ _).trans rfl
set_option maxRecDepth 20000 in
theorem e_126_98 (I : Nat → Nat → Int32) (J : Nat → Nat → Int64) (τ : tm_Tu) (x4 : Int32) (x5 : Int32) (xs0 : Int32) : R_126 98 [(0, .ref 7), (4, .int x4), (5, .int x5)] [.int xs0] (mk I J τ) = R_126 135 [(0, .ref 7), (4, .int x4), (5, .int x5), (8, .int xs0)] [] (mk I J τ) := (tm_F_fix _ _ _ _ _ _ _ _ _ _ _).trans rfl
set_option maxRecDepth 20000 in
theorem e_126_120 (I : Nat → Nat → Int32) (J : Nat → Nat → Int64) (τ : tm_Tu) (x4 : Int32) (x5 : Int32) (xs0 : Int32) : R_126 120 [(0, .ref 7), (4, .int x4), (5, .int x5)] [.int xs0] (mk I J τ) = R_126 135 [(0, .ref 7), (4, .int x4), (5, .int x5), (8, .int xs0)] [] (mk I J τ) := (tm_F_fix _ _ _ _ _ _ _ _ _ _ _).trans rfl
set_option maxRecDepth 20000 in
theorem e_126_133 (I : Nat → Nat → Int32) (J : Nat → Nat → Int64) (τ : tm_Tu) (x4 : Int32) (x5 : Int32) (xs0 : Int32) : R_126 133 [(0, .ref 7), (4, .int x4), (5, .int x5)] [.int xs0] (mk I J τ) = R_126 135 [(0, .ref 7), (4, .int x4), (5, .int x5), (8, .int xs0)] [] (mk I J τ) := (tm_F_fix _ _ _ _ _ _ _ _ _ _ _).trans rfl
set_option maxRecDepth 20000 in
theorem e_126_135 (I : Nat → Nat → Int32) (J : Nat → Nat → Int64) (τ : tm_Tu) (x4 : Int32) (x5 : Int32) (x8 : Int32) : R_126 135 [(0, .ref 7), (4, .int x4), (5, .int x5), (8, .int x8)] [] (mk I J τ) = (if x8 = 0 then R_126 153 [] [] (mk I J τ) else (tm_bV (F_125 [.ref 8, .int x4, .int x8, .int x5] (mk I J τ)) fun M => R_126 153 [] [] M)) := (tm_F_fix _ _ _ _ _ _ _ _ _ _ _).trans rfl
set_option maxRecDepth 20000 in
theorem e_126_153 (I : Nat → Nat → Int32) (J : Nat → Nat → Int64) (τ : tm_Tu)  : R_126 153 [] [] (mk I J τ) = some (none, (mk I J τ)) := (tm_F_fix _ _ _ _ _ _ _ _ _ _ _).trans rfl
noncomputable def R_127 : tm_K := tm_F tm_sh none G_127 false cd_127 cu_127 70
set_option maxRecDepth 20000 in
theorem e_127 (I : Nat → Nat → Int32) (J : Nat → Nat → Int64) (τ : tm_Tu) (x1 : Int32) (x2 : Int32) : F_127 [.ref 8, .int x1, .int x2, .ref 14] (mk I J τ) = (if x1 < 0 then R_127 12 [] [] (mk I J τ) else (if x1 < (I 8 6) then (if 0 ≤ x1 ∧ x1.toNatClampNeg < 200 then (if x2 = 4 then R_127 35 [(0, .ref 8), (1, .int x1), (3, .ref 14)] [] (mk (tm_u (tm_u I 11 x1.toNatClampNeg x2) 8 10 ((I 8 10) + 1)) J τ) else R_127 35 [(0, .ref 8), (1, .int x1), (3, .ref 14)] [] (mk (tm_u I 11 x1.toNatClampNeg x2) J τ)) else none) else R_127 12 [] [] (mk I J τ))) := rfl
set_option maxRecDepth 20000 in
theorem e_127_12 (I : Nat → Nat → Int32) (J : Nat → Nat → Int64) (τ : tm_Tu)  : R_127 12 [] [] (mk I J τ) = some (none, (mk I J τ)) := (tm_F_fix _ _ _ _ _ _ _ _ _ _ _).trans rfl
set_option maxRecDepth 20000 in
theorem e_127_35 (I : Nat → Nat → Int32) (J : Nat → Nat → Int64) (τ : tm_Tu) (x1 : Int32) : R_127 35 [(0, .ref 8), (1, .int x1), (3, .ref 14)] [] (mk I J τ) = R_127 38 [(0, .ref 8), (1, .int x1), (3, .ref 14), (4, .int 0)] [] (mk I J τ) := (tm_F_fix _ _ _ _ _ _ _ _ _ _ _).trans rfl
set_option maxRecDepth 20000 in
theorem e_127_38 (I : Nat → Nat → Int32) (J : Nat → Nat → Int64) (τ : tm_Tu) (x1 : Int32) (x4 : Int32) : R_127 38 [(0, .ref 8), (1, .int x1), (3, .ref 14), (4, .int x4)] [] (mk I J τ) = (if 6 ≤ x4 then R_127 117 [] [] (mk I J τ) else (if 6 ≤ x4 then R_127 117 [] [] (mk I J τ) else (if 0 ≤ x4 ∧ x4.toNatClampNeg < 6 then (if kdm (tm_RT τ 14 x4.toNatClampNeg) = 103 then (if kdm (tm_RT τ 14 x4.toNatClampNeg) = 103 then (if kdm (tm_RT τ 14 x4.toNatClampNeg) = 103 then (if kdm (tm_RT τ 14 x4.toNatClampNeg) = 103 then (if kdm (tm_RT τ 14 x4.toNatClampNeg) = 103 then (if 0 ≤ ((x1 * 6) + x4) ∧ (((x1 * 6) + x4)).toNatClampNeg < 1200 then R_127 38 [(0, .ref 8), (1, .int x1), (3, .ref 14), (4, .int (x4 + 1))] [] (mk (tm_u I 12 (((x1 * 6) + x4)).toNatClampNeg (((((I (tm_RT τ 14 x4.toNatClampNeg) 0) ||| ((I (tm_RT τ 14 x4.toNatClampNeg) 1) <<< 3)) ||| ((I (tm_RT τ 14 x4.toNatClampNeg) 2) <<< 5)) ||| (((I (tm_RT τ 14 x4.toNatClampNeg) 3) + 1) <<< 7)) ||| ((I (tm_RT τ 14 x4.toNatClampNeg) 6) <<< 11))) J τ) else none) else none) else none) else none) else none) else none) else none))) := (tm_F_fix _ _ _ _ _ _ _ _ _ _ _).trans rfl
set_option maxRecDepth 20000 in
theorem e_127_117 (I : Nat → Nat → Int32) (J : Nat → Nat → Int64) (τ : tm_Tu)  : R_127 117 [] [] (mk I J τ) = some (none, (mk I J τ)) := (tm_F_fix _ _ _ _ _ _ _ _ _ _ _).trans rfl
noncomputable def R_128 : tm_K := tm_F tm_sh none G_128 false cd_128 cu_128 22
set_option maxRecDepth 20000 in
theorem e_128 (I : Nat → Nat → Int32) (J : Nat → Nat → Int64) (τ : tm_Tu) (x1 : Int32) : F_128 [.ref 7, .int x1] (mk I J τ) = R_128 2 [(0, .ref 7), (1, .int x1), (2, .int 0)] [] (mk I J τ) := rfl
set_option maxRecDepth 20000 in
theorem e_128_2 (I : Nat → Nat → Int32) (J : Nat → Nat → Int64) (τ : tm_Tu) (x1 : Int32) (x2 : Int32) : R_128 2 [(0, .ref 7), (1, .int x1), (2, .int x2)] [] (mk I J τ) = (if 6 ≤ x2 then (tm_bV (F_127 [.ref 8, .int x1, .int 4, .ref 14] (mk I J τ)) fun M => R_128 37 [] [] M) else (if 0 ≤ x2 ∧ x2.toNatClampNeg < 6 then (if kdm (tm_RT τ 14 x2.toNatClampNeg) = 103 then R_128 2 [(0, .ref 7), (1, .int x1), (2, .int (x2 + 1))] [] (mk (tm_u I (tm_RT τ 14 x2.toNatClampNeg) 6 0) J τ) else none) else none)) := (tm_F_fix _ _ _ _ _ _ _ _ _ _ _).trans rfl
set_option maxRecDepth 20000 in
theorem e_128_37 (I : Nat → Nat → Int32) (J : Nat → Nat → Int64) (τ : tm_Tu)  : R_128 37 [] [] (mk I J τ) = some (none, (mk I J τ)) := (tm_F_fix _ _ _ _ _ _ _ _ _ _ _).trans rfl
noncomputable def R_129 : tm_K := tm_F tm_sh none G_129 false cd_129 cu_129 18
set_option maxRecDepth 20000 in
theorem e_129 (I : Nat → Nat → Int32) (J : Nat → Nat → Int64) (τ : tm_Tu)  : F_129 [.ref 7] (mk I J τ) = R_129 2 [(0, .ref 7), (1, .int 0)] [] (mk I J τ) := rfl
set_option maxRecDepth 20000 in
theorem e_129_2 (I : Nat → Nat → Int32) (J : Nat → Nat → Int64) (τ : tm_Tu) (x1 : Int32) : R_129 2 [(0, .ref 7), (1, .int x1)] [] (mk I J τ) = (if 6 ≤ x1 then some (some (.int (-1)), (mk I J τ)) else (if 0 ≤ x1 ∧ x1.toNatClampNeg < 6 then (if kdm (tm_RT τ 14 x1.toNatClampNeg) = 103 then (tm_bI (F_116 [.ref (tm_RT τ 14 x1.toNatClampNeg)] (mk I J τ)) fun r M => R_129 17 [(0, .ref 7), (1, .int x1)] [.int r] M) else none) else none)) := (tm_F_fix _ _ _ _ _ _ _ _ _ _ _).trans rfl
set_option maxRecDepth 20000 in
theorem e_129_17 (I : Nat → Nat → Int32) (J : Nat → Nat → Int64) (τ : tm_Tu) (x1 : Int32) (xs0 : Int32) : R_129 17 [(0, .ref 7), (1, .int x1)] [.int xs0] (mk I J τ) = (if xs0 = 0 then R_129 2 [(0, .ref 7), (1, .int (x1 + 1))] [] (mk I J τ) else some (some (.int x1), (mk I J τ))) := (tm_F_fix _ _ _ _ _ _ _ _ _ _ _).trans rfl
noncomputable def R_130 : tm_K := tm_F tm_sh none G_130 false cd_130 cu_130 29
set_option maxRecDepth 20000 in
theorem e_130 (I : Nat → Nat → Int32) (J : Nat → Nat → Int64) (τ : tm_Tu) (a1 : Nat) (x2 : Int32) (x3 : Int32) : F_130 [.ref 7, .ref a1, .int x2, .int x3] (mk I J τ) = (tm_bI (F_114 [.int x2] (mk I J τ)) fun r M => R_130 4 [(0, .ref 7), (1, .ref a1), (2, .int x2), (3, .int x3)] [.int r] M) := rfl
set_option maxRecDepth 20000 in
theorem e_130_4 (I : Nat → Nat → Int32) (J : Nat → Nat → Int64) (τ : tm_Tu) (a1 : Nat) (x2 : Int32) (x3 : Int32) (xs0 : Int32) : R_130 4 [(0, .ref 7), (1, .ref a1), (2, .int x2), (3, .int x3)] [.int xs0] (mk I J τ) = (if xs0 = 0 then some (some (.int 0), (mk I J τ)) else (if 0 ≤ x2 ∧ x2.toNatClampNeg < 6 then (if kdm (tm_RT τ 14 x2.toNatClampNeg) = 103 then (if kdm a1 = 100 then (tm_bI (F_84 [.ref a1, .int (I (tm_RT τ 14 x2.toNatClampNeg) 3)] (mk I J τ)) fun r M => R_130 26 [(1, .ref a1), (3, .int x3), (4, .ref (tm_RT τ 14 x2.toNatClampNeg))] [.int r] M) else none) else none) else none)) := (tm_F_fix _ _ _ _ _ _ _ _ _ _ _).trans rfl
set_option maxRecDepth 20000 in
theorem e_130_26 (I : Nat → Nat → Int32) (J : Nat → Nat → Int64) (τ : tm_Tu) (a1 : Nat) (x3 : Int32) (a4 : Nat) (xs0 : Int32) : R_130 26 [(1, .ref a1), (3, .int x3), (4, .ref a4)] [.int xs0] (mk I J τ) = (if xs0 = 0 then R_130 53 [] [.int 0] (mk I J τ) else (if kdm a1 = 100 then (if kdm a4 = 103 then (if kdm (tm_RT τ a1 0) = 5 ∨ kdm (tm_RT τ a1 0) = 6 then (if 0 ≤ (I a4 3) ∧ ((I a4 3)).toNatClampNeg < (tm_sh (tm_RT τ a1 0)).2 then (if kdm a4 = 103 then (if kdm (tm_RT τ (tm_RT τ a1 0) ((I a4 3)).toNatClampNeg) = 108 then (tm_bI (F_90 [.ref (tm_RT τ (tm_RT τ a1 0) ((I a4 3)).toNatClampNeg), .int (x3 - (I a4 5))] (mk I J τ)) fun r M => R_130 49 [] [.int r] M) else none) else none) else none) else none) else none) else none)) := (tm_F_fix _ _ _ _ _ _ _ _ _ _ _).trans rfl
set_option maxRecDepth 20000 in
theorem e_130_49 (I : Nat → Nat → Int32) (J : Nat → Nat → Int64) (τ : tm_Tu) (xs0 : Int32) : R_130 49 [] [.int xs0] (mk I J τ) = R_130 53 [] [.int xs0] (mk I J τ) := (tm_F_fix _ _ _ _ _ _ _ _ _ _ _).trans rfl
set_option maxRecDepth 20000 in
theorem e_130_53 (I : Nat → Nat → Int32) (J : Nat → Nat → Int64) (τ : tm_Tu) (xs0 : Int32) : R_130 53 [] [.int xs0] (mk I J τ) = some (some (.int xs0), (mk I J τ)) := (tm_F_fix _ _ _ _ _ _ _ _ _ _ _).trans rfl
noncomputable def R_131 : tm_K := tm_F tm_sh none G_131 false cd_131 cu_131 25
set_option maxRecDepth 20000 in
theorem e_131 (I : Nat → Nat → Int32) (J : Nat → Nat → Int64) (τ : tm_Tu) (a0 : Nat) : F_131 [.ref a0] (mk I J τ) = (if kdm a0 = 103 then (if (I a0 1) = 1 then R_131 13 [(0, .ref a0)] [.int 2] (mk I J τ) else R_131 13 [(0, .ref a0)] [.int 1] (mk I J τ)) else none) := rfl
set_option maxRecDepth 20000 in
theorem e_131_13 (I : Nat → Nat → Int32) (J : Nat → Nat → Int64) (τ : tm_Tu) (a0 : Nat) (xs0 : Int32) : R_131 13 [(0, .ref a0)] [.int xs0] (mk I J τ) = (tm_bI (F_86 [.int xs0] (mk I J τ)) fun r M => R_131 18 [(0, .ref a0), (1, .int xs0)] [.int r] M) := (tm_F_fix _ _ _ _ _ _ _ _ _ _ _).trans rfl
set_option maxRecDepth 20000 in
theorem e_131_18 (I : Nat → Nat → Int32) (J : Nat → Nat → Int64) (τ : tm_Tu) (a0 : Nat) (x1 : Int32) (xs0 : Int32) : R_131 18 [(0, .ref a0), (1, .int x1)] [.int xs0] (mk I J τ) = (if kdm a0 = 103 then (if kdm a0 = 103 then some (none, (mk (tm_u (tm_u I a0 6 ((x1 <<< 2) ||| (xs0 <<< 6))) a0 1 xs0) J τ)) else none) else none) := (tm_F_fix _ _ _ _ _ _ _ _ _ _ _).trans rfl
noncomputable def R_132 : tm_K := tm_F tm_sh none G_132 false cd_132 cu_132 40
set_option maxRecDepth 20000 in
theorem e_132 (I : Nat → Nat → Int32) (J : Nat → Nat → Int64) (τ : tm_Tu) (a0 : Nat) (a1 : Nat) (x2 : Int32) : F_132 [.ref a0, .ref a1, .int x2] (mk I J τ) = (if kdm a0 = 103 then R_132 7 [(0, .ref a0), (1, .ref a1), (2, .int x2), (3, .int 0)] [] (mk (tm_u I a0 6 0) J τ) else none) := rfl
set_option maxRecDepth 20000 in
theorem e_132_7 (I : Nat → Nat → Int32) (J : Nat → Nat → Int64) (τ : tm_Tu) (a0 : Nat) (a1 : Nat) (x2 : Int32) (x3 : Int32) : R_132 7 [(0, .ref a0), (1, .ref a1), (2, .int x2), (3, .int x3)] [] (mk I J τ) = (if 4 ≤ x3 then some (none, (mk I J τ)) else (if kdm a0 = 103 then (if kdm a0 = 103 then (if kdm a1 = 108 then (tm_bI (F_88 [.ref a1, .int ((4 * (x2 - (I a0 5))) + x3), .int (I a0 4)] (mk I J τ)) fun r M => R_132 30 [(0, .ref a0), (1, .ref a1), (2, .int x2), (3, .int x3)] [.int r] M) else none) else none) else none)) := (tm_F_fix _ _ _ _ _ _ _ _ _ _ _).trans rfl
set_option maxRecDepth 20000 in
theorem e_132_30 (I : Nat → Nat → Int32) (J : Nat → Nat → Int64) (τ : tm_Tu) (a0 : Nat) (a1 : Nat) (x2 : Int32) (x3 : Int32) (xs0 : Int32) : R_132 30 [(0, .ref a0), (1, .ref a1), (2, .int x2), (3, .int x3)] [.int xs0] (mk I J τ) = (if kdm a0 = 103 then (if kdm a0 = 103 then (if xs0 = 0 then R_132 58 [(0, .ref a0), (1, .ref a1), (2, .int x2), (3, .int x3)] [] (mk (tm_u I a0 6 ((I a0 6) ||| (xs0 <<< ((2 * x3) &&& 31)))) J τ) else (if kdm a0 = 103 then R_132 58 [(0, .ref a0), (1, .ref a1), (2, .int x2), (3, .int x3)] [] (mk (tm_u (tm_u I a0 6 ((I a0 6) ||| (xs0 <<< ((2 * x3) &&& 31)))) a0 1 xs0) J τ) else none)) else none) else none) := (tm_F_fix _ _ _ _ _ _ _ _ _ _ _).trans rfl
set_option maxRecDepth 20000 in
theorem e_132_58 (I : Nat → Nat → Int32) (J : Nat → Nat → Int64) (τ : tm_Tu) (a0 : Nat) (a1 : Nat) (x2 : Int32) (x3 : Int32) : R_132 58 [(0, .ref a0), (1, .ref a1), (2, .int x2), (3, .int x3)] [] (mk I J τ) = R_132 7 [(0, .ref a0), (1, .ref a1), (2, .int x2), (3, .int (x3 + 1))] [] (mk I J τ) := (tm_F_fix _ _ _ _ _ _ _ _ _ _ _).trans rfl
noncomputable def R_133 : tm_K := tm_F tm_sh none G_133 false cd_133 cu_133 36
set_option maxRecDepth 20000 in
theorem e_133 (I : Nat → Nat → Int32) (J : Nat → Nat → Int64) (τ : tm_Tu) (a1 : Nat) (x2 : Int32) : F_133 [.ref 7, .ref a1, .int x2] (mk I J τ) = R_133 2 [(0, .ref 7), (1, .ref a1), (2, .int x2), (3, .int 0)] [] (mk I J τ) := rfl
set_option maxRecDepth 20000 in
theorem e_133_2 (I : Nat → Nat → Int32) (J : Nat → Nat → Int64) (τ : tm_Tu) (a1 : Nat) (x2 : Int32) (x3 : Int32) : R_133 2 [(0, .ref 7), (1, .ref a1), (2, .int x2), (3, .int x3)] [] (mk I J τ) = (if 6 ≤ x3 then some (none, (mk I J τ)) else (if 0 ≤ x3 ∧ x3.toNatClampNeg < 6 then (if kdm (tm_RT τ 14 x3.toNatClampNeg) = 103 then (tm_bI (F_119 [.ref (tm_RT τ 14 x3.toNatClampNeg)] (mk I J τ)) fun r M => R_133 21 [(0, .ref 7), (1, .ref a1), (2, .int x2), (3, .int x3), (4, .ref (tm_RT τ 14 x3.toNatClampNeg))] [.int r] M) else none) else none)) := (tm_F_fix _ _ _ _ _ _ _ _ _ _ _).trans rfl
set_option maxRecDepth 20000 in
theorem e_133_21 (I : Nat → Nat → Int32) (J : Nat → Nat → Int64) (τ : tm_Tu) (a1 : Nat) (x2 : Int32) (x3 : Int32) (a4 : Nat) (xs0 : Int32) : R_133 21 [(0, .ref 7), (1, .ref a1), (2, .int x2), (3, .int x3), (4, .ref a4)] [.int xs0] (mk I J τ) = (if xs0 = 0 then (if kdm a4 = 103 then (tm_bI (F_116 [.ref a4] (mk I J τ)) fun r M => R_133 37 [(0, .ref 7), (1, .ref a1), (2, .int x2), (3, .int x3), (4, .ref a4)] [.int r] M) else none) else (if kdm a4 = 103 then (tm_bV (F_131 [.ref a4] (mk I J τ)) fun M => R_133 29 [(0, .ref 7), (1, .ref a1), (2, .int x2), (3, .int x3)] [] M) else none)) := (tm_F_fix _ _ _ _ _ _ _ _ _ _ _).trans rfl
set_option maxRecDepth 20000 in
theorem e_133_29 (I : Nat → Nat → Int32) (J : Nat → Nat → Int64) (τ : tm_Tu) (a1 : Nat) (x2 : Int32) (x3 : Int32) : R_133 29 [(0, .ref 7), (1, .ref a1), (2, .int x2), (3, .int x3)] [] (mk I J τ) = R_133 68 [(0, .ref 7), (1, .ref a1), (2, .int x2), (3, .int x3)] [] (mk I J τ) := (tm_F_fix _ _ _ _ _ _ _ _ _ _ _).trans rfl
set_option maxRecDepth 20000 in
theorem e_133_37 (I : Nat → Nat → Int32) (J : Nat → Nat → Int64) (τ : tm_Tu) (a1 : Nat) (x2 : Int32) (x3 : Int32) (a4 : Nat) (xs0 : Int32) : R_133 37 [(0, .ref 7), (1, .ref a1), (2, .int x2), (3, .int x3), (4, .ref a4)] [.int xs0] (mk I J τ) = (if xs0 = 0 then R_133 68 [(0, .ref 7), (1, .ref a1), (2, .int x2), (3, .int x3)] [] (mk I J τ) else (if kdm a4 = 103 then (if kdm a1 = 100 then (tm_bI (F_84 [.ref a1, .int (I a4 3)] (mk I J τ)) fun r M => R_133 49 [(0, .ref 7), (1, .ref a1), (2, .int x2), (3, .int x3), (4, .ref a4)] [.int r] M) else none) else none)) := (tm_F_fix _ _ _ _ _ _ _ _ _ _ _).trans rfl
set_option maxRecDepth 20000 in
theorem e_133_49 (I : Nat → Nat → Int32) (J : Nat → Nat → Int64) (τ : tm_Tu) (a1 : Nat) (x2 : Int32) (x3 : Int32) (a4 : Nat) (xs0 : Int32) : R_133 49 [(0, .ref 7), (1, .ref a1), (2, .int x2), (3, .int x3), (4, .ref a4)] [.int xs0] (mk I J τ) = (if xs0 = 0 then R_133 68 [(0, .ref 7), (1, .ref a1), (2, .int x2), (3, .int x3)] [] (mk I J τ) else (if kdm a1 = 100 then (if kdm a4 = 103 then (if kdm (tm_RT τ a1 0) = 5 ∨ kdm (tm_RT τ a1 0) = 6 then (if 0 ≤ (I a4 3) ∧ ((I a4 3)).toNatClampNeg < (tm_sh (tm_RT τ a1 0)).2 then (if kdm a4 = 103 then (tm_bV (F_132 [.ref a4, .ref (tm_RT τ (tm_RT τ a1 0) ((I a4 3)).toNatClampNeg), .int x2] (mk I J τ)) fun M => R_133 68 [(0, .ref 7), (1, .ref a1), (2, .int x2), (3, .int x3)] [] M) else none) else none) else none) else none) else none)) := (tm_F_fix _ _ _ _ _ _ _ _ _ _ _).trans rfl
set_option maxRecDepth 20000 in
theorem e_133_68 (I : Nat → Nat → Int32) (J : Nat → Nat → Int64) (τ : tm_Tu) (a1 : Nat) (x2 : Int32) (x3 : Int32) : R_133 68 [(0, .ref 7), (1, .ref a1), (2, .int x2), (3, .int x3)] [] (mk I J τ) = R_133 2 [(0, .ref 7), (1, .ref a1), (2, .int x2), (3, .int (x3 + 1))] [] (mk I J τ) := (tm_F_fix _ _ _ _ _ _ _ _ _ _ _).trans rfl
noncomputable def R_134 : tm_K := tm_F tm_sh none G_134 true cd_134 cu_134 31
set_option maxRecDepth 20000 in
theorem e_134 (I : Nat → Nat → Int32) (J : Nat → Nat → Int64) (τ : tm_Tu) (a1 : Nat) (x2 : Int32) (x3 : Int32) (x4 : Int32) : F_134 [.ref 7, .ref a1, .int x2, .int x3, .int x4] (mk I J τ) = R_134 3 [(0, .ref 7), (1, .ref a1), (2, .int x2), (3, .int x3), (4, .int x4), (5, .int 0)] [] (mk I J τ) := rfl
set_option maxRecDepth 20000 in
theorem e_134_3 (I : Nat → Nat → Int32) (J : Nat → Nat → Int64) (τ : tm_Tu) (a1 : Nat) (x2 : Int32) (x3 : Int32) (x4 : Int32) (x5 : Int32) : R_134 3 [(0, .ref 7), (1, .ref a1), (2, .int x2), (3, .int x3), (4, .int x4), (5, .int x5)] [] (mk I J τ) = (if 6 ≤ x5 then some (some (.int 0), (mk I J τ)) else (if 0 ≤ x5 ∧ x5.toNatClampNeg < 6 then (if kdm (tm_RT τ 14 x5.toNatClampNeg) = 103 then (tm_bI (F_116 [.ref (tm_RT τ 14 x5.toNatClampNeg)] (mk I J τ)) fun r M => R_134 20 [(0, .ref 7), (1, .ref a1), (2, .int x2), (3, .int x3), (4, .int x4), (5, .int x5)] [.int r] M) else none) else none)) := (tm_F_fix _ _ _ _ _ _ _ _ _ _ _).trans rfl
set_option maxRecDepth 20000 in
theorem e_134_20 (I : Nat → Nat → Int32) (J : Nat → Nat → Int64) (τ : tm_Tu) (a1 : Nat) (x2 : Int32) (x3 : Int32) (x4 : Int32) (x5 : Int32) (xs0 : Int32) : R_134 20 [(0, .ref 7), (1, .ref a1), (2, .int x2), (3, .int x3), (4, .int x4), (5, .int x5)] [.int xs0] (mk I J τ) = (if xs0 = 0 then R_134 50 [(0, .ref 7), (1, .ref a1), (2, .int x2), (3, .int x3), (4, .int x4), (5, .int x5)] [] (mk I J τ) else (tm_bI (F_130 [.ref 7, .ref a1, .int x5, .int x4] (mk I J τ)) fun r M => R_134 32 [(0, .ref 7), (1, .ref a1), (2, .int x2), (3, .int x3), (4, .int x4), (5, .int x5)] [.int r] M)) := (tm_F_fix _ _ _ _ _ _ _ _ _ _ _).trans rfl
set_option maxRecDepth 20000 in
theorem e_134_32 (I : Nat → Nat → Int32) (J : Nat → Nat → Int64) (τ : tm_Tu) (a1 : Nat) (x2 : Int32) (x3 : Int32) (x4 : Int32) (x5 : Int32) (xs0 : Int32) : R_134 32 [(0, .ref 7), (1, .ref a1), (2, .int x2), (3, .int x3), (4, .int x4), (5, .int x5)] [.int xs0] (mk I J τ) = (if xs0 = x3 then R_134 50 [(0, .ref 7), (1, .ref a1), (2, .int x2), (3, .int x3), (4, .int x4), (5, .int x5)] [] (mk I J τ) else (tm_bV (F_125 [.ref 8, .int x4, .int 7, .int x2] (mk I J τ)) fun M => R_134 48 [] [] M)) := (tm_F_fix _ _ _ _ _ _ _ _ _ _ _).trans rfl
set_option maxRecDepth 20000 in
theorem e_134_48 (I : Nat → Nat → Int32) (J : Nat → Nat → Int64) (τ : tm_Tu)  : R_134 48 [] [] (mk I J τ) = some (some (.int 1), (mk I J τ)) := (tm_F_fix _ _ _ _ _ _ _ _ _ _ _).trans rfl
set_option maxRecDepth 20000 in
theorem e_134_50 (I : Nat → Nat → Int32) (J : Nat → Nat → Int64) (τ : tm_Tu) (a1 : Nat) (x2 : Int32) (x3 : Int32) (x4 : Int32) (x5 : Int32) : R_134 50 [(0, .ref 7), (1, .ref a1), (2, .int x2), (3, .int x3), (4, .int x4), (5, .int x5)] [] (mk I J τ) = R_134 3 [(0, .ref 7), (1, .ref a1), (2, .int x2), (3, .int x3), (4, .int x4), (5, .int (x5 + 1))] [] (mk I J τ) := (tm_F_fix _ _ _ _ _ _ _ _ _ _ _).trans rfl
noncomputable def R_135 : tm_K := tm_F tm_sh none G_135 true cd_135 cu_135 29
set_option maxRecDepth 20000 in
theorem e_135 (I : Nat → Nat → Int32) (J : Nat → Nat → Int64) (τ : tm_Tu) (x1 : Int32) (x2 : Int32) : F_135 [.ref 7, .int x1, .int x2] (mk I J τ) = (if x1 = 0 then some (some (.int 0), (mk I J τ)) else R_135 8 [(0, .ref 7), (2, .int x2), (3, .int 0)] [] (mk I J τ)) := rfl
set_option maxRecDepth 20000 in
theorem e_135_8 (I : Nat → Nat → Int32) (J : Nat → Nat → Int64) (τ : tm_Tu) (x2 : Int32) (x3 : Int32) : R_135 8 [(0, .ref 7), (2, .int x2), (3, .int x3)] [] (mk I J τ) = (if 6 ≤ x3 then some (some (.int 0), (mk I J τ)) else (if 0 ≤ x3 ∧ x3.toNatClampNeg < 6 then (if kdm (tm_RT τ 14 x3.toNatClampNeg) = 103 then (if (I (tm_RT τ 14 x3.toNatClampNeg) 0) < 4 then R_135 8 [(0, .ref 7), (2, .int x2), (3, .int (x3 + 1))] [] (mk I J τ) else (tm_bV (F_125 [.ref 8, .int x2, .int 8, .int x3] (mk I J τ)) fun M => R_135 38 [] [] M)) else none) else none)) := (tm_F_fix _ _ _ _ _ _ _ _ _ _ _).trans rfl
set_option maxRecDepth 20000 in
theorem e_135_38 (I : Nat → Nat → Int32) (J : Nat → Nat → Int64) (τ : tm_Tu)  : R_135 38 [] [] (mk I J τ) = some (some (.int 1), (mk I J τ)) := (tm_F_fix _ _ _ _ _ _ _ _ _ _ _).trans rfl
noncomputable def R_136 : tm_K := tm_F tm_sh none G_136 true cd_136 cu_136 25
set_option maxRecDepth 20000 in
theorem e_136 (I : Nat → Nat → Int32) (J : Nat → Nat → Int64) (τ : tm_Tu) (a0 : Nat) (x1 : Int32) : F_136 [.ref a0, .int x1] (mk I J τ) = R_136 2 [(0, .ref a0), (1, .int x1), (2, .int 0)] [] (mk I J τ) := rfl
set_option maxRecDepth 20000 in
theorem e_136_2 (I : Nat → Nat → Int32) (J : Nat → Nat → Int64) (τ : tm_Tu) (a0 : Nat) (x1 : Int32) (x2 : Int32) : R_136 2 [(0, .ref a0), (1, .int x1), (2, .int x2)] [] (mk I J τ) = (if 4 ≤ x2 then some (some (.int 0), (mk I J τ)) else (if kdm a0 = 103 then (if (((I a0 6) >>> ((2 * x2) &&& 31)) &&& 3) = 0 then R_136 30 [(0, .ref a0), (1, .int x1), (2, .int x2)] [] (mk I J τ) else (tm_bI (F_102 [.int x1, .int x2] (mk I J τ)) fun r M => R_136 25 [(0, .ref a0), (1, .int x1), (2, .int x2)] [.int r] M)) else none)) := (tm_F_fix _ _ _ _ _ _ _ _ _ _ _).trans rfl
set_option maxRecDepth 20000 in
theorem e_136_25 (I : Nat → Nat → Int32) (J : Nat → Nat → Int64) (τ : tm_Tu) (a0 : Nat) (x1 : Int32) (x2 : Int32) (xs0 : Int32) : R_136 25 [(0, .ref a0), (1, .int x1), (2, .int x2)] [.int xs0] (mk I J τ) = (if xs0 = 0 then R_136 30 [(0, .ref a0), (1, .int x1), (2, .int x2)] [] (mk I J τ) else some (some (.int 1), (mk I J τ))) := (tm_F_fix _ _ _ _ _ _ _ _ _ _ _).trans rfl
set_option maxRecDepth 20000 in
theorem e_136_30 (I : Nat → Nat → Int32) (J : Nat → Nat → Int64) (τ : tm_Tu) (a0 : Nat) (x1 : Int32) (x2 : Int32) : R_136 30 [(0, .ref a0), (1, .int x1), (2, .int x2)] [] (mk I J τ) = R_136 2 [(0, .ref a0), (1, .int x1), (2, .int (x2 + 1))] [] (mk I J τ) := (tm_F_fix _ _ _ _ _ _ _ _ _ _ _).trans rfl
noncomputable def R_137 : tm_K := tm_F tm_sh none G_137 true cd_137 cu_137 34
set_option maxRecDepth 20000 in
theorem e_137 (I : Nat → Nat → Int32) (J : Nat → Nat → Int64) (τ : tm_Tu) (x1 : Int32) (x2 : Int32) : F_137 [.ref 7, .int x1, .int x2] (mk I J τ) = R_137 5 [(0, .ref 7), (1, .int x1), (2, .int x2), (3, .int 0), (4, .int 0)] [] (mk I J τ) := rfl
set_option maxRecDepth 20000 in
theorem e_137_5 (I : Nat → Nat → Int32) (J : Nat → Nat → Int64) (τ : tm_Tu) (x1 : Int32) (x2 : Int32) (x3 : Int32) (x4 : Int32) : R_137 5 [(0, .ref 7), (1, .int x1), (2, .int x2), (3, .int x3), (4, .int x4)] [] (mk I J τ) = (if 6 ≤ x4 then (if x3 = 0 ∨ x3 = 1 then some (some (.int x3), (mk I J τ)) else none) else (if 0 ≤ x4 ∧ x4.toNatClampNeg < 6 then (if kdm (tm_RT τ 14 x4.toNatClampNeg) = 103 then (if (I (tm_RT τ 14 x4.toNatClampNeg) 0) = 1 then (if 0 ≤ x4 ∧ x4.toNatClampNeg < 6 then (if kdm (tm_RT τ 14 x4.toNatClampNeg) = 103 then (tm_bI (F_136 [.ref (tm_RT τ 14 x4.toNatClampNeg), .int x1] (mk I J τ)) fun r M => R_137 37 [(0, .ref 7), (1, .int x1), (2, .int x2), (3, .int x3), (4, .int x4)] [.int r] M) else none) else none) else R_137 54 [(0, .ref 7), (1, .int x1), (2, .int x2), (3, .int x3), (4, .int x4)] [] (mk I J τ)) else none) else none)) := (tm_F_fix _ _ _ _ _ _ _ _ _ _ _).trans rfl
set_option maxRecDepth 20000 in
theorem e_137_37 (I : Nat → Nat → Int32) (J : Nat → Nat → Int64) (τ : tm_Tu) (x1 : Int32) (x2 : Int32) (x3 : Int32) (x4 : Int32) (xs0 : Int32) : R_137 37 [(0, .ref 7), (1, .int x1), (2, .int x2), (3, .int x3), (4, .int x4)] [.int xs0] (mk I J τ) = (if xs0 = 0 then R_137 54 [(0, .ref 7), (1, .int x1), (2, .int x2), (3, .int x3), (4, .int x4)] [] (mk I J τ) else (tm_bV (F_125 [.ref 8, .int x2, .int 9, .int x4] (mk I J τ)) fun M => R_137 52 [(0, .ref 7), (1, .int x1), (2, .int x2), (4, .int x4)] [] M)) := (tm_F_fix _ _ _ _ _ _ _ _ _ _ _).trans rfl
set_option maxRecDepth 20000 in
theorem e_137_52 (I : Nat → Nat → Int32) (J : Nat → Nat → Int64) (τ : tm_Tu) (x1 : Int32) (x2 : Int32) (x4 : Int32) : R_137 52 [(0, .ref 7), (1, .int x1), (2, .int x2), (4, .int x4)] [] (mk I J τ) = R_137 54 [(0, .ref 7), (1, .int x1), (2, .int x2), (3, .int 1), (4, .int x4)] [] (mk I J τ) := (tm_F_fix _ _ _ _ _ _ _ _ _ _ _).trans rfl
set_option maxRecDepth 20000 in
theorem e_137_54 (I : Nat → Nat → Int32) (J : Nat → Nat → Int64) (τ : tm_Tu) (x1 : Int32) (x2 : Int32) (x3 : Int32) (x4 : Int32) : R_137 54 [(0, .ref 7), (1, .int x1), (2, .int x2), (3, .int x3), (4, .int x4)] [] (mk I J τ) = R_137 5 [(0, .ref 7), (1, .int x1), (2, .int x2), (3, .int x3), (4, .int (x4 + 1))] [] (mk I J τ) := (tm_F_fix _ _ _ _ _ _ _ _ _ _ _).trans rfl
noncomputable def R_138 : tm_K := tm_F tm_sh none G_138 false cd_138 cu_138 20
set_option maxRecDepth 20000 in
theorem e_138 (I : Nat → Nat → Int32) (J : Nat → Nat → Int64) (τ : tm_Tu)  : F_138 [.ref 7] (mk I J τ) = R_138 2 [(0, .ref 7), (1, .int 0)] [] (mk I J τ) := rfl
set_option maxRecDepth 20000 in
theorem e_138_2 (I : Nat → Nat → Int32) (J : Nat → Nat → Int64) (τ : tm_Tu) (x1 : Int32) : R_138 2 [(0, .ref 7), (1, .int x1)] [] (mk I J τ) = (if 6 ≤ x1 then some (none, (mk I J τ)) else (if 0 ≤ x1 ∧ x1.toNatClampNeg < 6 then (if kdm (tm_RT τ 14 x1.toNatClampNeg) = 103 then (tm_bV (F_110 [.ref (tm_RT τ 14 x1.toNatClampNeg)] (mk I J τ)) fun M => R_138 17 [(0, .ref 7), (1, .int x1)] [] M) else none) else none)) := (tm_F_fix _ _ _ _ _ _ _ _ _ _ _).trans rfl
set_option maxRecDepth 20000 in
theorem e_138_17 (I : Nat → Nat → Int32) (J : Nat → Nat → Int64) (τ : tm_Tu) (x1 : Int32) : R_138 17 [(0, .ref 7), (1, .int x1)] [] (mk I J τ) = (if 0 ≤ x1 ∧ x1.toNatClampNeg < 6 then (if kdm (tm_RT τ 14 x1.toNatClampNeg) = 103 then R_138 2 [(0, .ref 7), (1, .int (x1 + 1))] [] (mk (tm_u I (tm_RT τ 14 x1.toNatClampNeg) 1 0) J τ) else none) else none) := (tm_F_fix _ _ _ _ _ _ _ _ _ _ _).trans rfl
noncomputable def R_139 : tm_K := tm_F tm_sh none G_139 false cd_139 cu_139 31
set_option maxRecDepth 20000 in
theorem e_139 (I : Nat → Nat → Int32) (J : Nat → Nat → Int64) (τ : tm_Tu) (x1 : Int32) (x2 : Int32) : F_139 [.ref 8, .int x1, .int x2] (mk I J τ) = (if x1 < 0 then R_139 13 [] [] (mk I J τ) else (if x1 < 12 then (if 0 ≤ x1 ∧ x1.toNatClampNeg < 12 then (if 0 ≤ x1 ∧ x1.toNatClampNeg < 12 then (if 0 ≤ x1 ∧ x1.toNatClampNeg < 12 then (if (((tm_u I 13 x1.toNatClampNeg ((I 13 x1.toNatClampNeg) + 1)) 13 x1.toNatClampNeg) : Int32).toInt = 1 then some (some (.int x2), (mk (tm_u I 13 x1.toNatClampNeg ((I 13 x1.toNatClampNeg) + 1)) J τ)) else (if (((tm_u I 13 x1.toNatClampNeg ((I 13 x1.toNatClampNeg) + 1)) 13 x1.toNatClampNeg) : Int32).toInt = 2 then some (some (.int (x2 / 2)), (mk (tm_u I 13 x1.toNatClampNeg ((I 13 x1.toNatClampNeg) + 1)) J τ)) else some (some (.int 0), (mk (tm_u I 13 x1.toNatClampNeg ((I 13 x1.toNatClampNeg) + 1)) J τ)))) else none) else none) else none) else R_139 13 [] [] (mk I J τ))) := rfl
set_option maxRecDepth 20000 in
theorem e_139_13 (I : Nat → Nat → Int32) (J : Nat → Nat → Int64) (τ : tm_Tu)  : R_139 13 [] [] (mk I J τ) = some (some (.int 0), (mk I J τ)) := (tm_F_fix _ _ _ _ _ _ _ _ _ _ _).trans rfl
noncomputable def R_140 : tm_K := tm_F tm_sh none G_140 false cd_140 cu_140 69
set_option maxRecDepth 20000 in
theorem e_140 (I : Nat → Nat → Int32) (J : Nat → Nat → Int64) (τ : tm_Tu) (x1 : Int32) (a2 : Nat) (x3 : Int32) : F_140 [.ref 8, .int x1, .ref a2, .int x3] (mk I J τ) = (if kdm a2 = 103 then (tm_bI (F_139 [.ref 8, .int (I a2 3), .int x3] (mk I J τ)) fun r M => R_140 9 [(0, .ref 8), (1, .int x1), (2, .ref a2)] [.int r] M) else none) := rfl
set_option maxRecDepth 20000 in
theorem e_140_9 (I : Nat → Nat → Int32) (J : Nat → Nat → Int64) (τ : tm_Tu) (x1 : Int32) (a2 : Nat) (xs0 : Int32) : R_140 9 [(0, .ref 8), (1, .int x1), (2, .ref a2)] [.int xs0] (mk I J τ) = (if 100 ≤ (I 8 8) then R_140 94 [(0, .ref 8), (4, .int xs0)] [] (mk I J τ) else (if kdm a2 = 103 then (if 0 ≤ ((I 8 8) * 5) ∧ (((I 8 8) * 5)).toNatClampNeg < 500 then (if kdm a2 = 103 then (if 0 ≤ (((I 8 8) * 5) + 1) ∧ ((((I 8 8) * 5) + 1)).toNatClampNeg < 500 then (if 0 ≤ (((I 8 8) * 5) + 2) ∧ ((((I 8 8) * 5) + 2)).toNatClampNeg < 500 then (if kdm a2 = 103 then (if ((tm_u (tm_u (tm_u I 10 (((I 8 8) * 5)).toNatClampNeg (I a2 5)) 10 ((((I 8 8) * 5) + 1)).toNatClampNeg ((tm_u I 10 (((I 8 8) * 5)).toNatClampNeg (I a2 5)) a2 3)) 10 ((((I 8 8) * 5) + 2)).toNatClampNeg x1) a2 4) = 0 then R_140 82 [(0, .ref 8), (4, .int xs0), (5, .int ((I 8 8) * 5))] [.int 0, .int (((I 8 8) * 5) + 3), .ref 10] (mk (tm_u (tm_u (tm_u I 10 (((I 8 8) * 5)).toNatClampNeg (I a2 5)) 10 ((((I 8 8) * 5) + 1)).toNatClampNeg ((tm_u I 10 (((I 8 8) * 5)).toNatClampNeg (I a2 5)) a2 3)) 10 ((((I 8 8) * 5) + 2)).toNatClampNeg x1) J τ) else R_140 82 [(0, .ref 8), (4, .int xs0), (5, .int ((I 8 8) * 5))] [.int 1, .int (((I 8 8) * 5) + 3), .ref 10] (mk (tm_u (tm_u (tm_u I 10 (((I 8 8) * 5)).toNatClampNeg (I a2 5)) 10 ((((I 8 8) * 5) + 1)).toNatClampNeg ((tm_u I 10 (((I 8 8) * 5)).toNatClampNeg (I a2 5)) a2 3)) 10 ((((I 8 8) * 5) + 2)).toNatClampNeg x1) J τ)) else none) else none) else none) else none) else none) else none)) := (tm_F_fix _ _ _ _ _ _ _ _ _ _ _).trans rfl
set_option maxRecDepth 20000 in
theorem e_140_82 (I : Nat → Nat → Int32) (J : Nat → Nat → Int64) (τ : tm_Tu) (x4 : Int32) (x5 : Int32) (xs0 : Int32) (xs1 : Int32) : R_140 82 [(0, .ref 8), (4, .int x4), (5, .int x5)] [.int xs0, .int xs1, .ref 10] (mk I J τ) = (if 0 ≤ xs1 ∧ xs1.toNatClampNeg < 500 then (if 0 ≤ (x5 + 4) ∧ ((x5 + 4)).toNatClampNeg < 500 then R_140 94 [(0, .ref 8), (4, .int x4)] [] (mk (tm_u (tm_u I 10 xs1.toNatClampNeg xs0) 10 ((x5 + 4)).toNatClampNeg x4) J τ) else none) else none) := (tm_F_fix _ _ _ _ _ _ _ _ _ _ _).trans rfl
set_option maxRecDepth 20000 in
theorem e_140_94 (I : Nat → Nat → Int32) (J : Nat → Nat → Int64) (τ : tm_Tu) (x4 : Int32) : R_140 94 [(0, .ref 8), (4, .int x4)] [] (mk I J τ) = some (none, (mk (tm_u (tm_u I 8 8 ((I 8 8) + 1)) 8 9 ((I 8 9) + x4)) J τ)) := (tm_F_fix _ _ _ _ _ _ _ _ _ _ _).trans rfl
noncomputable def R_141 : tm_K := tm_F tm_sh none G_141 false cd_141 cu_141 58
set_option maxRecDepth 20000 in
theorem e_141 (I : Nat → Nat → Int32) (J : Nat → Nat → Int64) (τ : tm_Tu) (a1 : Nat) (x2 : Int32) : F_141 [.ref 7, .ref a1, .int x2] (mk I J τ) = R_141 2 [(0, .ref 7), (1, .ref a1), (2, .int x2), (3, .int 0)] [] (mk I J τ) := rfl
set_option maxRecDepth 20000 in
theorem e_141_2 (I : Nat → Nat → Int32) (J : Nat → Nat → Int64) (τ : tm_Tu) (a1 : Nat) (x2 : Int32) (x3 : Int32) : R_141 2 [(0, .ref 7), (1, .ref a1), (2, .int x2), (3, .int x3)] [] (mk I J τ) = (if 6 ≤ x3 then some (none, (mk I J τ)) else (if 0 ≤ x3 ∧ x3.toNatClampNeg < 6 then (if kdm (tm_RT τ 14 x3.toNatClampNeg) = 103 then (tm_bI (F_116 [.ref (tm_RT τ 14 x3.toNatClampNeg)] (mk I J τ)) fun r M => R_141 21 [(0, .ref 7), (1, .ref a1), (2, .int x2), (3, .int x3), (4, .ref (tm_RT τ 14 x3.toNatClampNeg))] [.int r] M) else none) else none)) := (tm_F_fix _ _ _ _ _ _ _ _ _ _ _).trans rfl
set_option maxRecDepth 20000 in
theorem e_141_21 (I : Nat → Nat → Int32) (J : Nat → Nat → Int64) (τ : tm_Tu) (a1 : Nat) (x2 : Int32) (x3 : Int32) (a4 : Nat) (xs0 : Int32) : R_141 21 [(0, .ref 7), (1, .ref a1), (2, .int x2), (3, .int x3), (4, .ref a4)] [.int xs0] (mk I J τ) = (if xs0 = 0 then R_141 111 [(0, .ref 7), (1, .ref a1), (2, .int x2), (3, .int x3)] [] (mk I J τ) else (if kdm a4 = 103 then (if kdm a1 = 100 then (tm_bI (F_84 [.ref a1, .int (I a4 3)] (mk I J τ)) fun r M => R_141 33 [(0, .ref 7), (1, .ref a1), (2, .int x2), (3, .int x3), (4, .ref a4)] [.int r] M) else none) else none)) := (tm_F_fix _ _ _ _ _ _ _ _ _ _ _).trans rfl
set_option maxRecDepth 20000 in
theorem e_141_33 (I : Nat → Nat → Int32) (J : Nat → Nat → Int64) (τ : tm_Tu) (a1 : Nat) (x2 : Int32) (x3 : Int32) (a4 : Nat) (xs0 : Int32) : R_141 33 [(0, .ref 7), (1, .ref a1), (2, .int x2), (3, .int x3), (4, .ref a4)] [.int xs0] (mk I J τ) = (if xs0 = 0 then R_141 111 [(0, .ref 7), (1, .ref a1), (2, .int x2), (3, .int x3)] [] (mk I J τ) else (if kdm a1 = 100 then (if kdm a4 = 103 then (if kdm (tm_RT τ a1 0) = 5 ∨ kdm (tm_RT τ a1 0) = 6 then (if 0 ≤ (I a4 3) ∧ ((I a4 3)).toNatClampNeg < (tm_sh (tm_RT τ a1 0)).2 then (if kdm a4 = 103 then (if kdm (tm_RT τ (tm_RT τ a1 0) ((I a4 3)).toNatClampNeg) = 108 then (if (x2 - (I a4 5)) < ((I (tm_RT τ (tm_RT τ a1 0) ((I a4 3)).toNatClampNeg) 4) - 1) then R_141 111 [(0, .ref 7), (1, .ref a1), (2, .int x2), (3, .int x3)] [] (mk I J τ) else (if kdm (tm_RT τ (tm_RT τ a1 0) ((I a4 3)).toNatClampNeg) = 108 then (tm_bV (F_140 [.ref 8, .int x3, .ref a4, .int (I (tm_RT τ (tm_RT τ a1 0) ((I a4 3)).toNatClampNeg) 3)] (mk I J τ)) fun M => R_141 83 [(0, .ref 7), (1, .ref a1), (2, .int x2), (3, .int x3), (4, .ref a4), (5, .ref (tm_RT τ (tm_RT τ a1 0) ((I a4 3)).toNatClampNeg))] [] M) else none)) else none) else none) else none) else none) else none) else none)) := (tm_F_fix _ _ _ _ _ _ _ _ _ _ _).trans rfl
set_option maxRecDepth 20000 in
theorem e_141_83 (I : Nat → Nat → Int32) (J : Nat → Nat → Int64) (τ : tm_Tu) (a1 : Nat) (x2 : Int32) (x3 : Int32) (a4 : Nat) (a5 : Nat) : R_141 83 [(0, .ref 7), (1, .ref a1), (2, .int x2), (3, .int x3), (4, .ref a4), (5, .ref a5)] [] (mk I J τ) = (if kdm a4 = 103 then (if kdm a4 = 103 then (if kdm a5 = 108 then (tm_bI (F_85 [.ref a5, .int (I a4 4)] (mk I J τ)) fun r M => R_141 100 [(0, .ref 7), (1, .ref a1), (2, .int x2), (3, .int x3), (4, .ref a4)] [.int r, .int (I a4 2), .ref a4] M) else none) else none) else none) := (tm_F_fix _ _ _ _ _ _ _ _ _ _ _).trans rfl
set_option maxRecDepth 20000 in
theorem e_141_100 (I : Nat → Nat → Int32) (J : Nat → Nat → Int64) (τ : tm_Tu) (a1 : Nat) (x2 : Int32) (x3 : Int32) (a4 : Nat) (xs0 : Int32) (xs1 : Int32) (as2 : Nat) : R_141 100 [(0, .ref 7), (1, .ref a1), (2, .int x2), (3, .int x3), (4, .ref a4)] [.int xs0, .int xs1, .ref as2] (mk I J τ) = (if kdm as2 = 103 then (if kdm a4 = 103 then (tm_bV (F_110 [.ref a4] (mk (tm_u I as2 2 ((xs1 + xs0) &&& 3)) J τ)) fun M => R_141 111 [(0, .ref 7), (1, .ref a1), (2, .int x2), (3, .int x3)] [] M) else none) else none) := (tm_F_fix _ _ _ _ _ _ _ _ _ _ _).trans rfl
set_option maxRecDepth 20000 in
theorem e_141_111 (I : Nat → Nat → Int32) (J : Nat → Nat → Int64) (τ : tm_Tu) (a1 : Nat) (x2 : Int32) (x3 : Int32) : R_141 111 [(0, .ref 7), (1, .ref a1), (2, .int x2), (3, .int x3)] [] (mk I J τ) = R_141 2 [(0, .ref 7), (1, .ref a1), (2, .int x2), (3, .int (x3 + 1))] [] (mk I J τ) := (tm_F_fix _ _ _ _ _ _ _ _ _ _ _).trans rfl
