/-! the equations, further -/
noncomputable def R_73 : tm_K := tm_F tm_sh none G_73 false cd_73 cu_73 50
set_option maxRecDepth 20000 in
theorem e_73 (I : Nat → Nat → Int32) (J : Nat → Nat → Int64) (τ : tm_Tu)  : F_73 [.ref 131] (mk I J τ) = (tm_bV (F_54 [.ref 131] (mk I J τ)) fun M => R_73 4 [(0, .ref 131)] [] M) := rfl
set_option maxRecDepth 20000 in
theorem e_73_4 (I : Nat → Nat → Int32) (J : Nat → Nat → Int64) (τ : tm_Tu)  : R_73 4 [(0, .ref 131)] [] (mk I J τ) = (if 0 ≤ (1 - (I 131 21)) ∧ ((1 - (I 131 21))).toNatClampNeg < 2 then (tm_bV (F_60 [.ref 131] (mk (tm_u (tm_u I 131 22 (1 - (I 131 21))) 135 ((1 - (I 131 21))).toNatClampNeg 0) J τ)) fun M => R_73 28 [(0, .ref 131)] [] M) else none) := (tm_F_fix _ _ _ _ _ _ _ _ _ _ _).trans rfl
set_option maxRecDepth 20000 in
theorem e_73_28 (I : Nat → Nat → Int32) (J : Nat → Nat → Int64) (τ : tm_Tu)  : R_73 28 [(0, .ref 131)] [] (mk I J τ) = (tm_bI (F_61 [.ref 131] (mk I J τ)) fun r M => R_73 32 [(0, .ref 131)] [.int r] M) := (tm_F_fix _ _ _ _ _ _ _ _ _ _ _).trans rfl
set_option maxRecDepth 20000 in
theorem e_73_32 (I : Nat → Nat → Int32) (J : Nat → Nat → Int64) (τ : tm_Tu) (xs0 : Int32) : R_73 32 [(0, .ref 131)] [.int xs0] (mk I J τ) = (if xs0 = 0 then R_73 49 [(0, .ref 131)] [] (mk I J τ) else (if (I 131 8) = 0 then R_73 49 [(0, .ref 131)] [] (mk I J τ) else (tm_bV (F_72 [.ref 131] (mk I J τ)) fun M => R_73 46 [(0, .ref 131)] [] M))) := (tm_F_fix _ _ _ _ _ _ _ _ _ _ _).trans rfl
set_option maxRecDepth 20000 in
theorem e_73_46 (I : Nat → Nat → Int32) (J : Nat → Nat → Int64) (τ : tm_Tu)  : R_73 46 [(0, .ref 131)] [] (mk I J τ) = R_73 28 [(0, .ref 131)] [] (mk I J τ) := (tm_F_fix _ _ _ _ _ _ _ _ _ _ _).trans rfl
set_option maxRecDepth 20000 in
theorem e_73_49 (I : Nat → Nat → Int32) (J : Nat → Nat → Int64) (τ : tm_Tu)  : R_73 49 [(0, .ref 131)] [] (mk I J τ) = (tm_bI (F_61 [.ref 131] (mk I J τ)) fun r M => R_73 53 [(0, .ref 131)] [.int r] M) := (tm_F_fix _ _ _ _ _ _ _ _ _ _ _).trans rfl
set_option maxRecDepth 20000 in
theorem e_73_53 (I : Nat → Nat → Int32) (J : Nat → Nat → Int64) (τ : tm_Tu) (xs0 : Int32) : R_73 53 [(0, .ref 131)] [.int xs0] (mk I J τ) = (if xs0 = 0 then some (some (.int (-1)), (mk I J τ)) else (if 0 ≤ (I 131 22) ∧ ((I 131 22)).toNatClampNeg < 2 then some (some (.int (I 135 ((I 131 22)).toNatClampNeg)), (mk (tm_u (tm_u (tm_u (tm_u I 131 21 (I 131 22)) 131 72 0) 131 32 0) 131 33 0) J τ)) else none)) := (tm_F_fix _ _ _ _ _ _ _ _ _ _ _).trans rfl
noncomputable def R_74 : tm_K := tm_F tm_sh none G_74 true cd_74 cu_74 29
set_option maxRecDepth 20000 in
theorem e_74 (I : Nat → Nat → Int32) (J : Nat → Nat → Int64) (τ : tm_Tu) (a0 : Nat) : F_74 [.ref a0, .ref 4] (mk I J τ) = (if (I 4 7) = 21 then R_74 24 [(0, .ref a0), (1, .ref 4)] [] (mk I J τ) else (if (I 4 7) = 22 then R_74 24 [(0, .ref a0), (1, .ref 4)] [] (mk I J τ) else (tm_bI (F_30 [.ref 4, .int 2] (mk I J τ)) fun r M => R_74 23 [] [.int r] M))) := rfl
set_option maxRecDepth 20000 in
theorem e_74_23 (I : Nat → Nat → Int32) (J : Nat → Nat → Int64) (τ : tm_Tu) (xs0 : Int32) : R_74 23 [] [.int xs0] (mk I J τ) = (if xs0 = 0 ∨ xs0 = 1 then some (some (.int xs0), (mk I J τ)) else none) := (tm_F_fix _ _ _ _ _ _ _ _ _ _ _).trans rfl
set_option maxRecDepth 20000 in
theorem e_74_24 (I : Nat → Nat → Int32) (J : Nat → Nat → Int64) (τ : tm_Tu) (a0 : Nat) : R_74 24 [(0, .ref a0), (1, .ref 4)] [] (mk I J τ) = (if kdm a0 = 107 then (if kdm a0 = 107 then (if (I 4 7) = 21 then R_74 46 [(1, .ref 4)] [.int 0, .int (I a0 6), .ref (tm_RT τ a0 3)] (mk I J τ) else R_74 46 [(1, .ref 4)] [.int 1, .int (I a0 6), .ref (tm_RT τ a0 3)] (mk I J τ)) else none) else none) := (tm_F_fix _ _ _ _ _ _ _ _ _ _ _).trans rfl
set_option maxRecDepth 20000 in
theorem e_74_46 (I : Nat → Nat → Int32) (J : Nat → Nat → Int64) (τ : tm_Tu) (xs0 : Int32) (xs1 : Int32) (as2 : Nat) : R_74 46 [(1, .ref 4)] [.int xs0, .int xs1, .ref as2] (mk I J τ) = (if kdm as2 = 1 then (if 0 ≤ xs1 ∧ xs1.toNatClampNeg < (tm_sh as2).2 then (tm_bV (F_28 [.ref 4] (mk (tm_u I as2 xs1.toNatClampNeg xs0) J τ)) fun M => R_74 51 [] [] M) else none) else none) := (tm_F_fix _ _ _ _ _ _ _ _ _ _ _).trans rfl
set_option maxRecDepth 20000 in
theorem e_74_51 (I : Nat → Nat → Int32) (J : Nat → Nat → Int64) (τ : tm_Tu)  : R_74 51 [] [] (mk I J τ) = some (some (.int 1), (mk I J τ)) := (tm_F_fix _ _ _ _ _ _ _ _ _ _ _).trans rfl
noncomputable def R_75 : tm_K := tm_F tm_sh none G_75 true cd_75 cu_75 43
set_option maxRecDepth 20000 in
theorem e_75 (I : Nat → Nat → Int32) (J : Nat → Nat → Int64) (τ : tm_Tu) (a0 : Nat) (a2 : Nat) : F_75 [.ref a0, .ref 4, .ref a2] (mk I J τ) = (if (I 4 7) = 30 then (if kdm a2 = 100 then (tm_bI (F_32 [.ref a2, .long (J 4 9)] (mk I J τ)) fun r M => R_75 23 [(0, .ref a0), (1, .ref 4)] [.int r] M) else none) else (tm_bI (F_30 [.ref 4, .int 2] (mk I J τ)) fun r M => R_75 14 [] [.int r] M)) := rfl
set_option maxRecDepth 20000 in
theorem e_75_14 (I : Nat → Nat → Int32) (J : Nat → Nat → Int64) (τ : tm_Tu) (xs0 : Int32) : R_75 14 [] [.int xs0] (mk I J τ) = (if xs0 = 0 ∨ xs0 = 1 then some (some (.int xs0), (mk I J τ)) else none) := (tm_F_fix _ _ _ _ _ _ _ _ _ _ _).trans rfl
set_option maxRecDepth 20000 in
theorem e_75_23 (I : Nat → Nat → Int32) (J : Nat → Nat → Int64) (τ : tm_Tu) (a0 : Nat) (xs0 : Int32) : R_75 23 [(0, .ref a0), (1, .ref 4)] [.int xs0] (mk I J τ) = (if xs0 = (-1) then (tm_bI (F_30 [.ref 4, .int 5] (mk I J τ)) fun r M => R_75 34 [] [.int r] M) else (if kdm a0 = 107 then (if kdm a0 = 107 then (if kdm (tm_RT τ a0 3) = 1 then (if 0 ≤ (I a0 6) ∧ ((I a0 6)).toNatClampNeg < (tm_sh (tm_RT τ a0 3)).2 then (tm_bV (F_28 [.ref 4] (mk (tm_u I (tm_RT τ a0 3) ((I a0 6)).toNatClampNeg xs0) J τ)) fun M => R_75 49 [(0, .ref a0), (1, .ref 4)] [] M) else none) else none) else none) else none)) := (tm_F_fix _ _ _ _ _ _ _ _ _ _ _).trans rfl
set_option maxRecDepth 20000 in
theorem e_75_34 (I : Nat → Nat → Int32) (J : Nat → Nat → Int64) (τ : tm_Tu) (xs0 : Int32) : R_75 34 [] [.int xs0] (mk I J τ) = (if xs0 = 0 ∨ xs0 = 1 then some (some (.int xs0), (mk I J τ)) else none) := (tm_F_fix _ _ _ _ _ _ _ _ _ _ _).trans rfl
set_option maxRecDepth 20000 in
theorem e_75_49 (I : Nat → Nat → Int32) (J : Nat → Nat → Int64) (τ : tm_Tu) (a0 : Nat) : R_75 49 [(0, .ref a0), (1, .ref 4)] [] (mk I J τ) = (if (I 4 7) = 19 then (if kdm a0 = 107 then (if kdm a0 = 107 then (if kdm (tm_RT τ a0 4) = 2 then (if 0 ≤ (I a0 6) ∧ ((I a0 6)).toNatClampNeg < (tm_sh (tm_RT τ a0 4)).2 then (tm_bV (F_28 [.ref 4] (mk (tm_u I (tm_RT τ a0 4) ((I a0 6)).toNatClampNeg (1 : Int32).toInt8.toInt32) J τ)) fun M => R_75 72 [] [] M) else none) else if kdm (tm_RT τ a0 4) = 3 then (if 0 ≤ (I a0 6) ∧ ((I a0 6)).toNatClampNeg < (tm_sh (tm_RT τ a0 4)).2 then (tm_bV (F_28 [.ref 4] (mk (tm_u I (tm_RT τ a0 4) ((I a0 6)).toNatClampNeg 1) J τ)) fun M => R_75 72 [] [] M) else none) else none) else none) else none) else R_75 72 [] [] (mk I J τ)) := (tm_F_fix _ _ _ _ _ _ _ _ _ _ _).trans rfl
set_option maxRecDepth 20000 in
theorem e_75_72 (I : Nat → Nat → Int32) (J : Nat → Nat → Int64) (τ : tm_Tu)  : R_75 72 [] [] (mk I J τ) = some (some (.int 1), (mk I J τ)) := (tm_F_fix _ _ _ _ _ _ _ _ _ _ _).trans rfl
noncomputable def R_76 : tm_K := tm_F tm_sh none G_76 true cd_76 cu_76 34
set_option maxRecDepth 20000 in
theorem e_76 (I : Nat → Nat → Int32) (J : Nat → Nat → Int64) (τ : tm_Tu) (a0 : Nat) (a2 : Nat) : F_76 [.ref a0, .ref 4, .ref a2] (mk I J τ) = (if kdm a0 = 107 then (if kdm a0 = 107 then (if kdm (tm_RT τ a0 2) = 1 then (if 0 ≤ (I a0 6) ∧ ((I a0 6)).toNatClampNeg < (tm_sh (tm_RT τ a0 2)).2 then (if kdm a0 = 107 then (if kdm a0 = 107 then (if kdm (tm_RT τ a0 4) = 2 then (if 0 ≤ ((tm_u I (tm_RT τ a0 2) ((I a0 6)).toNatClampNeg (I 4 7)) a0 6) ∧ (((tm_u I (tm_RT τ a0 2) ((I a0 6)).toNatClampNeg (I 4 7)) a0 6)).toNatClampNeg < (tm_sh (tm_RT τ a0 4)).2 then (if (((tm_u (tm_u I (tm_RT τ a0 2) ((I a0 6)).toNatClampNeg (I 4 7)) (tm_RT τ a0 4) (((tm_u I (tm_RT τ a0 2) ((I a0 6)).toNatClampNeg (I 4 7)) a0 6)).toNatClampNeg (0 : Int32).toInt8.toInt32) 4 7) : Int32).toInt = 16 then (tm_bV (F_28 [.ref 4] (mk (tm_u (tm_u I (tm_RT τ a0 2) ((I a0 6)).toNatClampNeg (I 4 7)) (tm_RT τ a0 4) (((tm_u I (tm_RT τ a0 2) ((I a0 6)).toNatClampNeg (I 4 7)) a0 6)).toNatClampNeg (0 : Int32).toInt8.toInt32) J τ)) fun M => R_76 64 [(0, .ref a0), (1, .ref 4)] [] M) else (if (((tm_u (tm_u I (tm_RT τ a0 2) ((I a0 6)).toNatClampNeg (I 4 7)) (tm_RT τ a0 4) (((tm_u I (tm_RT τ a0 2) ((I a0 6)).toNatClampNeg (I 4 7)) a0 6)).toNatClampNeg (0 : Int32).toInt8.toInt32) 4 7) : Int32).toInt = 17 then (tm_bV (F_28 [.ref 4] (mk (tm_u (tm_u I (tm_RT τ a0 2) ((I a0 6)).toNatClampNeg (I 4 7)) (tm_RT τ a0 4) (((tm_u I (tm_RT τ a0 2) ((I a0 6)).toNatClampNeg (I 4 7)) a0 6)).toNatClampNeg (0 : Int32).toInt8.toInt32) J τ)) fun M => R_76 64 [(0, .ref a0), (1, .ref 4)] [] M) else (if (((tm_u (tm_u I (tm_RT τ a0 2) ((I a0 6)).toNatClampNeg (I 4 7)) (tm_RT τ a0 4) (((tm_u I (tm_RT τ a0 2) ((I a0 6)).toNatClampNeg (I 4 7)) a0 6)).toNatClampNeg (0 : Int32).toInt8.toInt32) 4 7) : Int32).toInt = 18 then (tm_bV (F_28 [.ref 4] (mk (tm_u (tm_u I (tm_RT τ a0 2) ((I a0 6)).toNatClampNeg (I 4 7)) (tm_RT τ a0 4) (((tm_u I (tm_RT τ a0 2) ((I a0 6)).toNatClampNeg (I 4 7)) a0 6)).toNatClampNeg (0 : Int32).toInt8.toInt32) J τ)) fun M => R_76 74 [(0, .ref a0), (1, .ref 4), (2, .ref a2)] [] M) else (if (((tm_u (tm_u I (tm_RT τ a0 2) ((I a0 6)).toNatClampNeg (I 4 7)) (tm_RT τ a0 4) (((tm_u I (tm_RT τ a0 2) ((I a0 6)).toNatClampNeg (I 4 7)) a0 6)).toNatClampNeg (0 : Int32).toInt8.toInt32) 4 7) : Int32).toInt = 19 then (tm_bI (F_30 [.ref 4, .int 2] (mk (tm_u (tm_u I (tm_RT τ a0 2) ((I a0 6)).toNatClampNeg (I 4 7)) (tm_RT τ a0 4) (((tm_u I (tm_RT τ a0 2) ((I a0 6)).toNatClampNeg (I 4 7)) a0 6)).toNatClampNeg (0 : Int32).toInt8.toInt32) J τ)) fun r M => R_76 86 [] [.int r] M) else (if (((tm_u (tm_u I (tm_RT τ a0 2) ((I a0 6)).toNatClampNeg (I 4 7)) (tm_RT τ a0 4) (((tm_u I (tm_RT τ a0 2) ((I a0 6)).toNatClampNeg (I 4 7)) a0 6)).toNatClampNeg (0 : Int32).toInt8.toInt32) 4 7) : Int32).toInt = 20 then (tm_bV (F_28 [.ref 4] (mk (tm_u (tm_u I (tm_RT τ a0 2) ((I a0 6)).toNatClampNeg (I 4 7)) (tm_RT τ a0 4) (((tm_u I (tm_RT τ a0 2) ((I a0 6)).toNatClampNeg (I 4 7)) a0 6)).toNatClampNeg (0 : Int32).toInt8.toInt32) J τ)) fun M => R_76 64 [(0, .ref a0), (1, .ref 4)] [] M) else (tm_bI (F_30 [.ref 4, .int 2] (mk (tm_u (tm_u I (tm_RT τ a0 2) ((I a0 6)).toNatClampNeg (I 4 7)) (tm_RT τ a0 4) (((tm_u I (tm_RT τ a0 2) ((I a0 6)).toNatClampNeg (I 4 7)) a0 6)).toNatClampNeg (0 : Int32).toInt8.toInt32) J τ)) fun r M => R_76 86 [] [.int r] M)))))) else none) else if kdm (tm_RT τ a0 4) = 3 then (if 0 ≤ ((tm_u I (tm_RT τ a0 2) ((I a0 6)).toNatClampNeg (I 4 7)) a0 6) ∧ (((tm_u I (tm_RT τ a0 2) ((I a0 6)).toNatClampNeg (I 4 7)) a0 6)).toNatClampNeg < (tm_sh (tm_RT τ a0 4)).2 then (if (((tm_u (tm_u I (tm_RT τ a0 2) ((I a0 6)).toNatClampNeg (I 4 7)) (tm_RT τ a0 4) (((tm_u I (tm_RT τ a0 2) ((I a0 6)).toNatClampNeg (I 4 7)) a0 6)).toNatClampNeg 0) 4 7) : Int32).toInt = 16 then (tm_bV (F_28 [.ref 4] (mk (tm_u (tm_u I (tm_RT τ a0 2) ((I a0 6)).toNatClampNeg (I 4 7)) (tm_RT τ a0 4) (((tm_u I (tm_RT τ a0 2) ((I a0 6)).toNatClampNeg (I 4 7)) a0 6)).toNatClampNeg 0) J τ)) fun M => R_76 64 [(0, .ref a0), (1, .ref 4)] [] M) else (if (((tm_u (tm_u I (tm_RT τ a0 2) ((I a0 6)).toNatClampNeg (I 4 7)) (tm_RT τ a0 4) (((tm_u I (tm_RT τ a0 2) ((I a0 6)).toNatClampNeg (I 4 7)) a0 6)).toNatClampNeg 0) 4 7) : Int32).toInt = 17 then (tm_bV (F_28 [.ref 4] (mk (tm_u (tm_u I (tm_RT τ a0 2) ((I a0 6)).toNatClampNeg (I 4 7)) (tm_RT τ a0 4) (((tm_u I (tm_RT τ a0 2) ((I a0 6)).toNatClampNeg (I 4 7)) a0 6)).toNatClampNeg 0) J τ)) fun M => R_76 64 [(0, .ref a0), (1, .ref 4)] [] M) else (if (((tm_u (tm_u I (tm_RT τ a0 2) ((I a0 6)).toNatClampNeg (I 4 7)) (tm_RT τ a0 4) (((tm_u I (tm_RT τ a0 2) ((I a0 6)).toNatClampNeg (I 4 7)) a0 6)).toNatClampNeg 0) 4 7) : Int32).toInt = 18 then (tm_bV (F_28 [.ref 4] (mk (tm_u (tm_u I (tm_RT τ a0 2) ((I a0 6)).toNatClampNeg (I 4 7)) (tm_RT τ a0 4) (((tm_u I (tm_RT τ a0 2) ((I a0 6)).toNatClampNeg (I 4 7)) a0 6)).toNatClampNeg 0) J τ)) fun M => R_76 74 [(0, .ref a0), (1, .ref 4), (2, .ref a2)] [] M) else (if (((tm_u (tm_u I (tm_RT τ a0 2) ((I a0 6)).toNatClampNeg (I 4 7)) (tm_RT τ a0 4) (((tm_u I (tm_RT τ a0 2) ((I a0 6)).toNatClampNeg (I 4 7)) a0 6)).toNatClampNeg 0) 4 7) : Int32).toInt = 19 then (tm_bI (F_30 [.ref 4, .int 2] (mk (tm_u (tm_u I (tm_RT τ a0 2) ((I a0 6)).toNatClampNeg (I 4 7)) (tm_RT τ a0 4) (((tm_u I (tm_RT τ a0 2) ((I a0 6)).toNatClampNeg (I 4 7)) a0 6)).toNatClampNeg 0) J τ)) fun r M => R_76 86 [] [.int r] M) else (if (((tm_u (tm_u I (tm_RT τ a0 2) ((I a0 6)).toNatClampNeg (I 4 7)) (tm_RT τ a0 4) (((tm_u I (tm_RT τ a0 2) ((I a0 6)).toNatClampNeg (I 4 7)) a0 6)).toNatClampNeg 0) 4 7) : Int32).toInt = 20 then (tm_bV (F_28 [.ref 4] (mk (tm_u (tm_u I (tm_RT τ a0 2) ((I a0 6)).toNatClampNeg (I 4 7)) (tm_RT τ a0 4) (((tm_u I (tm_RT τ a0 2) ((I a0 6)).toNatClampNeg (I 4 7)) a0 6)).toNatClampNeg 0) J τ)) fun M => R_76 64 [(0, .ref a0), (1, .ref 4)] [] M) else (tm_bI (F_30 [.ref 4, .int 2] (mk (tm_u (tm_u I (tm_RT τ a0 2) ((I a0 6)).toNatClampNeg (I 4 7)) (tm_RT τ a0 4) (((tm_u I (tm_RT τ a0 2) ((I a0 6)).toNatClampNeg (I 4 7)) a0 6)).toNatClampNeg 0) J τ)) fun r M => R_76 86 [] [.int r] M)))))) else none) else none) else none) else none) else none) else none) else none) else none) := rfl
set_option maxRecDepth 20000 in
theorem e_76_64 (I : Nat → Nat → Int32) (J : Nat → Nat → Int64) (τ : tm_Tu) (a0 : Nat) : R_76 64 [(0, .ref a0), (1, .ref 4)] [] (mk I J τ) = (if kdm a0 = 107 then (tm_bI (F_74 [.ref a0, .ref 4] (mk I J τ)) fun r M => R_76 69 [] [.int r] M) else none) := (tm_F_fix _ _ _ _ _ _ _ _ _ _ _).trans rfl
set_option maxRecDepth 20000 in
theorem e_76_69 (I : Nat → Nat → Int32) (J : Nat → Nat → Int64) (τ : tm_Tu) (xs0 : Int32) : R_76 69 [] [.int xs0] (mk I J τ) = (if xs0 = 0 ∨ xs0 = 1 then some (some (.int xs0), (mk I J τ)) else none) := (tm_F_fix _ _ _ _ _ _ _ _ _ _ _).trans rfl
set_option maxRecDepth 20000 in
theorem e_76_74 (I : Nat → Nat → Int32) (J : Nat → Nat → Int64) (τ : tm_Tu) (a0 : Nat) (a2 : Nat) : R_76 74 [(0, .ref a0), (1, .ref 4), (2, .ref a2)] [] (mk I J τ) = (if kdm a0 = 107 then (tm_bI (F_75 [.ref a0, .ref 4, .ref a2] (mk I J τ)) fun r M => R_76 80 [] [.int r] M) else none) := (tm_F_fix _ _ _ _ _ _ _ _ _ _ _).trans rfl
set_option maxRecDepth 20000 in
theorem e_76_80 (I : Nat → Nat → Int32) (J : Nat → Nat → Int64) (τ : tm_Tu) (xs0 : Int32) : R_76 80 [] [.int xs0] (mk I J τ) = (if xs0 = 0 ∨ xs0 = 1 then some (some (.int xs0), (mk I J τ)) else none) := (tm_F_fix _ _ _ _ _ _ _ _ _ _ _).trans rfl
set_option maxRecDepth 20000 in
theorem e_76_86 (I : Nat → Nat → Int32) (J : Nat → Nat → Int64) (τ : tm_Tu) (xs0 : Int32) : R_76 86 [] [.int xs0] (mk I J τ) = (if xs0 = 0 ∨ xs0 = 1 then some (some (.int xs0), (mk I J τ)) else none) := (tm_F_fix _ _ _ _ _ _ _ _ _ _ _).trans rfl
noncomputable def R_77 : tm_K := tm_F tm_sh none G_77 true cd_77 cu_77 66
set_option maxRecDepth 20000 in
theorem e_77 (I : Nat → Nat → Int32) (J : Nat → Nat → Int64) (τ : tm_Tu) (a0 : Nat) (a2 : Nat) : F_77 [.ref a0, .ref 4, .ref a2] (mk I J τ) = (if kdm a0 = 107 then (if (I a0 6) ≤ 0 then R_77 22 [(0, .ref a0), (1, .ref 4), (2, .ref a2)] [.int 0] (mk I J τ) else (if kdm a0 = 107 then (if kdm a0 = 107 then (if (tm_RT τ a0 0) = 1 then none else (if kdm (tm_RT τ a0 0) = 1 then (if 0 ≤ ((I a0 6) - 1) ∧ (((I a0 6) - 1)).toNatClampNeg < (tm_sh (tm_RT τ a0 0)).2 then R_77 22 [(0, .ref a0), (1, .ref 4), (2, .ref a2)] [.int (I (tm_RT τ a0 0) (((I a0 6) - 1)).toNatClampNeg)] (mk I J τ) else none) else none)) else none) else none)) else none) := rfl
set_option maxRecDepth 20000 in
theorem e_77_22 (I : Nat → Nat → Int32) (J : Nat → Nat → Int64) (τ : tm_Tu) (a0 : Nat) (a2 : Nat) (xs0 : Int32) : R_77 22 [(0, .ref a0), (1, .ref 4), (2, .ref a2)] [.int xs0] (mk I J τ) = (tm_bI (F_31 [.ref 4, .int 15] (mk I J τ)) fun r M => R_77 29 [(0, .ref a0), (1, .ref 4), (2, .ref a2), (3, .int xs0)] [.int r] M) := (tm_F_fix _ _ _ _ _ _ _ _ _ _ _).trans rfl
set_option maxRecDepth 20000 in
theorem e_77_29 (I : Nat → Nat → Int32) (J : Nat → Nat → Int64) (τ : tm_Tu) (a0 : Nat) (a2 : Nat) (x3 : Int32) (xs0 : Int32) : R_77 29 [(0, .ref a0), (1, .ref 4), (2, .ref a2), (3, .int x3)] [.int xs0] (mk I J τ) = (if xs0 = 0 then R_77 46 [] [] (mk I J τ) else (if kdm a0 = 107 then (tm_bI (F_36 [.ref 4, .int x3, .int ((I a0 5) - 1)] (mk I J τ)) fun r M => R_77 43 [(0, .ref a0), (1, .ref 4), (2, .ref a2)] [.int r] M) else none)) := (tm_F_fix _ _ _ _ _ _ _ _ _ _ _).trans rfl
set_option maxRecDepth 20000 in
theorem e_77_43 (I : Nat → Nat → Int32) (J : Nat → Nat → Int64) (τ : tm_Tu) (a0 : Nat) (a2 : Nat) (xs0 : Int32) : R_77 43 [(0, .ref a0), (1, .ref 4), (2, .ref a2)] [.int xs0] (mk I J τ) = (if xs0 = 0 then R_77 46 [] [] (mk I J τ) else (if kdm a0 = 107 then (if kdm a0 = 107 then (if kdm (tm_RT τ a0 0) = 1 then (if 0 ≤ (I a0 6) ∧ ((I a0 6)).toNatClampNeg < (tm_sh (tm_RT τ a0 0)).2 then (tm_bV (F_28 [.ref 4] (mk (tm_u I (tm_RT τ a0 0) ((I a0 6)).toNatClampNeg (I 4 8)) J τ)) fun M => R_77 65 [(0, .ref a0), (1, .ref 4), (2, .ref a2)] [] M) else none) else none) else none) else none)) := (tm_F_fix _ _ _ _ _ _ _ _ _ _ _).trans rfl
set_option maxRecDepth 20000 in
theorem e_77_46 (I : Nat → Nat → Int32) (J : Nat → Nat → Int64) (τ : tm_Tu)  : R_77 46 [] [] (mk I J τ) = some (some (.int 0), (mk I J τ)) := (tm_F_fix _ _ _ _ _ _ _ _ _ _ _).trans rfl
set_option maxRecDepth 20000 in
theorem e_77_65 (I : Nat → Nat → Int32) (J : Nat → Nat → Int64) (τ : tm_Tu) (a0 : Nat) (a2 : Nat) : R_77 65 [(0, .ref a0), (1, .ref 4), (2, .ref a2)] [] (mk I J τ) = (tm_bI (F_36 [.ref 4, .int 0, .int 5] (mk I J τ)) fun r M => R_77 71 [(0, .ref a0), (1, .ref 4), (2, .ref a2)] [.int r] M) := (tm_F_fix _ _ _ _ _ _ _ _ _ _ _).trans rfl
set_option maxRecDepth 20000 in
theorem e_77_71 (I : Nat → Nat → Int32) (J : Nat → Nat → Int64) (τ : tm_Tu) (a0 : Nat) (a2 : Nat) (xs0 : Int32) : R_77 71 [(0, .ref a0), (1, .ref 4), (2, .ref a2)] [.int xs0] (mk I J τ) = (if xs0 = 0 then some (some (.int 0), (mk I J τ)) else (if kdm a0 = 107 then (if kdm a0 = 107 then (if kdm (tm_RT τ a0 1) = 1 then (if 0 ≤ (I a0 6) ∧ ((I a0 6)).toNatClampNeg < (tm_sh (tm_RT τ a0 1)).2 then (tm_bV (F_28 [.ref 4] (mk (tm_u I (tm_RT τ a0 1) ((I a0 6)).toNatClampNeg (I 4 8)) J τ)) fun M => R_77 93 [(0, .ref a0), (1, .ref 4), (2, .ref a2)] [] M) else none) else none) else none) else none)) := (tm_F_fix _ _ _ _ _ _ _ _ _ _ _).trans rfl
set_option maxRecDepth 20000 in
theorem e_77_93 (I : Nat → Nat → Int32) (J : Nat → Nat → Int64) (τ : tm_Tu) (a0 : Nat) (a2 : Nat) : R_77 93 [(0, .ref a0), (1, .ref 4), (2, .ref a2)] [] (mk I J τ) = (if kdm a0 = 107 then (tm_bI (F_76 [.ref a0, .ref 4, .ref a2] (mk I J τ)) fun r M => R_77 99 [(1, .ref 4)] [.int r] M) else none) := (tm_F_fix _ _ _ _ _ _ _ _ _ _ _).trans rfl
set_option maxRecDepth 20000 in
theorem e_77_99 (I : Nat → Nat → Int32) (J : Nat → Nat → Int64) (τ : tm_Tu) (xs0 : Int32) : R_77 99 [(1, .ref 4)] [.int xs0] (mk I J τ) = (if xs0 = 0 then R_77 115 [] [] (mk I J τ) else (tm_bI (F_31 [.ref 4, .int 34] (mk I J τ)) fun r M => R_77 108 [] [.int r] M)) := (tm_F_fix _ _ _ _ _ _ _ _ _ _ _).trans rfl
set_option maxRecDepth 20000 in
theorem e_77_108 (I : Nat → Nat → Int32) (J : Nat → Nat → Int64) (τ : tm_Tu) (xs0 : Int32) : R_77 108 [] [.int xs0] (mk I J τ) = (if xs0 = 0 then R_77 115 [] [] (mk I J τ) else R_77 116 [] [.int 1] (mk I J τ)) := (tm_F_fix _ _ _ _ _ _ _ _ _ _ _).trans rfl
set_option maxRecDepth 20000 in
theorem e_77_115 (I : Nat → Nat → Int32) (J : Nat → Nat → Int64) (τ : tm_Tu)  : R_77 115 [] [] (mk I J τ) = R_77 116 [] [.int 0] (mk I J τ) := (tm_F_fix _ _ _ _ _ _ _ _ _ _ _).trans rfl
set_option maxRecDepth 20000 in
theorem e_77_116 (I : Nat → Nat → Int32) (J : Nat → Nat → Int64) (τ : tm_Tu) (xs0 : Int32) : R_77 116 [] [.int xs0] (mk I J τ) = (if xs0 = 0 ∨ xs0 = 1 then some (some (.int xs0), (mk I J τ)) else none) := (tm_F_fix _ _ _ _ _ _ _ _ _ _ _).trans rfl
noncomputable def R_78 : tm_K := tm_F tm_sh none G_78 true cd_78 cu_78 61
set_option maxRecDepth 20000 in
theorem e_78 (I : Nat → Nat → Int32) (J : Nat → Nat → Int64) (τ : tm_Tu) (a0 : Nat) (a2 : Nat) : F_78 [.ref a0, .ref 4, .ref a2] (mk I J τ) = (if kdm a0 = 107 then (tm_bI (F_31 [.ref 4, .int 14] (mk (tm_u I a0 6 0) J τ)) fun r M => R_78 11 [(0, .ref a0), (1, .ref 4), (2, .ref a2)] [.int r] M) else none) := rfl
set_option maxRecDepth 20000 in
theorem e_78_11 (I : Nat → Nat → Int32) (J : Nat → Nat → Int64) (τ : tm_Tu) (a0 : Nat) (a2 : Nat) (xs0 : Int32) : R_78 11 [(0, .ref a0), (1, .ref 4), (2, .ref a2)] [.int xs0] (mk I J τ) = (if xs0 = 0 then R_78 25 [] [] (mk I J τ) else (tm_bI (F_36 [.ref 4, .int 1, .int 200] (mk I J τ)) fun r M => R_78 22 [(0, .ref a0), (1, .ref 4), (2, .ref a2)] [.int r] M)) := (tm_F_fix _ _ _ _ _ _ _ _ _ _ _).trans rfl
set_option maxRecDepth 20000 in
theorem e_78_22 (I : Nat → Nat → Int32) (J : Nat → Nat → Int64) (τ : tm_Tu) (a0 : Nat) (a2 : Nat) (xs0 : Int32) : R_78 22 [(0, .ref a0), (1, .ref 4), (2, .ref a2)] [.int xs0] (mk I J τ) = (if xs0 = 0 then R_78 25 [] [] (mk I J τ) else (if kdm a0 = 107 then (tm_bV (F_28 [.ref 4] (mk (tm_u I a0 5 (I 4 8)) J τ)) fun M => R_78 39 [(0, .ref a0), (1, .ref 4), (2, .ref a2)] [] M) else none)) := (tm_F_fix _ _ _ _ _ _ _ _ _ _ _).trans rfl
set_option maxRecDepth 20000 in
theorem e_78_25 (I : Nat → Nat → Int32) (J : Nat → Nat → Int64) (τ : tm_Tu)  : R_78 25 [] [] (mk I J τ) = some (some (.int 0), (mk I J τ)) := (tm_F_fix _ _ _ _ _ _ _ _ _ _ _).trans rfl
set_option maxRecDepth 20000 in
theorem e_78_39 (I : Nat → Nat → Int32) (J : Nat → Nat → Int64) (τ : tm_Tu) (a0 : Nat) (a2 : Nat) : R_78 39 [(0, .ref a0), (1, .ref 4), (2, .ref a2)] [] (mk I J τ) = (tm_bI (F_31 [.ref 4, .int 34] (mk I J τ)) fun r M => R_78 45 [(0, .ref a0), (1, .ref 4), (2, .ref a2)] [.int r] M) := (tm_F_fix _ _ _ _ _ _ _ _ _ _ _).trans rfl
set_option maxRecDepth 20000 in
theorem e_78_45 (I : Nat → Nat → Int32) (J : Nat → Nat → Int64) (τ : tm_Tu) (a0 : Nat) (a2 : Nat) (xs0 : Int32) : R_78 45 [(0, .ref a0), (1, .ref 4), (2, .ref a2)] [.int xs0] (mk I J τ) = (if xs0 = 0 then some (some (.int 0), (mk I J τ)) else R_78 50 [(0, .ref a0), (1, .ref 4), (2, .ref a2)] [] (mk I J τ)) := (tm_F_fix _ _ _ _ _ _ _ _ _ _ _).trans rfl
set_option maxRecDepth 20000 in
theorem e_78_50 (I : Nat → Nat → Int32) (J : Nat → Nat → Int64) (τ : tm_Tu) (a0 : Nat) (a2 : Nat) : R_78 50 [(0, .ref a0), (1, .ref 4), (2, .ref a2)] [] (mk I J τ) = (if kdm a0 = 107 then (if 60 ≤ (I a0 6) then R_78 92 [(1, .ref 4)] [] (mk I J τ) else (if (I 4 7) = 15 then (if kdm a0 = 107 then (tm_bI (F_77 [.ref a0, .ref 4, .ref a2] (mk I J τ)) fun r M => R_78 74 [(0, .ref a0), (1, .ref 4), (2, .ref a2)] [.int r] M) else none) else R_78 92 [(1, .ref 4)] [] (mk I J τ))) else none) := (tm_F_fix _ _ _ _ _ _ _ _ _ _ _).trans rfl
set_option maxRecDepth 20000 in
theorem e_78_74 (I : Nat → Nat → Int32) (J : Nat → Nat → Int64) (τ : tm_Tu) (a0 : Nat) (a2 : Nat) (xs0 : Int32) : R_78 74 [(0, .ref a0), (1, .ref 4), (2, .ref a2)] [.int xs0] (mk I J τ) = (if xs0 = 0 then some (some (.int 0), (mk I J τ)) else (if kdm a0 = 107 then (if kdm a0 = 107 then R_78 50 [(0, .ref a0), (1, .ref 4), (2, .ref a2)] [] (mk (tm_u I a0 6 ((I a0 6) + 1)) J τ) else none) else none)) := (tm_F_fix _ _ _ _ _ _ _ _ _ _ _).trans rfl
set_option maxRecDepth 20000 in
theorem e_78_92 (I : Nat → Nat → Int32) (J : Nat → Nat → Int64) (τ : tm_Tu)  : R_78 92 [(1, .ref 4)] [] (mk I J τ) = (if (I 4 7) = 35 then R_78 109 [] [] (mk I J τ) else (tm_bI (F_30 [.ref 4, .int 2] (mk I J τ)) fun r M => R_78 106 [] [.int r] M)) := (tm_F_fix _ _ _ _ _ _ _ _ _ _ _).trans rfl
set_option maxRecDepth 20000 in
theorem e_78_106 (I : Nat → Nat → Int32) (J : Nat → Nat → Int64) (τ : tm_Tu) (xs0 : Int32) : R_78 106 [] [.int xs0] (mk I J τ) = (if xs0 = 0 then R_78 114 [] [.int 0] (mk I J τ) else R_78 109 [] [] (mk I J τ)) := (tm_F_fix _ _ _ _ _ _ _ _ _ _ _).trans rfl
set_option maxRecDepth 20000 in
theorem e_78_109 (I : Nat → Nat → Int32) (J : Nat → Nat → Int64) (τ : tm_Tu)  : R_78 109 [] [] (mk I J τ) = R_78 114 [] [.int 1] (mk I J τ) := (tm_F_fix _ _ _ _ _ _ _ _ _ _ _).trans rfl
set_option maxRecDepth 20000 in
theorem e_78_114 (I : Nat → Nat → Int32) (J : Nat → Nat → Int64) (τ : tm_Tu) (xs0 : Int32) : R_78 114 [] [.int xs0] (mk I J τ) = (if xs0 = 0 ∨ xs0 = 1 then some (some (.int xs0), (mk I J τ)) else none) := (tm_F_fix _ _ _ _ _ _ _ _ _ _ _).trans rfl
noncomputable def R_79 : tm_K := tm_F tm_sh none G_79 false cd_79 cu_79 39
set_option maxRecDepth 20000 in
theorem e_79 (I : Nat → Nat → Int32) (J : Nat → Nat → Int64) (τ : tm_Tu)  : F_79 [.ref 2] (mk I J τ) = (tm_bI (F_19 [.ref 2] (mk I J τ)) fun r M => R_79 12 [(0, .ref 2)] [.int r, .ref 3, .ref 4] M) := rfl
set_option maxRecDepth 20000 in
theorem e_79_12 (I : Nat → Nat → Int32) (J : Nat → Nat → Int64) (τ : tm_Tu) (xs0 : Int32) : R_79 12 [(0, .ref 2)] [.int xs0, .ref 3, .ref 4] (mk I J τ) = (tm_bV (F_29 [.ref 4, .ref 3, .int xs0] (mk I J τ)) fun M => R_79 15 [(0, .ref 2)] [] M) := (tm_F_fix _ _ _ _ _ _ _ _ _ _ _).trans rfl
set_option maxRecDepth 20000 in
theorem e_79_15 (I : Nat → Nat → Int32) (J : Nat → Nat → Int64) (τ : tm_Tu)  : R_79 15 [(0, .ref 2)] [] (mk I J τ) = (if kdm τ.2.2.2.1 = 107 then (tm_bI (F_78 [.ref τ.2.2.2.1, .ref 4, .ref τ.1] (mk I J τ)) fun r M => R_79 30 [(0, .ref 2)] [.int r] M) else none) := (tm_F_fix _ _ _ _ _ _ _ _ _ _ _).trans rfl
set_option maxRecDepth 20000 in
theorem e_79_30 (I : Nat → Nat → Int32) (J : Nat → Nat → Int64) (τ : tm_Tu) (xs0 : Int32) : R_79 30 [(0, .ref 2)] [.int xs0] (mk I J τ) = (if xs0 = 0 then some (some (.int (-1)), (mk I J τ)) else (tm_bV (F_52 [.ref 8] (tm_sr (tm_sr (mk (tm_u I 2 10 1) J τ) 2 9 τ.2.2.1) 2 8 τ.2.2.2.1)) fun M => R_79 68 [(0, .ref 2)] [] M)) := (tm_F_fix _ _ _ _ _ _ _ _ _ _ _).trans rfl
set_option maxRecDepth 20000 in
theorem e_79_68 (I : Nat → Nat → Int32) (J : Nat → Nat → Int64) (τ : tm_Tu)  : R_79 68 [(0, .ref 2)] [] (mk I J τ) = (if kdm τ.2.2.1 = 107 then some (some (.int (I τ.2.2.1 6)), (mk I J τ)) else none) := (tm_F_fix _ _ _ _ _ _ _ _ _ _ _).trans rfl
noncomputable def R_80 : tm_K := tm_F tm_sh none G_80 false cd_80 cu_80 205
set_option maxRecDepth 20000 in
theorem e_80 (I : Nat → Nat → Int32) (J : Nat → Nat → Int64) (τ : tm_Tu)  : F_80 [.ref 131] (mk I J τ) = (tm_bI (F_62 [.ref 131, .long 24948] (mk I J τ)) fun r M => R_80 7 [(0, .ref 131)] [.int r] M) := rfl
set_option maxRecDepth 20000 in
theorem e_80_7 (I : Nat → Nat → Int32) (J : Nat → Nat → Int64) (τ : tm_Tu) (xs0 : Int32) : R_80 7 [(0, .ref 131)] [.int xs0] (mk I J τ) = (if xs0 = 0 then R_80 24 [(0, .ref 131)] [] (mk I J τ) else (if 0 ≤ (I 131 31) ∧ ((I 131 31)).toNatClampNeg < 2 then (if (I 144 ((I 131 31)).toNatClampNeg) = 60 then R_80 24 [(0, .ref 131)] [] (mk I J τ) else R_80 28 [(0, .ref 131)] [] (mk I J τ)) else none)) := (tm_F_fix _ _ _ _ _ _ _ _ _ _ _).trans rfl
set_option maxRecDepth 20000 in
theorem e_80_24 (I : Nat → Nat → Int32) (J : Nat → Nat → Int64) (τ : tm_Tu)  : R_80 24 [(0, .ref 131)] [] (mk I J τ) = (tm_bV (F_64 [.ref 131] (mk I J τ)) fun M => R_80 28 [(0, .ref 131)] [] M) := (tm_F_fix _ _ _ _ _ _ _ _ _ _ _).trans rfl
set_option maxRecDepth 20000 in
theorem e_80_28 (I : Nat → Nat → Int32) (J : Nat → Nat → Int64) (τ : tm_Tu)  : R_80 28 [(0, .ref 131)] [] (mk I J τ) = (tm_bI (F_61 [.ref 131] (mk I J τ)) fun r M => R_80 32 [(0, .ref 131)] [.int r] M) := (tm_F_fix _ _ _ _ _ _ _ _ _ _ _).trans rfl
set_option maxRecDepth 20000 in
theorem e_80_32 (I : Nat → Nat → Int32) (J : Nat → Nat → Int64) (τ : tm_Tu) (xs0 : Int32) : R_80 32 [(0, .ref 131)] [.int xs0] (mk I J τ) = (if xs0 = 0 then some (none, (mk I J τ)) else (tm_bV (F_60 [.ref 131] (mk I J τ)) fun M => R_80 40 [(0, .ref 131)] [] M)) := (tm_F_fix _ _ _ _ _ _ _ _ _ _ _).trans rfl
set_option maxRecDepth 20000 in
theorem e_80_40 (I : Nat → Nat → Int32) (J : Nat → Nat → Int64) (τ : tm_Tu)  : R_80 40 [(0, .ref 131)] [] (mk I J τ) = (if 0 ≤ (I 131 31) ∧ ((I 131 31)).toNatClampNeg < 2 then (if 0 ≤ (I 131 31) ∧ ((I 131 31)).toNatClampNeg < 2 then (if (I 144 ((I 131 31)).toNatClampNeg) = 0 then R_80 88 [(0, .ref 131), (1, .int ((60 * (I 131 31)) + (I 144 ((I 131 31)).toNatClampNeg)))] [.int 0, .ref 131, .int ((60 * (I 131 31)) + (I 144 ((I 131 31)).toNatClampNeg)), .ref 146] (mk I J τ) else (if 0 ≤ (((60 * (I 131 31)) + (I 144 ((I 131 31)).toNatClampNeg)) - 1) ∧ ((((60 * (I 131 31)) + (I 144 ((I 131 31)).toNatClampNeg)) - 1)).toNatClampNeg < 120 then R_80 88 [(0, .ref 131), (1, .int ((60 * (I 131 31)) + (I 144 ((I 131 31)).toNatClampNeg)))] [.int (I 146 ((((60 * (I 131 31)) + (I 144 ((I 131 31)).toNatClampNeg)) - 1)).toNatClampNeg), .ref 131, .int ((60 * (I 131 31)) + (I 144 ((I 131 31)).toNatClampNeg)), .ref 146] (mk I J τ) else none)) else none) else none) := (tm_F_fix _ _ _ _ _ _ _ _ _ _ _).trans rfl
set_option maxRecDepth 20000 in
theorem e_80_88 (I : Nat → Nat → Int32) (J : Nat → Nat → Int64) (τ : tm_Tu) (x1 : Int32) (xs0 : Int32) (xs2 : Int32) : R_80 88 [(0, .ref 131), (1, .int x1)] [.int xs0, .ref 131, .int xs2, .ref 146] (mk I J τ) = (if 0 ≤ (I 131 31) ∧ ((I 131 31)).toNatClampNeg < 2 then (tm_bI (F_67 [.ref 131, .int xs0, .int ((I 145 ((I 131 31)).toNatClampNeg) - 1)] (mk I J τ)) fun r M => R_80 102 [(0, .ref 131), (1, .int x1)] [.int r, .int xs2, .ref 146] M) else none) := (tm_F_fix _ _ _ _ _ _ _ _ _ _ _).trans rfl
set_option maxRecDepth 20000 in
theorem e_80_102 (I : Nat → Nat → Int32) (J : Nat → Nat → Int64) (τ : tm_Tu) (x1 : Int32) (xs0 : Int32) (xs1 : Int32) : R_80 102 [(0, .ref 131), (1, .int x1)] [.int xs0, .int xs1, .ref 146] (mk I J τ) = (if 0 ≤ xs1 ∧ xs1.toNatClampNeg < 120 then (tm_bI (F_67 [.ref 131, .int 0, .int 5] (mk (tm_u I 146 xs1.toNatClampNeg xs0) J τ)) fun r M => R_80 114 [(0, .ref 131), (1, .int x1)] [.int r, .int x1, .ref 147] M) else none) := (tm_F_fix _ _ _ _ _ _ _ _ _ _ _).trans rfl
set_option maxRecDepth 20000 in
theorem e_80_114 (I : Nat → Nat → Int32) (J : Nat → Nat → Int64) (τ : tm_Tu) (x1 : Int32) (xs0 : Int32) (xs1 : Int32) : R_80 114 [(0, .ref 131), (1, .int x1)] [.int xs0, .int xs1, .ref 147] (mk I J τ) = (if 0 ≤ xs1 ∧ xs1.toNatClampNeg < 120 then (tm_bI (F_62 [.ref 131, .long 26990] (mk (tm_u I 147 xs1.toNatClampNeg xs0) J τ)) fun r M => R_80 127 [(0, .ref 131), (1, .int x1)] [.int r, .int x1, .ref 148] M) else none) := (tm_F_fix _ _ _ _ _ _ _ _ _ _ _).trans rfl
set_option maxRecDepth 20000 in
theorem e_80_127 (I : Nat → Nat → Int32) (J : Nat → Nat → Int64) (τ : tm_Tu) (x1 : Int32) (xs0 : Int32) (xs1 : Int32) : R_80 127 [(0, .ref 131), (1, .int x1)] [.int xs0, .int xs1, .ref 148] (mk I J τ) = (if xs0 = 0 then (tm_bI (F_62 [.ref 131, .long 7304564] (mk I J τ)) fun r M => R_80 141 [(0, .ref 131), (1, .int x1)] [.int r, .int xs1, .ref 148] M) else R_80 163 [(0, .ref 131), (1, .int x1)] [.int 0, .int xs1, .ref 148] (mk I J τ)) := (tm_F_fix _ _ _ _ _ _ _ _ _ _ _).trans rfl
set_option maxRecDepth 20000 in
theorem e_80_141 (I : Nat → Nat → Int32) (J : Nat → Nat → Int64) (τ : tm_Tu) (x1 : Int32) (xs0 : Int32) (xs1 : Int32) : R_80 141 [(0, .ref 131), (1, .int x1)] [.int xs0, .int xs1, .ref 148] (mk I J τ) = (if xs0 = 0 then (tm_bI (F_62 [.ref 131, .long 1685022067] (mk I J τ)) fun r M => R_80 155 [(0, .ref 131), (1, .int x1)] [.int r, .int xs1, .ref 148] M) else R_80 163 [(0, .ref 131), (1, .int x1)] [.int 1, .int xs1, .ref 148] (mk I J τ)) := (tm_F_fix _ _ _ _ _ _ _ _ _ _ _).trans rfl
set_option maxRecDepth 20000 in
theorem e_80_155 (I : Nat → Nat → Int32) (J : Nat → Nat → Int64) (τ : tm_Tu) (x1 : Int32) (xs0 : Int32) (xs1 : Int32) : R_80 155 [(0, .ref 131), (1, .int x1)] [.int xs0, .int xs1, .ref 148] (mk I J τ) = (if xs0 = 0 then R_80 163 [(0, .ref 131), (1, .int x1)] [.int 3, .int xs1, .ref 148] (mk I J τ) else R_80 163 [(0, .ref 131), (1, .int x1)] [.int 2, .int xs1, .ref 148] (mk I J τ)) := (tm_F_fix _ _ _ _ _ _ _ _ _ _ _).trans rfl
set_option maxRecDepth 20000 in
theorem e_80_163 (I : Nat → Nat → Int32) (J : Nat → Nat → Int64) (τ : tm_Tu) (x1 : Int32) (xs0 : Int32) (xs1 : Int32) : R_80 163 [(0, .ref 131), (1, .int x1)] [.int xs0, .int xs1, .ref 148] (mk I J τ) = (if 0 ≤ xs1 ∧ xs1.toNatClampNeg < 120 then (tm_bI (F_62 [.ref 131, .long 26990] (mk (tm_u I 148 xs1.toNatClampNeg xs0) J τ)) fun r M => R_80 172 [(0, .ref 131), (1, .int x1)] [.int r, .ref 131] M) else none) := (tm_F_fix _ _ _ _ _ _ _ _ _ _ _).trans rfl
set_option maxRecDepth 20000 in
theorem e_80_172 (I : Nat → Nat → Int32) (J : Nat → Nat → Int64) (τ : tm_Tu) (x1 : Int32) (xs0 : Int32) : R_80 172 [(0, .ref 131), (1, .int x1)] [.int xs0, .ref 131] (mk I J τ) = (if xs0 = 0 then (tm_bI (F_62 [.ref 131, .long 7304564] (mk I J τ)) fun r M => R_80 182 [(0, .ref 131), (1, .int x1)] [.int r, .ref 131] M) else R_80 205 [(0, .ref 131), (1, .int x1)] [.ref 131] (mk I J τ)) := (tm_F_fix _ _ _ _ _ _ _ _ _ _ _).trans rfl
set_option maxRecDepth 20000 in
theorem e_80_182 (I : Nat → Nat → Int32) (J : Nat → Nat → Int64) (τ : tm_Tu) (x1 : Int32) (xs0 : Int32) : R_80 182 [(0, .ref 131), (1, .int x1)] [.int xs0, .ref 131] (mk I J τ) = (if xs0 = 0 then (tm_bI (F_62 [.ref 131, .long 1685022067] (mk I J τ)) fun r M => R_80 192 [(0, .ref 131), (1, .int x1)] [.int r, .ref 131] M) else R_80 205 [(0, .ref 131), (1, .int x1)] [.ref 131] (mk I J τ)) := (tm_F_fix _ _ _ _ _ _ _ _ _ _ _).trans rfl
set_option maxRecDepth 20000 in
theorem e_80_192 (I : Nat → Nat → Int32) (J : Nat → Nat → Int64) (τ : tm_Tu) (x1 : Int32) (xs0 : Int32) : R_80 192 [(0, .ref 131), (1, .int x1)] [.int xs0, .ref 131] (mk I J τ) = (if xs0 = 0 then (tm_bI (F_62 [.ref 131, .long 499850634611] (mk I J τ)) fun r M => R_80 202 [(0, .ref 131), (1, .int x1)] [.int r, .ref 131] M) else R_80 205 [(0, .ref 131), (1, .int x1)] [.ref 131] (mk I J τ)) := (tm_F_fix _ _ _ _ _ _ _ _ _ _ _).trans rfl
set_option maxRecDepth 20000 in
theorem e_80_202 (I : Nat → Nat → Int32) (J : Nat → Nat → Int64) (τ : tm_Tu) (x1 : Int32) (xs0 : Int32) : R_80 202 [(0, .ref 131), (1, .int x1)] [.int xs0, .ref 131] (mk I J τ) = (if xs0 = 0 then R_80 210 [(0, .ref 131), (1, .int x1)] [.int 0, .ref 131] (mk I J τ) else R_80 205 [(0, .ref 131), (1, .int x1)] [.ref 131] (mk I J τ)) := (tm_F_fix _ _ _ _ _ _ _ _ _ _ _).trans rfl
set_option maxRecDepth 20000 in
theorem e_80_205 (I : Nat → Nat → Int32) (J : Nat → Nat → Int64) (τ : tm_Tu) (x1 : Int32) : R_80 205 [(0, .ref 131), (1, .int x1)] [.ref 131] (mk I J τ) = R_80 210 [(0, .ref 131), (1, .int x1)] [.int 1, .ref 131] (mk I J τ) := (tm_F_fix _ _ _ _ _ _ _ _ _ _ _).trans rfl
set_option maxRecDepth 20000 in
theorem e_80_210 (I : Nat → Nat → Int32) (J : Nat → Nat → Int64) (τ : tm_Tu) (x1 : Int32) (xs0 : Int32) : R_80 210 [(0, .ref 131), (1, .int x1)] [.int xs0, .ref 131] (mk I J τ) = (tm_bV (F_66 [.ref 131, .int xs0] (mk I J τ)) fun M => R_80 213 [(0, .ref 131), (1, .int x1)] [] M) := (tm_F_fix _ _ _ _ _ _ _ _ _ _ _).trans rfl
set_option maxRecDepth 20000 in
theorem e_80_213 (I : Nat → Nat → Int32) (J : Nat → Nat → Int64) (τ : tm_Tu) (x1 : Int32) : R_80 213 [(0, .ref 131), (1, .int x1)] [] (mk I J τ) = (if 0 ≤ x1 ∧ x1.toNatClampNeg < 120 then (tm_bI (F_61 [.ref 131] (mk (tm_u I 150 x1.toNatClampNeg 0) J τ)) fun r M => R_80 224 [(0, .ref 131), (1, .int x1)] [.int r] M) else none) := (tm_F_fix _ _ _ _ _ _ _ _ _ _ _).trans rfl
set_option maxRecDepth 20000 in
theorem e_80_224 (I : Nat → Nat → Int32) (J : Nat → Nat → Int64) (τ : tm_Tu) (x1 : Int32) (xs0 : Int32) : R_80 224 [(0, .ref 131), (1, .int x1)] [.int xs0] (mk I J τ) = (if xs0 = 0 then R_80 319 [(0, .ref 131), (1, .int x1)] [] (mk I J τ) else (if 0 ≤ x1 ∧ x1.toNatClampNeg < 120 then (if (I 148 x1.toNatClampNeg) = 2 then (if (I 131 8) = 2 then R_80 249 [(0, .ref 131), (1, .int x1)] [] (mk I J τ) else (tm_bV (F_64 [.ref 131] (mk I J τ)) fun M => R_80 249 [(0, .ref 131), (1, .int x1)] [] M)) else R_80 319 [(0, .ref 131), (1, .int x1)] [] (mk I J τ)) else none)) := (tm_F_fix _ _ _ _ _ _ _ _ _ _ _).trans rfl
set_option maxRecDepth 20000 in
theorem e_80_249 (I : Nat → Nat → Int32) (J : Nat → Nat → Int64) (τ : tm_Tu) (x1 : Int32) : R_80 249 [(0, .ref 131), (1, .int x1)] [] (mk I J τ) = (tm_bI (F_65 [.ref 131, .int (I 131 21), .long (J 131 10)] (mk I J τ)) fun r M => R_80 266 [(0, .ref 131), (1, .int x1)] [.int r, .int x1, .ref 149] M) := (tm_F_fix _ _ _ _ _ _ _ _ _ _ _).trans rfl
set_option maxRecDepth 20000 in
theorem e_80_266 (I : Nat → Nat → Int32) (J : Nat → Nat → Int64) (τ : tm_Tu) (x1 : Int32) (xs0 : Int32) (xs1 : Int32) : R_80 266 [(0, .ref 131), (1, .int x1)] [.int xs0, .int xs1, .ref 149] (mk I J τ) = (if 0 ≤ xs1 ∧ xs1.toNatClampNeg < 120 then (tm_bI (F_61 [.ref 131] (mk (tm_u I 149 xs1.toNatClampNeg xs0) J τ)) fun r M => R_80 271 [(0, .ref 131), (1, .int x1)] [.int r] M) else none) := (tm_F_fix _ _ _ _ _ _ _ _ _ _ _).trans rfl
set_option maxRecDepth 20000 in
theorem e_80_271 (I : Nat → Nat → Int32) (J : Nat → Nat → Int64) (τ : tm_Tu) (x1 : Int32) (xs0 : Int32) : R_80 271 [(0, .ref 131), (1, .int x1)] [.int xs0] (mk I J τ) = (if xs0 = 0 then R_80 292 [(0, .ref 131), (1, .int x1)] [] (mk I J τ) else (if 0 ≤ x1 ∧ x1.toNatClampNeg < 120 then (if 0 ≤ (I 149 x1.toNatClampNeg) then R_80 292 [(0, .ref 131), (1, .int x1)] [] (mk I J τ) else (tm_bV (F_63 [.ref 131, .int 5, .int (I 131 6)] (mk I J τ)) fun M => R_80 292 [(0, .ref 131), (1, .int x1)] [] M)) else none)) := (tm_F_fix _ _ _ _ _ _ _ _ _ _ _).trans rfl
set_option maxRecDepth 20000 in
theorem e_80_292 (I : Nat → Nat → Int32) (J : Nat → Nat → Int64) (τ : tm_Tu) (x1 : Int32) : R_80 292 [(0, .ref 131), (1, .int x1)] [] (mk I J τ) = (tm_bI (F_61 [.ref 131] (mk I J τ)) fun r M => R_80 296 [(0, .ref 131), (1, .int x1)] [.int r] M) := (tm_F_fix _ _ _ _ _ _ _ _ _ _ _).trans rfl
set_option maxRecDepth 20000 in
theorem e_80_296 (I : Nat → Nat → Int32) (J : Nat → Nat → Int64) (τ : tm_Tu) (x1 : Int32) (xs0 : Int32) : R_80 296 [(0, .ref 131), (1, .int x1)] [.int xs0] (mk I J τ) = (if xs0 = 0 then R_80 303 [(0, .ref 131), (1, .int x1)] [] (mk I J τ) else (tm_bV (F_60 [.ref 131] (mk I J τ)) fun M => R_80 303 [(0, .ref 131), (1, .int x1)] [] M)) := (tm_F_fix _ _ _ _ _ _ _ _ _ _ _).trans rfl
set_option maxRecDepth 20000 in
theorem e_80_303 (I : Nat → Nat → Int32) (J : Nat → Nat → Int64) (τ : tm_Tu) (x1 : Int32) : R_80 303 [(0, .ref 131), (1, .int x1)] [] (mk I J τ) = (tm_bI (F_69 [.ref 131, .long 7883958458510370148] (mk I J τ)) fun r M => R_80 315 [(0, .ref 131)] [.int r, .int x1, .ref 150] M) := (tm_F_fix _ _ _ _ _ _ _ _ _ _ _).trans rfl
set_option maxRecDepth 20000 in
theorem e_80_315 (I : Nat → Nat → Int32) (J : Nat → Nat → Int64) (τ : tm_Tu) (xs0 : Int32) (xs1 : Int32) : R_80 315 [(0, .ref 131)] [.int xs0, .int xs1, .ref 150] (mk I J τ) = (if 0 ≤ xs1 ∧ xs1.toNatClampNeg < 120 then R_80 369 [(0, .ref 131)] [] (mk (tm_u I 150 xs1.toNatClampNeg (xs0 &&& 1)) J τ) else none) := (tm_F_fix _ _ _ _ _ _ _ _ _ _ _).trans rfl
set_option maxRecDepth 20000 in
theorem e_80_319 (I : Nat → Nat → Int32) (J : Nat → Nat → Int64) (τ : tm_Tu) (x1 : Int32) : R_80 319 [(0, .ref 131), (1, .int x1)] [] (mk I J τ) = (tm_bI (F_62 [.ref 131, .long 1818584692] (mk I J τ)) fun r M => R_80 331 [(0, .ref 131)] [.int r, .int x1, .ref 149] M) := (tm_F_fix _ _ _ _ _ _ _ _ _ _ _).trans rfl
set_option maxRecDepth 20000 in
theorem e_80_331 (I : Nat → Nat → Int32) (J : Nat → Nat → Int64) (τ : tm_Tu) (xs0 : Int32) (xs1 : Int32) : R_80 331 [(0, .ref 131)] [.int xs0, .int xs1, .ref 149] (mk I J τ) = (if xs0 = 0 then R_80 339 [(0, .ref 131)] [.int 1, .int xs1, .ref 149] (mk I J τ) else R_80 339 [(0, .ref 131)] [.int 0, .int xs1, .ref 149] (mk I J τ)) := (tm_F_fix _ _ _ _ _ _ _ _ _ _ _).trans rfl
set_option maxRecDepth 20000 in
theorem e_80_339 (I : Nat → Nat → Int32) (J : Nat → Nat → Int64) (τ : tm_Tu) (xs0 : Int32) (xs1 : Int32) : R_80 339 [(0, .ref 131)] [.int xs0, .int xs1, .ref 149] (mk I J τ) = (if 0 ≤ xs1 ∧ xs1.toNatClampNeg < 120 then (tm_bI (F_62 [.ref 131, .long 1818584692] (mk (tm_u I 149 xs1.toNatClampNeg xs0) J τ)) fun r M => R_80 348 [(0, .ref 131)] [.int r, .ref 131] M) else none) := (tm_F_fix _ _ _ _ _ _ _ _ _ _ _).trans rfl
set_option maxRecDepth 20000 in
theorem e_80_348 (I : Nat → Nat → Int32) (J : Nat → Nat → Int64) (τ : tm_Tu) (xs0 : Int32) : R_80 348 [(0, .ref 131)] [.int xs0, .ref 131] (mk I J τ) = (if xs0 = 0 then (tm_bI (F_62 [.ref 131, .long 491394656372] (mk I J τ)) fun r M => R_80 358 [(0, .ref 131)] [.int r, .ref 131] M) else R_80 361 [(0, .ref 131)] [.ref 131] (mk I J τ)) := (tm_F_fix _ _ _ _ _ _ _ _ _ _ _).trans rfl
set_option maxRecDepth 20000 in
theorem e_80_358 (I : Nat → Nat → Int32) (J : Nat → Nat → Int64) (τ : tm_Tu) (xs0 : Int32) : R_80 358 [(0, .ref 131)] [.int xs0, .ref 131] (mk I J τ) = (if xs0 = 0 then R_80 366 [(0, .ref 131)] [.int 0, .ref 131] (mk I J τ) else R_80 361 [(0, .ref 131)] [.ref 131] (mk I J τ)) := (tm_F_fix _ _ _ _ _ _ _ _ _ _ _).trans rfl
set_option maxRecDepth 20000 in
theorem e_80_361 (I : Nat → Nat → Int32) (J : Nat → Nat → Int64) (τ : tm_Tu)  : R_80 361 [(0, .ref 131)] [.ref 131] (mk I J τ) = R_80 366 [(0, .ref 131)] [.int 1, .ref 131] (mk I J τ) := (tm_F_fix _ _ _ _ _ _ _ _ _ _ _).trans rfl
set_option maxRecDepth 20000 in
theorem e_80_366 (I : Nat → Nat → Int32) (J : Nat → Nat → Int64) (τ : tm_Tu) (xs0 : Int32) : R_80 366 [(0, .ref 131)] [.int xs0, .ref 131] (mk I J τ) = (tm_bV (F_66 [.ref 131, .int xs0] (mk I J τ)) fun M => R_80 369 [(0, .ref 131)] [] M) := (tm_F_fix _ _ _ _ _ _ _ _ _ _ _).trans rfl
set_option maxRecDepth 20000 in
theorem e_80_369 (I : Nat → Nat → Int32) (J : Nat → Nat → Int64) (τ : tm_Tu)  : R_80 369 [(0, .ref 131)] [] (mk I J τ) = (tm_bI (F_68 [.ref 131, .int 59] (mk I J τ)) fun r M => R_80 376 [(0, .ref 131)] [.int r, .ref 131] M) := (tm_F_fix _ _ _ _ _ _ _ _ _ _ _).trans rfl
set_option maxRecDepth 20000 in
theorem e_80_376 (I : Nat → Nat → Int32) (J : Nat → Nat → Int64) (τ : tm_Tu) (xs0 : Int32) : R_80 376 [(0, .ref 131)] [.int xs0, .ref 131] (mk I J τ) = (tm_bV (F_66 [.ref 131, .int xs0] (mk I J τ)) fun M => R_80 379 [(0, .ref 131)] [] M) := (tm_F_fix _ _ _ _ _ _ _ _ _ _ _).trans rfl
set_option maxRecDepth 20000 in
theorem e_80_379 (I : Nat → Nat → Int32) (J : Nat → Nat → Int64) (τ : tm_Tu)  : R_80 379 [(0, .ref 131)] [] (mk I J τ) = (if 0 ≤ (I 131 31) ∧ ((I 131 31)).toNatClampNeg < 2 then (if 0 ≤ (I 131 31) ∧ ((I 131 31)).toNatClampNeg < 2 then some (none, (mk (tm_u I 144 ((I 131 31)).toNatClampNeg ((I 144 ((I 131 31)).toNatClampNeg) + 1)) J τ)) else none) else none) := (tm_F_fix _ _ _ _ _ _ _ _ _ _ _).trans rfl
noncomputable def R_81 : tm_K := tm_F tm_sh none G_81 false cd_81 cu_81 66
set_option maxRecDepth 20000 in
theorem e_81 (I : Nat → Nat → Int32) (J : Nat → Nat → Int64) (τ : tm_Tu)  : F_81 [.ref 131] (mk I J τ) = (tm_bV (F_54 [.ref 131] (mk I J τ)) fun M => R_81 4 [(0, .ref 131)] [] M) := rfl
set_option maxRecDepth 20000 in
theorem e_81_4 (I : Nat → Nat → Int32) (J : Nat → Nat → Int64) (τ : tm_Tu)  : R_81 4 [(0, .ref 131)] [] (mk I J τ) = (if 0 ≤ (1 - (I 131 30)) ∧ ((1 - (I 131 30))).toNatClampNeg < 2 then (tm_bV (F_60 [.ref 131] (mk (tm_u (tm_u I 131 31 (1 - (I 131 30))) 144 ((1 - (I 131 30))).toNatClampNeg 0) J τ)) fun M => R_81 28 [(0, .ref 131)] [] M) else none) := (tm_F_fix _ _ _ _ _ _ _ _ _ _ _).trans rfl
set_option maxRecDepth 20000 in
theorem e_81_28 (I : Nat → Nat → Int32) (J : Nat → Nat → Int64) (τ : tm_Tu)  : R_81 28 [(0, .ref 131)] [] (mk I J τ) = (tm_bI (F_62 [.ref 131, .long 422607680627] (mk I J τ)) fun r M => R_81 36 [(0, .ref 131)] [.int r, .ref 131] M) := (tm_F_fix _ _ _ _ _ _ _ _ _ _ _).trans rfl
set_option maxRecDepth 20000 in
theorem e_81_36 (I : Nat → Nat → Int32) (J : Nat → Nat → Int64) (τ : tm_Tu) (xs0 : Int32) : R_81 36 [(0, .ref 131)] [.int xs0, .ref 131] (mk I J τ) = (tm_bV (F_66 [.ref 131, .int xs0] (mk I J τ)) fun M => R_81 39 [(0, .ref 131)] [] M) := (tm_F_fix _ _ _ _ _ _ _ _ _ _ _).trans rfl
set_option maxRecDepth 20000 in
theorem e_81_39 (I : Nat → Nat → Int32) (J : Nat → Nat → Int64) (τ : tm_Tu)  : R_81 39 [(0, .ref 131)] [] (mk I J τ) = (tm_bI (F_67 [.ref 131, .int 1, .int 200] (mk I J τ)) fun r M => R_81 55 [(0, .ref 131)] [.int r, .int (I 131 31), .ref 145] M) := (tm_F_fix _ _ _ _ _ _ _ _ _ _ _).trans rfl
set_option maxRecDepth 20000 in
theorem e_81_55 (I : Nat → Nat → Int32) (J : Nat → Nat → Int64) (τ : tm_Tu) (xs0 : Int32) (xs1 : Int32) : R_81 55 [(0, .ref 131)] [.int xs0, .int xs1, .ref 145] (mk I J τ) = (if 0 ≤ xs1 ∧ xs1.toNatClampNeg < 2 then (tm_bI (F_68 [.ref 131, .int 59] (mk (tm_u I 145 xs1.toNatClampNeg xs0) J τ)) fun r M => R_81 63 [(0, .ref 131)] [.int r, .ref 131] M) else none) := (tm_F_fix _ _ _ _ _ _ _ _ _ _ _).trans rfl
set_option maxRecDepth 20000 in
theorem e_81_63 (I : Nat → Nat → Int32) (J : Nat → Nat → Int64) (τ : tm_Tu) (xs0 : Int32) : R_81 63 [(0, .ref 131)] [.int xs0, .ref 131] (mk I J τ) = (tm_bV (F_66 [.ref 131, .int xs0] (mk I J τ)) fun M => R_81 66 [(0, .ref 131)] [] M) := (tm_F_fix _ _ _ _ _ _ _ _ _ _ _).trans rfl
set_option maxRecDepth 20000 in
theorem e_81_66 (I : Nat → Nat → Int32) (J : Nat → Nat → Int64) (τ : tm_Tu)  : R_81 66 [(0, .ref 131)] [] (mk I J τ) = (tm_bI (F_61 [.ref 131] (mk I J τ)) fun r M => R_81 70 [(0, .ref 131)] [.int r] M) := (tm_F_fix _ _ _ _ _ _ _ _ _ _ _).trans rfl
set_option maxRecDepth 20000 in
theorem e_81_70 (I : Nat → Nat → Int32) (J : Nat → Nat → Int64) (τ : tm_Tu) (xs0 : Int32) : R_81 70 [(0, .ref 131)] [.int xs0] (mk I J τ) = (if xs0 = 0 then R_81 87 [(0, .ref 131)] [] (mk I J τ) else (if (I 131 8) = 0 then R_81 87 [(0, .ref 131)] [] (mk I J τ) else (tm_bV (F_80 [.ref 131] (mk I J τ)) fun M => R_81 84 [(0, .ref 131)] [] M))) := (tm_F_fix _ _ _ _ _ _ _ _ _ _ _).trans rfl
set_option maxRecDepth 20000 in
theorem e_81_84 (I : Nat → Nat → Int32) (J : Nat → Nat → Int64) (τ : tm_Tu)  : R_81 84 [(0, .ref 131)] [] (mk I J τ) = R_81 66 [(0, .ref 131)] [] (mk I J τ) := (tm_F_fix _ _ _ _ _ _ _ _ _ _ _).trans rfl
set_option maxRecDepth 20000 in
theorem e_81_87 (I : Nat → Nat → Int32) (J : Nat → Nat → Int64) (τ : tm_Tu)  : R_81 87 [(0, .ref 131)] [] (mk I J τ) = (tm_bI (F_61 [.ref 131] (mk I J τ)) fun r M => R_81 91 [(0, .ref 131)] [.int r] M) := (tm_F_fix _ _ _ _ _ _ _ _ _ _ _).trans rfl
set_option maxRecDepth 20000 in
theorem e_81_91 (I : Nat → Nat → Int32) (J : Nat → Nat → Int64) (τ : tm_Tu) (xs0 : Int32) : R_81 91 [(0, .ref 131)] [.int xs0] (mk I J τ) = (if xs0 = 0 then some (some (.int (-1)), (mk I J τ)) else (if 0 ≤ (I 131 31) ∧ ((I 131 31)).toNatClampNeg < 2 then some (some (.int (I 144 ((I 131 31)).toNatClampNeg)), (mk (tm_u (tm_u (tm_u I 131 30 (I 131 31)) 131 32 1) 131 33 0) J τ)) else none)) := (tm_F_fix _ _ _ _ _ _ _ _ _ _ _).trans rfl
noncomputable def R_82 : tm_K := tm_F tm_sh none G_82 false cd_82 cu_82 13
set_option maxRecDepth 20000 in
theorem e_82 (I : Nat → Nat → Int32) (J : Nat → Nat → Int64) (τ : tm_Tu) (x1 : Int32) : F_82 [.ref 2, .int x1] (mk I J τ) = (if (x1 : Int32).toInt = 0 then some (some (.int (I 4 4)), (mk I J τ)) else (if (x1 : Int32).toInt = 1 then some (some (.int (I 4 5)), (mk I J τ)) else some (some (.int (-1)), (mk I J τ)))) := rfl
noncomputable def R_83 : tm_K := tm_F tm_sh none G_83 false cd_83 cu_83 14
set_option maxRecDepth 20000 in
theorem e_83 (I : Nat → Nat → Int32) (J : Nat → Nat → Int64) (τ : tm_Tu) (x1 : Int32) : F_83 [.ref 131, .int x1] (mk I J τ) = (if x1 = 0 then R_83 24 [] [.int (I 131 4)] (mk I J τ) else (if x1 = 1 then R_83 24 [] [.int (I 131 5)] (mk I J τ) else R_83 24 [] [.int (-1)] (mk I J τ))) := rfl
set_option maxRecDepth 20000 in
theorem e_83_24 (I : Nat → Nat → Int32) (J : Nat → Nat → Int64) (τ : tm_Tu) (xs0 : Int32) : R_83 24 [] [.int xs0] (mk I J τ) = some (some (.int xs0), (mk I J τ)) := (tm_F_fix _ _ _ _ _ _ _ _ _ _ _).trans rfl
noncomputable def R_84 : tm_K := tm_F tm_sh none G_84 true cd_84 cu_84 14
set_option maxRecDepth 20000 in
theorem e_84 (I : Nat → Nat → Int32) (J : Nat → Nat → Int64) (τ : tm_Tu) (a0 : Nat) (x1 : Int32) : F_84 [.ref a0, .int x1] (mk I J τ) = (if x1 < 0 then R_84 22 [] [] (mk I J τ) else (if kdm a0 = 100 then (if (I a0 1) ≤ x1 then R_84 22 [] [] (mk I J τ) else (if 12 ≤ x1 then R_84 22 [] [] (mk I J τ) else R_84 23 [] [.int 1] (mk I J τ))) else none)) := rfl
set_option maxRecDepth 20000 in
theorem e_84_22 (I : Nat → Nat → Int32) (J : Nat → Nat → Int64) (τ : tm_Tu)  : R_84 22 [] [] (mk I J τ) = R_84 23 [] [.int 0] (mk I J τ) := (tm_F_fix _ _ _ _ _ _ _ _ _ _ _).trans rfl
set_option maxRecDepth 20000 in
theorem e_84_23 (I : Nat → Nat → Int32) (J : Nat → Nat → Int64) (τ : tm_Tu) (xs0 : Int32) : R_84 23 [] [.int xs0] (mk I J τ) = (if xs0 = 0 ∨ xs0 = 1 then some (some (.int xs0), (mk I J τ)) else none) := (tm_F_fix _ _ _ _ _ _ _ _ _ _ _).trans rfl
noncomputable def R_85 : tm_K := tm_F tm_sh none G_85 false cd_85 cu_85 13
set_option maxRecDepth 20000 in
theorem e_85 (I : Nat → Nat → Int32) (J : Nat → Nat → Int64) (τ : tm_Tu) (a0 : Nat) (x1 : Int32) : F_85 [.ref a0, .int x1] (mk I J τ) = (if x1 = 0 then (if kdm a0 = 108 then R_85 19 [] [.int (I a0 5)] (mk I J τ) else none) else (if kdm a0 = 108 then R_85 19 [] [.int ((4 - (I a0 5)) &&& 3)] (mk I J τ) else none)) := rfl
set_option maxRecDepth 20000 in
theorem e_85_19 (I : Nat → Nat → Int32) (J : Nat → Nat → Int64) (τ : tm_Tu) (xs0 : Int32) : R_85 19 [] [.int xs0] (mk I J τ) = some (some (.int xs0), (mk I J τ)) := (tm_F_fix _ _ _ _ _ _ _ _ _ _ _).trans rfl
noncomputable def R_86 : tm_K := tm_F tm_sh none G_86 false cd_86 cu_86 9
set_option maxRecDepth 20000 in
theorem e_86 (I : Nat → Nat → Int32) (J : Nat → Nat → Int64) (τ : tm_Tu) (x0 : Int32) : F_86 [.int x0] (mk I J τ) = (if (x0 : Int32).toInt = 1 then some (some (.int 2), (mk I J τ)) else (if (x0 : Int32).toInt = 2 then some (some (.int 1), (mk I J τ)) else some (some (.int x0), (mk I J τ)))) := rfl
noncomputable def R_87 : tm_K := tm_F tm_sh none G_87 false cd_87 cu_87 10
set_option maxRecDepth 20000 in
theorem e_87 (I : Nat → Nat → Int32) (J : Nat → Nat → Int64) (τ : tm_Tu) (a0 : Nat) (x1 : Int32) : F_87 [.ref a0, .int x1] (mk I J τ) = (if x1 = 0 then (if kdm a0 = 108 then R_87 18 [] [.int (I a0 6)] (mk I J τ) else none) else (if kdm a0 = 108 then (tm_bI (F_86 [.int (I a0 6)] (mk I J τ)) fun r M => R_87 11 [] [.int r] M) else none)) := rfl
set_option maxRecDepth 20000 in
theorem e_87_11 (I : Nat → Nat → Int32) (J : Nat → Nat → Int64) (τ : tm_Tu) (xs0 : Int32) : R_87 11 [] [.int xs0] (mk I J τ) = R_87 18 [] [.int xs0] (mk I J τ) := (tm_F_fix _ _ _ _ _ _ _ _ _ _ _).trans rfl
set_option maxRecDepth 20000 in
theorem e_87_18 (I : Nat → Nat → Int32) (J : Nat → Nat → Int64) (τ : tm_Tu) (xs0 : Int32) : R_87 18 [] [.int xs0] (mk I J τ) = some (some (.int xs0), (mk I J τ)) := (tm_F_fix _ _ _ _ _ _ _ _ _ _ _).trans rfl
noncomputable def R_88 : tm_K := tm_F tm_sh none G_88 false cd_88 cu_88 21
set_option maxRecDepth 20000 in
theorem e_88 (I : Nat → Nat → Int32) (J : Nat → Nat → Int64) (τ : tm_Tu) (a0 : Nat) (x1 : Int32) (x2 : Int32) : F_88 [.ref a0, .int x1, .int x2] (mk I J τ) = (if x1 < 0 then R_88 10 [] [] (mk I J τ) else (if x1 < 32 then (if x2 = 0 then (if kdm a0 = 108 then (if (tm_RT τ a0 0) = 1 then none else (if kdm (tm_RT τ a0 0) = 1 then (if 0 ≤ x1 ∧ x1.toNatClampNeg < (tm_sh (tm_RT τ a0 0)).2 then R_88 34 [] [.int (I (tm_RT τ a0 0) x1.toNatClampNeg)] (mk I J τ) else none) else none)) else none) else (if kdm a0 = 108 then (if (tm_RT τ a0 0) = 1 then none else (if kdm (tm_RT τ a0 0) = 1 then (if 0 ≤ x1 ∧ x1.toNatClampNeg < (tm_sh (tm_RT τ a0 0)).2 then (tm_bI (F_86 [.int (I (tm_RT τ a0 0) x1.toNatClampNeg)] (mk I J τ)) fun r M => R_88 25 [] [.int r] M) else none) else none)) else none)) else R_88 10 [] [] (mk I J τ))) := rfl
set_option maxRecDepth 20000 in
theorem e_88_10 (I : Nat → Nat → Int32) (J : Nat → Nat → Int64) (τ : tm_Tu)  : R_88 10 [] [] (mk I J τ) = some (some (.int 0), (mk I J τ)) := (tm_F_fix _ _ _ _ _ _ _ _ _ _ _).trans rfl
set_option maxRecDepth 20000 in
theorem e_88_25 (I : Nat → Nat → Int32) (J : Nat → Nat → Int64) (τ : tm_Tu) (xs0 : Int32) : R_88 25 [] [.int xs0] (mk I J τ) = R_88 34 [] [.int xs0] (mk I J τ) := (tm_F_fix _ _ _ _ _ _ _ _ _ _ _).trans rfl
set_option maxRecDepth 20000 in
theorem e_88_34 (I : Nat → Nat → Int32) (J : Nat → Nat → Int64) (τ : tm_Tu) (xs0 : Int32) : R_88 34 [] [.int xs0] (mk I J τ) = some (some (.int xs0), (mk I J τ)) := (tm_F_fix _ _ _ _ _ _ _ _ _ _ _).trans rfl
noncomputable def R_89 : tm_K := tm_F tm_sh none G_89 false cd_89 cu_89 23
set_option maxRecDepth 20000 in
theorem e_89 (I : Nat → Nat → Int32) (J : Nat → Nat → Int64) (τ : tm_Tu) (a0 : Nat) (x1 : Int32) : F_89 [.ref a0, .int x1] (mk I J τ) = (if kdm a0 = 108 then R_89 9 [(0, .ref a0), (1, .int x1), (2, .int ((4 * (I a0 4)) - 1))] [] (mk I J τ) else none) := rfl
set_option maxRecDepth 20000 in
theorem e_89_9 (I : Nat → Nat → Int32) (J : Nat → Nat → Int64) (τ : tm_Tu) (a0 : Nat) (x1 : Int32) (x2 : Int32) : R_89 9 [(0, .ref a0), (1, .int x1), (2, .int x2)] [] (mk I J τ) = (if x2 < 0 then some (some (.int 0), (mk I J τ)) else (if kdm a0 = 108 then (tm_bI (F_88 [.ref a0, .int x2, .int x1] (mk I J τ)) fun r M => R_89 19 [(0, .ref a0), (1, .int x1), (2, .int x2)] [.int r] M) else none)) := (tm_F_fix _ _ _ _ _ _ _ _ _ _ _).trans rfl
set_option maxRecDepth 20000 in
theorem e_89_19 (I : Nat → Nat → Int32) (J : Nat → Nat → Int64) (τ : tm_Tu) (a0 : Nat) (x1 : Int32) (x2 : Int32) (xs0 : Int32) : R_89 19 [(0, .ref a0), (1, .int x1), (2, .int x2)] [.int xs0] (mk I J τ) = (if xs0 = 0 then R_89 9 [(0, .ref a0), (1, .int x1), (2, .int (x2 + (-1)))] [] (mk I J τ) else some (some (.int xs0), (mk I J τ))) := (tm_F_fix _ _ _ _ _ _ _ _ _ _ _).trans rfl
noncomputable def R_90 : tm_K := tm_F tm_sh none G_90 false cd_90 cu_90 15
set_option maxRecDepth 20000 in
theorem e_90 (I : Nat → Nat → Int32) (J : Nat → Nat → Int64) (τ : tm_Tu) (a0 : Nat) (x1 : Int32) : F_90 [.ref a0, .int x1] (mk I J τ) = (if x1 < 0 then R_90 22 [] [] (mk I J τ) else (if kdm a0 = 108 then (if (tm_RT τ a0 1) = 1 then none else if 1 ≤ kdm (tm_RT τ a0 1) ∧ kdm (tm_RT τ a0 1) ≤ 6 then (if (Int32.ofNat (tm_sh (tm_RT τ a0 1)).2) ≤ x1 then R_90 22 [] [] (mk I J τ) else (if kdm a0 = 108 then (if (tm_RT τ a0 1) = 1 then none else (if kdm (tm_RT τ a0 1) = 1 then (if 0 ≤ x1 ∧ x1.toNatClampNeg < (tm_sh (tm_RT τ a0 1)).2 then R_90 23 [] [.int (I (tm_RT τ a0 1) x1.toNatClampNeg)] (mk I J τ) else none) else none)) else none)) else none) else none)) := rfl
set_option maxRecDepth 20000 in
theorem e_90_22 (I : Nat → Nat → Int32) (J : Nat → Nat → Int64) (τ : tm_Tu)  : R_90 22 [] [] (mk I J τ) = R_90 23 [] [.int 0] (mk I J τ) := (tm_F_fix _ _ _ _ _ _ _ _ _ _ _).trans rfl
set_option maxRecDepth 20000 in
theorem e_90_23 (I : Nat → Nat → Int32) (J : Nat → Nat → Int64) (τ : tm_Tu) (xs0 : Int32) : R_90 23 [] [.int xs0] (mk I J τ) = some (some (.int xs0), (mk I J τ)) := (tm_F_fix _ _ _ _ _ _ _ _ _ _ _).trans rfl
noncomputable def R_91 : tm_K := tm_F tm_sh none G_91 false cd_91 cu_91 66
set_option maxRecDepth 20000 in
theorem e_91 (I : Nat → Nat → Int32) (J : Nat → Nat → Int64) (τ : tm_Tu) (a0 : Nat) (x1 : Int32) (x2 : Int32) : F_91 [.ref a0, .int x1, .int x2] (mk I J τ) = (if (x2 : Int32).toInt = 0 then (if kdm a0 = 108 then some (some (.int (I a0 4)), (mk I J τ)) else none) else (if (x2 : Int32).toInt = 1 then (if kdm a0 = 108 then some (some (.int (I a0 3)), (mk I J τ)) else none) else (if (x2 : Int32).toInt = 2 then (if kdm a0 = 108 then (tm_bI (F_85 [.ref a0, .int x1] (mk I J τ)) fun r M => R_91 59 [] [.int r] M) else none) else (if (x2 : Int32).toInt = 3 then (if kdm a0 = 108 then (tm_bI (F_87 [.ref a0, .int x1] (mk I J τ)) fun r M => R_91 65 [] [.int r] M) else none) else (if (x2 : Int32).toInt = 4 then (if kdm a0 = 108 then some (some (.int (I a0 7)), (mk I J τ)) else none) else (if (x2 : Int32).toInt = 5 then (if kdm a0 = 108 then (if (I a0 8) = 0 then R_91 83 [] [.int 0] (mk I J τ) else R_91 83 [] [.int 1] (mk I J τ)) else none) else (if (x2 : Int32).toInt = 6 then (if kdm a0 = 108 then (tm_bI (F_89 [.ref a0, .int x1] (mk I J τ)) fun r M => R_91 89 [] [.int r] M) else none) else (if x2 < 10 then R_91 116 [(0, .ref a0), (1, .int x1), (2, .int x2)] [] (mk I J τ) else (if kdm a0 = 108 then (if (10 + (I a0 4)) ≤ x2 then R_91 116 [(0, .ref a0), (1, .int x1), (2, .int x2)] [] (mk I J τ) else (if kdm a0 = 108 then (tm_bI (F_90 [.ref a0, .int (x2 - 10)] (mk I J τ)) fun r M => R_91 115 [] [.int r] M) else none)) else none))))))))) := rfl
set_option maxRecDepth 20000 in
theorem e_91_59 (I : Nat → Nat → Int32) (J : Nat → Nat → Int64) (τ : tm_Tu) (xs0 : Int32) : R_91 59 [] [.int xs0] (mk I J τ) = some (some (.int xs0), (mk I J τ)) := (tm_F_fix _ _ _ _ _ _ _ _ _ _ _).trans rfl
set_option maxRecDepth 20000 in
theorem e_91_65 (I : Nat → Nat → Int32) (J : Nat → Nat → Int64) (τ : tm_Tu) (xs0 : Int32) : R_91 65 [] [.int xs0] (mk I J τ) = some (some (.int xs0), (mk I J τ)) := (tm_F_fix _ _ _ _ _ _ _ _ _ _ _).trans rfl
set_option maxRecDepth 20000 in
theorem e_91_83 (I : Nat → Nat → Int32) (J : Nat → Nat → Int64) (τ : tm_Tu) (xs0 : Int32) : R_91 83 [] [.int xs0] (mk I J τ) = some (some (.int xs0), (mk I J τ)) := (tm_F_fix _ _ _ _ _ _ _ _ _ _ _).trans rfl
set_option maxRecDepth 20000 in
theorem e_91_89 (I : Nat → Nat → Int32) (J : Nat → Nat → Int64) (τ : tm_Tu) (xs0 : Int32) : R_91 89 [] [.int xs0] (mk I J τ) = some (some (.int xs0), (mk I J τ)) := (tm_F_fix _ _ _ _ _ _ _ _ _ _ _).trans rfl
set_option maxRecDepth 20000 in
theorem e_91_115 (I : Nat → Nat → Int32) (J : Nat → Nat → Int64) (τ : tm_Tu) (xs0 : Int32) : R_91 115 [] [.int xs0] (mk I J τ) = some (some (.int xs0), (mk I J τ)) := (tm_F_fix _ _ _ _ _ _ _ _ _ _ _).trans rfl
set_option maxRecDepth 20000 in
theorem e_91_116 (I : Nat → Nat → Int32) (J : Nat → Nat → Int64) (τ : tm_Tu) (a0 : Nat) (x1 : Int32) (x2 : Int32) : R_91 116 [(0, .ref a0), (1, .int x1), (2, .int x2)] [] (mk I J τ) = (if x2 < 20 then R_91 147 [] [] (mk I J τ) else (if kdm a0 = 108 then (if (20 + (4 * (I a0 4))) ≤ x2 then R_91 147 [] [] (mk I J τ) else (if kdm a0 = 108 then (tm_bI (F_88 [.ref a0, .int (x2 - 20), .int x1] (mk I J τ)) fun r M => R_91 144 [] [.int r] M) else none)) else none)) := (tm_F_fix _ _ _ _ _ _ _ _ _ _ _).trans rfl
set_option maxRecDepth 20000 in
theorem e_91_144 (I : Nat → Nat → Int32) (J : Nat → Nat → Int64) (τ : tm_Tu) (xs0 : Int32) : R_91 144 [] [.int xs0] (mk I J τ) = R_91 148 [] [.int xs0] (mk I J τ) := (tm_F_fix _ _ _ _ _ _ _ _ _ _ _).trans rfl
set_option maxRecDepth 20000 in
theorem e_91_147 (I : Nat → Nat → Int32) (J : Nat → Nat → Int64) (τ : tm_Tu)  : R_91 147 [] [] (mk I J τ) = R_91 148 [] [.int (-1)] (mk I J τ) := (tm_F_fix _ _ _ _ _ _ _ _ _ _ _).trans rfl
set_option maxRecDepth 20000 in
theorem e_91_148 (I : Nat → Nat → Int32) (J : Nat → Nat → Int64) (τ : tm_Tu) (xs0 : Int32) : R_91 148 [] [.int xs0] (mk I J τ) = some (some (.int xs0), (mk I J τ)) := (tm_F_fix _ _ _ _ _ _ _ _ _ _ _).trans rfl
noncomputable def R_92 : tm_K := tm_F tm_sh none G_92 false cd_92 cu_92 17
set_option maxRecDepth 20000 in
theorem e_92 (I : Nat → Nat → Int32) (J : Nat → Nat → Int64) (τ : tm_Tu) (x1 : Int32) (x2 : Int32) (x3 : Int32) : F_92 [.ref 2, .int x1, .int x2, .int x3] (mk I J τ) = (if kdm τ.1 = 100 then (tm_bI (F_84 [.ref τ.1, .int x1] (mk I J τ)) fun r M => R_92 8 [(0, .ref 2), (1, .int x1), (2, .int x2), (3, .int x3)] [.int r] M) else none) := rfl
set_option maxRecDepth 20000 in
theorem e_92_8 (I : Nat → Nat → Int32) (J : Nat → Nat → Int64) (τ : tm_Tu) (x1 : Int32) (x2 : Int32) (x3 : Int32) (xs0 : Int32) : R_92 8 [(0, .ref 2), (1, .int x1), (2, .int x2), (3, .int x3)] [.int xs0] (mk I J τ) = (if xs0 = 0 then R_92 29 [] [.int (-1)] (mk I J τ) else (if kdm τ.1 = 100 then (if kdm (tm_RT τ τ.1 0) = 5 ∨ kdm (tm_RT τ τ.1 0) = 6 then (if 0 ≤ x1 ∧ x1.toNatClampNeg < (tm_sh (tm_RT τ τ.1 0)).2 then (if kdm (tm_RT τ (tm_RT τ τ.1 0) x1.toNatClampNeg) = 108 then (tm_bI (F_91 [.ref (tm_RT τ (tm_RT τ τ.1 0) x1.toNatClampNeg), .int x2, .int x3] (mk I J τ)) fun r M => R_92 25 [] [.int r] M) else none) else none) else none) else none)) := (tm_F_fix _ _ _ _ _ _ _ _ _ _ _).trans rfl
set_option maxRecDepth 20000 in
theorem e_92_25 (I : Nat → Nat → Int32) (J : Nat → Nat → Int64) (τ : tm_Tu) (xs0 : Int32) : R_92 25 [] [.int xs0] (mk I J τ) = R_92 29 [] [.int xs0] (mk I J τ) := (tm_F_fix _ _ _ _ _ _ _ _ _ _ _).trans rfl
set_option maxRecDepth 20000 in
theorem e_92_29 (I : Nat → Nat → Int32) (J : Nat → Nat → Int64) (τ : tm_Tu) (xs0 : Int32) : R_92 29 [] [.int xs0] (mk I J τ) = some (some (.int xs0), (mk I J τ)) := (tm_F_fix _ _ _ _ _ _ _ _ _ _ _).trans rfl
noncomputable def R_93 : tm_K := tm_F tm_sh none G_93 true cd_93 cu_93 14
set_option maxRecDepth 20000 in
theorem e_93 (I : Nat → Nat → Int32) (J : Nat → Nat → Int64) (τ : tm_Tu) (x1 : Int32) : F_93 [.ref 131, .int x1] (mk I J τ) = (if x1 < 0 then R_93 21 [] [] (mk I J τ) else (if 0 ≤ (I 131 21) ∧ ((I 131 21)).toNatClampNeg < 2 then (if (I 135 ((I 131 21)).toNatClampNeg) ≤ x1 then R_93 21 [] [] (mk I J τ) else R_93 22 [] [.int 1] (mk I J τ)) else none)) := rfl
set_option maxRecDepth 20000 in
theorem e_93_21 (I : Nat → Nat → Int32) (J : Nat → Nat → Int64) (τ : tm_Tu)  : R_93 21 [] [] (mk I J τ) = R_93 22 [] [.int 0] (mk I J τ) := (tm_F_fix _ _ _ _ _ _ _ _ _ _ _).trans rfl
set_option maxRecDepth 20000 in
theorem e_93_22 (I : Nat → Nat → Int32) (J : Nat → Nat → Int64) (τ : tm_Tu) (xs0 : Int32) : R_93 22 [] [.int xs0] (mk I J τ) = (if xs0 = 0 ∨ xs0 = 1 then some (some (.int xs0), (mk I J τ)) else none) := (tm_F_fix _ _ _ _ _ _ _ _ _ _ _).trans rfl
noncomputable def R_94 : tm_K := tm_F tm_sh none G_94 false cd_94 cu_94 11
set_option maxRecDepth 20000 in
theorem e_94 (I : Nat → Nat → Int32) (J : Nat → Nat → Int64) (τ : tm_Tu) (x1 : Int32) : F_94 [.ref 131, .int x1] (mk I J τ) = (if 0 ≤ ((12 * (I 131 21)) + x1) ∧ (((12 * (I 131 21)) + x1)).toNatClampNeg < 24 then some (some (.int (I 137 (((12 * (I 131 21)) + x1)).toNatClampNeg)), (mk I J τ)) else none) := rfl
noncomputable def R_95 : tm_K := tm_F tm_sh none G_95 false cd_95 cu_95 27
set_option maxRecDepth 20000 in
theorem e_95 (I : Nat → Nat → Int32) (J : Nat → Nat → Int64) (τ : tm_Tu) (x1 : Int32) (x2 : Int32) : F_95 [.ref 131, .int x1, .int x2] (mk I J τ) = (if x2 = 0 then (if 0 ≤ ((12 * (I 131 21)) + x1) ∧ (((12 * (I 131 21)) + x1)).toNatClampNeg < 24 then R_95 39 [] [.int (I 138 (((12 * (I 131 21)) + x1)).toNatClampNeg)] (mk I J τ) else none) else (if 0 ≤ ((12 * (I 131 21)) + x1) ∧ (((12 * (I 131 21)) + x1)).toNatClampNeg < 24 then R_95 39 [] [.int ((4 - (I 138 (((12 * (I 131 21)) + x1)).toNatClampNeg)) - (4 - (I 138 (((12 * (I 131 21)) + x1)).toNatClampNeg)) / 4 * 4)] (mk I J τ) else none)) := rfl
set_option maxRecDepth 20000 in
theorem e_95_39 (I : Nat → Nat → Int32) (J : Nat → Nat → Int64) (τ : tm_Tu) (xs0 : Int32) : R_95 39 [] [.int xs0] (mk I J τ) = some (some (.int xs0), (mk I J τ)) := (tm_F_fix _ _ _ _ _ _ _ _ _ _ _).trans rfl
noncomputable def R_96 : tm_K := tm_F tm_sh none G_96 false cd_96 cu_96 13
set_option maxRecDepth 20000 in
theorem e_96 (I : Nat → Nat → Int32) (J : Nat → Nat → Int64) (τ : tm_Tu) (x0 : Int32) : F_96 [.int x0] (mk I J τ) = (if x0 = 1 then R_96 19 [] [.int 2] (mk I J τ) else (if x0 = 2 then R_96 19 [] [.int 1] (mk I J τ) else R_96 19 [] [.int x0] (mk I J τ))) := rfl
set_option maxRecDepth 20000 in
theorem e_96_19 (I : Nat → Nat → Int32) (J : Nat → Nat → Int64) (τ : tm_Tu) (xs0 : Int32) : R_96 19 [] [.int xs0] (mk I J τ) = some (some (.int xs0), (mk I J τ)) := (tm_F_fix _ _ _ _ _ _ _ _ _ _ _).trans rfl
noncomputable def R_97 : tm_K := tm_F tm_sh none G_97 false cd_97 cu_97 24
set_option maxRecDepth 20000 in
theorem e_97 (I : Nat → Nat → Int32) (J : Nat → Nat → Int64) (τ : tm_Tu) (x1 : Int32) (x2 : Int32) : F_97 [.ref 131, .int x1, .int x2] (mk I J τ) = (if x2 = 0 then (if 0 ≤ ((12 * (I 131 21)) + x1) ∧ (((12 * (I 131 21)) + x1)).toNatClampNeg < 24 then R_97 38 [] [.int (I 139 (((12 * (I 131 21)) + x1)).toNatClampNeg)] (mk I J τ) else none) else (if 0 ≤ ((12 * (I 131 21)) + x1) ∧ (((12 * (I 131 21)) + x1)).toNatClampNeg < 24 then (tm_bI (F_96 [.int (I 139 (((12 * (I 131 21)) + x1)).toNatClampNeg)] (mk I J τ)) fun r M => R_97 21 [] [.int r] M) else none)) := rfl
set_option maxRecDepth 20000 in
theorem e_97_21 (I : Nat → Nat → Int32) (J : Nat → Nat → Int64) (τ : tm_Tu) (xs0 : Int32) : R_97 21 [] [.int xs0] (mk I J τ) = R_97 38 [] [.int xs0] (mk I J τ) := (tm_F_fix _ _ _ _ _ _ _ _ _ _ _).trans rfl
set_option maxRecDepth 20000 in
theorem e_97_38 (I : Nat → Nat → Int32) (J : Nat → Nat → Int64) (τ : tm_Tu) (xs0 : Int32) : R_97 38 [] [.int xs0] (mk I J τ) = some (some (.int xs0), (mk I J τ)) := (tm_F_fix _ _ _ _ _ _ _ _ _ _ _).trans rfl
noncomputable def R_98 : tm_K := tm_F tm_sh none G_98 false cd_98 cu_98 22
set_option maxRecDepth 20000 in
theorem e_98 (I : Nat → Nat → Int32) (J : Nat → Nat → Int64) (τ : tm_Tu) (x1 : Int32) (x2 : Int32) (x3 : Int32) : F_98 [.ref 131, .int x1, .int x2, .int x3] (mk I J τ) = (if 0 ≤ ((32 * ((12 * (I 131 21)) + x1)) + x3) ∧ (((32 * ((12 * (I 131 21)) + x1)) + x3)).toNatClampNeg < 768 then (if x2 = 0 then R_98 35 [] [.int (I 141 (((32 * ((12 * (I 131 21)) + x1)) + x3)).toNatClampNeg)] (mk I J τ) else (tm_bI (F_96 [.int (I 141 (((32 * ((12 * (I 131 21)) + x1)) + x3)).toNatClampNeg)] (mk I J τ)) fun r M => R_98 30 [] [.int r] M)) else none) := rfl
set_option maxRecDepth 20000 in
theorem e_98_30 (I : Nat → Nat → Int32) (J : Nat → Nat → Int64) (τ : tm_Tu) (xs0 : Int32) : R_98 30 [] [.int xs0] (mk I J τ) = R_98 35 [] [.int xs0] (mk I J τ) := (tm_F_fix _ _ _ _ _ _ _ _ _ _ _).trans rfl
set_option maxRecDepth 20000 in
theorem e_98_35 (I : Nat → Nat → Int32) (J : Nat → Nat → Int64) (τ : tm_Tu) (xs0 : Int32) : R_98 35 [] [.int xs0] (mk I J τ) = some (some (.int xs0), (mk I J τ)) := (tm_F_fix _ _ _ _ _ _ _ _ _ _ _).trans rfl
noncomputable def R_99 : tm_K := tm_F tm_sh none G_99 false cd_99 cu_99 30
set_option maxRecDepth 20000 in
theorem e_99 (I : Nat → Nat → Int32) (J : Nat → Nat → Int64) (τ : tm_Tu) (x1 : Int32) (x2 : Int32) : F_99 [.ref 131, .int x1, .int x2] (mk I J τ) = R_99 5 [(0, .ref 131), (1, .int x1), (2, .int x2), (3, .int 0), (4, .int 0)] [] (mk I J τ) := rfl
set_option maxRecDepth 20000 in
theorem e_99_5 (I : Nat → Nat → Int32) (J : Nat → Nat → Int64) (τ : tm_Tu) (x1 : Int32) (x2 : Int32) (x3 : Int32) (x4 : Int32) : R_99 5 [(0, .ref 131), (1, .int x1), (2, .int x2), (3, .int x3), (4, .int x4)] [] (mk I J τ) = (tm_bI (F_94 [.ref 131, .int x1] (mk I J τ)) fun r M => R_99 13 [(0, .ref 131), (1, .int x1), (2, .int x2), (3, .int x3), (4, .int x4)] [.int r, .int 4, .int x4] M) := (tm_F_fix _ _ _ _ _ _ _ _ _ _ _).trans rfl
set_option maxRecDepth 20000 in
theorem e_99_13 (I : Nat → Nat → Int32) (J : Nat → Nat → Int64) (τ : tm_Tu) (x1 : Int32) (x2 : Int32) (x3 : Int32) (x4 : Int32) (xs0 : Int32) (xs1 : Int32) (xs2 : Int32) : R_99 13 [(0, .ref 131), (1, .int x1), (2, .int x2), (3, .int x3), (4, .int x4)] [.int xs0, .int xs1, .int xs2] (mk I J τ) = (if (xs1 * xs0) ≤ xs2 then some (some (.int x3), (mk I J τ)) else (tm_bI (F_98 [.ref 131, .int x1, .int x2, .int x4] (mk I J τ)) fun r M => R_99 25 [(0, .ref 131), (1, .int x1), (2, .int x2), (3, .int x3), (4, .int x4)] [.int r] M)) := (tm_F_fix _ _ _ _ _ _ _ _ _ _ _).trans rfl
set_option maxRecDepth 20000 in
theorem e_99_25 (I : Nat → Nat → Int32) (J : Nat → Nat → Int64) (τ : tm_Tu) (x1 : Int32) (x2 : Int32) (x3 : Int32) (x4 : Int32) (xs0 : Int32) : R_99 25 [(0, .ref 131), (1, .int x1), (2, .int x2), (3, .int x3), (4, .int x4)] [.int xs0] (mk I J τ) = (if xs0 = 0 then R_99 40 [(0, .ref 131), (1, .int x1), (2, .int x2), (4, .int x4)] [.int x3] (mk I J τ) else (tm_bI (F_98 [.ref 131, .int x1, .int x2, .int x4] (mk I J τ)) fun r M => R_99 36 [(0, .ref 131), (1, .int x1), (2, .int x2), (4, .int x4)] [.int r] M)) := (tm_F_fix _ _ _ _ _ _ _ _ _ _ _).trans rfl
set_option maxRecDepth 20000 in
theorem e_99_36 (I : Nat → Nat → Int32) (J : Nat → Nat → Int64) (τ : tm_Tu) (x1 : Int32) (x2 : Int32) (x4 : Int32) (xs0 : Int32) : R_99 36 [(0, .ref 131), (1, .int x1), (2, .int x2), (4, .int x4)] [.int xs0] (mk I J τ) = R_99 40 [(0, .ref 131), (1, .int x1), (2, .int x2), (4, .int x4)] [.int xs0] (mk I J τ) := (tm_F_fix _ _ _ _ _ _ _ _ _ _ _).trans rfl
set_option maxRecDepth 20000 in
theorem e_99_40 (I : Nat → Nat → Int32) (J : Nat → Nat → Int64) (τ : tm_Tu) (x1 : Int32) (x2 : Int32) (x4 : Int32) (xs0 : Int32) : R_99 40 [(0, .ref 131), (1, .int x1), (2, .int x2), (4, .int x4)] [.int xs0] (mk I J τ) = R_99 5 [(0, .ref 131), (1, .int x1), (2, .int x2), (3, .int xs0), (4, .int (x4 + 1))] [] (mk I J τ) := (tm_F_fix _ _ _ _ _ _ _ _ _ _ _).trans rfl
noncomputable def R_100 : tm_K := tm_F tm_sh none G_100 false cd_100 cu_100 21
set_option maxRecDepth 20000 in
theorem e_100 (I : Nat → Nat → Int32) (J : Nat → Nat → Int64) (τ : tm_Tu) (x1 : Int32) (x2 : Int32) : F_100 [.ref 131, .int x1, .int x2] (mk I J τ) = (if 0 ≤ ((8 * ((12 * (I 131 21)) + x1)) + x2) ∧ (((8 * ((12 * (I 131 21)) + x1)) + x2)).toNatClampNeg < 192 then (if 0 ≤ (I 142 (((8 * ((12 * (I 131 21)) + x1)) + x2)).toNatClampNeg) then R_100 29 [] [.int (I 142 (((8 * ((12 * (I 131 21)) + x1)) + x2)).toNatClampNeg)] (mk I J τ) else R_100 29 [] [.int 0] (mk I J τ)) else none) := rfl
set_option maxRecDepth 20000 in
theorem e_100_29 (I : Nat → Nat → Int32) (J : Nat → Nat → Int64) (τ : tm_Tu) (xs0 : Int32) : R_100 29 [] [.int xs0] (mk I J τ) = some (some (.int xs0), (mk I J τ)) := (tm_F_fix _ _ _ _ _ _ _ _ _ _ _).trans rfl
noncomputable def R_101 : tm_K := tm_F tm_sh none G_101 false cd_101 cu_101 101
set_option maxRecDepth 20000 in
theorem e_101 (I : Nat → Nat → Int32) (J : Nat → Nat → Int64) (τ : tm_Tu) (x1 : Int32) (x2 : Int32) (x3 : Int32) : F_101 [.ref 131, .int x1, .int x2, .int x3] (mk I J τ) = (tm_bI (F_93 [.ref 131, .int x1] (mk I J τ)) fun r M => R_101 5 [(0, .ref 131), (1, .int x1), (2, .int x2), (3, .int x3)] [.int r] M) := rfl
set_option maxRecDepth 20000 in
theorem e_101_5 (I : Nat → Nat → Int32) (J : Nat → Nat → Int64) (τ : tm_Tu) (x1 : Int32) (x2 : Int32) (x3 : Int32) (xs0 : Int32) : R_101 5 [(0, .ref 131), (1, .int x1), (2, .int x2), (3, .int x3)] [.int xs0] (mk I J τ) = (if xs0 = 0 then some (some (.int (-1)), (mk I J τ)) else (if (x3 : Int32).toInt = 0 then (tm_bI (F_94 [.ref 131, .int x1] (mk I J τ)) fun r M => R_101 57 [] [.int r] M) else (if (x3 : Int32).toInt = 1 then (if 0 ≤ ((12 * (I 131 21)) + x1) ∧ (((12 * (I 131 21)) + x1)).toNatClampNeg < 24 then some (some (.int (I 136 (((12 * (I 131 21)) + x1)).toNatClampNeg)), (mk I J τ)) else none) else (if (x3 : Int32).toInt = 2 then (tm_bI (F_95 [.ref 131, .int x1, .int x2] (mk I J τ)) fun r M => R_101 79 [] [.int r] M) else (if (x3 : Int32).toInt = 3 then (tm_bI (F_97 [.ref 131, .int x1, .int x2] (mk I J τ)) fun r M => R_101 86 [] [.int r] M) else (if (x3 : Int32).toInt = 4 then (if 0 ≤ ((12 * (I 131 21)) + x1) ∧ (((12 * (I 131 21)) + x1)).toNatClampNeg < 24 then some (some (.int (I 140 (((12 * (I 131 21)) + x1)).toNatClampNeg)), (mk I J τ)) else none) else (if (x3 : Int32).toInt = 5 then (if 0 ≤ ((12 * (I 131 21)) + x1) ∧ (((12 * (I 131 21)) + x1)).toNatClampNeg < 24 then (if (I 143 (((12 * (I 131 21)) + x1)).toNatClampNeg) = 0 then R_101 124 [] [.int 0] (mk I J τ) else R_101 124 [] [.int 1] (mk I J τ)) else none) else (if (x3 : Int32).toInt = 6 then (tm_bI (F_99 [.ref 131, .int x1, .int x2] (mk I J τ)) fun r M => R_101 131 [] [.int r] M) else (if x3 < 10 then R_101 160 [(0, .ref 131), (1, .int x1), (2, .int x2), (3, .int x3)] [] (mk I J τ) else (tm_bI (F_94 [.ref 131, .int x1] (mk I J τ)) fun r M => R_101 146 [(0, .ref 131), (1, .int x1), (2, .int x2), (3, .int x3)] [.int r, .int 10, .int x3] M)))))))))) := (tm_F_fix _ _ _ _ _ _ _ _ _ _ _).trans rfl
set_option maxRecDepth 20000 in
theorem e_101_57 (I : Nat → Nat → Int32) (J : Nat → Nat → Int64) (τ : tm_Tu) (xs0 : Int32) : R_101 57 [] [.int xs0] (mk I J τ) = some (some (.int xs0), (mk I J τ)) := (tm_F_fix _ _ _ _ _ _ _ _ _ _ _).trans rfl
set_option maxRecDepth 20000 in
theorem e_101_79 (I : Nat → Nat → Int32) (J : Nat → Nat → Int64) (τ : tm_Tu) (xs0 : Int32) : R_101 79 [] [.int xs0] (mk I J τ) = some (some (.int xs0), (mk I J τ)) := (tm_F_fix _ _ _ _ _ _ _ _ _ _ _).trans rfl
set_option maxRecDepth 20000 in
theorem e_101_86 (I : Nat → Nat → Int32) (J : Nat → Nat → Int64) (τ : tm_Tu) (xs0 : Int32) : R_101 86 [] [.int xs0] (mk I J τ) = some (some (.int xs0), (mk I J τ)) := (tm_F_fix _ _ _ _ _ _ _ _ _ _ _).trans rfl
set_option maxRecDepth 20000 in
theorem e_101_124 (I : Nat → Nat → Int32) (J : Nat → Nat → Int64) (τ : tm_Tu) (xs0 : Int32) : R_101 124 [] [.int xs0] (mk I J τ) = some (some (.int xs0), (mk I J τ)) := (tm_F_fix _ _ _ _ _ _ _ _ _ _ _).trans rfl
set_option maxRecDepth 20000 in
theorem e_101_131 (I : Nat → Nat → Int32) (J : Nat → Nat → Int64) (τ : tm_Tu) (xs0 : Int32) : R_101 131 [] [.int xs0] (mk I J τ) = some (some (.int xs0), (mk I J τ)) := (tm_F_fix _ _ _ _ _ _ _ _ _ _ _).trans rfl
set_option maxRecDepth 20000 in
theorem e_101_146 (I : Nat → Nat → Int32) (J : Nat → Nat → Int64) (τ : tm_Tu) (x1 : Int32) (x2 : Int32) (x3 : Int32) (xs0 : Int32) (xs1 : Int32) (xs2 : Int32) : R_101 146 [(0, .ref 131), (1, .int x1), (2, .int x2), (3, .int x3)] [.int xs0, .int xs1, .int xs2] (mk I J τ) = (if (xs1 + xs0) ≤ xs2 then R_101 160 [(0, .ref 131), (1, .int x1), (2, .int x2), (3, .int x3)] [] (mk I J τ) else (tm_bI (F_100 [.ref 131, .int x1, .int (x3 - 10)] (mk I J τ)) fun r M => R_101 159 [] [.int r] M)) := (tm_F_fix _ _ _ _ _ _ _ _ _ _ _).trans rfl
set_option maxRecDepth 20000 in
theorem e_101_159 (I : Nat → Nat → Int32) (J : Nat → Nat → Int64) (τ : tm_Tu) (xs0 : Int32) : R_101 159 [] [.int xs0] (mk I J τ) = some (some (.int xs0), (mk I J τ)) := (tm_F_fix _ _ _ _ _ _ _ _ _ _ _).trans rfl
set_option maxRecDepth 20000 in
theorem e_101_160 (I : Nat → Nat → Int32) (J : Nat → Nat → Int64) (τ : tm_Tu) (x1 : Int32) (x2 : Int32) (x3 : Int32) : R_101 160 [(0, .ref 131), (1, .int x1), (2, .int x2), (3, .int x3)] [] (mk I J τ) = (if x3 < 20 then R_101 193 [] [] (mk I J τ) else (tm_bI (F_94 [.ref 131, .int x1] (mk I J τ)) fun r M => R_101 175 [(0, .ref 131), (1, .int x1), (2, .int x2), (3, .int x3)] [.int r, .int 4, .int 20, .int x3] M)) := (tm_F_fix _ _ _ _ _ _ _ _ _ _ _).trans rfl
set_option maxRecDepth 20000 in
theorem e_101_175 (I : Nat → Nat → Int32) (J : Nat → Nat → Int64) (τ : tm_Tu) (x1 : Int32) (x2 : Int32) (x3 : Int32) (xs0 : Int32) (xs1 : Int32) (xs2 : Int32) (xs3 : Int32) : R_101 175 [(0, .ref 131), (1, .int x1), (2, .int x2), (3, .int x3)] [.int xs0, .int xs1, .int xs2, .int xs3] (mk I J τ) = (if (xs2 + (xs1 * xs0)) ≤ xs3 then R_101 193 [] [] (mk I J τ) else (tm_bI (F_98 [.ref 131, .int x1, .int x2, .int (x3 - 20)] (mk I J τ)) fun r M => R_101 190 [] [.int r] M)) := (tm_F_fix _ _ _ _ _ _ _ _ _ _ _).trans rfl
set_option maxRecDepth 20000 in
theorem e_101_190 (I : Nat → Nat → Int32) (J : Nat → Nat → Int64) (τ : tm_Tu) (xs0 : Int32) : R_101 190 [] [.int xs0] (mk I J τ) = R_101 194 [] [.int xs0] (mk I J τ) := (tm_F_fix _ _ _ _ _ _ _ _ _ _ _).trans rfl
set_option maxRecDepth 20000 in
theorem e_101_193 (I : Nat → Nat → Int32) (J : Nat → Nat → Int64) (τ : tm_Tu)  : R_101 193 [] [] (mk I J τ) = R_101 194 [] [.int (-1)] (mk I J τ) := (tm_F_fix _ _ _ _ _ _ _ _ _ _ _).trans rfl
set_option maxRecDepth 20000 in
theorem e_101_194 (I : Nat → Nat → Int32) (J : Nat → Nat → Int64) (τ : tm_Tu) (xs0 : Int32) : R_101 194 [] [.int xs0] (mk I J τ) = some (some (.int xs0), (mk I J τ)) := (tm_F_fix _ _ _ _ _ _ _ _ _ _ _).trans rfl
