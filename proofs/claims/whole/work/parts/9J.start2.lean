/-! how the law begins: the walk -/
set_option maxRecDepth 100000 in
theorem st_0 (L : Nat) (xs : Nat → Int32) : lawR L xs = tm_bV (F_12 [.ref 2] (tm_nw tm_M0 14)) (fun M => lawF L xs 7 [(0, .ref 1)] [.ref 2] M) := rfl
set_option maxRecDepth 100000 in
theorem st_1g (L : Nat) (xs : Nat → Int32) (G : tm_G) (K : tm_K) (I : Nat → Nat → Int32) (J : Nat → Nat → Int64) (R : Nat → Nat → Nat) (s : Nat) : tm_b tm_sh (some (L, xs)) G true cd_252 cu_252 K 825 7 [(0, .ref 1)] [.ref 2] (I, J, R, 129, s) = tm_bV (G 13 [.ref 131] (tm_nw (I, J, R, 129, s) 86)) (fun M => K 15 [(0, .ref 1), (1, .ref 2)] [.ref 131] M) := rfl
theorem g_13 (as : List Value) (M : tm_M) : G_252 13 as M = F_13 as M := by
  unfold G_252
  rw [if_neg (by omega), if_pos rfl]
theorem st_1 (L : Nat) (xs : Nat → Int32) (I : Nat → Nat → Int32) (J : Nat → Nat → Int64) (R : Nat → Nat → Nat) (s : Nat) : lawF L xs 7 [(0, .ref 1)] [.ref 2] (I, J, R, 129, s) = tm_bV (F_13 [.ref 131] (tm_nw (I, J, R, 129, s) 86)) (fun M => lawF L xs 15 [(0, .ref 1), (1, .ref 2)] [.ref 131] M) := by
  refine (tm_F_fix _ _ _ _ _ _ _ _ _ _ _).trans ?_
  rw [st_1g, g_13]
  unfold lawF
  exact Eq.refl _
set_option maxRecDepth 100000 in
theorem st_2 (L : Nat) (xs : Nat → Int32) (M : tm_M) : lawF L xs 15 [(0, .ref 1), (1, .ref 2)] [.ref 131] M = lawF L xs 18 [(0, .ref 1), (1, .ref 2), (2, .ref 131), (3, .int 0)] [] M := (tm_F_fix _ _ _ _ _ _ _ _ _ _ _).trans rfl
set_option maxRecDepth 100000 in
theorem st_12 : F_12 [.ref 2] (tm_nw tm_M0 14) = some (none, (rI ofin (rI ops11b (rI oa_8 (rI ops11a (rI oa_7 (rI ops10_81 (rI oa_6 (rI ops10_43 (rI oa_5 (rI ops8 (rI oa_4 (rI ops7 (rI oa_3 (rI ops6 (rI oa_2 (rI ops5 (rI oa_1 (rI ops2 (rI oa_0 (z0I))))))))))))))))))), rdJ z0J, rR ofin (rR ops11b (rR oa_8 (rR ops11a (rR oa_7 (rR ops10_81 (rR oa_6 (rR ops10_43 (rR oa_5 (rR ops8 (rR oa_4 (rR ops7 (rR oa_3 (rR ops6 (rR oa_2 (rR ops5 (rR oa_1 (rR ops2 (rR oa_0 (z0R))))))))))))))))))), rz ofin (rz ops11b (rz oa_8 (rz ops11a (rz oa_7 (rz ops10_81 (rz oa_6 (rz ops10_43 (rz oa_5 (rz ops8 (rz oa_4 (rz ops7 (rz oa_3 (rz ops6 (rz oa_2 (rz ops5 (rz oa_1 (rz ops2 (rz oa_0 (1))))))))))))))))))), rs ofin (rs ops11b (rs oa_8 (rs ops11a (rs oa_7 (rs ops10_81 (rs oa_6 (rs ops10_43 (rs oa_5 (rs ops8 (rs oa_4 (rs ops7 (rs oa_3 (rs ops6 (rs oa_2 (rs ops5 (rs oa_1 (rs ops2 (rs oa_0 (14))))))))))))))))))))) ∧ Fr (rI ofin (rI ops11b (rI oa_8 (rI ops11a (rI oa_7 (rI ops10_81 (rI oa_6 (rI ops10_43 (rI oa_5 (rI ops8 (rI oa_4 (rI ops7 (rI oa_3 (rI ops6 (rI oa_2 (rI ops5 (rI oa_1 (rI ops2 (rI oa_0 (z0I)))))))))))))))))))) (rdJ z0J) (rR ofin (rR ops11b (rR oa_8 (rR ops11a (rR oa_7 (rR ops10_81 (rR oa_6 (rR ops10_43 (rR oa_5 (rR ops8 (rR oa_4 (rR ops7 (rR oa_3 (rR ops6 (rR oa_2 (rR ops5 (rR oa_1 (rR ops2 (rR oa_0 (z0R)))))))))))))))))))) (rz ofin (rz ops11b (rz oa_8 (rz ops11a (rz oa_7 (rz ops10_81 (rz oa_6 (rz ops10_43 (rz oa_5 (rz ops8 (rz oa_4 (rz ops7 (rz oa_3 (rz ops6 (rz oa_2 (rz ops5 (rz oa_1 (rz ops2 (rz oa_0 (1)))))))))))))))))))) := by
  have h0 : Fr z0I z0J z0R 0 := fun x y _ => ⟨rfl, rfl, rfl⟩
  obtain ⟨e0, -⟩ := ap_ok [(0, 0, 0, 14)] z0I z0J z0R 0 0 (by decide) h0
  have e0' : tm_nw tm_M0 14 = (z0I, z0J, z0R, 1, 14) := e0
  have h1 : Fr z0I z0J z0R 1 := fun x y _ => ⟨rfl, rfl, rfl⟩
  rw [e0']
  obtain ⟨a0, f0⟩ := g12_0 (s := 14) h1
  obtain ⟨a1, f1⟩ := g12_1 (s := rs ops2 (rs oa_0 (14))) f0
  obtain ⟨a2, f2⟩ := g12_2 (s := rs ops5 (rs oa_1 (rs ops2 (rs oa_0 (14))))) f1
  obtain ⟨a3, f3⟩ := g12_3 (s := rs ops6 (rs oa_2 (rs ops5 (rs oa_1 (rs ops2 (rs oa_0 (14))))))) f2
  obtain ⟨a4, f4⟩ := g12_4 (s := rs ops7 (rs oa_3 (rs ops6 (rs oa_2 (rs ops5 (rs oa_1 (rs ops2 (rs oa_0 (14))))))))) f3
  obtain ⟨a5, f5⟩ := g12_5 (s := rs ops8 (rs oa_4 (rs ops7 (rs oa_3 (rs ops6 (rs oa_2 (rs ops5 (rs oa_1 (rs ops2 (rs oa_0 (14))))))))))) f4
  obtain ⟨a6, f6⟩ := g12_6 (s := rs ops10_43 (rs oa_5 (rs ops8 (rs oa_4 (rs ops7 (rs oa_3 (rs ops6 (rs oa_2 (rs ops5 (rs oa_1 (rs ops2 (rs oa_0 (14))))))))))))) f5
  obtain ⟨a7, f7⟩ := g12_7 (s := rs ops10_81 (rs oa_6 (rs ops10_43 (rs oa_5 (rs ops8 (rs oa_4 (rs ops7 (rs oa_3 (rs ops6 (rs oa_2 (rs ops5 (rs oa_1 (rs ops2 (rs oa_0 (14))))))))))))))) f6
  obtain ⟨a8, f8⟩ := g12_8 (s := rs ops11a (rs oa_7 (rs ops10_81 (rs oa_6 (rs ops10_43 (rs oa_5 (rs ops8 (rs oa_4 (rs ops7 (rs oa_3 (rs ops6 (rs oa_2 (rs ops5 (rs oa_1 (rs ops2 (rs oa_0 (14))))))))))))))))) f7
  obtain ⟨a9, f9⟩ := ap_ok ofin (rI ops11b (rI oa_8 (rI ops11a (rI oa_7 (rI ops10_81 (rI oa_6 (rI ops10_43 (rI oa_5 (rI ops8 (rI oa_4 (rI ops7 (rI oa_3 (rI ops6 (rI oa_2 (rI ops5 (rI oa_1 (rI ops2 (rI oa_0 (z0I))))))))))))))))))) (rdJ z0J) (rR ops11b (rR oa_8 (rR ops11a (rR oa_7 (rR ops10_81 (rR oa_6 (rR ops10_43 (rR oa_5 (rR ops8 (rR oa_4 (rR ops7 (rR oa_3 (rR ops6 (rR oa_2 (rR ops5 (rR oa_1 (rR ops2 (rR oa_0 (z0R))))))))))))))))))) (rz ops11b (rz oa_8 (rz ops11a (rz oa_7 (rz ops10_81 (rz oa_6 (rz ops10_43 (rz oa_5 (rz ops8 (rz oa_4 (rz ops7 (rz oa_3 (rz ops6 (rz oa_2 (rz ops5 (rz oa_1 (rz ops2 (rz oa_0 (1))))))))))))))))))) (rs ops11b (rs oa_8 (rs ops11a (rs oa_7 (rs ops10_81 (rs oa_6 (rs ops10_43 (rs oa_5 (rs ops8 (rs oa_4 (rs ops7 (rs oa_3 (rs ops6 (rs oa_2 (rs ops5 (rs oa_1 (rs ops2 (rs oa_0 (14))))))))))))))))))) (by decide) f8
  refine ⟨a0.trans (a1.trans (a2.trans (a3.trans (a4.trans (a5.trans (a6.trans (a7.trans (a8.trans ?_)))))))), f9⟩
  refine (n12_109 _ _ _ _).trans ?_
  show some (none, apL ofin (rI ops11b (rI oa_8 (rI ops11a (rI oa_7 (rI ops10_81 (rI oa_6 (rI ops10_43 (rI oa_5 (rI ops8 (rI oa_4 (rI ops7 (rI oa_3 (rI ops6 (rI oa_2 (rI ops5 (rI oa_1 (rI ops2 (rI oa_0 (z0I)))))))))))))))))), rdJ z0J, rR ops11b (rR oa_8 (rR ops11a (rR oa_7 (rR ops10_81 (rR oa_6 (rR ops10_43 (rR oa_5 (rR ops8 (rR oa_4 (rR ops7 (rR oa_3 (rR ops6 (rR oa_2 (rR ops5 (rR oa_1 (rR ops2 (rR oa_0 (z0R)))))))))))))))))), rz ops11b (rz oa_8 (rz ops11a (rz oa_7 (rz ops10_81 (rz oa_6 (rz ops10_43 (rz oa_5 (rz ops8 (rz oa_4 (rz ops7 (rz oa_3 (rz ops6 (rz oa_2 (rz ops5 (rz oa_1 (rz ops2 (rz oa_0 (1)))))))))))))))))), rs ops11b (rs oa_8 (rs ops11a (rs oa_7 (rs ops10_81 (rs oa_6 (rs ops10_43 (rs oa_5 (rs ops8 (rs oa_4 (rs ops7 (rs oa_3 (rs ops6 (rs oa_2 (rs ops5 (rs oa_1 (rs ops2 (rs oa_0 (14)))))))))))))))))))) = _
  rw [a9]
set_option maxRecDepth 100000 in
theorem st_all (L : Nat) (xs : Nat → Int32) : lawR L xs = lawF L xs 18 [(0, .ref 1), (1, .ref 2), (2, .ref 131), (3, .int 0)] [] (mk IC (rdJ z0J) (43, 81, 119, 125, 5)) := by
  obtain ⟨a1, f1⟩ := st_12
  obtain ⟨a2, f2⟩ := ap_ok onew (rI ofin (rI ops11b (rI oa_8 (rI ops11a (rI oa_7 (rI ops10_81 (rI oa_6 (rI ops10_43 (rI oa_5 (rI ops8 (rI oa_4 (rI ops7 (rI oa_3 (rI ops6 (rI oa_2 (rI ops5 (rI oa_1 (rI ops2 (rI oa_0 (z0I)))))))))))))))))))) (rdJ z0J) (rR ofin (rR ops11b (rR oa_8 (rR ops11a (rR oa_7 (rR ops10_81 (rR oa_6 (rR ops10_43 (rR oa_5 (rR ops8 (rR oa_4 (rR ops7 (rR oa_3 (rR ops6 (rR oa_2 (rR ops5 (rR oa_1 (rR ops2 (rR oa_0 (z0R)))))))))))))))))))) (rz ofin (rz ops11b (rz oa_8 (rz ops11a (rz oa_7 (rz ops10_81 (rz oa_6 (rz ops10_43 (rz oa_5 (rz ops8 (rz oa_4 (rz ops7 (rz oa_3 (rz ops6 (rz oa_2 (rz ops5 (rz oa_1 (rz ops2 (rz oa_0 (1)))))))))))))))))))) (rs ofin (rs ops11b (rs oa_8 (rs ops11a (rs oa_7 (rs ops10_81 (rs oa_6 (rs ops10_43 (rs oa_5 (rs ops8 (rs oa_4 (rs ops7 (rs oa_3 (rs ops6 (rs oa_2 (rs ops5 (rs oa_1 (rs ops2 (rs oa_0 (14)))))))))))))))))))) (by decide) f1
  obtain ⟨a3, -⟩ := f13 (s := rs onew (rs ofin (rs ops11b (rs oa_8 (rs ops11a (rs oa_7 (rs ops10_81 (rs oa_6 (rs ops10_43 (rs oa_5 (rs ops8 (rs oa_4 (rs ops7 (rs oa_3 (rs ops6 (rs oa_2 (rs ops5 (rs oa_1 (rs ops2 (rs oa_0 (14))))))))))))))))))))) f2
  refine (st_0 L xs).trans ((bV_e a1).trans ?_)
  refine (st_1 L xs _ _ _ _).trans ?_
  show tm_bV (F_13 [.ref 131] (apL onew (rI ofin (rI ops11b (rI oa_8 (rI ops11a (rI oa_7 (rI ops10_81 (rI oa_6 (rI ops10_43 (rI oa_5 (rI ops8 (rI oa_4 (rI ops7 (rI oa_3 (rI ops6 (rI oa_2 (rI ops5 (rI oa_1 (rI ops2 (rI oa_0 (z0I))))))))))))))))))), rdJ z0J, rR ofin (rR ops11b (rR oa_8 (rR ops11a (rR oa_7 (rR ops10_81 (rR oa_6 (rR ops10_43 (rR oa_5 (rR ops8 (rR oa_4 (rR ops7 (rR oa_3 (rR ops6 (rR oa_2 (rR ops5 (rR oa_1 (rR ops2 (rR oa_0 (z0R))))))))))))))))))), rz ofin (rz ops11b (rz oa_8 (rz ops11a (rz oa_7 (rz ops10_81 (rz oa_6 (rz ops10_43 (rz oa_5 (rz ops8 (rz oa_4 (rz ops7 (rz oa_3 (rz ops6 (rz oa_2 (rz ops5 (rz oa_1 (rz ops2 (rz oa_0 (1))))))))))))))))))), rs ofin (rs ops11b (rs oa_8 (rs ops11a (rs oa_7 (rs ops10_81 (rs oa_6 (rs ops10_43 (rs oa_5 (rs ops8 (rs oa_4 (rs ops7 (rs oa_3 (rs ops6 (rs oa_2 (rs ops5 (rs oa_1 (rs ops2 (rs oa_0 (14)))))))))))))))))))))) _ = _
  rw [a2]
  refine (bV_e a3).trans ((st_2 L xs _).trans ?_)
  have e : ((rI o13_14 (rI o13_13 (rI o13_12 (rI o13_11 (rI o13_10 (rI o13_9 (rI o13_8 (rI o13_7 (rI o13_6 (rI o13_5 (rI o13_4 (rI o13_3 (rI o13_2 (rI o13_1 (rI onew (rI ofin (rI ops11b (rI oa_8 (rI ops11a (rI oa_7 (rI ops10_81 (rI oa_6 (rI ops10_43 (rI oa_5 (rI ops8 (rI oa_4 (rI ops7 (rI oa_3 (rI ops6 (rI oa_2 (rI ops5 (rI oa_1 (rI ops2 (rI oa_0 (z0I)))))))))))))))))))))))))))))))))), rdJ z0J, rR o13_14 (rR o13_13 (rR o13_12 (rR o13_11 (rR o13_10 (rR o13_9 (rR o13_8 (rR o13_7 (rR o13_6 (rR o13_5 (rR o13_4 (rR o13_3 (rR o13_2 (rR o13_1 (rR onew (rR ofin (rR ops11b (rR oa_8 (rR ops11a (rR oa_7 (rR ops10_81 (rR oa_6 (rR ops10_43 (rR oa_5 (rR ops8 (rR oa_4 (rR ops7 (rR oa_3 (rR ops6 (rR oa_2 (rR ops5 (rR oa_1 (rR ops2 (rR oa_0 (z0R)))))))))))))))))))))))))))))))))), rz o13_14 (rz o13_13 (rz o13_12 (rz o13_11 (rz o13_10 (rz o13_9 (rz o13_8 (rz o13_7 (rz o13_6 (rz o13_5 (rz o13_4 (rz o13_3 (rz o13_2 (rz o13_1 (rz onew (rz ofin (rz ops11b (rz oa_8 (rz ops11a (rz oa_7 (rz ops10_81 (rz oa_6 (rz ops10_43 (rz oa_5 (rz ops8 (rz oa_4 (rz ops7 (rz oa_3 (rz ops6 (rz oa_2 (rz ops5 (rz oa_1 (rz ops2 (rz oa_0 (1)))))))))))))))))))))))))))))))))), rs o13_14 (rs o13_13 (rs o13_12 (rs o13_11 (rs o13_10 (rs o13_9 (rs o13_8 (rs o13_7 (rs o13_6 (rs o13_5 (rs o13_4 (rs o13_3 (rs o13_2 (rs o13_1 (rs onew (rs ofin (rs ops11b (rs oa_8 (rs ops11a (rs oa_7 (rs ops10_81 (rs oa_6 (rs ops10_43 (rs oa_5 (rs ops8 (rs oa_4 (rs ops7 (rs oa_3 (rs ops6 (rs oa_2 (rs ops5 (rs oa_1 (rs ops2 (rs oa_0 (14))))))))))))))))))))))))))))))))))) : tm_M) = mk IC (rdJ z0J) (43, 81, 119, 125, 5) := by
    rw [ZC, SC]
    show (IC, rdJ z0J, RC, 184, 95773) = _
    rw [RC_eq]
    rfl
  exact congrArg (fun M => lawF L xs 18 [(0, .ref 1), (1, .ref 2), (2, .ref 131), (3, .int 0)] [] M) e
theorem IC_f : IC 2 11 = 0 ∧ IC 131 2 = 0 ∧ IC 32 1 = 0 ∧ IC 131 74 = 0 ∧ IC 32 2 = 0 ∧ IC 131 75 = 0 ∧ IC 34 7 = 0 ∧ IC 131 84 = 0 ∧ IC 34 8 = 0 ∧ IC 131 85 = 0 ∧ IC 8 5 = 0 ∧ IC 131 33 = 0 ∧ IC 43 1 = 0 ∧ IC 131 21 = 0 ∧ IC 135 0 = 0 ∧ IC 24 10 = 0 ∧ IC 24 9 = (-1) ∧ IC 131 72 = 0 ∧ IC 2 12 = 4 ∧ IC 131 34 = 4 ∧ IC 2 13 = 10 ∧ IC 131 35 = 10 ∧ IC 4 4 = 0 ∧ IC 131 4 = 0 ∧ IC 4 5 = (-1) ∧ IC 131 5 = (-1) ∧ IC 131 30 = 0 ∧ IC 2 10 = 0 ∧ IC 131 32 = 0 ∧ IC 26 0 = 0 ∧ IC 26 64 = 0 ∧ IC 27 0 = 0 ∧ IC 27 64 = 0 := by decide +kernel
theorem JC_f : ∀ k : Fin 23, rdJ z0J 6 k.val = lN (en32 (wrd k.val)) := by decide +kernel
theorem all_0 : RAll IC (rdJ z0J) (43, 81, 119, 125, 5) := by
  obtain ⟨v_2_11, v_131_2, v_32_1, v_131_74, v_32_2, v_131_75, v_34_7, v_131_84, v_34_8, v_131_85, v_8_5, v_131_33, v_43_1, v_131_21, v_135_0, v_24_10, v_24_9, v_131_72, v_2_12, v_131_34, v_2_13, v_131_35, v_4_4, v_131_4, v_4_5, v_131_5, v_131_30, v_2_10, v_131_32, v_26_0, v_26_64, v_27_0, v_27_64⟩ := IC_f
  refine ⟨⟨0, by omega, v_2_11, v_131_2, fun k hk => by omega⟩, ⟨0, 0, by omega, by omega, v_32_1, v_131_74, v_32_2, v_131_75, fun i hi => by omega⟩, ⟨0, 0, by omega, by omega, v_34_7, v_131_84, v_34_8, v_131_85, fun j hj => by omega⟩, Or.inl ⟨v_8_5, v_131_33⟩, ⟨0, 0, (fun _ => (1, 0, 0, 0, (fun _ => 0), (fun _ => 0), -1, 0)), by omega, by omega, Or.inl rfl, fun t ht => by omega, ⟨v_43_1, fun t ht => by omega⟩, ⟨v_131_21, v_135_0, fun t ht => by omega⟩, fun t ht => by omega, ⟨Or.inl v_24_10, Or.inl v_24_9, fun a y u v => by rcases u with rfl | rfl <;> rcases v with rfl | rfl <;> assumption⟩, Or.inl v_131_72⟩, ⟨?_, ?_, ?_, ?_⟩, ⟨?_, ?_⟩, ⟨Or.inl rfl, Or.inr rfl, by show (43 : Nat) ≠ 81; omega⟩, fun k hk => JC_f ⟨k, hk⟩, ⟨Or.inl rfl, Or.inr rfl, by show (119 : Nat) ≠ 125; omega, 0, by omega, v_131_30, Or.inl ⟨v_2_10, v_131_32⟩⟩⟩
  · rw [v_2_12, v_131_34]
  · rw [v_2_13, v_131_35]
  · rw [v_2_12]; decide
  · rw [v_2_12]; decide
  · rw [v_4_4, v_131_4]
  · rw [v_4_5, v_131_5]
