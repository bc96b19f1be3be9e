/-! the constructors: the reader, the class whole, the model -/
set_option maxRecDepth 1000000 in
theorem e2_37 (I : Nat → Nat → Int32) (J : Nat → Nat → Int64) (R : Nat → Nat → Nat) (s : Nat) (w i : Int32) (S : Int64) : R_2 37 [(0, .ref 4), (1, .int w), (2, .long S), (4, .int i)] [] (I, J, R, 5, s) = (if 108 ≤ i then some (none, (I, J, R, 5, s)) else if 1 = 1 ∧ tm_w ([] : List Value) ≤ 8 ∧ 0 ≤ i ∧ i.toNatClampNeg < 108 then (if Int32.ofNat (("trick worth feet cross to off turn from facing alone a b l r beats at in out does mirrored takes left right ").toList.getD i.toNatClampNeg ' ').toNat = 32 then (if 23 ≤ w then R_2 91 [(0, .ref 4), (1, .int w), (2, .long S), (4, .int i)] [] (I, J, R, 5, s) else (if tm_kd tm_sh (I, J, R, 5, s) (R 4 1) = 4 then (if 0 ≤ w ∧ w.toNatClampNeg < (tm_sh (R 4 1)).2 then R_2 91 [(0, .ref 4), (1, .int (w + 1)), (2, .long 0), (4, .int i)] [] (tm_sj (I, J, R, 5, s) (R 4 1) w.toNatClampNeg S) else none) else none)) else tm_bJ (F_1 [.long S, .int (Int32.ofNat (("trick worth feet cross to off turn from facing alone a b l r beats at in out does mirrored takes left right ").toList.getD i.toNatClampNeg ' ').toNat)] (I, J, R, 5, s)) (fun x M => R_2 69 [(0, .ref 4), (1, .int w), (4, .int i)] [.long x] M)) else none) := (tm_F_fix _ _ _ _ _ _ _ _ _ _ _).trans rfl
theorem e2_69 (I : Nat → Nat → Int32) (J : Nat → Nat → Int64) (R : Nat → Nat → Nat) (s : Nat) (w i : Int32) (S : Int64) : R_2 69 [(0, .ref 4), (1, .int w), (4, .int i)] [.long S] (I, J, R, 5, s) = R_2 91 [(0, .ref 4), (1, .int w), (2, .long S), (4, .int i)] [] (I, J, R, 5, s) := (tm_F_fix _ _ _ _ _ _ _ _ _ _ _).trans rfl
theorem e2_91 (I : Nat → Nat → Int32) (J : Nat → Nat → Int64) (R : Nat → Nat → Nat) (s : Nat) (w i : Int32) (S : Int64) : R_2 91 [(0, .ref 4), (1, .int w), (2, .long S), (4, .int i)] [] (I, J, R, 5, s) = R_2 37 [(0, .ref 4), (1, .int w), (2, .long S), (4, .int (i + 1))] [] (I, J, R, 5, s) := (tm_F_fix _ _ _ _ _ _ _ _ _ _ _).trans rfl
theorem e1_5 (I : Nat → Nat → Int32) (J : Nat → Nat → Int64) (R : Nat → Nat → Nat) (s : Nat) (l : Int64) (x : Int32) : F_1 [.long l, .int x] (I, J, R, 5, s) = some (some (.long ((l * 32) + (((x - 97) + 1) : Int32).toInt64)), (I, J, R, 5, s)) := rfl
theorem rd_l {I : Nat → Nat → Int32} {J : Nat → Nat → Int64} {R : Nat → Nat → Nat} {s : Nat} {w i c : Int32} {S S' : Int64} (h1 : ¬ 108 ≤ i) (h2 : 0 ≤ i ∧ i.toNatClampNeg < 108) (h3 : Int32.ofNat (("trick worth feet cross to off turn from facing alone a b l r beats at in out does mirrored takes left right ").toList.getD i.toNatClampNeg ' ').toNat = c) (h4 : ¬ c = 32) (h5 : (S * 32) + (((c - 97) + 1) : Int32).toInt64 = S') : R_2 37 [(0, .ref 4), (1, .int w), (2, .long S), (4, .int i)] [] (I, J, R, 5, s) = R_2 37 [(0, .ref 4), (1, .int w), (2, .long S'), (4, .int (i + 1))] [] (I, J, R, 5, s) := by
  rw [e2_37, if_neg h1, if_pos ⟨rfl, by decide, h2.1, h2.2⟩, h3, if_neg h4, e1_5, h5]
  exact (e2_69 _ _ _ _ _ _ _).trans (e2_91 _ _ _ _ _ _ _)
theorem kd_60 : (tm_sh 6).1 = 4 := by decide +kernel
theorem kd_6 (I : Nat → Nat → Int32) (J : Nat → Nat → Int64) (R : Nat → Nat → Nat) (s : Nat) : tm_kd tm_sh (I, J, R, 5, s) 6 = 4 := by
  unfold tm_kd
  have h : 6 < tm_z (I, J, R, 5, s) + 2 := by show 6 < 5 + 2; omega
  rw [if_pos h]
  exact kd_60
theorem sh_6 : (tm_sh 6).2 = 23 := by decide +kernel
theorem rd_w {I : Nat → Nat → Int32} {J : Nat → Nat → Int64} {R : Nat → Nat → Nat} {s : Nat} {w i : Int32} {S : Int64} (h : R 4 1 = 6) (h1 : ¬ 108 ≤ i) (h2 : 0 ≤ i ∧ i.toNatClampNeg < 108) (h3 : Int32.ofNat (("trick worth feet cross to off turn from facing alone a b l r beats at in out does mirrored takes left right ").toList.getD i.toNatClampNeg ' ').toNat = 32) (h4 : ¬ 23 ≤ w) (h5 : 0 ≤ w ∧ w.toNatClampNeg < 23) : R_2 37 [(0, .ref 4), (1, .int w), (2, .long S), (4, .int i)] [] (I, J, R, 5, s) = R_2 37 [(0, .ref 4), (1, .int (w + 1)), (2, .long 0), (4, .int (i + 1))] [] (I, tm_u J 6 w.toNatClampNeg S, R, 5, s) := by
  rw [e2_37, if_neg h1, if_pos ⟨rfl, by decide, h2.1, h2.2⟩, if_pos h3, if_neg h4, h, if_pos (kd_6 _ _ _ _), sh_6, if_pos h5]
  exact e2_91 _ _ _ _ _ _ _
theorem n2 (I : Nat → Nat → Int32) (J : Nat → Nat → Int64) (R : Nat → Nat → Nat) (s : Nat) : F_2 [.ref 4] (I, J, R, 3, s) = R_2 37 [(0, .ref 4), (1, .int 0), (2, .long 0), (4, .int 0)] [] (apL [(0, 0, 0, 0), (1, 4, 0, 5), (0, 0, 0, 23), (1, 4, 1, 6), (3, 4, 5, 0), (2, 4, 7, 35)] (I, J, R, 3, s)) := rfl
theorem rd_0 {I : Nat → Nat → Int32} {J : Nat → Nat → Int64} {R : Nat → Nat → Nat} {s : Nat} (h : R 4 1 = 6) : R_2 37 [(0, .ref 4), (1, .int 0), (2, .long 0), (4, .int 0)] [] (I, J, R, 5, s) = R_2 37 [(0, .ref 4), (1, .int 1), (2, .long 0), (4, .int 6)] [] (I, tm_u J 6 0 21570667, R, 5, s) := (rd_l (w := 0) (i := 0) (c := 116) (S := 0) (S' := 20) (by decide) (by decide) (by decide +kernel) (by decide) (by decide)).trans ((rd_l (w := 0) (i := 1) (c := 114) (S := 20) (S' := 658) (by decide) (by decide) (by decide +kernel) (by decide) (by decide)).trans ((rd_l (w := 0) (i := 2) (c := 105) (S := 658) (S' := 21065) (by decide) (by decide) (by decide +kernel) (by decide) (by decide)).trans ((rd_l (w := 0) (i := 3) (c := 99) (S := 21065) (S' := 674083) (by decide) (by decide) (by decide +kernel) (by decide) (by decide)).trans ((rd_l (w := 0) (i := 4) (c := 107) (S := 674083) (S' := 21570667) (by decide) (by decide) (by decide +kernel) (by decide) (by decide)).trans ((rd_w (w := 0) (i := 5) (S := 21570667) h (by decide) (by decide) (by decide +kernel) (by decide) (by decide)))))))
theorem rd_1 {I : Nat → Nat → Int32} {J : Nat → Nat → Int64} {R : Nat → Nat → Nat} {s : Nat} (h : R 4 1 = 6) : R_2 37 [(0, .ref 4), (1, .int 1), (2, .long 0), (4, .int 6)] [] (I, J, R, 5, s) = R_2 37 [(0, .ref 4), (1, .int 2), (2, .long 0), (4, .int 12)] [] (I, tm_u J 6 1 24627848, R, 5, s) := (rd_l (w := 1) (i := 6) (c := 119) (S := 0) (S' := 23) (by decide) (by decide) (by decide +kernel) (by decide) (by decide)).trans ((rd_l (w := 1) (i := 7) (c := 111) (S := 23) (S' := 751) (by decide) (by decide) (by decide +kernel) (by decide) (by decide)).trans ((rd_l (w := 1) (i := 8) (c := 114) (S := 751) (S' := 24050) (by decide) (by decide) (by decide +kernel) (by decide) (by decide)).trans ((rd_l (w := 1) (i := 9) (c := 116) (S := 24050) (S' := 769620) (by decide) (by decide) (by decide +kernel) (by decide) (by decide)).trans ((rd_l (w := 1) (i := 10) (c := 104) (S := 769620) (S' := 24627848) (by decide) (by decide) (by decide +kernel) (by decide) (by decide)).trans ((rd_w (w := 1) (i := 11) (S := 24627848) h (by decide) (by decide) (by decide +kernel) (by decide) (by decide)))))))
theorem rd_2 {I : Nat → Nat → Int32} {J : Nat → Nat → Int64} {R : Nat → Nat → Nat} {s : Nat} (h : R 4 1 = 6) : R_2 37 [(0, .ref 4), (1, .int 2), (2, .long 0), (4, .int 12)] [] (I, J, R, 5, s) = R_2 37 [(0, .ref 4), (1, .int 3), (2, .long 0), (4, .int 17)] [] (I, tm_u J 6 2 201908, R, 5, s) := (rd_l (w := 2) (i := 12) (c := 102) (S := 0) (S' := 6) (by decide) (by decide) (by decide +kernel) (by decide) (by decide)).trans ((rd_l (w := 2) (i := 13) (c := 101) (S := 6) (S' := 197) (by decide) (by decide) (by decide +kernel) (by decide) (by decide)).trans ((rd_l (w := 2) (i := 14) (c := 101) (S := 197) (S' := 6309) (by decide) (by decide) (by decide +kernel) (by decide) (by decide)).trans ((rd_l (w := 2) (i := 15) (c := 116) (S := 6309) (S' := 201908) (by decide) (by decide) (by decide +kernel) (by decide) (by decide)).trans ((rd_w (w := 2) (i := 16) (S := 201908) h (by decide) (by decide) (by decide +kernel) (by decide) (by decide))))))
theorem rd_3 {I : Nat → Nat → Int32} {J : Nat → Nat → Int64} {R : Nat → Nat → Nat} {s : Nat} (h : R 4 1 = 6) : R_2 37 [(0, .ref 4), (1, .int 3), (2, .long 0), (4, .int 17)] [] (I, J, R, 5, s) = R_2 37 [(0, .ref 4), (1, .int 4), (2, .long 0), (4, .int 23)] [] (I, tm_u J 6 3 3751539, R, 5, s) := (rd_l (w := 3) (i := 17) (c := 99) (S := 0) (S' := 3) (by decide) (by decide) (by decide +kernel) (by decide) (by decide)).trans ((rd_l (w := 3) (i := 18) (c := 114) (S := 3) (S' := 114) (by decide) (by decide) (by decide +kernel) (by decide) (by decide)).trans ((rd_l (w := 3) (i := 19) (c := 111) (S := 114) (S' := 3663) (by decide) (by decide) (by decide +kernel) (by decide) (by decide)).trans ((rd_l (w := 3) (i := 20) (c := 115) (S := 3663) (S' := 117235) (by decide) (by decide) (by decide +kernel) (by decide) (by decide)).trans ((rd_l (w := 3) (i := 21) (c := 115) (S := 117235) (S' := 3751539) (by decide) (by decide) (by decide +kernel) (by decide) (by decide)).trans ((rd_w (w := 3) (i := 22) (S := 3751539) h (by decide) (by decide) (by decide +kernel) (by decide) (by decide)))))))
theorem rd_4 {I : Nat → Nat → Int32} {J : Nat → Nat → Int64} {R : Nat → Nat → Nat} {s : Nat} (h : R 4 1 = 6) : R_2 37 [(0, .ref 4), (1, .int 4), (2, .long 0), (4, .int 23)] [] (I, J, R, 5, s) = R_2 37 [(0, .ref 4), (1, .int 5), (2, .long 0), (4, .int 26)] [] (I, tm_u J 6 4 655, R, 5, s) := (rd_l (w := 4) (i := 23) (c := 116) (S := 0) (S' := 20) (by decide) (by decide) (by decide +kernel) (by decide) (by decide)).trans ((rd_l (w := 4) (i := 24) (c := 111) (S := 20) (S' := 655) (by decide) (by decide) (by decide +kernel) (by decide) (by decide)).trans ((rd_w (w := 4) (i := 25) (S := 655) h (by decide) (by decide) (by decide +kernel) (by decide) (by decide))))
theorem rd_5 {I : Nat → Nat → Int32} {J : Nat → Nat → Int64} {R : Nat → Nat → Nat} {s : Nat} (h : R 4 1 = 6) : R_2 37 [(0, .ref 4), (1, .int 5), (2, .long 0), (4, .int 26)] [] (I, J, R, 5, s) = R_2 37 [(0, .ref 4), (1, .int 6), (2, .long 0), (4, .int 30)] [] (I, tm_u J 6 5 15558, R, 5, s) := (rd_l (w := 5) (i := 26) (c := 111) (S := 0) (S' := 15) (by decide) (by decide) (by decide +kernel) (by decide) (by decide)).trans ((rd_l (w := 5) (i := 27) (c := 102) (S := 15) (S' := 486) (by decide) (by decide) (by decide +kernel) (by decide) (by decide)).trans ((rd_l (w := 5) (i := 28) (c := 102) (S := 486) (S' := 15558) (by decide) (by decide) (by decide +kernel) (by decide) (by decide)).trans ((rd_w (w := 5) (i := 29) (S := 15558) h (by decide) (by decide) (by decide +kernel) (by decide) (by decide)))))
theorem rd_6 {I : Nat → Nat → Int32} {J : Nat → Nat → Int64} {R : Nat → Nat → Nat} {s : Nat} (h : R 4 1 = 6) : R_2 37 [(0, .ref 4), (1, .int 6), (2, .long 0), (4, .int 30)] [] (I, J, R, 5, s) = R_2 37 [(0, .ref 4), (1, .int 7), (2, .long 0), (4, .int 35)] [] (I, tm_u J 6 6 677454, R, 5, s) := (rd_l (w := 6) (i := 30) (c := 116) (S := 0) (S' := 20) (by decide) (by decide) (by decide +kernel) (by decide) (by decide)).trans ((rd_l (w := 6) (i := 31) (c := 117) (S := 20) (S' := 661) (by decide) (by decide) (by decide +kernel) (by decide) (by decide)).trans ((rd_l (w := 6) (i := 32) (c := 114) (S := 661) (S' := 21170) (by decide) (by decide) (by decide +kernel) (by decide) (by decide)).trans ((rd_l (w := 6) (i := 33) (c := 110) (S := 21170) (S' := 677454) (by decide) (by decide) (by decide +kernel) (by decide) (by decide)).trans ((rd_w (w := 6) (i := 34) (S := 677454) h (by decide) (by decide) (by decide +kernel) (by decide) (by decide))))))
theorem rd_7 {I : Nat → Nat → Int32} {J : Nat → Nat → Int64} {R : Nat → Nat → Nat} {s : Nat} (h : R 4 1 = 6) : R_2 37 [(0, .ref 4), (1, .int 7), (2, .long 0), (4, .int 35)] [] (I, J, R, 5, s) = R_2 37 [(0, .ref 4), (1, .int 8), (2, .long 0), (4, .int 40)] [] (I, tm_u J 6 7 215533, R, 5, s) := (rd_l (w := 7) (i := 35) (c := 102) (S := 0) (S' := 6) (by decide) (by decide) (by decide +kernel) (by decide) (by decide)).trans ((rd_l (w := 7) (i := 36) (c := 114) (S := 6) (S' := 210) (by decide) (by decide) (by decide +kernel) (by decide) (by decide)).trans ((rd_l (w := 7) (i := 37) (c := 111) (S := 210) (S' := 6735) (by decide) (by decide) (by decide +kernel) (by decide) (by decide)).trans ((rd_l (w := 7) (i := 38) (c := 109) (S := 6735) (S' := 215533) (by decide) (by decide) (by decide +kernel) (by decide) (by decide)).trans ((rd_w (w := 7) (i := 39) (S := 215533) h (by decide) (by decide) (by decide +kernel) (by decide) (by decide))))))
theorem rd_8 {I : Nat → Nat → Int32} {J : Nat → Nat → Int64} {R : Nat → Nat → Nat} {s : Nat} (h : R 4 1 = 6) : R_2 37 [(0, .ref 4), (1, .int 8), (2, .long 0), (4, .int 40)] [] (I, J, R, 5, s) = R_2 37 [(0, .ref 4), (1, .int 9), (2, .long 0), (4, .int 47)] [] (I, tm_u J 6 8 202483143, R, 5, s) := (rd_l (w := 8) (i := 40) (c := 102) (S := 0) (S' := 6) (by decide) (by decide) (by decide +kernel) (by decide) (by decide)).trans ((rd_l (w := 8) (i := 41) (c := 97) (S := 6) (S' := 193) (by decide) (by decide) (by decide +kernel) (by decide) (by decide)).trans ((rd_l (w := 8) (i := 42) (c := 99) (S := 193) (S' := 6179) (by decide) (by decide) (by decide +kernel) (by decide) (by decide)).trans ((rd_l (w := 8) (i := 43) (c := 105) (S := 6179) (S' := 197737) (by decide) (by decide) (by decide +kernel) (by decide) (by decide)).trans ((rd_l (w := 8) (i := 44) (c := 110) (S := 197737) (S' := 6327598) (by decide) (by decide) (by decide +kernel) (by decide) (by decide)).trans ((rd_l (w := 8) (i := 45) (c := 103) (S := 6327598) (S' := 202483143) (by decide) (by decide) (by decide +kernel) (by decide) (by decide)).trans ((rd_w (w := 8) (i := 46) (S := 202483143) h (by decide) (by decide) (by decide +kernel) (by decide) (by decide))))))))
theorem rd_9 {I : Nat → Nat → Int32} {J : Nat → Nat → Int64} {R : Nat → Nat → Nat} {s : Nat} (h : R 4 1 = 6) : R_2 37 [(0, .ref 4), (1, .int 9), (2, .long 0), (4, .int 47)] [] (I, J, R, 5, s) = R_2 37 [(0, .ref 4), (1, .int 10), (2, .long 0), (4, .int 53)] [] (I, tm_u J 6 9 1457605, R, 5, s) := (rd_l (w := 9) (i := 47) (c := 97) (S := 0) (S' := 1) (by decide) (by decide) (by decide +kernel) (by decide) (by decide)).trans ((rd_l (w := 9) (i := 48) (c := 108) (S := 1) (S' := 44) (by decide) (by decide) (by decide +kernel) (by decide) (by decide)).trans ((rd_l (w := 9) (i := 49) (c := 111) (S := 44) (S' := 1423) (by decide) (by decide) (by decide +kernel) (by decide) (by decide)).trans ((rd_l (w := 9) (i := 50) (c := 110) (S := 1423) (S' := 45550) (by decide) (by decide) (by decide +kernel) (by decide) (by decide)).trans ((rd_l (w := 9) (i := 51) (c := 101) (S := 45550) (S' := 1457605) (by decide) (by decide) (by decide +kernel) (by decide) (by decide)).trans ((rd_w (w := 9) (i := 52) (S := 1457605) h (by decide) (by decide) (by decide +kernel) (by decide) (by decide)))))))
theorem rd_10 {I : Nat → Nat → Int32} {J : Nat → Nat → Int64} {R : Nat → Nat → Nat} {s : Nat} (h : R 4 1 = 6) : R_2 37 [(0, .ref 4), (1, .int 10), (2, .long 0), (4, .int 53)] [] (I, J, R, 5, s) = R_2 37 [(0, .ref 4), (1, .int 11), (2, .long 0), (4, .int 55)] [] (I, tm_u J 6 10 1, R, 5, s) := (rd_l (w := 10) (i := 53) (c := 97) (S := 0) (S' := 1) (by decide) (by decide) (by decide +kernel) (by decide) (by decide)).trans ((rd_w (w := 10) (i := 54) (S := 1) h (by decide) (by decide) (by decide +kernel) (by decide) (by decide)))
theorem rd_11 {I : Nat → Nat → Int32} {J : Nat → Nat → Int64} {R : Nat → Nat → Nat} {s : Nat} (h : R 4 1 = 6) : R_2 37 [(0, .ref 4), (1, .int 11), (2, .long 0), (4, .int 55)] [] (I, J, R, 5, s) = R_2 37 [(0, .ref 4), (1, .int 12), (2, .long 0), (4, .int 57)] [] (I, tm_u J 6 11 2, R, 5, s) := (rd_l (w := 11) (i := 55) (c := 98) (S := 0) (S' := 2) (by decide) (by decide) (by decide +kernel) (by decide) (by decide)).trans ((rd_w (w := 11) (i := 56) (S := 2) h (by decide) (by decide) (by decide +kernel) (by decide) (by decide)))
theorem rd_12 {I : Nat → Nat → Int32} {J : Nat → Nat → Int64} {R : Nat → Nat → Nat} {s : Nat} (h : R 4 1 = 6) : R_2 37 [(0, .ref 4), (1, .int 12), (2, .long 0), (4, .int 57)] [] (I, J, R, 5, s) = R_2 37 [(0, .ref 4), (1, .int 13), (2, .long 0), (4, .int 59)] [] (I, tm_u J 6 12 12, R, 5, s) := (rd_l (w := 12) (i := 57) (c := 108) (S := 0) (S' := 12) (by decide) (by decide) (by decide +kernel) (by decide) (by decide)).trans ((rd_w (w := 12) (i := 58) (S := 12) h (by decide) (by decide) (by decide +kernel) (by decide) (by decide)))
theorem rd_13 {I : Nat → Nat → Int32} {J : Nat → Nat → Int64} {R : Nat → Nat → Nat} {s : Nat} (h : R 4 1 = 6) : R_2 37 [(0, .ref 4), (1, .int 13), (2, .long 0), (4, .int 59)] [] (I, J, R, 5, s) = R_2 37 [(0, .ref 4), (1, .int 14), (2, .long 0), (4, .int 61)] [] (I, tm_u J 6 13 18, R, 5, s) := (rd_l (w := 13) (i := 59) (c := 114) (S := 0) (S' := 18) (by decide) (by decide) (by decide +kernel) (by decide) (by decide)).trans ((rd_w (w := 13) (i := 60) (S := 18) h (by decide) (by decide) (by decide +kernel) (by decide) (by decide)))
theorem rd_14 {I : Nat → Nat → Int32} {J : Nat → Nat → Int64} {R : Nat → Nat → Nat} {s : Nat} (h : R 4 1 = 6) : R_2 37 [(0, .ref 4), (1, .int 14), (2, .long 0), (4, .int 61)] [] (I, J, R, 5, s) = R_2 37 [(0, .ref 4), (1, .int 15), (2, .long 0), (4, .int 67)] [] (I, tm_u J 6 14 2262675, R, 5, s) := (rd_l (w := 14) (i := 61) (c := 98) (S := 0) (S' := 2) (by decide) (by decide) (by decide +kernel) (by decide) (by decide)).trans ((rd_l (w := 14) (i := 62) (c := 101) (S := 2) (S' := 69) (by decide) (by decide) (by decide +kernel) (by decide) (by decide)).trans ((rd_l (w := 14) (i := 63) (c := 97) (S := 69) (S' := 2209) (by decide) (by decide) (by decide +kernel) (by decide) (by decide)).trans ((rd_l (w := 14) (i := 64) (c := 116) (S := 2209) (S' := 70708) (by decide) (by decide) (by decide +kernel) (by decide) (by decide)).trans ((rd_l (w := 14) (i := 65) (c := 115) (S := 70708) (S' := 2262675) (by decide) (by decide) (by decide +kernel) (by decide) (by decide)).trans ((rd_w (w := 14) (i := 66) (S := 2262675) h (by decide) (by decide) (by decide +kernel) (by decide) (by decide)))))))
theorem rd_15 {I : Nat → Nat → Int32} {J : Nat → Nat → Int64} {R : Nat → Nat → Nat} {s : Nat} (h : R 4 1 = 6) : R_2 37 [(0, .ref 4), (1, .int 15), (2, .long 0), (4, .int 67)] [] (I, J, R, 5, s) = R_2 37 [(0, .ref 4), (1, .int 16), (2, .long 0), (4, .int 70)] [] (I, tm_u J 6 15 52, R, 5, s) := (rd_l (w := 15) (i := 67) (c := 97) (S := 0) (S' := 1) (by decide) (by decide) (by decide +kernel) (by decide) (by decide)).trans ((rd_l (w := 15) (i := 68) (c := 116) (S := 1) (S' := 52) (by decide) (by decide) (by decide +kernel) (by decide) (by decide)).trans ((rd_w (w := 15) (i := 69) (S := 52) h (by decide) (by decide) (by decide +kernel) (by decide) (by decide))))
theorem rd_16 {I : Nat → Nat → Int32} {J : Nat → Nat → Int64} {R : Nat → Nat → Nat} {s : Nat} (h : R 4 1 = 6) : R_2 37 [(0, .ref 4), (1, .int 16), (2, .long 0), (4, .int 70)] [] (I, J, R, 5, s) = R_2 37 [(0, .ref 4), (1, .int 17), (2, .long 0), (4, .int 73)] [] (I, tm_u J 6 16 302, R, 5, s) := (rd_l (w := 16) (i := 70) (c := 105) (S := 0) (S' := 9) (by decide) (by decide) (by decide +kernel) (by decide) (by decide)).trans ((rd_l (w := 16) (i := 71) (c := 110) (S := 9) (S' := 302) (by decide) (by decide) (by decide +kernel) (by decide) (by decide)).trans ((rd_w (w := 16) (i := 72) (S := 302) h (by decide) (by decide) (by decide +kernel) (by decide) (by decide))))
theorem rd_17 {I : Nat → Nat → Int32} {J : Nat → Nat → Int64} {R : Nat → Nat → Nat} {s : Nat} (h : R 4 1 = 6) : R_2 37 [(0, .ref 4), (1, .int 17), (2, .long 0), (4, .int 73)] [] (I, J, R, 5, s) = R_2 37 [(0, .ref 4), (1, .int 18), (2, .long 0), (4, .int 77)] [] (I, tm_u J 6 17 16052, R, 5, s) := (rd_l (w := 17) (i := 73) (c := 111) (S := 0) (S' := 15) (by decide) (by decide) (by decide +kernel) (by decide) (by decide)).trans ((rd_l (w := 17) (i := 74) (c := 117) (S := 15) (S' := 501) (by decide) (by decide) (by decide +kernel) (by decide) (by decide)).trans ((rd_l (w := 17) (i := 75) (c := 116) (S := 501) (S' := 16052) (by decide) (by decide) (by decide +kernel) (by decide) (by decide)).trans ((rd_w (w := 17) (i := 76) (S := 16052) h (by decide) (by decide) (by decide +kernel) (by decide) (by decide)))))
theorem rd_18 {I : Nat → Nat → Int32} {J : Nat → Nat → Int64} {R : Nat → Nat → Nat} {s : Nat} (h : R 4 1 = 6) : R_2 37 [(0, .ref 4), (1, .int 18), (2, .long 0), (4, .int 77)] [] (I, J, R, 5, s) = R_2 37 [(0, .ref 4), (1, .int 19), (2, .long 0), (4, .int 82)] [] (I, tm_u J 6 18 146611, R, 5, s) := (rd_l (w := 18) (i := 77) (c := 100) (S := 0) (S' := 4) (by decide) (by decide) (by decide +kernel) (by decide) (by decide)).trans ((rd_l (w := 18) (i := 78) (c := 111) (S := 4) (S' := 143) (by decide) (by decide) (by decide +kernel) (by decide) (by decide)).trans ((rd_l (w := 18) (i := 79) (c := 101) (S := 143) (S' := 4581) (by decide) (by decide) (by decide +kernel) (by decide) (by decide)).trans ((rd_l (w := 18) (i := 80) (c := 115) (S := 4581) (S' := 146611) (by decide) (by decide) (by decide +kernel) (by decide) (by decide)).trans ((rd_w (w := 18) (i := 81) (S := 146611) h (by decide) (by decide) (by decide +kernel) (by decide) (by decide))))))
theorem rd_19 {I : Nat → Nat → Int32} {J : Nat → Nat → Int64} {R : Nat → Nat → Nat} {s : Nat} (h : R 4 1 = 6) : R_2 37 [(0, .ref 4), (1, .int 19), (2, .long 0), (4, .int 82)] [] (I, J, R, 5, s) = R_2 37 [(0, .ref 4), (1, .int 20), (2, .long 0), (4, .int 91)] [] (I, tm_u J 6 19 456963639460, R, 5, s) := (rd_l (w := 19) (i := 82) (c := 109) (S := 0) (S' := 13) (by decide) (by decide) (by decide +kernel) (by decide) (by decide)).trans ((rd_l (w := 19) (i := 83) (c := 105) (S := 13) (S' := 425) (by decide) (by decide) (by decide +kernel) (by decide) (by decide)).trans ((rd_l (w := 19) (i := 84) (c := 114) (S := 425) (S' := 13618) (by decide) (by decide) (by decide +kernel) (by decide) (by decide)).trans ((rd_l (w := 19) (i := 85) (c := 114) (S := 13618) (S' := 435794) (by decide) (by decide) (by decide +kernel) (by decide) (by decide)).trans ((rd_l (w := 19) (i := 86) (c := 111) (S := 435794) (S' := 13945423) (by decide) (by decide) (by decide +kernel) (by decide) (by decide)).trans ((rd_l (w := 19) (i := 87) (c := 114) (S := 13945423) (S' := 446253554) (by decide) (by decide) (by decide +kernel) (by decide) (by decide)).trans ((rd_l (w := 19) (i := 88) (c := 101) (S := 446253554) (S' := 14280113733) (by decide) (by decide) (by decide +kernel) (by decide) (by decide)).trans ((rd_l (w := 19) (i := 89) (c := 100) (S := 14280113733) (S' := 456963639460) (by decide) (by decide) (by decide +kernel) (by decide) (by decide)).trans ((rd_w (w := 19) (i := 90) (S := 456963639460) h (by decide) (by decide) (by decide +kernel) (by decide) (by decide))))))))))
theorem rd_20 {I : Nat → Nat → Int32} {J : Nat → Nat → Int64} {R : Nat → Nat → Nat} {s : Nat} (h : R 4 1 = 6) : R_2 37 [(0, .ref 4), (1, .int 20), (2, .long 0), (4, .int 91)] [] (I, J, R, 5, s) = R_2 37 [(0, .ref 4), (1, .int 21), (2, .long 0), (4, .int 97)] [] (I, tm_u J 6 20 21015731, R, 5, s) := (rd_l (w := 20) (i := 91) (c := 116) (S := 0) (S' := 20) (by decide) (by decide) (by decide +kernel) (by decide) (by decide)).trans ((rd_l (w := 20) (i := 92) (c := 97) (S := 20) (S' := 641) (by decide) (by decide) (by decide +kernel) (by decide) (by decide)).trans ((rd_l (w := 20) (i := 93) (c := 107) (S := 641) (S' := 20523) (by decide) (by decide) (by decide +kernel) (by decide) (by decide)).trans ((rd_l (w := 20) (i := 94) (c := 101) (S := 20523) (S' := 656741) (by decide) (by decide) (by decide +kernel) (by decide) (by decide)).trans ((rd_l (w := 20) (i := 95) (c := 115) (S := 656741) (S' := 21015731) (by decide) (by decide) (by decide +kernel) (by decide) (by decide)).trans ((rd_w (w := 20) (i := 96) (S := 21015731) h (by decide) (by decide) (by decide +kernel) (by decide) (by decide)))))))
theorem rd_21 {I : Nat → Nat → Int32} {J : Nat → Nat → Int64} {R : Nat → Nat → Nat} {s : Nat} (h : R 4 1 = 6) : R_2 37 [(0, .ref 4), (1, .int 21), (2, .long 0), (4, .int 97)] [] (I, J, R, 5, s) = R_2 37 [(0, .ref 4), (1, .int 22), (2, .long 0), (4, .int 102)] [] (I, tm_u J 6 21 398548, R, 5, s) := (rd_l (w := 21) (i := 97) (c := 108) (S := 0) (S' := 12) (by decide) (by decide) (by decide +kernel) (by decide) (by decide)).trans ((rd_l (w := 21) (i := 98) (c := 101) (S := 12) (S' := 389) (by decide) (by decide) (by decide +kernel) (by decide) (by decide)).trans ((rd_l (w := 21) (i := 99) (c := 102) (S := 389) (S' := 12454) (by decide) (by decide) (by decide +kernel) (by decide) (by decide)).trans ((rd_l (w := 21) (i := 100) (c := 116) (S := 12454) (S' := 398548) (by decide) (by decide) (by decide +kernel) (by decide) (by decide)).trans ((rd_w (w := 21) (i := 101) (S := 398548) h (by decide) (by decide) (by decide +kernel) (by decide) (by decide))))))
theorem rd_22 {I : Nat → Nat → Int32} {J : Nat → Nat → Int64} {R : Nat → Nat → Nat} {s : Nat} (h : R 4 1 = 6) : R_2 37 [(0, .ref 4), (1, .int 22), (2, .long 0), (4, .int 102)] [] (I, J, R, 5, s) = R_2 37 [(0, .ref 4), (1, .int 23), (2, .long 0), (4, .int 108)] [] (I, tm_u J 6 22 19176724, R, 5, s) := (rd_l (w := 22) (i := 102) (c := 114) (S := 0) (S' := 18) (by decide) (by decide) (by decide +kernel) (by decide) (by decide)).trans ((rd_l (w := 22) (i := 103) (c := 105) (S := 18) (S' := 585) (by decide) (by decide) (by decide +kernel) (by decide) (by decide)).trans ((rd_l (w := 22) (i := 104) (c := 103) (S := 585) (S' := 18727) (by decide) (by decide) (by decide +kernel) (by decide) (by decide)).trans ((rd_l (w := 22) (i := 105) (c := 104) (S := 18727) (S' := 599272) (by decide) (by decide) (by decide +kernel) (by decide) (by decide)).trans ((rd_l (w := 22) (i := 106) (c := 116) (S := 599272) (S' := 19176724) (by decide) (by decide) (by decide +kernel) (by decide) (by decide)).trans ((rd_w (w := 22) (i := 107) (S := 19176724) h (by decide) (by decide) (by decide +kernel) (by decide) (by decide)))))))
theorem rd_end (I : Nat → Nat → Int32) (J : Nat → Nat → Int64) (R : Nat → Nat → Nat) (s : Nat) : R_2 37 [(0, .ref 4), (1, .int 23), (2, .long 0), (4, .int 108)] [] (I, J, R, 5, s) = some (none, (I, J, R, 5, s)) := by
  rw [e2_37, if_pos (by decide)]
def rdJ (J : Nat → Nat → Int64) : Nat → Nat → Int64 := tm_u (tm_u (tm_u (tm_u (tm_u (tm_u (tm_u (tm_u (tm_u (tm_u (tm_u (tm_u (tm_u (tm_u (tm_u (tm_u (tm_u (tm_u (tm_u (tm_u (tm_u (tm_u (tm_u (J) 6 0 21570667) 6 1 24627848) 6 2 201908) 6 3 3751539) 6 4 655) 6 5 15558) 6 6 677454) 6 7 215533) 6 8 202483143) 6 9 1457605) 6 10 1) 6 11 2) 6 12 12) 6 13 18) 6 14 2262675) 6 15 52) 6 16 302) 6 17 16052) 6 18 146611) 6 19 456963639460) 6 20 21015731) 6 21 398548) 6 22 19176724
def ops2 : List (Nat × Nat × Nat × Nat) := [(0, 0, 0, 0), (1, 4, 0, 5), (0, 0, 0, 23), (1, 4, 1, 6), (3, 4, 5, 0), (2, 4, 7, 35)]
def sJ (f : (Nat → Nat → Int64) → (Nat → Nat → Int64)) (M : tm_M) : tm_M := (M.1, f M.2.1, M.2.2)
theorem f2 (I : Nat → Nat → Int32) (J : Nat → Nat → Int64) (R : Nat → Nat → Nat) (s : Nat) : F_2 [.ref 4] (I, J, R, 3, s) = some (none, sJ rdJ (apL ops2 (I, J, R, 3, s))) := (n2 I J R s).trans ((rd_0 rfl).trans ((rd_1 rfl).trans ((rd_2 rfl).trans ((rd_3 rfl).trans ((rd_4 rfl).trans ((rd_5 rfl).trans ((rd_6 rfl).trans ((rd_7 rfl).trans ((rd_8 rfl).trans ((rd_9 rfl).trans ((rd_10 rfl).trans ((rd_11 rfl).trans ((rd_12 rfl).trans ((rd_13 rfl).trans ((rd_14 rfl).trans ((rd_15 rfl).trans ((rd_16 rfl).trans ((rd_17 rfl).trans ((rd_18 rfl).trans ((rd_19 rfl).trans ((rd_20 rfl).trans ((rd_21 rfl).trans ((rd_22 rfl).trans (rd_end _ _ _ _))))))))))))))))))))))))
/-! the class, whole, and the model -/
/-- cells that are not made hold nothing -/
def Fr (I : Nat → Nat → Int32) (J : Nat → Nat → Int64) (R : Nat → Nat → Nat) (z : Nat) : Prop := ∀ x y, z + 2 ≤ x → I x y = 0 ∧ J x y = 0 ∧ R x y = 0
def rI : List (Nat × Nat × Nat × Nat) → (Nat → Nat → Int32) → Nat → Nat → Int32
  | [], I => I
  | o :: r, I => rI r (match o.1 with
    | 0 => I
    | 1 => I
    | 2 => tm_u I o.2.1 o.2.2.1 (nI o.2.2.2)
    | _ => tm_u I o.2.1 o.2.2.1 (-1))
def rR : List (Nat × Nat × Nat × Nat) → (Nat → Nat → Nat) → Nat → Nat → Nat
  | [], R => R
  | o :: r, R => rR r (match o.1 with
    | 1 => tm_u R o.2.1 o.2.2.1 o.2.2.2
    | _ => R)
def rz : List (Nat × Nat × Nat × Nat) → Nat → Nat
  | [], z => z
  | o :: r, z => rz r (match o.1 with
    | 0 => z + 1
    | _ => z)
def rs : List (Nat × Nat × Nat × Nat) → Nat → Nat
  | [], s => s
  | o :: r, s => rs r (match o.1 with
    | 0 => s + o.2.2.2
    | _ => s)
def ck : List (Nat × Nat × Nat × Nat) → Nat → Bool
  | [], _ => true
  | o :: r, z => match o.1 with
    | 0 => ck r (z + 1)
    | _ => decide (o.2.1 < z + 2) && ck r z
theorem tm_c0 {α : Type} {f : Nat → Nat → α} {a : Nat} {v : α} (h : ∀ y, f a y = v) : tm_c f a v = f := by
  funext x y
  unfold tm_c
  by_cases c : x = a
  · rw [if_pos c, c, h y]
  · rw [if_neg c]
theorem ap_ok : ∀ (ops : List (Nat × Nat × Nat × Nat)) (I : Nat → Nat → Int32) (J : Nat → Nat → Int64) (R : Nat → Nat → Nat) (z s : Nat), ck ops z = true → Fr I J R z → apL ops (I, J, R, z, s) = (rI ops I, J, rR ops R, rz ops z, rs ops s) ∧ Fr (rI ops I) J (rR ops R) (rz ops z) := by
  intro ops
  induction ops with
  | nil => intro I J R z s _ h; exact ⟨rfl, h⟩
  | cons o r ih =>
    intro I J R z s hc h
    obtain ⟨t, a, k, v⟩ := o
    match t with
    | 0 =>
      have e : apO (0, a, k, v) (I, J, R, z, s) = (I, J, R, z + 1, s + v) := by
        show tm_nw (I, J, R, z, s) v = _
        show (tm_c I (z + 2) 0, tm_c J (z + 2) 0, tm_c R (z + 2) 0, z + 1, s + v) = _
        rw [tm_c0 (fun y => (h (z + 2) y (by omega)).1), tm_c0 (fun y => (h (z + 2) y (by omega)).2.1), tm_c0 (fun y => (h (z + 2) y (by omega)).2.2)]
      have g := ih I J R (z + 1) (s + v) hc (fun x y u => h x y (by omega))
      show apL r (apO (0, a, k, v) (I, J, R, z, s)) = _ ∧ _
      rw [e]
      exact g
    | 1 =>
      have hc' : (decide (a < z + 2) && ck r z) = true := hc
      rw [Bool.and_eq_true, decide_eq_true_eq] at hc'
      exact ih I J (tm_u R a k v) z s hc'.2 (fun x y u => ⟨(h x y u).1, (h x y u).2.1, by rw [tu_na (by omega)]; exact (h x y u).2.2⟩)
    | 2 =>
      have hc' : (decide (a < z + 2) && ck r z) = true := hc
      rw [Bool.and_eq_true, decide_eq_true_eq] at hc'
      exact ih (tm_u I a k (nI v)) J R z s hc'.2 (fun x y u => ⟨by rw [tu_na (by omega)]; exact (h x y u).1, (h x y u).2.1, (h x y u).2.2⟩)
    | q + 3 =>
      have hc' : (decide (a < z + 2) && ck r z) = true := hc
      rw [Bool.and_eq_true, decide_eq_true_eq] at hc'
      exact ih (tm_u I a k (-1)) J R z s hc'.2 (fun x y u => ⟨by rw [tu_na (by omega)]; exact (h x y u).1, (h x y u).2.1, (h x y u).2.2⟩)
theorem bV_e {o : Option tm_R} {k : tm_M → Option tm_R} {M : tm_M} (h : o = some (none, M)) : tm_bV o k = k M := by rw [h]; rfl
def ops6 : List (Nat × Nat × Nat × Nat) := [(0, 0, 0, 1024), (1, 24, 0, 25), (0, 0, 0, 128), (1, 24, 1, 26), (0, 0, 0, 128), (1, 24, 2, 27), (0, 0, 0, 24), (1, 24, 3, 28), (0, 0, 0, 24), (1, 24, 4, 29), (0, 0, 0, 24), (1, 24, 5, 30), (0, 0, 0, 12), (1, 24, 6, 31), (3, 24, 9, 0)]
def ops7 : List (Nat × Nat × Nat × Nat) := [(0, 0, 0, 300), (1, 32, 0, 33)]
def ops8 : List (Nat × Nat × Nat × Nat) := [(0, 0, 0, 300), (1, 34, 0, 35), (0, 0, 0, 30), (1, 34, 1, 36), (0, 0, 0, 30), (1, 34, 2, 37), (0, 0, 0, 30), (1, 34, 3, 38), (0, 0, 0, 30), (1, 34, 4, 39), (0, 0, 0, 30), (1, 34, 5, 40), (0, 0, 0, 30), (1, 34, 6, 41), (0, 0, 0, 30), (1, 34, 9, 42)]
def ops11a : List (Nat × Nat × Nat × Nat) := [(0, 0, 0, 60), (1, 119, 0, 120), (0, 0, 0, 60), (1, 119, 1, 121), (0, 0, 0, 60), (1, 119, 2, 122), (0, 0, 0, 60), (1, 119, 3, 123), (0, 0, 0, 60), (1, 119, 4, 124)]
def ops11b : List (Nat × Nat × Nat × Nat) := [(0, 0, 0, 60), (1, 125, 0, 126), (0, 0, 0, 60), (1, 125, 1, 127), (0, 0, 0, 60), (1, 125, 2, 128), (0, 0, 0, 60), (1, 125, 3, 129), (0, 0, 0, 60), (1, 125, 4, 130)]
theorem n12 (I : Nat → Nat → Int32) (J : Nat → Nat → Int64) (R : Nat → Nat → Nat) (s : Nat) : F_12 [.ref 2] (I, J, R, 1, s) = tm_bV (F_2 [.ref 4] (apL [(0, 0, 0, 1400), (1, 2, 0, 3), (0, 0, 0, 10)] (I, J, R, 1, s))) (fun M => R_12 21 [(0, .ref 2)] [.ref 4, .ref 2] M) := rfl
def oa_0 : List (Nat × Nat × Nat × Nat) := [(0, 0, 0, 1400), (1, 2, 0, 3), (0, 0, 0, 10)]
theorem rdJ_fr {J : Nat → Nat → Int64} {z : Nat} (h : ∀ x y, z + 2 ≤ x → J x y = 0) (hz : 5 ≤ z) : ∀ x y, z + 2 ≤ x → rdJ J x y = 0 := by
  intro x y u
  unfold rdJ
  have : x ≠ 6 := by omega
  repeat rw [tu_na this]
  exact h x y u
theorem g12_0 {I : Nat → Nat → Int32} {J : Nat → Nat → Int64} {R : Nat → Nat → Nat} {s : Nat} (hF : Fr I J R 1) : F_12 [.ref 2] (I, J, R, 1, s) = R_12 21 [(0, .ref 2)] [.ref 4, .ref 2] (rI ops2 (rI oa_0 I), rdJ J, rR ops2 (rR oa_0 R), rz ops2 (rz oa_0 1), rs ops2 (rs oa_0 s)) ∧ Fr (rI ops2 (rI oa_0 I)) (rdJ J) (rR ops2 (rR oa_0 R)) (rz ops2 (rz oa_0 1)) := by
  obtain ⟨e1, f1⟩ := ap_ok oa_0 I J R 1 s (by decide) hF
  obtain ⟨e2, f2'⟩ := ap_ok ops2 (rI oa_0 I) J (rR oa_0 R) (rz oa_0 1) (rs oa_0 s) (by decide) f1
  refine ⟨(n12 I J R s).trans ?_, fun x y u => ⟨(f2' x y u).1, rdJ_fr (fun x y u => (f2' x y u).2.1) (by decide) x y u, (f2' x y u).2.2⟩⟩
  show tm_bV (F_2 [.ref 4] (apL oa_0 (I, J, R, 1, s))) (fun M => R_12 21 [(0, .ref 2)] [.ref 4, .ref 2] M) = _
  rw [e1]
  refine (bV_e (f2 _ _ _ _)).trans ?_
  show R_12 21 [(0, .ref 2)] [.ref 4, .ref 2] (sJ rdJ (apL ops2 (rI oa_0 I, J, rR oa_0 R, rz oa_0 1, rs oa_0 s))) = _
  rw [e2]
  rfl
theorem n12_21 (I : Nat → Nat → Int32) (J : Nat → Nat → Int64) (R : Nat → Nat → Nat) (s : Nat) : R_12 21 [(0, .ref 2)] [.ref 4, .ref 2] (I, J, R, 5, s) = tm_bV (F_5 [.ref 7] (apL [(1, 2, 1, 4), (0, 0, 0, 6)] (I, J, R, 5, s))) (fun M => R_12 32 [(0, .ref 2)] [.ref 7, .ref 2] M) := (tm_F_fix _ _ _ _ _ _ _ _ _ _ _).trans rfl
def oa_1 : List (Nat × Nat × Nat × Nat) := [(1, 2, 1, 4), (0, 0, 0, 6)]
theorem g12_1 {I : Nat → Nat → Int32} {J : Nat → Nat → Int64} {R : Nat → Nat → Nat} {s : Nat} (hF : Fr I J R 5) : R_12 21 [(0, .ref 2)] [.ref 4, .ref 2] (I, J, R, 5, s) = R_12 32 [(0, .ref 2)] [.ref 7, .ref 2] (rI ops5 (rI oa_1 I), J, rR ops5 (rR oa_1 R), rz ops5 (rz oa_1 5), rs ops5 (rs oa_1 s)) ∧ Fr (rI ops5 (rI oa_1 I)) (J) (rR ops5 (rR oa_1 R)) (rz ops5 (rz oa_1 5)) := by
  obtain ⟨e1, f1⟩ := ap_ok oa_1 I J R 5 s (by decide) hF
  obtain ⟨e2, f2'⟩ := ap_ok ops5 (rI oa_1 I) J (rR oa_1 R) (rz oa_1 5) (rs oa_1 s) (by decide) f1
  refine ⟨(n12_21 I J R s).trans ?_, f2'⟩
  show tm_bV (F_5 [.ref 7] (apL oa_1 (I, J, R, 5, s))) (fun M => R_12 32 [(0, .ref 2)] [.ref 7, .ref 2] M) = _
  rw [e1]
  refine (bV_e (f5 _ _ _ _)).trans ?_
  show R_12 32 [(0, .ref 2)] [.ref 7, .ref 2] ((apL ops5 (rI oa_1 I, J, rR oa_1 R, rz oa_1 5, rs oa_1 s))) = _
  rw [e2]
theorem n12_32 (I : Nat → Nat → Int32) (J : Nat → Nat → Int64) (R : Nat → Nat → Nat) (s : Nat) : R_12 32 [(0, .ref 2)] [.ref 7, .ref 2] (I, J, R, 22, s) = tm_bV (F_6 [.ref 24] (apL [(1, 2, 2, 7), (0, 0, 0, 11)] (I, J, R, 22, s))) (fun M => R_12 43 [(0, .ref 2)] [.ref 24, .ref 2] M) := (tm_F_fix _ _ _ _ _ _ _ _ _ _ _).trans rfl
def oa_2 : List (Nat × Nat × Nat × Nat) := [(1, 2, 2, 7), (0, 0, 0, 11)]
theorem g12_2 {I : Nat → Nat → Int32} {J : Nat → Nat → Int64} {R : Nat → Nat → Nat} {s : Nat} (hF : Fr I J R 22) : R_12 32 [(0, .ref 2)] [.ref 7, .ref 2] (I, J, R, 22, s) = R_12 43 [(0, .ref 2)] [.ref 24, .ref 2] (rI ops6 (rI oa_2 I), J, rR ops6 (rR oa_2 R), rz ops6 (rz oa_2 22), rs ops6 (rs oa_2 s)) ∧ Fr (rI ops6 (rI oa_2 I)) (J) (rR ops6 (rR oa_2 R)) (rz ops6 (rz oa_2 22)) := by
  obtain ⟨e1, f1⟩ := ap_ok oa_2 I J R 22 s (by decide) hF
  obtain ⟨e2, f2'⟩ := ap_ok ops6 (rI oa_2 I) J (rR oa_2 R) (rz oa_2 22) (rs oa_2 s) (by decide) f1
  refine ⟨(n12_32 I J R s).trans ?_, f2'⟩
  show tm_bV (F_6 [.ref 24] (apL oa_2 (I, J, R, 22, s))) (fun M => R_12 43 [(0, .ref 2)] [.ref 24, .ref 2] M) = _
  rw [e1]
  refine (bV_e (n6_24 _ _ _ _)).trans ?_
  show R_12 43 [(0, .ref 2)] [.ref 24, .ref 2] ((apL ops6 (rI oa_2 I, J, rR oa_2 R, rz oa_2 22, rs oa_2 s))) = _
  rw [e2]
theorem n12_43 (I : Nat → Nat → Int32) (J : Nat → Nat → Int64) (R : Nat → Nat → Nat) (s : Nat) : R_12 43 [(0, .ref 2)] [.ref 24, .ref 2] (I, J, R, 30, s) = tm_bV (F_7 [.ref 32] (apL [(1, 2, 3, 24), (0, 0, 0, 3)] (I, J, R, 30, s))) (fun M => R_12 54 [(0, .ref 2)] [.ref 32, .ref 2] M) := (tm_F_fix _ _ _ _ _ _ _ _ _ _ _).trans rfl
def oa_3 : List (Nat × Nat × Nat × Nat) := [(1, 2, 3, 24), (0, 0, 0, 3)]
theorem g12_3 {I : Nat → Nat → Int32} {J : Nat → Nat → Int64} {R : Nat → Nat → Nat} {s : Nat} (hF : Fr I J R 30) : R_12 43 [(0, .ref 2)] [.ref 24, .ref 2] (I, J, R, 30, s) = R_12 54 [(0, .ref 2)] [.ref 32, .ref 2] (rI ops7 (rI oa_3 I), J, rR ops7 (rR oa_3 R), rz ops7 (rz oa_3 30), rs ops7 (rs oa_3 s)) ∧ Fr (rI ops7 (rI oa_3 I)) (J) (rR ops7 (rR oa_3 R)) (rz ops7 (rz oa_3 30)) := by
  obtain ⟨e1, f1⟩ := ap_ok oa_3 I J R 30 s (by decide) hF
  obtain ⟨e2, f2'⟩ := ap_ok ops7 (rI oa_3 I) J (rR oa_3 R) (rz oa_3 30) (rs oa_3 s) (by decide) f1
  refine ⟨(n12_43 I J R s).trans ?_, f2'⟩
  show tm_bV (F_7 [.ref 32] (apL oa_3 (I, J, R, 30, s))) (fun M => R_12 54 [(0, .ref 2)] [.ref 32, .ref 2] M) = _
  rw [e1]
  refine (bV_e (n7_32 _ _ _ _)).trans ?_
  show R_12 54 [(0, .ref 2)] [.ref 32, .ref 2] ((apL ops7 (rI oa_3 I, J, rR oa_3 R, rz oa_3 30, rs oa_3 s))) = _
  rw [e2]
theorem n12_54 (I : Nat → Nat → Int32) (J : Nat → Nat → Int64) (R : Nat → Nat → Nat) (s : Nat) : R_12 54 [(0, .ref 2)] [.ref 32, .ref 2] (I, J, R, 32, s) = tm_bV (F_8 [.ref 34] (apL [(1, 2, 4, 32), (0, 0, 0, 11)] (I, J, R, 32, s))) (fun M => R_12 65 [(0, .ref 2)] [.ref 34, .ref 2] M) := (tm_F_fix _ _ _ _ _ _ _ _ _ _ _).trans rfl
def oa_4 : List (Nat × Nat × Nat × Nat) := [(1, 2, 4, 32), (0, 0, 0, 11)]
theorem g12_4 {I : Nat → Nat → Int32} {J : Nat → Nat → Int64} {R : Nat → Nat → Nat} {s : Nat} (hF : Fr I J R 32) : R_12 54 [(0, .ref 2)] [.ref 32, .ref 2] (I, J, R, 32, s) = R_12 65 [(0, .ref 2)] [.ref 34, .ref 2] (rI ops8 (rI oa_4 I), J, rR ops8 (rR oa_4 R), rz ops8 (rz oa_4 32), rs ops8 (rs oa_4 s)) ∧ Fr (rI ops8 (rI oa_4 I)) (J) (rR ops8 (rR oa_4 R)) (rz ops8 (rz oa_4 32)) := by
  obtain ⟨e1, f1⟩ := ap_ok oa_4 I J R 32 s (by decide) hF
  obtain ⟨e2, f2'⟩ := ap_ok ops8 (rI oa_4 I) J (rR oa_4 R) (rz oa_4 32) (rs oa_4 s) (by decide) f1
  refine ⟨(n12_54 I J R s).trans ?_, f2'⟩
  show tm_bV (F_8 [.ref 34] (apL oa_4 (I, J, R, 32, s))) (fun M => R_12 65 [(0, .ref 2)] [.ref 34, .ref 2] M) = _
  rw [e1]
  refine (bV_e (n8_34 _ _ _ _)).trans ?_
  show R_12 65 [(0, .ref 2)] [.ref 34, .ref 2] ((apL ops8 (rI oa_4 I, J, rR oa_4 R, rz oa_4 32, rs oa_4 s))) = _
  rw [e2]
theorem n12_65 (I : Nat → Nat → Int32) (J : Nat → Nat → Int64) (R : Nat → Nat → Nat) (s : Nat) : R_12 65 [(0, .ref 2)] [.ref 34, .ref 2] (I, J, R, 41, s) = tm_bV (F_10 [.ref 43] (apL [(1, 2, 5, 34), (0, 0, 0, 2)] (I, J, R, 41, s))) (fun M => R_12 76 [(0, .ref 2)] [.ref 43, .ref 2] M) := (tm_F_fix _ _ _ _ _ _ _ _ _ _ _).trans rfl
def oa_5 : List (Nat × Nat × Nat × Nat) := [(1, 2, 5, 34), (0, 0, 0, 2)]
theorem g12_5 {I : Nat → Nat → Int32} {J : Nat → Nat → Int64} {R : Nat → Nat → Nat} {s : Nat} (hF : Fr I J R 41) : R_12 65 [(0, .ref 2)] [.ref 34, .ref 2] (I, J, R, 41, s) = R_12 76 [(0, .ref 2)] [.ref 43, .ref 2] (rI ops10_43 (rI oa_5 I), J, rR ops10_43 (rR oa_5 R), rz ops10_43 (rz oa_5 41), rs ops10_43 (rs oa_5 s)) ∧ Fr (rI ops10_43 (rI oa_5 I)) (J) (rR ops10_43 (rR oa_5 R)) (rz ops10_43 (rz oa_5 41)) := by
  obtain ⟨e1, f1⟩ := ap_ok oa_5 I J R 41 s (by decide) hF
  obtain ⟨e2, f2'⟩ := ap_ok ops10_43 (rI oa_5 I) J (rR oa_5 R) (rz oa_5 41) (rs oa_5 s) (by decide) f1
  refine ⟨(n12_65 I J R s).trans ?_, f2'⟩
  show tm_bV (F_10 [.ref 43] (apL oa_5 (I, J, R, 41, s))) (fun M => R_12 76 [(0, .ref 2)] [.ref 43, .ref 2] M) = _
  rw [e1]
  refine (bV_e (f10_43 _ _ _ _)).trans ?_
  show R_12 76 [(0, .ref 2)] [.ref 43, .ref 2] ((apL ops10_43 (rI oa_5 I, J, rR oa_5 R, rz oa_5 41, rs oa_5 s))) = _
  rw [e2]
theorem n12_76 (I : Nat → Nat → Int32) (J : Nat → Nat → Int64) (R : Nat → Nat → Nat) (s : Nat) : R_12 76 [(0, .ref 2)] [.ref 43, .ref 2] (I, J, R, 79, s) = tm_bV (F_10 [.ref 81] (apL [(1, 2, 6, 43), (0, 0, 0, 2)] (I, J, R, 79, s))) (fun M => R_12 87 [(0, .ref 2)] [.ref 81, .ref 2] M) := (tm_F_fix _ _ _ _ _ _ _ _ _ _ _).trans rfl
def oa_6 : List (Nat × Nat × Nat × Nat) := [(1, 2, 6, 43), (0, 0, 0, 2)]
theorem g12_6 {I : Nat → Nat → Int32} {J : Nat → Nat → Int64} {R : Nat → Nat → Nat} {s : Nat} (hF : Fr I J R 79) : R_12 76 [(0, .ref 2)] [.ref 43, .ref 2] (I, J, R, 79, s) = R_12 87 [(0, .ref 2)] [.ref 81, .ref 2] (rI ops10_81 (rI oa_6 I), J, rR ops10_81 (rR oa_6 R), rz ops10_81 (rz oa_6 79), rs ops10_81 (rs oa_6 s)) ∧ Fr (rI ops10_81 (rI oa_6 I)) (J) (rR ops10_81 (rR oa_6 R)) (rz ops10_81 (rz oa_6 79)) := by
  obtain ⟨e1, f1⟩ := ap_ok oa_6 I J R 79 s (by decide) hF
  obtain ⟨e2, f2'⟩ := ap_ok ops10_81 (rI oa_6 I) J (rR oa_6 R) (rz oa_6 79) (rs oa_6 s) (by decide) f1
  refine ⟨(n12_76 I J R s).trans ?_, f2'⟩
  show tm_bV (F_10 [.ref 81] (apL oa_6 (I, J, R, 79, s))) (fun M => R_12 87 [(0, .ref 2)] [.ref 81, .ref 2] M) = _
  rw [e1]
  refine (bV_e (f10_81 _ _ _ _)).trans ?_
  show R_12 87 [(0, .ref 2)] [.ref 81, .ref 2] ((apL ops10_81 (rI oa_6 I, J, rR oa_6 R, rz oa_6 79, rs oa_6 s))) = _
  rw [e2]
theorem n12_87 (I : Nat → Nat → Int32) (J : Nat → Nat → Int64) (R : Nat → Nat → Nat) (s : Nat) : R_12 87 [(0, .ref 2)] [.ref 81, .ref 2] (I, J, R, 117, s) = tm_bV (F_11 [.ref 119] (apL [(1, 2, 7, 81), (0, 0, 0, 7)] (I, J, R, 117, s))) (fun M => R_12 98 [(0, .ref 2)] [.ref 119, .ref 2] M) := (tm_F_fix _ _ _ _ _ _ _ _ _ _ _).trans rfl
def oa_7 : List (Nat × Nat × Nat × Nat) := [(1, 2, 7, 81), (0, 0, 0, 7)]
theorem g12_7 {I : Nat → Nat → Int32} {J : Nat → Nat → Int64} {R : Nat → Nat → Nat} {s : Nat} (hF : Fr I J R 117) : R_12 87 [(0, .ref 2)] [.ref 81, .ref 2] (I, J, R, 117, s) = R_12 98 [(0, .ref 2)] [.ref 119, .ref 2] (rI ops11a (rI oa_7 I), J, rR ops11a (rR oa_7 R), rz ops11a (rz oa_7 117), rs ops11a (rs oa_7 s)) ∧ Fr (rI ops11a (rI oa_7 I)) (J) (rR ops11a (rR oa_7 R)) (rz ops11a (rz oa_7 117)) := by
  obtain ⟨e1, f1⟩ := ap_ok oa_7 I J R 117 s (by decide) hF
  obtain ⟨e2, f2'⟩ := ap_ok ops11a (rI oa_7 I) J (rR oa_7 R) (rz oa_7 117) (rs oa_7 s) (by decide) f1
  refine ⟨(n12_87 I J R s).trans ?_, f2'⟩
  show tm_bV (F_11 [.ref 119] (apL oa_7 (I, J, R, 117, s))) (fun M => R_12 98 [(0, .ref 2)] [.ref 119, .ref 2] M) = _
  rw [e1]
  refine (bV_e (n11_119 _ _ _ _)).trans ?_
  show R_12 98 [(0, .ref 2)] [.ref 119, .ref 2] ((apL ops11a (rI oa_7 I, J, rR oa_7 R, rz oa_7 117, rs oa_7 s))) = _
  rw [e2]
theorem n12_98 (I : Nat → Nat → Int32) (J : Nat → Nat → Int64) (R : Nat → Nat → Nat) (s : Nat) : R_12 98 [(0, .ref 2)] [.ref 119, .ref 2] (I, J, R, 123, s) = tm_bV (F_11 [.ref 125] (apL [(1, 2, 8, 119), (0, 0, 0, 7)] (I, J, R, 123, s))) (fun M => R_12 109 [(0, .ref 2)] [.ref 125, .ref 2] M) := (tm_F_fix _ _ _ _ _ _ _ _ _ _ _).trans rfl
def oa_8 : List (Nat × Nat × Nat × Nat) := [(1, 2, 8, 119), (0, 0, 0, 7)]
theorem g12_8 {I : Nat → Nat → Int32} {J : Nat → Nat → Int64} {R : Nat → Nat → Nat} {s : Nat} (hF : Fr I J R 123) : R_12 98 [(0, .ref 2)] [.ref 119, .ref 2] (I, J, R, 123, s) = R_12 109 [(0, .ref 2)] [.ref 125, .ref 2] (rI ops11b (rI oa_8 I), J, rR ops11b (rR oa_8 R), rz ops11b (rz oa_8 123), rs ops11b (rs oa_8 s)) ∧ Fr (rI ops11b (rI oa_8 I)) (J) (rR ops11b (rR oa_8 R)) (rz ops11b (rz oa_8 123)) := by
  obtain ⟨e1, f1⟩ := ap_ok oa_8 I J R 123 s (by decide) hF
  obtain ⟨e2, f2'⟩ := ap_ok ops11b (rI oa_8 I) J (rR oa_8 R) (rz oa_8 123) (rs oa_8 s) (by decide) f1
  refine ⟨(n12_98 I J R s).trans ?_, f2'⟩
  show tm_bV (F_11 [.ref 125] (apL oa_8 (I, J, R, 123, s))) (fun M => R_12 109 [(0, .ref 2)] [.ref 125, .ref 2] M) = _
  rw [e1]
  refine (bV_e (n11_125 _ _ _ _)).trans ?_
  show R_12 109 [(0, .ref 2)] [.ref 125, .ref 2] ((apL ops11b (rI oa_8 I, J, rR oa_8 R, rz oa_8 123, rs oa_8 s))) = _
  rw [e2]
def ofin : List (Nat × Nat × Nat × Nat) := [(1, 2, 9, 125), (2, 2, 12, 4), (2, 2, 13, 10)]
theorem n12_109 (I : Nat → Nat → Int32) (J : Nat → Nat → Int64) (R : Nat → Nat → Nat) (s : Nat) : R_12 109 [(0, .ref 2)] [.ref 125, .ref 2] (I, J, R, 129, s) = some (none, apL ofin (I, J, R, 129, s)) := (tm_F_fix _ _ _ _ _ _ _ _ _ _ _).trans rfl
def ops13 : List (Nat × Nat × Nat × Nat) := [(0, 0, 0, 1420), (1, 131, 0, 132), (0, 0, 0, 1400), (1, 131, 1, 133), (3, 131, 5, 0), (0, 0, 0, 24), (1, 131, 11, 134), (0, 0, 0, 2), (1, 131, 12, 135), (0, 0, 0, 24), (1, 131, 13, 136), (0, 0, 0, 24), (1, 131, 14, 137), (0, 0, 0, 24), (1, 131, 15, 138), (0, 0, 0, 24), (1, 131, 16, 139), (0, 0, 0, 24), (1, 131, 17, 140), (0, 0, 0, 768), (1, 131, 18, 141), (0, 0, 0, 192), (1, 131, 19, 142), (0, 0, 0, 24), (1, 131, 20, 143), (0, 0, 0, 2), (1, 131, 23, 144), (0, 0, 0, 2), (1, 131, 24, 145), (0, 0, 0, 120), (1, 131, 25, 146), (0, 0, 0, 120), (1, 131, 26, 147), (0, 0, 0, 120), (1, 131, 27, 148), (0, 0, 0, 120), (1, 131, 28, 149), (0, 0, 0, 120), (1, 131, 29, 150), (2, 131, 34, 4), (2, 131, 35, 10), (0, 0, 0, 6), (1, 131, 36, 151), (0, 0, 0, 6), (1, 131, 37, 152), (0, 0, 0, 6), (1, 131, 38, 153), (0, 0, 0, 6), (1, 131, 39, 154), (0, 0, 0, 6), (1, 131, 40, 155), (0, 0, 0, 2), (1, 131, 41, 156), (0, 0, 0, 2), (1, 131, 42, 157), (0, 0, 0, 12), (1, 131, 43, 158), (0, 0, 0, 200), (1, 131, 44, 159), (0, 0, 0, 1200), (1, 131, 45, 160), (0, 0, 0, 1200), (1, 131, 46, 161), (0, 0, 0, 1200), (1, 131, 47, 162), (0, 0, 0, 1200), (1, 131, 48, 163), (0, 0, 0, 4800), (1, 131, 49, 164), (0, 0, 0, 200), (1, 131, 50, 165), (0, 0, 0, 200), (1, 131, 51, 166), (0, 0, 0, 200), (1, 131, 52, 167), (0, 0, 0, 100), (1, 131, 53, 168), (0, 0, 0, 100), (1, 131, 54, 169), (0, 0, 0, 100), (1, 131, 55, 170), (0, 0, 0, 100), (1, 131, 56, 171), (0, 0, 0, 6), (1, 131, 57, 172), (0, 0, 0, 100), (1, 131, 58, 173), (0, 0, 0, 6), (1, 131, 67, 174), (0, 0, 0, 65536), (1, 131, 68, 175), (0, 0, 0, 12), (1, 131, 69, 176), (0, 0, 0, 300), (1, 131, 73, 177), (0, 0, 0, 100), (1, 131, 76, 178), (0, 0, 0, 30), (1, 131, 77, 179), (0, 0, 0, 30), (1, 131, 78, 180), (0, 0, 0, 30), (1, 131, 79, 181), (0, 0, 0, 30), (1, 131, 80, 182), (0, 0, 0, 30), (1, 131, 81, 183), (0, 0, 0, 30), (1, 131, 82, 184), (0, 0, 0, 6000), (1, 131, 83, 185)]
/-- n instructions, and what follows -/
def tm_bn (S : tm_S) (X : tm_X) (G : tm_G) (tz : Bool) (cd : List tm_E) (cuts : List (Nat × List Nat)) (K : tm_K) (g : tm_N) : Nat → tm_N
  | 0 => g
  | n + 1 => fun pc ls st M => match tm_at cd pc with
    | none => none
    | some q => tm_ex S X G tz (tm_go cuts K (tm_bn S X G tz cd cuts K g n)) q.1 q.2.2.1 q.2.2.2.1 q.2.2.2.2 pc ls st M
theorem bn_eq (S : tm_S) (X : tm_X) (G : tm_G) (tz : Bool) (cd : List tm_E) (cuts : List (Nat × List Nat)) (K : tm_K) (f : Nat) : ∀ n, tm_b S X G tz cd cuts K (n + f) = tm_bn S X G tz cd cuts K (tm_b S X G tz cd cuts K f) n := by
  intro n
  induction n with
  | zero => rw [Nat.zero_add]; rfl
  | succ n ih =>
    rw [Nat.succ_add]
    funext pc ls st M
    rw [tm_b_succ, ih]
    rfl
noncomputable def B13 (f pc : Nat) (M : tm_M) : Option tm_R := tm_b tm_sh none G_13 false cd_13 cu_13 (tm_F tm_sh none G_13 false cd_13 cu_13 229) f pc [(0, .ref 131)] [] M
theorem n13_0 (I : Nat → Nat → Int32) (J : Nat → Nat → Int64) (R : Nat → Nat → Nat) (s : Nat) : F_13 [.ref 131] (I, J, R, 130, s) = B13 229 0 (I, J, R, 130, s) := rfl
set_option maxRecDepth 100000 in
theorem m13_1 (I : Nat → Nat → Int32) (J : Nat → Nat → Int64) (R : Nat → Nat → Nat) (s : Nat) (K : tm_K) (g : tm_N) : tm_bn tm_sh none G_13 false cd_13 cu_13 K g 21 0 [(0, .ref 131)] [] (I, J, R, 130, s) = g 42 [(0, .ref 131)] [] (apL [(0, 0, 0, 1420), (1, 131, 0, 132), (0, 0, 0, 1400), (1, 131, 1, 133), (3, 131, 5, 0), (0, 0, 0, 24), (1, 131, 11, 134), (0, 0, 0, 2), (1, 131, 12, 135)] (I, J, R, 130, s)) := rfl
theorem n13_1 (I : Nat → Nat → Int32) (J : Nat → Nat → Int64) (R : Nat → Nat → Nat) (s : Nat) : B13 229 0 (I, J, R, 130, s) = B13 208 42 (apL [(0, 0, 0, 1420), (1, 131, 0, 132), (0, 0, 0, 1400), (1, 131, 1, 133), (3, 131, 5, 0), (0, 0, 0, 24), (1, 131, 11, 134), (0, 0, 0, 2), (1, 131, 12, 135)] (I, J, R, 130, s)) := by
  unfold B13
  rw [show 229 = 21 + 208 from rfl, bn_eq]
  exact m13_1 I J R s _ _
set_option maxRecDepth 100000 in
theorem m13_2 (I : Nat → Nat → Int32) (J : Nat → Nat → Int64) (R : Nat → Nat → Nat) (s : Nat) (K : tm_K) (g : tm_N) : tm_bn tm_sh none G_13 false cd_13 cu_13 K g 16 42 [(0, .ref 131)] [] (I, J, R, 134, s) = g 74 [(0, .ref 131)] [] (apL [(0, 0, 0, 24), (1, 131, 13, 136), (0, 0, 0, 24), (1, 131, 14, 137), (0, 0, 0, 24), (1, 131, 15, 138), (0, 0, 0, 24), (1, 131, 16, 139)] (I, J, R, 134, s)) := rfl
theorem n13_2 (I : Nat → Nat → Int32) (J : Nat → Nat → Int64) (R : Nat → Nat → Nat) (s : Nat) : B13 208 42 (I, J, R, 134, s) = B13 192 74 (apL [(0, 0, 0, 24), (1, 131, 13, 136), (0, 0, 0, 24), (1, 131, 14, 137), (0, 0, 0, 24), (1, 131, 15, 138), (0, 0, 0, 24), (1, 131, 16, 139)] (I, J, R, 134, s)) := by
  unfold B13
  rw [show 208 = 16 + 192 from rfl, bn_eq]
  exact m13_2 I J R s _ _
set_option maxRecDepth 100000 in
theorem m13_3 (I : Nat → Nat → Int32) (J : Nat → Nat → Int64) (R : Nat → Nat → Nat) (s : Nat) (K : tm_K) (g : tm_N) : tm_bn tm_sh none G_13 false cd_13 cu_13 K g 16 74 [(0, .ref 131)] [] (I, J, R, 138, s) = g 108 [(0, .ref 131)] [] (apL [(0, 0, 0, 24), (1, 131, 17, 140), (0, 0, 0, 768), (1, 131, 18, 141), (0, 0, 0, 192), (1, 131, 19, 142), (0, 0, 0, 24), (1, 131, 20, 143)] (I, J, R, 138, s)) := rfl
theorem n13_3 (I : Nat → Nat → Int32) (J : Nat → Nat → Int64) (R : Nat → Nat → Nat) (s : Nat) : B13 192 74 (I, J, R, 138, s) = B13 176 108 (apL [(0, 0, 0, 24), (1, 131, 17, 140), (0, 0, 0, 768), (1, 131, 18, 141), (0, 0, 0, 192), (1, 131, 19, 142), (0, 0, 0, 24), (1, 131, 20, 143)] (I, J, R, 138, s)) := by
  unfold B13
  rw [show 192 = 16 + 176 from rfl, bn_eq]
  exact m13_3 I J R s _ _
set_option maxRecDepth 100000 in
theorem m13_4 (I : Nat → Nat → Int32) (J : Nat → Nat → Int64) (R : Nat → Nat → Nat) (s : Nat) (K : tm_K) (g : tm_N) : tm_bn tm_sh none G_13 false cd_13 cu_13 K g 16 108 [(0, .ref 131)] [] (I, J, R, 142, s) = g 138 [(0, .ref 131)] [] (apL [(0, 0, 0, 2), (1, 131, 23, 144), (0, 0, 0, 2), (1, 131, 24, 145), (0, 0, 0, 120), (1, 131, 25, 146), (0, 0, 0, 120), (1, 131, 26, 147)] (I, J, R, 142, s)) := rfl
theorem n13_4 (I : Nat → Nat → Int32) (J : Nat → Nat → Int64) (R : Nat → Nat → Nat) (s : Nat) : B13 176 108 (I, J, R, 142, s) = B13 160 138 (apL [(0, 0, 0, 2), (1, 131, 23, 144), (0, 0, 0, 2), (1, 131, 24, 145), (0, 0, 0, 120), (1, 131, 25, 146), (0, 0, 0, 120), (1, 131, 26, 147)] (I, J, R, 142, s)) := by
  unfold B13
  rw [show 176 = 16 + 160 from rfl, bn_eq]
  exact m13_4 I J R s _ _
set_option maxRecDepth 100000 in
theorem m13_5 (I : Nat → Nat → Int32) (J : Nat → Nat → Int64) (R : Nat → Nat → Nat) (s : Nat) (K : tm_K) (g : tm_N) : tm_bn tm_sh none G_13 false cd_13 cu_13 K g 18 138 [(0, .ref 131)] [] (I, J, R, 146, s) = g 173 [(0, .ref 131)] [] (apL [(0, 0, 0, 120), (1, 131, 27, 148), (0, 0, 0, 120), (1, 131, 28, 149), (0, 0, 0, 120), (1, 131, 29, 150), (2, 131, 34, 4), (2, 131, 35, 10)] (I, J, R, 146, s)) := rfl
theorem n13_5 (I : Nat → Nat → Int32) (J : Nat → Nat → Int64) (R : Nat → Nat → Nat) (s : Nat) : B13 160 138 (I, J, R, 146, s) = B13 142 173 (apL [(0, 0, 0, 120), (1, 131, 27, 148), (0, 0, 0, 120), (1, 131, 28, 149), (0, 0, 0, 120), (1, 131, 29, 150), (2, 131, 34, 4), (2, 131, 35, 10)] (I, J, R, 146, s)) := by
  unfold B13
  rw [show 160 = 18 + 142 from rfl, bn_eq]
  exact m13_5 I J R s _ _
set_option maxRecDepth 100000 in
theorem m13_6 (I : Nat → Nat → Int32) (J : Nat → Nat → Int64) (R : Nat → Nat → Nat) (s : Nat) (K : tm_K) (g : tm_N) : tm_bn tm_sh none G_13 false cd_13 cu_13 K g 16 173 [(0, .ref 131)] [] (I, J, R, 149, s) = g 205 [(0, .ref 131)] [] (apL [(0, 0, 0, 6), (1, 131, 36, 151), (0, 0, 0, 6), (1, 131, 37, 152), (0, 0, 0, 6), (1, 131, 38, 153), (0, 0, 0, 6), (1, 131, 39, 154)] (I, J, R, 149, s)) := rfl
theorem n13_6 (I : Nat → Nat → Int32) (J : Nat → Nat → Int64) (R : Nat → Nat → Nat) (s : Nat) : B13 142 173 (I, J, R, 149, s) = B13 126 205 (apL [(0, 0, 0, 6), (1, 131, 36, 151), (0, 0, 0, 6), (1, 131, 37, 152), (0, 0, 0, 6), (1, 131, 38, 153), (0, 0, 0, 6), (1, 131, 39, 154)] (I, J, R, 149, s)) := by
  unfold B13
  rw [show 142 = 16 + 126 from rfl, bn_eq]
  exact m13_6 I J R s _ _
set_option maxRecDepth 100000 in
theorem m13_7 (I : Nat → Nat → Int32) (J : Nat → Nat → Int64) (R : Nat → Nat → Nat) (s : Nat) (K : tm_K) (g : tm_N) : tm_bn tm_sh none G_13 false cd_13 cu_13 K g 16 205 [(0, .ref 131)] [] (I, J, R, 153, s) = g 235 [(0, .ref 131)] [] (apL [(0, 0, 0, 6), (1, 131, 40, 155), (0, 0, 0, 2), (1, 131, 41, 156), (0, 0, 0, 2), (1, 131, 42, 157), (0, 0, 0, 12), (1, 131, 43, 158)] (I, J, R, 153, s)) := rfl
theorem n13_7 (I : Nat → Nat → Int32) (J : Nat → Nat → Int64) (R : Nat → Nat → Nat) (s : Nat) : B13 126 205 (I, J, R, 153, s) = B13 110 235 (apL [(0, 0, 0, 6), (1, 131, 40, 155), (0, 0, 0, 2), (1, 131, 41, 156), (0, 0, 0, 2), (1, 131, 42, 157), (0, 0, 0, 12), (1, 131, 43, 158)] (I, J, R, 153, s)) := by
  unfold B13
  rw [show 126 = 16 + 110 from rfl, bn_eq]
  exact m13_7 I J R s _ _
set_option maxRecDepth 100000 in
theorem m13_8 (I : Nat → Nat → Int32) (J : Nat → Nat → Int64) (R : Nat → Nat → Nat) (s : Nat) (K : tm_K) (g : tm_N) : tm_bn tm_sh none G_13 false cd_13 cu_13 K g 16 235 [(0, .ref 131)] [] (I, J, R, 157, s) = g 271 [(0, .ref 131)] [] (apL [(0, 0, 0, 200), (1, 131, 44, 159), (0, 0, 0, 1200), (1, 131, 45, 160), (0, 0, 0, 1200), (1, 131, 46, 161), (0, 0, 0, 1200), (1, 131, 47, 162)] (I, J, R, 157, s)) := rfl
theorem n13_8 (I : Nat → Nat → Int32) (J : Nat → Nat → Int64) (R : Nat → Nat → Nat) (s : Nat) : B13 110 235 (I, J, R, 157, s) = B13 94 271 (apL [(0, 0, 0, 200), (1, 131, 44, 159), (0, 0, 0, 1200), (1, 131, 45, 160), (0, 0, 0, 1200), (1, 131, 46, 161), (0, 0, 0, 1200), (1, 131, 47, 162)] (I, J, R, 157, s)) := by
  unfold B13
  rw [show 110 = 16 + 94 from rfl, bn_eq]
  exact m13_8 I J R s _ _
set_option maxRecDepth 100000 in
theorem m13_9 (I : Nat → Nat → Int32) (J : Nat → Nat → Int64) (R : Nat → Nat → Nat) (s : Nat) (K : tm_K) (g : tm_N) : tm_bn tm_sh none G_13 false cd_13 cu_13 K g 16 271 [(0, .ref 131)] [] (I, J, R, 161, s) = g 307 [(0, .ref 131)] [] (apL [(0, 0, 0, 1200), (1, 131, 48, 163), (0, 0, 0, 4800), (1, 131, 49, 164), (0, 0, 0, 200), (1, 131, 50, 165), (0, 0, 0, 200), (1, 131, 51, 166)] (I, J, R, 161, s)) := rfl
theorem n13_9 (I : Nat → Nat → Int32) (J : Nat → Nat → Int64) (R : Nat → Nat → Nat) (s : Nat) : B13 94 271 (I, J, R, 161, s) = B13 78 307 (apL [(0, 0, 0, 1200), (1, 131, 48, 163), (0, 0, 0, 4800), (1, 131, 49, 164), (0, 0, 0, 200), (1, 131, 50, 165), (0, 0, 0, 200), (1, 131, 51, 166)] (I, J, R, 161, s)) := by
  unfold B13
  rw [show 94 = 16 + 78 from rfl, bn_eq]
  exact m13_9 I J R s _ _
set_option maxRecDepth 100000 in
theorem m13_10 (I : Nat → Nat → Int32) (J : Nat → Nat → Int64) (R : Nat → Nat → Nat) (s : Nat) (K : tm_K) (g : tm_N) : tm_bn tm_sh none G_13 false cd_13 cu_13 K g 16 307 [(0, .ref 131)] [] (I, J, R, 165, s) = g 340 [(0, .ref 131)] [] (apL [(0, 0, 0, 200), (1, 131, 52, 167), (0, 0, 0, 100), (1, 131, 53, 168), (0, 0, 0, 100), (1, 131, 54, 169), (0, 0, 0, 100), (1, 131, 55, 170)] (I, J, R, 165, s)) := rfl
theorem n13_10 (I : Nat → Nat → Int32) (J : Nat → Nat → Int64) (R : Nat → Nat → Nat) (s : Nat) : B13 78 307 (I, J, R, 165, s) = B13 62 340 (apL [(0, 0, 0, 200), (1, 131, 52, 167), (0, 0, 0, 100), (1, 131, 53, 168), (0, 0, 0, 100), (1, 131, 54, 169), (0, 0, 0, 100), (1, 131, 55, 170)] (I, J, R, 165, s)) := by
  unfold B13
  rw [show 78 = 16 + 62 from rfl, bn_eq]
  exact m13_10 I J R s _ _
set_option maxRecDepth 100000 in
theorem m13_11 (I : Nat → Nat → Int32) (J : Nat → Nat → Int64) (R : Nat → Nat → Nat) (s : Nat) (K : tm_K) (g : tm_N) : tm_bn tm_sh none G_13 false cd_13 cu_13 K g 16 340 [(0, .ref 131)] [] (I, J, R, 169, s) = g 372 [(0, .ref 131)] [] (apL [(0, 0, 0, 100), (1, 131, 56, 171), (0, 0, 0, 6), (1, 131, 57, 172), (0, 0, 0, 100), (1, 131, 58, 173), (0, 0, 0, 6), (1, 131, 67, 174)] (I, J, R, 169, s)) := rfl
theorem n13_11 (I : Nat → Nat → Int32) (J : Nat → Nat → Int64) (R : Nat → Nat → Nat) (s : Nat) : B13 62 340 (I, J, R, 169, s) = B13 46 372 (apL [(0, 0, 0, 100), (1, 131, 56, 171), (0, 0, 0, 6), (1, 131, 57, 172), (0, 0, 0, 100), (1, 131, 58, 173), (0, 0, 0, 6), (1, 131, 67, 174)] (I, J, R, 169, s)) := by
  unfold B13
  rw [show 62 = 16 + 46 from rfl, bn_eq]
  exact m13_11 I J R s _ _
set_option maxRecDepth 100000 in
theorem m13_12 (I : Nat → Nat → Int32) (J : Nat → Nat → Int64) (R : Nat → Nat → Nat) (s : Nat) (K : tm_K) (g : tm_N) : tm_bn tm_sh none G_13 false cd_13 cu_13 K g 16 372 [(0, .ref 131)] [] (I, J, R, 173, s) = g 405 [(0, .ref 131)] [] (apL [(0, 0, 0, 65536), (1, 131, 68, 175), (0, 0, 0, 12), (1, 131, 69, 176), (0, 0, 0, 300), (1, 131, 73, 177), (0, 0, 0, 100), (1, 131, 76, 178)] (I, J, R, 173, s)) := rfl
theorem n13_12 (I : Nat → Nat → Int32) (J : Nat → Nat → Int64) (R : Nat → Nat → Nat) (s : Nat) : B13 46 372 (I, J, R, 173, s) = B13 30 405 (apL [(0, 0, 0, 65536), (1, 131, 68, 175), (0, 0, 0, 12), (1, 131, 69, 176), (0, 0, 0, 300), (1, 131, 73, 177), (0, 0, 0, 100), (1, 131, 76, 178)] (I, J, R, 173, s)) := by
  unfold B13
  rw [show 46 = 16 + 30 from rfl, bn_eq]
  exact m13_12 I J R s _ _
set_option maxRecDepth 100000 in
theorem m13_13 (I : Nat → Nat → Int32) (J : Nat → Nat → Int64) (R : Nat → Nat → Nat) (s : Nat) (K : tm_K) (g : tm_N) : tm_bn tm_sh none G_13 false cd_13 cu_13 K g 16 405 [(0, .ref 131)] [] (I, J, R, 177, s) = g 437 [(0, .ref 131)] [] (apL [(0, 0, 0, 30), (1, 131, 77, 179), (0, 0, 0, 30), (1, 131, 78, 180), (0, 0, 0, 30), (1, 131, 79, 181), (0, 0, 0, 30), (1, 131, 80, 182)] (I, J, R, 177, s)) := rfl
theorem n13_13 (I : Nat → Nat → Int32) (J : Nat → Nat → Int64) (R : Nat → Nat → Nat) (s : Nat) : B13 30 405 (I, J, R, 177, s) = B13 14 437 (apL [(0, 0, 0, 30), (1, 131, 77, 179), (0, 0, 0, 30), (1, 131, 78, 180), (0, 0, 0, 30), (1, 131, 79, 181), (0, 0, 0, 30), (1, 131, 80, 182)] (I, J, R, 177, s)) := by
  unfold B13
  rw [show 30 = 16 + 14 from rfl, bn_eq]
  exact m13_13 I J R s _ _
set_option maxRecDepth 100000 in
theorem n13_14 (I : Nat → Nat → Int32) (J : Nat → Nat → Int64) (R : Nat → Nat → Nat) (s : Nat) : B13 14 437 (I, J, R, 181, s) = some (none, apL [(0, 0, 0, 30), (1, 131, 81, 183), (0, 0, 0, 30), (1, 131, 82, 184), (0, 0, 0, 6000), (1, 131, 83, 185)] (I, J, R, 181, s)) := rfl
def o13_1 : List (Nat × Nat × Nat × Nat) := [(0, 0, 0, 1420), (1, 131, 0, 132), (0, 0, 0, 1400), (1, 131, 1, 133), (3, 131, 5, 0), (0, 0, 0, 24), (1, 131, 11, 134), (0, 0, 0, 2), (1, 131, 12, 135)]
def o13_2 : List (Nat × Nat × Nat × Nat) := [(0, 0, 0, 24), (1, 131, 13, 136), (0, 0, 0, 24), (1, 131, 14, 137), (0, 0, 0, 24), (1, 131, 15, 138), (0, 0, 0, 24), (1, 131, 16, 139)]
def o13_3 : List (Nat × Nat × Nat × Nat) := [(0, 0, 0, 24), (1, 131, 17, 140), (0, 0, 0, 768), (1, 131, 18, 141), (0, 0, 0, 192), (1, 131, 19, 142), (0, 0, 0, 24), (1, 131, 20, 143)]
def o13_4 : List (Nat × Nat × Nat × Nat) := [(0, 0, 0, 2), (1, 131, 23, 144), (0, 0, 0, 2), (1, 131, 24, 145), (0, 0, 0, 120), (1, 131, 25, 146), (0, 0, 0, 120), (1, 131, 26, 147)]
def o13_5 : List (Nat × Nat × Nat × Nat) := [(0, 0, 0, 120), (1, 131, 27, 148), (0, 0, 0, 120), (1, 131, 28, 149), (0, 0, 0, 120), (1, 131, 29, 150), (2, 131, 34, 4), (2, 131, 35, 10)]
def o13_6 : List (Nat × Nat × Nat × Nat) := [(0, 0, 0, 6), (1, 131, 36, 151), (0, 0, 0, 6), (1, 131, 37, 152), (0, 0, 0, 6), (1, 131, 38, 153), (0, 0, 0, 6), (1, 131, 39, 154)]
def o13_7 : List (Nat × Nat × Nat × Nat) := [(0, 0, 0, 6), (1, 131, 40, 155), (0, 0, 0, 2), (1, 131, 41, 156), (0, 0, 0, 2), (1, 131, 42, 157), (0, 0, 0, 12), (1, 131, 43, 158)]
def o13_8 : List (Nat × Nat × Nat × Nat) := [(0, 0, 0, 200), (1, 131, 44, 159), (0, 0, 0, 1200), (1, 131, 45, 160), (0, 0, 0, 1200), (1, 131, 46, 161), (0, 0, 0, 1200), (1, 131, 47, 162)]
def o13_9 : List (Nat × Nat × Nat × Nat) := [(0, 0, 0, 1200), (1, 131, 48, 163), (0, 0, 0, 4800), (1, 131, 49, 164), (0, 0, 0, 200), (1, 131, 50, 165), (0, 0, 0, 200), (1, 131, 51, 166)]
def o13_10 : List (Nat × Nat × Nat × Nat) := [(0, 0, 0, 200), (1, 131, 52, 167), (0, 0, 0, 100), (1, 131, 53, 168), (0, 0, 0, 100), (1, 131, 54, 169), (0, 0, 0, 100), (1, 131, 55, 170)]
def o13_11 : List (Nat × Nat × Nat × Nat) := [(0, 0, 0, 100), (1, 131, 56, 171), (0, 0, 0, 6), (1, 131, 57, 172), (0, 0, 0, 100), (1, 131, 58, 173), (0, 0, 0, 6), (1, 131, 67, 174)]
def o13_12 : List (Nat × Nat × Nat × Nat) := [(0, 0, 0, 65536), (1, 131, 68, 175), (0, 0, 0, 12), (1, 131, 69, 176), (0, 0, 0, 300), (1, 131, 73, 177), (0, 0, 0, 100), (1, 131, 76, 178)]
def o13_13 : List (Nat × Nat × Nat × Nat) := [(0, 0, 0, 30), (1, 131, 77, 179), (0, 0, 0, 30), (1, 131, 78, 180), (0, 0, 0, 30), (1, 131, 79, 181), (0, 0, 0, 30), (1, 131, 80, 182)]
def o13_14 : List (Nat × Nat × Nat × Nat) := [(0, 0, 0, 30), (1, 131, 81, 183), (0, 0, 0, 30), (1, 131, 82, 184), (0, 0, 0, 6000), (1, 131, 83, 185)]
theorem f13 {I : Nat → Nat → Int32} {J : Nat → Nat → Int64} {R : Nat → Nat → Nat} {s : Nat} (hF : Fr I J R 130) : F_13 [.ref 131] (I, J, R, 130, s) = some (none, (rI o13_14 (rI o13_13 (rI o13_12 (rI o13_11 (rI o13_10 (rI o13_9 (rI o13_8 (rI o13_7 (rI o13_6 (rI o13_5 (rI o13_4 (rI o13_3 (rI o13_2 (rI o13_1 (I)))))))))))))), J, rR o13_14 (rR o13_13 (rR o13_12 (rR o13_11 (rR o13_10 (rR o13_9 (rR o13_8 (rR o13_7 (rR o13_6 (rR o13_5 (rR o13_4 (rR o13_3 (rR o13_2 (rR o13_1 (R)))))))))))))), rz o13_14 (rz o13_13 (rz o13_12 (rz o13_11 (rz o13_10 (rz o13_9 (rz o13_8 (rz o13_7 (rz o13_6 (rz o13_5 (rz o13_4 (rz o13_3 (rz o13_2 (rz o13_1 (130)))))))))))))), rs o13_14 (rs o13_13 (rs o13_12 (rs o13_11 (rs o13_10 (rs o13_9 (rs o13_8 (rs o13_7 (rs o13_6 (rs o13_5 (rs o13_4 (rs o13_3 (rs o13_2 (rs o13_1 (s)))))))))))))))) ∧ Fr (rI o13_14 (rI o13_13 (rI o13_12 (rI o13_11 (rI o13_10 (rI o13_9 (rI o13_8 (rI o13_7 (rI o13_6 (rI o13_5 (rI o13_4 (rI o13_3 (rI o13_2 (rI o13_1 (I))))))))))))))) J (rR o13_14 (rR o13_13 (rR o13_12 (rR o13_11 (rR o13_10 (rR o13_9 (rR o13_8 (rR o13_7 (rR o13_6 (rR o13_5 (rR o13_4 (rR o13_3 (rR o13_2 (rR o13_1 (R))))))))))))))) (rz o13_14 (rz o13_13 (rz o13_12 (rz o13_11 (rz o13_10 (rz o13_9 (rz o13_8 (rz o13_7 (rz o13_6 (rz o13_5 (rz o13_4 (rz o13_3 (rz o13_2 (rz o13_1 (130))))))))))))))) := by
  obtain ⟨e1, f1⟩ := ap_ok o13_1 (I) J (R) (130) (s) (by decide) hF
  obtain ⟨e2, f2⟩ := ap_ok o13_2 (rI o13_1 (I)) J (rR o13_1 (R)) (rz o13_1 (130)) (rs o13_1 (s)) (by decide) f1
  obtain ⟨e3, f3⟩ := ap_ok o13_3 (rI o13_2 (rI o13_1 (I))) J (rR o13_2 (rR o13_1 (R))) (rz o13_2 (rz o13_1 (130))) (rs o13_2 (rs o13_1 (s))) (by decide) f2
  obtain ⟨e4, f4⟩ := ap_ok o13_4 (rI o13_3 (rI o13_2 (rI o13_1 (I)))) J (rR o13_3 (rR o13_2 (rR o13_1 (R)))) (rz o13_3 (rz o13_2 (rz o13_1 (130)))) (rs o13_3 (rs o13_2 (rs o13_1 (s)))) (by decide) f3
  obtain ⟨e5, f5⟩ := ap_ok o13_5 (rI o13_4 (rI o13_3 (rI o13_2 (rI o13_1 (I))))) J (rR o13_4 (rR o13_3 (rR o13_2 (rR o13_1 (R))))) (rz o13_4 (rz o13_3 (rz o13_2 (rz o13_1 (130))))) (rs o13_4 (rs o13_3 (rs o13_2 (rs o13_1 (s))))) (by decide) f4
  obtain ⟨e6, f6⟩ := ap_ok o13_6 (rI o13_5 (rI o13_4 (rI o13_3 (rI o13_2 (rI o13_1 (I)))))) J (rR o13_5 (rR o13_4 (rR o13_3 (rR o13_2 (rR o13_1 (R)))))) (rz o13_5 (rz o13_4 (rz o13_3 (rz o13_2 (rz o13_1 (130)))))) (rs o13_5 (rs o13_4 (rs o13_3 (rs o13_2 (rs o13_1 (s)))))) (by decide) f5
  obtain ⟨e7, f7⟩ := ap_ok o13_7 (rI o13_6 (rI o13_5 (rI o13_4 (rI o13_3 (rI o13_2 (rI o13_1 (I))))))) J (rR o13_6 (rR o13_5 (rR o13_4 (rR o13_3 (rR o13_2 (rR o13_1 (R))))))) (rz o13_6 (rz o13_5 (rz o13_4 (rz o13_3 (rz o13_2 (rz o13_1 (130))))))) (rs o13_6 (rs o13_5 (rs o13_4 (rs o13_3 (rs o13_2 (rs o13_1 (s))))))) (by decide) f6
  obtain ⟨e8, f8⟩ := ap_ok o13_8 (rI o13_7 (rI o13_6 (rI o13_5 (rI o13_4 (rI o13_3 (rI o13_2 (rI o13_1 (I)))))))) J (rR o13_7 (rR o13_6 (rR o13_5 (rR o13_4 (rR o13_3 (rR o13_2 (rR o13_1 (R)))))))) (rz o13_7 (rz o13_6 (rz o13_5 (rz o13_4 (rz o13_3 (rz o13_2 (rz o13_1 (130)))))))) (rs o13_7 (rs o13_6 (rs o13_5 (rs o13_4 (rs o13_3 (rs o13_2 (rs o13_1 (s)))))))) (by decide) f7
  obtain ⟨e9, f9⟩ := ap_ok o13_9 (rI o13_8 (rI o13_7 (rI o13_6 (rI o13_5 (rI o13_4 (rI o13_3 (rI o13_2 (rI o13_1 (I))))))))) J (rR o13_8 (rR o13_7 (rR o13_6 (rR o13_5 (rR o13_4 (rR o13_3 (rR o13_2 (rR o13_1 (R))))))))) (rz o13_8 (rz o13_7 (rz o13_6 (rz o13_5 (rz o13_4 (rz o13_3 (rz o13_2 (rz o13_1 (130))))))))) (rs o13_8 (rs o13_7 (rs o13_6 (rs o13_5 (rs o13_4 (rs o13_3 (rs o13_2 (rs o13_1 (s))))))))) (by decide) f8
  obtain ⟨e10, f10⟩ := ap_ok o13_10 (rI o13_9 (rI o13_8 (rI o13_7 (rI o13_6 (rI o13_5 (rI o13_4 (rI o13_3 (rI o13_2 (rI o13_1 (I)))))))))) J (rR o13_9 (rR o13_8 (rR o13_7 (rR o13_6 (rR o13_5 (rR o13_4 (rR o13_3 (rR o13_2 (rR o13_1 (R)))))))))) (rz o13_9 (rz o13_8 (rz o13_7 (rz o13_6 (rz o13_5 (rz o13_4 (rz o13_3 (rz o13_2 (rz o13_1 (130)))))))))) (rs o13_9 (rs o13_8 (rs o13_7 (rs o13_6 (rs o13_5 (rs o13_4 (rs o13_3 (rs o13_2 (rs o13_1 (s)))))))))) (by decide) f9
  obtain ⟨e11, f11⟩ := ap_ok o13_11 (rI o13_10 (rI o13_9 (rI o13_8 (rI o13_7 (rI o13_6 (rI o13_5 (rI o13_4 (rI o13_3 (rI o13_2 (rI o13_1 (I))))))))))) J (rR o13_10 (rR o13_9 (rR o13_8 (rR o13_7 (rR o13_6 (rR o13_5 (rR o13_4 (rR o13_3 (rR o13_2 (rR o13_1 (R))))))))))) (rz o13_10 (rz o13_9 (rz o13_8 (rz o13_7 (rz o13_6 (rz o13_5 (rz o13_4 (rz o13_3 (rz o13_2 (rz o13_1 (130))))))))))) (rs o13_10 (rs o13_9 (rs o13_8 (rs o13_7 (rs o13_6 (rs o13_5 (rs o13_4 (rs o13_3 (rs o13_2 (rs o13_1 (s))))))))))) (by decide) f10
  obtain ⟨e12, f12⟩ := ap_ok o13_12 (rI o13_11 (rI o13_10 (rI o13_9 (rI o13_8 (rI o13_7 (rI o13_6 (rI o13_5 (rI o13_4 (rI o13_3 (rI o13_2 (rI o13_1 (I)))))))))))) J (rR o13_11 (rR o13_10 (rR o13_9 (rR o13_8 (rR o13_7 (rR o13_6 (rR o13_5 (rR o13_4 (rR o13_3 (rR o13_2 (rR o13_1 (R)))))))))))) (rz o13_11 (rz o13_10 (rz o13_9 (rz o13_8 (rz o13_7 (rz o13_6 (rz o13_5 (rz o13_4 (rz o13_3 (rz o13_2 (rz o13_1 (130)))))))))))) (rs o13_11 (rs o13_10 (rs o13_9 (rs o13_8 (rs o13_7 (rs o13_6 (rs o13_5 (rs o13_4 (rs o13_3 (rs o13_2 (rs o13_1 (s)))))))))))) (by decide) f11
  obtain ⟨e13, f13⟩ := ap_ok o13_13 (rI o13_12 (rI o13_11 (rI o13_10 (rI o13_9 (rI o13_8 (rI o13_7 (rI o13_6 (rI o13_5 (rI o13_4 (rI o13_3 (rI o13_2 (rI o13_1 (I))))))))))))) J (rR o13_12 (rR o13_11 (rR o13_10 (rR o13_9 (rR o13_8 (rR o13_7 (rR o13_6 (rR o13_5 (rR o13_4 (rR o13_3 (rR o13_2 (rR o13_1 (R))))))))))))) (rz o13_12 (rz o13_11 (rz o13_10 (rz o13_9 (rz o13_8 (rz o13_7 (rz o13_6 (rz o13_5 (rz o13_4 (rz o13_3 (rz o13_2 (rz o13_1 (130))))))))))))) (rs o13_12 (rs o13_11 (rs o13_10 (rs o13_9 (rs o13_8 (rs o13_7 (rs o13_6 (rs o13_5 (rs o13_4 (rs o13_3 (rs o13_2 (rs o13_1 (s))))))))))))) (by decide) f12
  obtain ⟨e14, f14⟩ := ap_ok o13_14 (rI o13_13 (rI o13_12 (rI o13_11 (rI o13_10 (rI o13_9 (rI o13_8 (rI o13_7 (rI o13_6 (rI o13_5 (rI o13_4 (rI o13_3 (rI o13_2 (rI o13_1 (I)))))))))))))) J (rR o13_13 (rR o13_12 (rR o13_11 (rR o13_10 (rR o13_9 (rR o13_8 (rR o13_7 (rR o13_6 (rR o13_5 (rR o13_4 (rR o13_3 (rR o13_2 (rR o13_1 (R)))))))))))))) (rz o13_13 (rz o13_12 (rz o13_11 (rz o13_10 (rz o13_9 (rz o13_8 (rz o13_7 (rz o13_6 (rz o13_5 (rz o13_4 (rz o13_3 (rz o13_2 (rz o13_1 (130)))))))))))))) (rs o13_13 (rs o13_12 (rs o13_11 (rs o13_10 (rs o13_9 (rs o13_8 (rs o13_7 (rs o13_6 (rs o13_5 (rs o13_4 (rs o13_3 (rs o13_2 (rs o13_1 (s)))))))))))))) (by decide) f13
  refine ⟨(n13_0 I J R s).trans ?_, f14⟩
  refine (n13_1 _ _ _ _).trans ?_
  show B13 _ _ (apL o13_1 (I, J, R, 130, s)) = _
  rw [e1]
  refine (n13_2 _ _ _ _).trans ?_
  show B13 _ _ (apL o13_2 (rI o13_1 (I), J, rR o13_1 (R), rz o13_1 (130), rs o13_1 (s))) = _
  rw [e2]
  refine (n13_3 _ _ _ _).trans ?_
  show B13 _ _ (apL o13_3 (rI o13_2 (rI o13_1 (I)), J, rR o13_2 (rR o13_1 (R)), rz o13_2 (rz o13_1 (130)), rs o13_2 (rs o13_1 (s)))) = _
  rw [e3]
  refine (n13_4 _ _ _ _).trans ?_
  show B13 _ _ (apL o13_4 (rI o13_3 (rI o13_2 (rI o13_1 (I))), J, rR o13_3 (rR o13_2 (rR o13_1 (R))), rz o13_3 (rz o13_2 (rz o13_1 (130))), rs o13_3 (rs o13_2 (rs o13_1 (s))))) = _
  rw [e4]
  refine (n13_5 _ _ _ _).trans ?_
  show B13 _ _ (apL o13_5 (rI o13_4 (rI o13_3 (rI o13_2 (rI o13_1 (I)))), J, rR o13_4 (rR o13_3 (rR o13_2 (rR o13_1 (R)))), rz o13_4 (rz o13_3 (rz o13_2 (rz o13_1 (130)))), rs o13_4 (rs o13_3 (rs o13_2 (rs o13_1 (s)))))) = _
  rw [e5]
  refine (n13_6 _ _ _ _).trans ?_
  show B13 _ _ (apL o13_6 (rI o13_5 (rI o13_4 (rI o13_3 (rI o13_2 (rI o13_1 (I))))), J, rR o13_5 (rR o13_4 (rR o13_3 (rR o13_2 (rR o13_1 (R))))), rz o13_5 (rz o13_4 (rz o13_3 (rz o13_2 (rz o13_1 (130))))), rs o13_5 (rs o13_4 (rs o13_3 (rs o13_2 (rs o13_1 (s))))))) = _
  rw [e6]
  refine (n13_7 _ _ _ _).trans ?_
  show B13 _ _ (apL o13_7 (rI o13_6 (rI o13_5 (rI o13_4 (rI o13_3 (rI o13_2 (rI o13_1 (I)))))), J, rR o13_6 (rR o13_5 (rR o13_4 (rR o13_3 (rR o13_2 (rR o13_1 (R)))))), rz o13_6 (rz o13_5 (rz o13_4 (rz o13_3 (rz o13_2 (rz o13_1 (130)))))), rs o13_6 (rs o13_5 (rs o13_4 (rs o13_3 (rs o13_2 (rs o13_1 (s)))))))) = _
  rw [e7]
  refine (n13_8 _ _ _ _).trans ?_
  show B13 _ _ (apL o13_8 (rI o13_7 (rI o13_6 (rI o13_5 (rI o13_4 (rI o13_3 (rI o13_2 (rI o13_1 (I))))))), J, rR o13_7 (rR o13_6 (rR o13_5 (rR o13_4 (rR o13_3 (rR o13_2 (rR o13_1 (R))))))), rz o13_7 (rz o13_6 (rz o13_5 (rz o13_4 (rz o13_3 (rz o13_2 (rz o13_1 (130))))))), rs o13_7 (rs o13_6 (rs o13_5 (rs o13_4 (rs o13_3 (rs o13_2 (rs o13_1 (s))))))))) = _
  rw [e8]
  refine (n13_9 _ _ _ _).trans ?_
  show B13 _ _ (apL o13_9 (rI o13_8 (rI o13_7 (rI o13_6 (rI o13_5 (rI o13_4 (rI o13_3 (rI o13_2 (rI o13_1 (I)))))))), J, rR o13_8 (rR o13_7 (rR o13_6 (rR o13_5 (rR o13_4 (rR o13_3 (rR o13_2 (rR o13_1 (R)))))))), rz o13_8 (rz o13_7 (rz o13_6 (rz o13_5 (rz o13_4 (rz o13_3 (rz o13_2 (rz o13_1 (130)))))))), rs o13_8 (rs o13_7 (rs o13_6 (rs o13_5 (rs o13_4 (rs o13_3 (rs o13_2 (rs o13_1 (s)))))))))) = _
  rw [e9]
  refine (n13_10 _ _ _ _).trans ?_
  show B13 _ _ (apL o13_10 (rI o13_9 (rI o13_8 (rI o13_7 (rI o13_6 (rI o13_5 (rI o13_4 (rI o13_3 (rI o13_2 (rI o13_1 (I))))))))), J, rR o13_9 (rR o13_8 (rR o13_7 (rR o13_6 (rR o13_5 (rR o13_4 (rR o13_3 (rR o13_2 (rR o13_1 (R))))))))), rz o13_9 (rz o13_8 (rz o13_7 (rz o13_6 (rz o13_5 (rz o13_4 (rz o13_3 (rz o13_2 (rz o13_1 (130))))))))), rs o13_9 (rs o13_8 (rs o13_7 (rs o13_6 (rs o13_5 (rs o13_4 (rs o13_3 (rs o13_2 (rs o13_1 (s))))))))))) = _
  rw [e10]
  refine (n13_11 _ _ _ _).trans ?_
  show B13 _ _ (apL o13_11 (rI o13_10 (rI o13_9 (rI o13_8 (rI o13_7 (rI o13_6 (rI o13_5 (rI o13_4 (rI o13_3 (rI o13_2 (rI o13_1 (I)))))))))), J, rR o13_10 (rR o13_9 (rR o13_8 (rR o13_7 (rR o13_6 (rR o13_5 (rR o13_4 (rR o13_3 (rR o13_2 (rR o13_1 (R)))))))))), rz o13_10 (rz o13_9 (rz o13_8 (rz o13_7 (rz o13_6 (rz o13_5 (rz o13_4 (rz o13_3 (rz o13_2 (rz o13_1 (130)))))))))), rs o13_10 (rs o13_9 (rs o13_8 (rs o13_7 (rs o13_6 (rs o13_5 (rs o13_4 (rs o13_3 (rs o13_2 (rs o13_1 (s)))))))))))) = _
  rw [e11]
  refine (n13_12 _ _ _ _).trans ?_
  show B13 _ _ (apL o13_12 (rI o13_11 (rI o13_10 (rI o13_9 (rI o13_8 (rI o13_7 (rI o13_6 (rI o13_5 (rI o13_4 (rI o13_3 (rI o13_2 (rI o13_1 (I))))))))))), J, rR o13_11 (rR o13_10 (rR o13_9 (rR o13_8 (rR o13_7 (rR o13_6 (rR o13_5 (rR o13_4 (rR o13_3 (rR o13_2 (rR o13_1 (R))))))))))), rz o13_11 (rz o13_10 (rz o13_9 (rz o13_8 (rz o13_7 (rz o13_6 (rz o13_5 (rz o13_4 (rz o13_3 (rz o13_2 (rz o13_1 (130))))))))))), rs o13_11 (rs o13_10 (rs o13_9 (rs o13_8 (rs o13_7 (rs o13_6 (rs o13_5 (rs o13_4 (rs o13_3 (rs o13_2 (rs o13_1 (s))))))))))))) = _
  rw [e12]
  refine (n13_13 _ _ _ _).trans ?_
  show B13 _ _ (apL o13_13 (rI o13_12 (rI o13_11 (rI o13_10 (rI o13_9 (rI o13_8 (rI o13_7 (rI o13_6 (rI o13_5 (rI o13_4 (rI o13_3 (rI o13_2 (rI o13_1 (I)))))))))))), J, rR o13_12 (rR o13_11 (rR o13_10 (rR o13_9 (rR o13_8 (rR o13_7 (rR o13_6 (rR o13_5 (rR o13_4 (rR o13_3 (rR o13_2 (rR o13_1 (R)))))))))))), rz o13_12 (rz o13_11 (rz o13_10 (rz o13_9 (rz o13_8 (rz o13_7 (rz o13_6 (rz o13_5 (rz o13_4 (rz o13_3 (rz o13_2 (rz o13_1 (130)))))))))))), rs o13_12 (rs o13_11 (rs o13_10 (rs o13_9 (rs o13_8 (rs o13_7 (rs o13_6 (rs o13_5 (rs o13_4 (rs o13_3 (rs o13_2 (rs o13_1 (s)))))))))))))) = _
  rw [e13]
  refine (n13_14 _ _ _ _).trans ?_
  show some (none, apL o13_14 (rI o13_13 (rI o13_12 (rI o13_11 (rI o13_10 (rI o13_9 (rI o13_8 (rI o13_7 (rI o13_6 (rI o13_5 (rI o13_4 (rI o13_3 (rI o13_2 (rI o13_1 (I))))))))))))), J, rR o13_13 (rR o13_12 (rR o13_11 (rR o13_10 (rR o13_9 (rR o13_8 (rR o13_7 (rR o13_6 (rR o13_5 (rR o13_4 (rR o13_3 (rR o13_2 (rR o13_1 (R))))))))))))), rz o13_13 (rz o13_12 (rz o13_11 (rz o13_10 (rz o13_9 (rz o13_8 (rz o13_7 (rz o13_6 (rz o13_5 (rz o13_4 (rz o13_3 (rz o13_2 (rz o13_1 (130))))))))))))), rs o13_13 (rs o13_12 (rs o13_11 (rs o13_10 (rs o13_9 (rs o13_8 (rs o13_7 (rs o13_6 (rs o13_5 (rs o13_4 (rs o13_3 (rs o13_2 (rs o13_1 (s))))))))))))))) = _
  rw [e14]
