/-! the loop of the law -/
theorem sw_0 (f : Nat → Option tm_R) : tm_sw f 33 (nI 0) [127, 190, 213, 226, 239, 262, 321, 344, 377, 390, 413, 446, 479, 502, 545, 578, 621, 684, 697, 720, 743, 786, 809, 832, 875, 966, 1045, 1104] 0 1127 = f 160 := rfl
theorem sw_1 (f : Nat → Option tm_R) : tm_sw f 33 (nI 1) [127, 190, 213, 226, 239, 262, 321, 344, 377, 390, 413, 446, 479, 502, 545, 578, 621, 684, 697, 720, 743, 786, 809, 832, 875, 966, 1045, 1104] 0 1127 = f 223 := rfl
theorem sw_2 (f : Nat → Option tm_R) : tm_sw f 33 (nI 2) [127, 190, 213, 226, 239, 262, 321, 344, 377, 390, 413, 446, 479, 502, 545, 578, 621, 684, 697, 720, 743, 786, 809, 832, 875, 966, 1045, 1104] 0 1127 = f 246 := rfl
theorem sw_3 (f : Nat → Option tm_R) : tm_sw f 33 (nI 3) [127, 190, 213, 226, 239, 262, 321, 344, 377, 390, 413, 446, 479, 502, 545, 578, 621, 684, 697, 720, 743, 786, 809, 832, 875, 966, 1045, 1104] 0 1127 = f 259 := rfl
theorem sw_4 (f : Nat → Option tm_R) : tm_sw f 33 (nI 4) [127, 190, 213, 226, 239, 262, 321, 344, 377, 390, 413, 446, 479, 502, 545, 578, 621, 684, 697, 720, 743, 786, 809, 832, 875, 966, 1045, 1104] 0 1127 = f 272 := rfl
theorem sw_5 (f : Nat → Option tm_R) : tm_sw f 33 (nI 5) [127, 190, 213, 226, 239, 262, 321, 344, 377, 390, 413, 446, 479, 502, 545, 578, 621, 684, 697, 720, 743, 786, 809, 832, 875, 966, 1045, 1104] 0 1127 = f 295 := rfl
theorem sw_6 (f : Nat → Option tm_R) : tm_sw f 33 (nI 6) [127, 190, 213, 226, 239, 262, 321, 344, 377, 390, 413, 446, 479, 502, 545, 578, 621, 684, 697, 720, 743, 786, 809, 832, 875, 966, 1045, 1104] 0 1127 = f 354 := rfl
theorem sw_7 (f : Nat → Option tm_R) : tm_sw f 33 (nI 7) [127, 190, 213, 226, 239, 262, 321, 344, 377, 390, 413, 446, 479, 502, 545, 578, 621, 684, 697, 720, 743, 786, 809, 832, 875, 966, 1045, 1104] 0 1127 = f 377 := rfl
theorem sw_8 (f : Nat → Option tm_R) : tm_sw f 33 (nI 8) [127, 190, 213, 226, 239, 262, 321, 344, 377, 390, 413, 446, 479, 502, 545, 578, 621, 684, 697, 720, 743, 786, 809, 832, 875, 966, 1045, 1104] 0 1127 = f 410 := rfl
theorem sw_9 (f : Nat → Option tm_R) : tm_sw f 33 (nI 9) [127, 190, 213, 226, 239, 262, 321, 344, 377, 390, 413, 446, 479, 502, 545, 578, 621, 684, 697, 720, 743, 786, 809, 832, 875, 966, 1045, 1104] 0 1127 = f 423 := rfl
theorem sw_10 (f : Nat → Option tm_R) : tm_sw f 33 (nI 10) [127, 190, 213, 226, 239, 262, 321, 344, 377, 390, 413, 446, 479, 502, 545, 578, 621, 684, 697, 720, 743, 786, 809, 832, 875, 966, 1045, 1104] 0 1127 = f 446 := rfl
theorem sw_11 (f : Nat → Option tm_R) : tm_sw f 33 (nI 11) [127, 190, 213, 226, 239, 262, 321, 344, 377, 390, 413, 446, 479, 502, 545, 578, 621, 684, 697, 720, 743, 786, 809, 832, 875, 966, 1045, 1104] 0 1127 = f 479 := rfl
theorem sw_12 (f : Nat → Option tm_R) : tm_sw f 33 (nI 12) [127, 190, 213, 226, 239, 262, 321, 344, 377, 390, 413, 446, 479, 502, 545, 578, 621, 684, 697, 720, 743, 786, 809, 832, 875, 966, 1045, 1104] 0 1127 = f 512 := rfl
theorem sw_13 (f : Nat → Option tm_R) : tm_sw f 33 (nI 13) [127, 190, 213, 226, 239, 262, 321, 344, 377, 390, 413, 446, 479, 502, 545, 578, 621, 684, 697, 720, 743, 786, 809, 832, 875, 966, 1045, 1104] 0 1127 = f 535 := rfl
theorem sw_14 (f : Nat → Option tm_R) : tm_sw f 33 (nI 14) [127, 190, 213, 226, 239, 262, 321, 344, 377, 390, 413, 446, 479, 502, 545, 578, 621, 684, 697, 720, 743, 786, 809, 832, 875, 966, 1045, 1104] 0 1127 = f 578 := rfl
theorem sw_15 (f : Nat → Option tm_R) : tm_sw f 33 (nI 15) [127, 190, 213, 226, 239, 262, 321, 344, 377, 390, 413, 446, 479, 502, 545, 578, 621, 684, 697, 720, 743, 786, 809, 832, 875, 966, 1045, 1104] 0 1127 = f 611 := rfl
theorem sw_16 (f : Nat → Option tm_R) : tm_sw f 33 (nI 16) [127, 190, 213, 226, 239, 262, 321, 344, 377, 390, 413, 446, 479, 502, 545, 578, 621, 684, 697, 720, 743, 786, 809, 832, 875, 966, 1045, 1104] 0 1127 = f 654 := rfl
theorem sw_17 (f : Nat → Option tm_R) : tm_sw f 33 (nI 17) [127, 190, 213, 226, 239, 262, 321, 344, 377, 390, 413, 446, 479, 502, 545, 578, 621, 684, 697, 720, 743, 786, 809, 832, 875, 966, 1045, 1104] 0 1127 = f 717 := rfl
theorem sw_18 (f : Nat → Option tm_R) : tm_sw f 33 (nI 18) [127, 190, 213, 226, 239, 262, 321, 344, 377, 390, 413, 446, 479, 502, 545, 578, 621, 684, 697, 720, 743, 786, 809, 832, 875, 966, 1045, 1104] 0 1127 = f 730 := rfl
theorem sw_19 (f : Nat → Option tm_R) : tm_sw f 33 (nI 19) [127, 190, 213, 226, 239, 262, 321, 344, 377, 390, 413, 446, 479, 502, 545, 578, 621, 684, 697, 720, 743, 786, 809, 832, 875, 966, 1045, 1104] 0 1127 = f 753 := rfl
theorem sw_20 (f : Nat → Option tm_R) : tm_sw f 33 (nI 20) [127, 190, 213, 226, 239, 262, 321, 344, 377, 390, 413, 446, 479, 502, 545, 578, 621, 684, 697, 720, 743, 786, 809, 832, 875, 966, 1045, 1104] 0 1127 = f 776 := rfl
theorem sw_21 (f : Nat → Option tm_R) : tm_sw f 33 (nI 21) [127, 190, 213, 226, 239, 262, 321, 344, 377, 390, 413, 446, 479, 502, 545, 578, 621, 684, 697, 720, 743, 786, 809, 832, 875, 966, 1045, 1104] 0 1127 = f 819 := rfl
theorem sw_22 (f : Nat → Option tm_R) : tm_sw f 33 (nI 22) [127, 190, 213, 226, 239, 262, 321, 344, 377, 390, 413, 446, 479, 502, 545, 578, 621, 684, 697, 720, 743, 786, 809, 832, 875, 966, 1045, 1104] 0 1127 = f 842 := rfl
theorem sw_23 (f : Nat → Option tm_R) : tm_sw f 33 (nI 23) [127, 190, 213, 226, 239, 262, 321, 344, 377, 390, 413, 446, 479, 502, 545, 578, 621, 684, 697, 720, 743, 786, 809, 832, 875, 966, 1045, 1104] 0 1127 = f 865 := rfl
theorem sw_24 (f : Nat → Option tm_R) : tm_sw f 33 (nI 24) [127, 190, 213, 226, 239, 262, 321, 344, 377, 390, 413, 446, 479, 502, 545, 578, 621, 684, 697, 720, 743, 786, 809, 832, 875, 966, 1045, 1104] 0 1127 = f 908 := rfl
theorem sw_25 (f : Nat → Option tm_R) : tm_sw f 33 (nI 25) [127, 190, 213, 226, 239, 262, 321, 344, 377, 390, 413, 446, 479, 502, 545, 578, 621, 684, 697, 720, 743, 786, 809, 832, 875, 966, 1045, 1104] 0 1127 = f 999 := rfl
theorem sw_26 (f : Nat → Option tm_R) : tm_sw f 33 (nI 26) [127, 190, 213, 226, 239, 262, 321, 344, 377, 390, 413, 446, 479, 502, 545, 578, 621, 684, 697, 720, 743, 786, 809, 832, 875, 966, 1045, 1104] 0 1127 = f 1078 := rfl
theorem sw_27 (f : Nat → Option tm_R) : tm_sw f 33 (nI 27) [127, 190, 213, 226, 239, 262, 321, 344, 377, 390, 413, 446, 479, 502, 545, 578, 621, 684, 697, 720, 743, 786, 809, 832, 875, 966, 1045, 1104] 0 1127 = f 1137 := rfl
theorem sw_28 (f : Nat → Option tm_R) : tm_sw f 33 (nI 28) [127, 190, 213, 226, 239, 262, 321, 344, 377, 390, 413, 446, 479, 502, 545, 578, 621, 684, 697, 720, 743, 786, 809, 832, 875, 966, 1045, 1104] 0 1127 = f 1160 := rfl
theorem sw_29 (f : Nat → Option tm_R) : tm_sw f 33 (nI 29) [127, 190, 213, 226, 239, 262, 321, 344, 377, 390, 413, 446, 479, 502, 545, 578, 621, 684, 697, 720, 743, 786, 809, 832, 875, 966, 1045, 1104] 0 1127 = f 1160 := rfl
theorem sw_30 (f : Nat → Option tm_R) : tm_sw f 33 (nI 30) [127, 190, 213, 226, 239, 262, 321, 344, 377, 390, 413, 446, 479, 502, 545, 578, 621, 684, 697, 720, 743, 786, 809, 832, 875, 966, 1045, 1104] 0 1127 = f 1160 := rfl
theorem sw_31 (f : Nat → Option tm_R) : tm_sw f 33 (nI 31) [127, 190, 213, 226, 239, 262, 321, 344, 377, 390, 413, 446, 479, 502, 545, 578, 621, 684, 697, 720, 743, 786, 809, 832, 875, 966, 1045, 1104] 0 1127 = f 1160 := rfl
set_option maxRecDepth 100000 in
theorem go_d (K : tm_K) (g : tm_N) (v : Int32) (M : tm_M) : tm_go cu_252 K g 1160 [(0, .ref 1), (1, .ref 2), (2, .ref 131), (3, .int v)] [] M = K 1160 [(0, .ref 1), (1, .ref 2), (2, .ref 131), (3, .int v)] [] M := rfl
set_option maxRecDepth 100000 in
theorem go_0 (K : tm_K) (g : tm_N) (la : tm_A) (M : tm_M) : tm_go cu_252 K g 160 la [] M = g 160 la [] M := rfl
set_option maxRecDepth 100000 in
theorem go_1 (K : tm_K) (g : tm_N) (la : tm_A) (M : tm_M) : tm_go cu_252 K g 223 la [] M = g 223 la [] M := rfl
set_option maxRecDepth 100000 in
theorem go_2 (K : tm_K) (g : tm_N) (la : tm_A) (M : tm_M) : tm_go cu_252 K g 246 la [] M = g 246 la [] M := rfl
set_option maxRecDepth 100000 in
theorem go_3 (K : tm_K) (g : tm_N) (la : tm_A) (M : tm_M) : tm_go cu_252 K g 259 la [] M = g 259 la [] M := rfl
set_option maxRecDepth 100000 in
theorem go_4 (K : tm_K) (g : tm_N) (la : tm_A) (M : tm_M) : tm_go cu_252 K g 272 la [] M = g 272 la [] M := rfl
set_option maxRecDepth 100000 in
theorem go_5 (K : tm_K) (g : tm_N) (la : tm_A) (M : tm_M) : tm_go cu_252 K g 295 la [] M = g 295 la [] M := rfl
set_option maxRecDepth 100000 in
theorem go_6 (K : tm_K) (g : tm_N) (la : tm_A) (M : tm_M) : tm_go cu_252 K g 354 la [] M = g 354 la [] M := rfl
set_option maxRecDepth 100000 in
theorem go_7 (K : tm_K) (g : tm_N) (la : tm_A) (M : tm_M) : tm_go cu_252 K g 377 la [] M = g 377 la [] M := rfl
set_option maxRecDepth 100000 in
theorem go_8 (K : tm_K) (g : tm_N) (la : tm_A) (M : tm_M) : tm_go cu_252 K g 410 la [] M = g 410 la [] M := rfl
set_option maxRecDepth 100000 in
theorem go_9 (K : tm_K) (g : tm_N) (la : tm_A) (M : tm_M) : tm_go cu_252 K g 423 la [] M = g 423 la [] M := rfl
set_option maxRecDepth 100000 in
theorem go_10 (K : tm_K) (g : tm_N) (la : tm_A) (M : tm_M) : tm_go cu_252 K g 446 la [] M = g 446 la [] M := rfl
set_option maxRecDepth 100000 in
theorem go_11 (K : tm_K) (g : tm_N) (la : tm_A) (M : tm_M) : tm_go cu_252 K g 479 la [] M = g 479 la [] M := rfl
set_option maxRecDepth 100000 in
theorem go_12 (K : tm_K) (g : tm_N) (la : tm_A) (M : tm_M) : tm_go cu_252 K g 512 la [] M = g 512 la [] M := rfl
set_option maxRecDepth 100000 in
theorem go_13 (K : tm_K) (g : tm_N) (la : tm_A) (M : tm_M) : tm_go cu_252 K g 535 la [] M = g 535 la [] M := rfl
set_option maxRecDepth 100000 in
theorem go_14 (K : tm_K) (g : tm_N) (la : tm_A) (M : tm_M) : tm_go cu_252 K g 578 la [] M = g 578 la [] M := rfl
set_option maxRecDepth 100000 in
theorem go_15 (K : tm_K) (g : tm_N) (la : tm_A) (M : tm_M) : tm_go cu_252 K g 611 la [] M = g 611 la [] M := rfl
set_option maxRecDepth 100000 in
theorem go_16 (K : tm_K) (g : tm_N) (la : tm_A) (M : tm_M) : tm_go cu_252 K g 654 la [] M = g 654 la [] M := rfl
set_option maxRecDepth 100000 in
theorem go_17 (K : tm_K) (g : tm_N) (la : tm_A) (M : tm_M) : tm_go cu_252 K g 717 la [] M = g 717 la [] M := rfl
set_option maxRecDepth 100000 in
theorem go_18 (K : tm_K) (g : tm_N) (la : tm_A) (M : tm_M) : tm_go cu_252 K g 730 la [] M = g 730 la [] M := rfl
set_option maxRecDepth 100000 in
theorem go_19 (K : tm_K) (g : tm_N) (la : tm_A) (M : tm_M) : tm_go cu_252 K g 753 la [] M = g 753 la [] M := rfl
set_option maxRecDepth 100000 in
theorem go_20 (K : tm_K) (g : tm_N) (la : tm_A) (M : tm_M) : tm_go cu_252 K g 776 la [] M = g 776 la [] M := rfl
set_option maxRecDepth 100000 in
theorem go_21 (K : tm_K) (g : tm_N) (la : tm_A) (M : tm_M) : tm_go cu_252 K g 819 la [] M = g 819 la [] M := rfl
set_option maxRecDepth 100000 in
theorem go_22 (K : tm_K) (g : tm_N) (la : tm_A) (M : tm_M) : tm_go cu_252 K g 842 la [] M = g 842 la [] M := rfl
set_option maxRecDepth 100000 in
theorem go_23 (K : tm_K) (g : tm_N) (la : tm_A) (M : tm_M) : tm_go cu_252 K g 865 la [] M = g 865 la [] M := rfl
set_option maxRecDepth 100000 in
theorem go_24 (K : tm_K) (g : tm_N) (la : tm_A) (M : tm_M) : tm_go cu_252 K g 908 la [] M = g 908 la [] M := rfl
set_option maxRecDepth 100000 in
theorem go_25 (K : tm_K) (g : tm_N) (la : tm_A) (M : tm_M) : tm_go cu_252 K g 999 la [] M = g 999 la [] M := rfl
set_option maxRecDepth 100000 in
theorem go_26 (K : tm_K) (g : tm_N) (la : tm_A) (M : tm_M) : tm_go cu_252 K g 1078 la [] M = g 1078 la [] M := rfl
set_option maxRecDepth 100000 in
theorem go_27 (K : tm_K) (g : tm_N) (la : tm_A) (M : tm_M) : tm_go cu_252 K g 1137 la [] M = g 1137 la [] M := rfl
theorem lo_s {L i : Nat} {xs : Nat → Int32} {I : Nat → Nat → Int32} {J : Nat → Nat → Int64} {τ : tm_Tu} (hL : L ≤ 3584) (hi : i + 7 ≤ L) (h : RAll I J τ) : ∃ I' J' τ', tm_sw (fun q => tm_go cu_252 (lawF L xs) (LB L xs 813) q [(0, .ref 1), (1, .ref 2), (2, .ref 131), (3, .int (nI i))] [] (mk I J τ)) 33 (xs i &&& 31) [127, 190, 213, 226, 239, 262, 321, 344, 377, 390, 413, 446, 479, 502, 545, 578, 621, 684, 697, 720, 743, 786, 809, 832, 875, 966, 1045, 1104] 0 1127 = lawF L xs 18 [(0, .ref 1), (1, .ref 2), (2, .ref 131), (3, .int (nI (i + 7)))] [] (mk I' J' τ') ∧ RAll I' J' τ' := by
  obtain ⟨j, hj, e⟩ := pk_andE (xs i) (m := 31) 5 (by decide)
  rw [e]
  have hj2 : j < 32 := hj
  clear hj e
  rcases j with _ | _ | _ | _ | _ | _ | _ | _ | _ | _ | _ | _ | _ | _ | _ | _ | _ | _ | _ | _ | _ | _ | _ | _ | _ | _ | _ | _ | _ | _ | _ | _ | j
  · exact (Exists.elim (ca_0 (xs := xs) hL hi h) fun I' u => Exists.elim u fun J' u => Exists.elim u fun τ' u => ⟨I', J', τ', ((sw_0 _).trans (go_0 _ _ _ _)).trans u.1, u.2⟩)
  · exact (Exists.elim (ca_1 (xs := xs) hL hi h) fun I' u => Exists.elim u fun J' u => Exists.elim u fun τ' u => ⟨I', J', τ', ((sw_1 _).trans (go_1 _ _ _ _)).trans u.1, u.2⟩)
  · exact (Exists.elim (ca_2 (xs := xs) hL hi h) fun I' u => Exists.elim u fun J' u => Exists.elim u fun τ' u => ⟨I', J', τ', ((sw_2 _).trans (go_2 _ _ _ _)).trans u.1, u.2⟩)
  · exact (Exists.elim (ca_3 (xs := xs) hL hi h) fun I' u => Exists.elim u fun J' u => Exists.elim u fun τ' u => ⟨I', J', τ', ((sw_3 _).trans (go_3 _ _ _ _)).trans u.1, u.2⟩)
  · exact (Exists.elim (ca_4 (xs := xs) hL hi h) fun I' u => Exists.elim u fun J' u => Exists.elim u fun τ' u => ⟨I', J', τ', ((sw_4 _).trans (go_4 _ _ _ _)).trans u.1, u.2⟩)
  · exact (Exists.elim (ca_5 (xs := xs) hL hi h) fun I' u => Exists.elim u fun J' u => Exists.elim u fun τ' u => ⟨I', J', τ', ((sw_5 _).trans (go_5 _ _ _ _)).trans u.1, u.2⟩)
  · exact (Exists.elim (ca_6 (xs := xs) hL hi h) fun I' u => Exists.elim u fun J' u => Exists.elim u fun τ' u => ⟨I', J', τ', ((sw_6 _).trans (go_6 _ _ _ _)).trans u.1, u.2⟩)
  · exact (Exists.elim (ca_7 (xs := xs) hL hi h) fun I' u => Exists.elim u fun J' u => Exists.elim u fun τ' u => ⟨I', J', τ', ((sw_7 _).trans (go_7 _ _ _ _)).trans u.1, u.2⟩)
  · exact (Exists.elim (ca_8 (xs := xs) hL hi h) fun I' u => Exists.elim u fun J' u => Exists.elim u fun τ' u => ⟨I', J', τ', ((sw_8 _).trans (go_8 _ _ _ _)).trans u.1, u.2⟩)
  · exact (Exists.elim (ca_9 (xs := xs) hL hi h) fun I' u => Exists.elim u fun J' u => Exists.elim u fun τ' u => ⟨I', J', τ', ((sw_9 _).trans (go_9 _ _ _ _)).trans u.1, u.2⟩)
  · exact (Exists.elim (ca_10 (xs := xs) hL hi h) fun I' u => Exists.elim u fun J' u => Exists.elim u fun τ' u => ⟨I', J', τ', ((sw_10 _).trans (go_10 _ _ _ _)).trans u.1, u.2⟩)
  · exact (Exists.elim (ca_11 (xs := xs) hL hi h) fun I' u => Exists.elim u fun J' u => Exists.elim u fun τ' u => ⟨I', J', τ', ((sw_11 _).trans (go_11 _ _ _ _)).trans u.1, u.2⟩)
  · exact (Exists.elim (ca_12 (xs := xs) hL hi h) fun I' u => Exists.elim u fun J' u => Exists.elim u fun τ' u => ⟨I', J', τ', ((sw_12 _).trans (go_12 _ _ _ _)).trans u.1, u.2⟩)
  · exact (Exists.elim (ca_13 (xs := xs) hL hi h) fun I' u => Exists.elim u fun J' u => Exists.elim u fun τ' u => ⟨I', J', τ', ((sw_13 _).trans (go_13 _ _ _ _)).trans u.1, u.2⟩)
  · exact (Exists.elim (ca_14 (xs := xs) hL hi h) fun I' u => Exists.elim u fun J' u => Exists.elim u fun τ' u => ⟨I', J', τ', ((sw_14 _).trans (go_14 _ _ _ _)).trans u.1, u.2⟩)
  · exact (Exists.elim (ca_15 (xs := xs) hL hi h) fun I' u => Exists.elim u fun J' u => Exists.elim u fun τ' u => ⟨I', J', τ', ((sw_15 _).trans (go_15 _ _ _ _)).trans u.1, u.2⟩)
  · exact (Exists.elim (ca_16 (xs := xs) hL hi h) fun I' u => Exists.elim u fun J' u => Exists.elim u fun τ' u => ⟨I', J', τ', ((sw_16 _).trans (go_16 _ _ _ _)).trans u.1, u.2⟩)
  · exact (Exists.elim (ca_17 (xs := xs) hL hi h) fun I' u => Exists.elim u fun J' u => Exists.elim u fun τ' u => ⟨I', J', τ', ((sw_17 _).trans (go_17 _ _ _ _)).trans u.1, u.2⟩)
  · exact (Exists.elim (ca_18 (xs := xs) hL hi h) fun I' u => Exists.elim u fun J' u => Exists.elim u fun τ' u => ⟨I', J', τ', ((sw_18 _).trans (go_18 _ _ _ _)).trans u.1, u.2⟩)
  · exact (Exists.elim (ca_19 (xs := xs) hL hi h) fun I' u => Exists.elim u fun J' u => Exists.elim u fun τ' u => ⟨I', J', τ', ((sw_19 _).trans (go_19 _ _ _ _)).trans u.1, u.2⟩)
  · exact (Exists.elim (ca_20 (xs := xs) hL hi h) fun I' u => Exists.elim u fun J' u => Exists.elim u fun τ' u => ⟨I', J', τ', ((sw_20 _).trans (go_20 _ _ _ _)).trans u.1, u.2⟩)
  · exact (Exists.elim (ca_21 (xs := xs) hL hi h) fun I' u => Exists.elim u fun J' u => Exists.elim u fun τ' u => ⟨I', J', τ', ((sw_21 _).trans (go_21 _ _ _ _)).trans u.1, u.2⟩)
  · exact (Exists.elim (ca_22 (xs := xs) hL hi h) fun I' u => Exists.elim u fun J' u => Exists.elim u fun τ' u => ⟨I', J', τ', ((sw_22 _).trans (go_22 _ _ _ _)).trans u.1, u.2⟩)
  · exact (Exists.elim (ca_23 (xs := xs) hL hi h) fun I' u => Exists.elim u fun J' u => Exists.elim u fun τ' u => ⟨I', J', τ', ((sw_23 _).trans (go_23 _ _ _ _)).trans u.1, u.2⟩)
  · exact (Exists.elim (ca_24 (xs := xs) hL hi h) fun I' u => Exists.elim u fun J' u => Exists.elim u fun τ' u => ⟨I', J', τ', ((sw_24 _).trans (go_24 _ _ _ _)).trans u.1, u.2⟩)
  · exact (Exists.elim (ca_25 (xs := xs) hL hi h) fun I' u => Exists.elim u fun J' u => Exists.elim u fun τ' u => ⟨I', J', τ', ((sw_25 _).trans (go_25 _ _ _ _)).trans u.1, u.2⟩)
  · exact (Exists.elim (ca_26 (xs := xs) hL hi h) fun I' u => Exists.elim u fun J' u => Exists.elim u fun τ' u => ⟨I', J', τ', ((sw_26 _).trans (go_26 _ _ _ _)).trans u.1, u.2⟩)
  · exact (Exists.elim (ca_27 (xs := xs) hL hi h) fun I' u => Exists.elim u fun J' u => Exists.elim u fun τ' u => ⟨I', J', τ', ((sw_27 _).trans (go_27 _ _ _ _)).trans u.1, u.2⟩)
  · exact ⟨I, J, τ, ((sw_28 _).trans (go_d _ _ _ _)).trans ((lk_1160 L xs I J τ (nI i)).trans (by rw [nr_add])), h⟩
  · exact ⟨I, J, τ, ((sw_29 _).trans (go_d _ _ _ _)).trans ((lk_1160 L xs I J τ (nI i)).trans (by rw [nr_add])), h⟩
  · exact ⟨I, J, τ, ((sw_30 _).trans (go_d _ _ _ _)).trans ((lk_1160 L xs I J τ (nI i)).trans (by rw [nr_add])), h⟩
  · exact ⟨I, J, τ, ((sw_31 _).trans (go_d _ _ _ _)).trans ((lk_1160 L xs I J τ (nI i)).trans (by rw [nr_add])), h⟩
  · omega
theorem lo_n {L : Nat} {xs : Nat → Int32} (hL : L ≤ 3584) : ∀ (n i : Nat) (I : Nat → Nat → Int32) (J : Nat → Nat → Int64) (τ : tm_Tu), L + 7 ≤ i + n → i ≤ L → RAll I J τ → ∃ I' J' τ', lawF L xs 18 [(0, .ref 1), (1, .ref 2), (2, .ref 131), (3, .int (nI i))] [] (mk I J τ) = some (some (.int 1), mk I' J' τ') := by
  intro n
  induction n with
  | zero => intro i I J τ h1 h2 _; omega
  | succ n ih =>
    intro i I J τ h1 h2 h
    rw [l18]
    have e7 : (Int32.ofNat L - 7).toInt = (L : Int) - 7 := by
      have e0 : (Int32.ofNat L).toInt = (L : Int) := n_ti (by omega)
      exact (zc_subl (k := 7) (by omega) (by rw [e0]; omega)).trans (by rw [e0]; rfl)
    have ei : (nI i).toInt = (i : Int) := n_ti (by omega)
    by_cases c : i + 7 ≤ L
    · have z1 : ¬ (Int32.ofNat L - 7 < nI i) := by rw [z_lt, e7, ei]; omega
      have z2 : 0 ≤ nI i ∧ (nI i).toNatClampNeg < L := ⟨by rw [z_le, ei]; show (0 : Int) ≤ i; omega, by rw [n_cl (by omega)]; omega⟩
      rw [if_neg z1, if_pos z2, n_cl (by omega)]
      obtain ⟨I1, J1, τ1, e, k⟩ := lo_s (xs := xs) hL c h
      rw [e]
      exact ih (i + 7) I1 J1 τ1 (by omega) c k
    · have z1 : Int32.ofNat L - 7 < nI i := by rw [z_lt, e7, ei]; omega
      rw [if_pos z1]
      exact ⟨I, J, τ, rfl⟩
theorem law_pure (L : Nat) (xs : Nat → Int32) (hL : L ≤ 3584) : ∃ M' : tm_M, lawR L xs = some (some (.int 1), M') ∧ tm_z M' ≤ 600000 ∧ tm_s M' ≤ 7302250 := by
  obtain ⟨I', J', τ', e⟩ := lo_n (xs := xs) hL (L + 7) 0 IC (rdJ z0J) (43, 81, 119, 125, 5) (by omega) (by omega) all_0
  exact ⟨mk I' J' τ', (st_all L xs).trans e, by show 184 ≤ 600000; decide, by show 95773 ≤ 7302250; decide⟩
