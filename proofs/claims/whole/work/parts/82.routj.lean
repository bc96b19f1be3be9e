/-! routine (model), whole; class and model -/
theorem x_55 {τ : tm_Tu} {s : Nat → Int} {n b : Nat} {B : Nat → Nat → Int32} {J : Nat → Nat → Int64} {f : Nat × Nat} (h : BadB B f) (hT : TxB B s n) (hb : b < 2) (x : Int32) : R_81 55 [(0, .ref 131)] [.int x, .int (nI b), .ref 145] (mk B J τ) = some (some (.int (-1)), mk (tm_u B 145 b x) J τ) := by
  have h' := h.u 145 b x (by omega)
  obtain ⟨z, z1, z2⟩ := h'.2.2.2.2
  obtain ⟨r, hr⟩ := w_68 (τ := τ) (J := J) (B := tm_u B 145 b x) (c := 59) (hT.tr (fun a y u => by simp (disch := omega) only [tu_same, tu_eq, tu_ne])) z2 (by omega) (Or.inr rfl)
  have hr' : F_68 [.ref 131, .int 59] (mk (tm_u B 145 b x) J τ) = some (some (.int r), mk (tm_u B 145 b x) J τ) := hr
  have gm := m_must0 (τ := τ) (J := J) (x := r) h'
  rw [e_81_55]
  simp (disch := first | omega | (simp (disch := omega) only [n_ti, Int32.reduceToInt] <;> omega)) only [hr', e_81_63, gm, b_81 h', n_add, nl_add, nr_add, n_mul, nl_mul, nr_mul, n_sub, nr_dec, n_div, nr_sub_1, nr_sub_2, nr_sub_3, nr_sub_4, nr_sub_7, nr_sub_10, nr_sub_11, nr_sub_20, nr_sub_48, nr_sub_97, nl_sub_3, nl_sub_4, nl_sub_12, nl_sub_24, nl_sub_32, nr_div_2, nr_div_4, z_lt, z_le, z_eq, z_cl, n_ti, Int.toNat_natCast, Int32.reduceToInt, Int32.reduceToNatClampNeg, zc_add, zc_sub, zc_add_1, zc_add_2, zc_add_3, zc_add_4, zc_add_8, zc_add_10, zc_add_12, zc_add_16, zc_add_20, zc_sub_1, zc_sub_2, zc_sub_4, zc_sub_10, zc_sub_20, zc_sub_48, zc_sub_97, zc_mul_4, t_ltZ, f_ltZ, t_leZ, f_leZ, t_eqZ, f_eqZ, t_ltN, f_ltN, t_leN, f_leN, t_eqN, f_eqN, ↓reduceIte, and_true, true_and, and_false, false_and, and_self, or_true, true_or, or_false, false_or, or_self, not_true_eq_false, not_false_eq_true, tu_same, tu_eq, tu_ne, b_V, b_I, b_J]
set_option maxHeartbeats 2000000 in
theorem m_81 {τ : tm_Tu} {J : Nat → Nat → Int64} {n rb bk m : Nat} {nm : Nat → List Nat} {s : Nat → Int} {B : Nat → Nat → Int32} (hn : n ≤ 1400) (h2 : B 131 2 = nI n) (hs : ∀ i, i < n → (B 132 i).toInt = s i ∧ -128 ≤ s i ∧ s i ≤ 127) (hrb : rb < 2) (h30 : B 131 30 = nI rb) (hbk : bk < 2) (h21 : B 131 21 = nI bk) (hm : m ≤ 12) (h135 : B 135 bk = nI m) (hN : NmB J bk m nm) (L0 : Nat → LD) : ∃ B' J' r, F_81 [.ref 131] (mk B J τ) = some (some (.int r), mk B' J' τ) ∧ B' 131 2 = 0 ∧ jX J J' ∧ (match pRout s n nm m L0 (tok s n 0) with
    | .inl f => r = -1 ∧ B' 131 4 = nI f.1 ∧ B' 131 5 = nI f.2 ∧ (∀ a y, ¬ (a = 131 ∧ (2 ≤ y ∧ y ≤ 9 ∨ y = 31)) → a ≠ 133 → ¬ (146 ≤ a ∧ a ≤ 150 ∧ 60 * (1 - rb) ≤ y ∧ y < 60 * (1 - rb) + 60) → ¬ ((a = 144 ∨ a = 145) ∧ y = 1 - rb) → B' a y = B a y)
    | .inr q => r = nI q.2.1 ∧ B' 131 4 = 0 ∧ B' 131 5 = -1 ∧ B' 131 30 = nI (1 - rb) ∧ B' 131 32 = 1 ∧ B' 131 33 = 0 ∧ B' 144 (1 - rb) = nI q.2.1 ∧ B' 145 (1 - rb) = nI q.1 ∧ (∀ j, j < q.2.1 → LnB B' (60 * (1 - rb) + j) (q.2.2 j)) ∧ (∀ a y, ¬ (a = 131 ∧ (2 ≤ y ∧ y ≤ 9 ∨ 30 ≤ y ∧ y ≤ 33)) → a ≠ 133 → ¬ (146 ≤ a ∧ a ≤ 150 ∧ 60 * (1 - rb) ≤ y ∧ y < 60 * (1 - rb) + 60) → ¬ ((a = 144 ∨ a = 145) ∧ y = 1 - rb) → B' a y = B a y)) := by
  obtain ⟨b, eb⟩ : ∃ b, b = 1 - rb := ⟨_, rfl⟩
  rw [← eb]
  have hb : b < 2 := by omega
  obtain ⟨B1, g1, g2, g3, g4, g5, g6⟩ := m_54 (τ := τ) (J := J) (s := s) hn h2 hs
  have h30' : B1 131 30 = nI rb := (g6 131 30 (by omega) (by omega)).trans h30
  obtain ⟨B2, e2⟩ : ∃ x, x = tm_u (tm_u B1 131 31 (nI b)) 144 b 0 := ⟨_, rfl⟩
  have tx2 : TxB B2 s n := g2.tr (fun a k u => by rw [e2]; simp (disch := omega) only [tu_same, tu_eq, tu_ne])
  obtain ⟨B3, J3, p1, p2, p3, p4⟩ := s_60 (τ := τ) (J := J) (p := 0) tx2 (by omega) (by rw [e2]; simp (disch := omega) only [tu_same, tu_eq, tu_ne]; exact g4)
  have hS : MoS s n B3 J3 (tok s n 0) := ⟨tx2.tr (fun a k u => p3 a k (by omega)), p2, (tok_ok (Nat.zero_le n)).1, by rw [p3 131 4 (by omega), e2]; simp (disch := omega) only [tu_same, tu_eq, tu_ne]; exact g3.1, by rw [p3 131 5 (by omega), e2]; simp (disch := omega) only [tu_same, tu_eq, tu_ne]; exact g3.2⟩
  have pre : F_81 [.ref 131] (mk B J τ) = R_81 28 [(0, .ref 131)] [] (mk B3 J3 τ) := by
    rw [e_81]
    simp (disch := first | omega | (simp (disch := omega) only [n_ti, Int32.reduceToInt] <;> omega)) only [g1, n_add, nl_add, nr_add, n_mul, nl_mul, nr_mul, n_sub, nr_dec, n_div, nr_sub_1, nr_sub_2, nr_sub_3, nr_sub_4, nr_sub_7, nr_sub_10, nr_sub_11, nr_sub_20, nr_sub_48, nr_sub_97, nl_sub_3, nl_sub_4, nl_sub_12, nl_sub_24, nl_sub_32, nr_div_2, nr_div_4, z_lt, z_le, z_eq, z_cl, n_ti, Int.toNat_natCast, Int32.reduceToInt, Int32.reduceToNatClampNeg, zc_add, zc_sub, zc_add_1, zc_add_2, zc_add_3, zc_add_4, zc_add_8, zc_add_10, zc_add_12, zc_add_16, zc_add_20, zc_sub_1, zc_sub_2, zc_sub_4, zc_sub_10, zc_sub_20, zc_sub_48, zc_sub_97, zc_mul_4, t_ltZ, f_ltZ, t_leZ, f_leZ, t_eqZ, f_eqZ, t_ltN, f_ltN, t_leN, f_leN, t_eqN, f_eqN, ↓reduceIte, and_true, true_and, and_false, false_and, and_self, or_true, true_or, or_false, false_or, or_self, not_true_eq_false, not_false_eq_true, tu_same, tu_eq, tu_ne, b_V, b_I, b_J]
    rw [e_81_4, h30']
    have e1 : (1 : Int32) - nI rb = nI b := by
      have : rb = 0 ∨ rb = 1 := by omega
      rcases this with e | e <;> subst e <;> subst eb <;> rfl
    rw [e1]
    simp (disch := first | omega | (simp (disch := omega) only [n_ti, Int32.reduceToInt] <;> omega)) only [← e2, p1, n_add, nl_add, nr_add, n_mul, nl_mul, nr_mul, n_sub, nr_dec, n_div, nr_sub_1, nr_sub_2, nr_sub_3, nr_sub_4, nr_sub_7, nr_sub_10, nr_sub_11, nr_sub_20, nr_sub_48, nr_sub_97, nl_sub_3, nl_sub_4, nl_sub_12, nl_sub_24, nl_sub_32, nr_div_2, nr_div_4, z_lt, z_le, z_eq, z_cl, n_ti, Int.toNat_natCast, Int32.reduceToInt, Int32.reduceToNatClampNeg, zc_add, zc_sub, zc_add_1, zc_add_2, zc_add_3, zc_add_4, zc_add_8, zc_add_10, zc_add_12, zc_add_16, zc_add_20, zc_sub_1, zc_sub_2, zc_sub_4, zc_sub_10, zc_sub_20, zc_sub_48, zc_sub_97, zc_mul_4, t_ltZ, f_ltZ, t_leZ, f_leZ, t_eqZ, f_eqZ, t_ltN, f_ltN, t_leN, f_leN, t_eqN, f_eqN, ↓reduceIte, and_true, true_and, and_false, false_and, and_self, or_true, true_or, or_false, false_or, or_self, not_true_eq_false, not_false_eq_true, tu_same, tu_eq, tu_ne, b_V, b_I, b_J]
  have F3 : ∀ a y, ¬ (a = 131 ∧ (2 ≤ y ∧ y ≤ 9 ∨ y = 31)) → a ≠ 133 → ¬ (a = 144 ∧ y = b) → B3 a y = B a y := fun a y u v w => by
    rw [p3 a y (by omega), e2]
    simp (disch := omega) only [tu_same, tu_eq, tu_ne]
    exact g6 a y (by omega) v
  have z2 : B3 131 2 = 0 := by rw [p3 131 2 (by omega), e2]; simp (disch := omega) only [tu_same, tu_eq, tu_ne]; exact g5
  have z31 : B3 131 31 = nI b := by rw [p3 131 31 (by omega), e2]; simp (disch := omega) only [tu_same, tu_eq, tu_ne]
  have z144 : B3 144 b = nI 0 := by rw [p3 144 b (by omega), e2]; simp (disch := omega) only [tu_same, tu_eq, tu_ne]; rfl
  -- how a bad text ends
  have ebad : ∀ (B4 : Nat → Nat → Int32) (J4 : Nat → Nat → Int64) (f : Nat × Nat), F_81 [.ref 131] (mk B J τ) = some (some (.int (-1)), mk B4 J4 τ) → fR B3 B4 b → jX J J4 → BadB B4 f → ∃ B' J' r, F_81 [.ref 131] (mk B J τ) = some (some (.int r), mk B' J' τ) ∧ B' 131 2 = 0 ∧ jX J J' ∧ r = -1 ∧ B' 131 4 = nI f.1 ∧ B' 131 5 = nI f.2 ∧ (∀ a y, ¬ (a = 131 ∧ (2 ≤ y ∧ y ≤ 9 ∨ y = 31)) → a ≠ 133 → ¬ (146 ≤ a ∧ a ≤ 150 ∧ 60 * b ≤ y ∧ y < 60 * b + 60) → ¬ ((a = 144 ∨ a = 145) ∧ y = b) → B' a y = B a y) := by
    intro B4 J4 f eq f4 j4 bad
    refine ⟨B4, J4, -1, eq, (f4 131 2 (by omega) (by omega) (by omega)).trans z2, j4, rfl, bad.1, bad.2.1, fun a y u v w z => ?_⟩
    rw [f4 a y (by omega) w z]
    exact F3 a y u v (by omega)
  unfold pRout
  by_cases c1 : tK (tok s n 0) = 14
  case neg =>
    rw [if_neg c1]
    have i0 : F_62 [.ref 131, .long 422607680627] (mk B3 J3 τ) = some (some (.int 0), mk B3 J3 τ) := by rw [wc_14]; exact is_f hS (by omega) c1
    have wr := m_mustN (τ := τ) hS
    have bad := BadB.of hS 2 (by omega) (by omega)
    have num0 := m_num0 (τ := τ) (J := J3) (x := 1) (y := 200) bad
    have fin := x_55 (τ := τ) (J := J3) bad (hS.1.bb _ _) hb 1
    refine ebad _ J3 (flt (tok s n 0) 2) ?_ (fun a y u v w => ?_) p4 (bad.u 145 b 1 (by omega))
    · rw [← fin, pre, e_81_28]
      simp (disch := first | omega | (simp (disch := omega) only [n_ti, Int32.reduceToInt] <;> omega)) only [i0, e_81_36, wr, e_81_39, num0, z31, n_add, nl_add, nr_add, n_mul, nl_mul, nr_mul, n_sub, nr_dec, n_div, nr_sub_1, nr_sub_2, nr_sub_3, nr_sub_4, nr_sub_7, nr_sub_10, nr_sub_11, nr_sub_20, nr_sub_48, nr_sub_97, nl_sub_3, nl_sub_4, nl_sub_12, nl_sub_24, nl_sub_32, nr_div_2, nr_div_4, z_lt, z_le, z_eq, z_cl, n_ti, Int.toNat_natCast, Int32.reduceToInt, Int32.reduceToNatClampNeg, zc_add, zc_sub, zc_add_1, zc_add_2, zc_add_3, zc_add_4, zc_add_8, zc_add_10, zc_add_12, zc_add_16, zc_add_20, zc_sub_1, zc_sub_2, zc_sub_4, zc_sub_10, zc_sub_20, zc_sub_48, zc_sub_97, zc_mul_4, t_ltZ, f_ltZ, t_leZ, f_leZ, t_eqZ, f_eqZ, t_ltN, f_ltN, t_leN, f_leN, t_eqN, f_eqN, ↓reduceIte, and_true, true_and, and_false, false_and, and_self, or_true, true_or, or_false, false_or, or_self, not_true_eq_false, not_false_eq_true, tu_same, tu_eq, tu_ne, b_V, b_I, b_J]
    · simp (disch := omega) only [tu_same, tu_eq, tu_ne]
  rw [if_pos c1]
  have i0 : F_62 [.ref 131, .long 422607680627] (mk B3 J3 τ) = some (some (.int 1), mk B3 J3 τ) := by rw [wc_14]; exact is_t hS (by omega) c1
  obtain ⟨B4, J4, q1, q2, q3⟩ := m_must1 (τ := τ) hS (by omega)
  have y31 : B4 131 31 = nI b := (q3.1 _ _ (by omega)).trans z31
  have pre2 : F_81 [.ref 131] (mk B J τ) = (tm_bI (F_67 [.ref 131, .int 1, .int 200] (mk B4 J4 τ)) fun r M => R_81 55 [(0, .ref 131)] [.int r, .int (nI b), .ref 145] M) := by
    rw [pre, e_81_28]
    simp (disch := first | omega | (simp (disch := omega) only [n_ti, Int32.reduceToInt] <;> omega)) only [i0, e_81_36, q1, e_81_39, y31, n_add, nl_add, nr_add, n_mul, nl_mul, nr_mul, n_sub, nr_dec, n_div, nr_sub_1, nr_sub_2, nr_sub_3, nr_sub_4, nr_sub_7, nr_sub_10, nr_sub_11, nr_sub_20, nr_sub_48, nr_sub_97, nl_sub_3, nl_sub_4, nl_sub_12, nl_sub_24, nl_sub_32, nr_div_2, nr_div_4, z_lt, z_le, z_eq, z_cl, n_ti, Int.toNat_natCast, Int32.reduceToInt, Int32.reduceToNatClampNeg, zc_add, zc_sub, zc_add_1, zc_add_2, zc_add_3, zc_add_4, zc_add_8, zc_add_10, zc_add_12, zc_add_16, zc_add_20, zc_sub_1, zc_sub_2, zc_sub_4, zc_sub_10, zc_sub_20, zc_sub_48, zc_sub_97, zc_mul_4, t_ltZ, f_ltZ, t_leZ, f_leZ, t_eqZ, f_eqZ, t_ltN, f_ltN, t_leN, f_leN, t_eqN, f_eqN, ↓reduceIte, and_true, true_and, and_false, false_and, and_self, or_true, true_or, or_false, false_or, or_self, not_true_eq_false, not_false_eq_true, tu_same, tu_eq, tu_ne, b_V, b_I, b_J]
  have J4x : jX J J4 := fun a y u => (q3.2 a y u).trans (p4 a y u)
  have F4 : fR B3 B4 b := fun a y u v w => q3.1 a y u
  rcases m_num (τ := τ) (lo := 1) (hi := 200) q2 (by omega) (by omega) with ⟨f, hn1, bad, num⟩ | ⟨hn1, B5, J5, num, r2, r3⟩
  · rw [hn1]
    have num' : F_67 [.ref 131, .int 1, .int 200] (mk B4 J4 τ) = some (some (.int 1), mk (tm_u (tm_u B4 131 4 (nI f.1)) 131 5 (nI f.2)) J4 τ) := num
    have fin := x_55 (τ := τ) (J := J4) bad (q2.1.bb _ _) hb 1
    refine ebad _ J4 f ?_ (fun a y u v w => ?_) J4x (bad.u 145 b 1 (by omega))
    · rw [← fin, pre2, num']
      rfl
    · simp (disch := omega) only [tu_same, tu_eq, tu_ne]
      exact F4 a y u v w
  rw [hn1]
  obtain ⟨v1, v2, v3⟩ := nf_none hn1
  obtain ⟨t2, et2⟩ : ∃ x, x = nx s n (nx s n (tok s n 0)) := ⟨_, rfl⟩
  obtain ⟨N, eN⟩ : ∃ x, x = tV (nx s n (tok s n 0)) := ⟨_, rfl⟩
  rw [← et2] at r2
  have num' : F_67 [.ref 131, .int 1, .int 200] (mk B4 J4 τ) = some (some (.int (nI N)), mk B5 J5 τ) := by rw [eN]; exact num
  obtain ⟨B6, e6⟩ : ∃ x, x = tm_u B5 145 b (nI N) := ⟨_, rfl⟩
  have r4 : MoS s n B6 J5 t2 := by rw [e6]; exact r2.tr (fun a y u => by simp (disch := omega) only [tu_same, tu_eq, tu_ne]) rfl
  have hi68 := m_is (τ := τ) (c := 59) r4 (Or.inr rfl)
  have hi' : F_68 [.ref 131, .int 59] (mk B6 J5 τ) = some (some (.int (b2 (decide (tK t2 = 34)))), mk B6 J5 τ) := hi68
  have pre3 : F_81 [.ref 131] (mk B J τ) = R_81 63 [(0, .ref 131)] [.int (b2 (decide (tK t2 = 34))), .ref 131] (mk B6 J5 τ) := by
    rw [pre2, num']
    simp (disch := first | omega | (simp (disch := omega) only [n_ti, Int32.reduceToInt] <;> omega)) only [e_81_55, ← e6, hi', n_add, nl_add, nr_add, n_mul, nl_mul, nr_mul, n_sub, nr_dec, n_div, nr_sub_1, nr_sub_2, nr_sub_3, nr_sub_4, nr_sub_7, nr_sub_10, nr_sub_11, nr_sub_20, nr_sub_48, nr_sub_97, nl_sub_3, nl_sub_4, nl_sub_12, nl_sub_24, nl_sub_32, nr_div_2, nr_div_4, z_lt, z_le, z_eq, z_cl, n_ti, Int.toNat_natCast, Int32.reduceToInt, Int32.reduceToNatClampNeg, zc_add, zc_sub, zc_add_1, zc_add_2, zc_add_3, zc_add_4, zc_add_8, zc_add_10, zc_add_12, zc_add_16, zc_add_20, zc_sub_1, zc_sub_2, zc_sub_4, zc_sub_10, zc_sub_20, zc_sub_48, zc_sub_97, zc_mul_4, t_ltZ, f_ltZ, t_leZ, f_leZ, t_eqZ, f_eqZ, t_ltN, f_ltN, t_leN, f_leN, t_eqN, f_eqN, ↓reduceIte, and_true, true_and, and_false, false_and, and_self, or_true, true_or, or_false, false_or, or_self, not_true_eq_false, not_false_eq_true, tu_same, tu_eq, tu_ne, b_V, b_I, b_J]
  have J5x : jX J J5 := fun a y u => (r3.2 a y u).trans (J4x a y u)
  have F6 : fR B3 B6 b := fun a y u v w => by
    rw [e6]
    simp (disch := omega) only [tu_same, tu_eq, tu_ne]
    rw [r3.1 a y u]
    exact F4 a y u v w
  rw [← et2, ← eN]
  dsimp only
  by_cases c2 : tK t2 = 34
  case neg =>
    rw [if_neg c2]
    have e : b2 (decide (tK t2 = 34)) = 0 := by simp [c2, b2]
    rw [e] at pre3
    have wr := m_mustN (τ := τ) r4
    have bad := BadB.of r4 2 (by omega) (by omega)
    refine ebad _ J5 (flt t2 2) ?_ (fun a y u v w => ?_) J5x bad
    · rw [pre3, e_81_63]
      simp (disch := first | omega | (simp (disch := omega) only [n_ti, Int32.reduceToInt] <;> omega)) only [wr, b_81 bad, n_add, nl_add, nr_add, n_mul, nl_mul, nr_mul, n_sub, nr_dec, n_div, nr_sub_1, nr_sub_2, nr_sub_3, nr_sub_4, nr_sub_7, nr_sub_10, nr_sub_11, nr_sub_20, nr_sub_48, nr_sub_97, nl_sub_3, nl_sub_4, nl_sub_12, nl_sub_24, nl_sub_32, nr_div_2, nr_div_4, z_lt, z_le, z_eq, z_cl, n_ti, Int.toNat_natCast, Int32.reduceToInt, Int32.reduceToNatClampNeg, zc_add, zc_sub, zc_add_1, zc_add_2, zc_add_3, zc_add_4, zc_add_8, zc_add_10, zc_add_12, zc_add_16, zc_add_20, zc_sub_1, zc_sub_2, zc_sub_4, zc_sub_10, zc_sub_20, zc_sub_48, zc_sub_97, zc_mul_4, t_ltZ, f_ltZ, t_leZ, f_leZ, t_eqZ, f_eqZ, t_ltN, f_ltN, t_leN, f_leN, t_eqN, f_eqN, ↓reduceIte, and_true, true_and, and_false, false_and, and_self, or_true, true_or, or_false, false_or, or_self, not_true_eq_false, not_false_eq_true, tu_same, tu_eq, tu_ne, b_V, b_I, b_J]
    · simp (disch := omega) only [tu_same, tu_eq, tu_ne]
      exact F6 a y u v w
  rw [if_pos c2]
  have e : b2 (decide (tK t2 = 34)) = 1 := by simp [c2, b2]
  rw [e] at pre3
  obtain ⟨B7, J7, s1, s2, s3⟩ := m_must1 (τ := τ) r4 (by omega)
  have J7x : jX J J7 := fun a y u => (s3.2 a y u).trans (J5x a y u)
  have F7 : fR B3 B7 b := fun a y u v w => (s3.1 a y u).trans (F6 a y u v w)
  have pre4 : F_81 [.ref 131] (mk B J τ) = R_81 66 [(0, .ref 131)] [] (mk B7 J7 τ) := by
    rw [pre3, e_81_63]
    simp (disch := first | omega | (simp (disch := omega) only [n_ti, Int32.reduceToInt] <;> omega)) only [s1, n_add, nl_add, nr_add, n_mul, nl_mul, nr_mul, n_sub, nr_dec, n_div, nr_sub_1, nr_sub_2, nr_sub_3, nr_sub_4, nr_sub_7, nr_sub_10, nr_sub_11, nr_sub_20, nr_sub_48, nr_sub_97, nl_sub_3, nl_sub_4, nl_sub_12, nl_sub_24, nl_sub_32, nr_div_2, nr_div_4, z_lt, z_le, z_eq, z_cl, n_ti, Int.toNat_natCast, Int32.reduceToInt, Int32.reduceToNatClampNeg, zc_add, zc_sub, zc_add_1, zc_add_2, zc_add_3, zc_add_4, zc_add_8, zc_add_10, zc_add_12, zc_add_16, zc_add_20, zc_sub_1, zc_sub_2, zc_sub_4, zc_sub_10, zc_sub_20, zc_sub_48, zc_sub_97, zc_mul_4, t_ltZ, f_ltZ, t_leZ, f_leZ, t_eqZ, f_eqZ, t_ltN, f_ltN, t_leN, f_leN, t_eqN, f_eqN, ↓reduceIte, and_true, true_and, and_false, false_and, and_self, or_true, true_or, or_false, false_or, or_self, not_true_eq_false, not_false_eq_true, tu_same, tu_eq, tu_ne, b_V, b_I, b_J]
  have w145 : B7 145 b = nI N := by rw [s3.1 _ _ (by omega), e6]; simp (disch := omega) only [tu_same, tu_eq, tu_ne]
  have w144 : B7 144 b = nI 0 := by
    rw [s3.1 _ _ (by omega), e6]
    simp (disch := omega) only [tu_same, tu_eq, tu_ne]
    rw [r3.1 _ _ (by omega), q3.1 _ _ (by omega)]
    exact z144
  have w31 : B7 131 31 = nI b := (F7 131 31 (by omega) (by omega) (by omega)).trans z31
  have w21 : B7 131 21 = nI bk := (F7 131 21 (by omega) (by omega) (by omega)).trans ((F3 _ _ (by omega) (by omega) (by omega)).trans h21)
  have w135 : B7 135 bk = nI m := (F7 135 bk (by omega) (by omega) (by omega)).trans ((F3 _ _ (by omega) (by omega) (by omega)).trans h135)
  obtain ⟨B8, J8, x1, ⟨x2, x3, x4⟩, x5⟩ := m_81l (τ := τ) (nm := nm) (N := N) hb (by omega) hbk hm 60 0 0 B7 J7 (nx s n t2) L0 (by omega) (by omega) s2 w31 w144 w145 (Or.inl ⟨rfl, rfl⟩) (fun j hj => by omega) w21 w135 (fun j hj => by rw [J7x _ _ (by omega)]; exact hN j hj)
  have J8x : jX J J8 := fun a y u => (x3 a y u).trans (J7x a y u)
  have F8 : fR B3 B8 b := F7.then x2.1
  cases hp : pLines s n nm m N 60 0 0 L0 (nx s n t2) with
  | inl f =>
    rw [hp] at x4
    exact ebad B8 J8 f (by rw [pre4, x1, b_81 x4]) F8 J8x x4
  | inr q =>
    rw [hp] at x4
    obtain ⟨u1, u2, u3⟩ := x4
    have b8 := x5 q hp
    have gg := m_gd (τ := τ) (J := J8) u1
    have v31 : B8 131 31 = nI b := (F8 131 31 (by omega) (by omega) (by omega)).trans z31
    have v145 : B8 145 b = nI N := x2.2.trans w145
    refine ⟨tm_u (tm_u (tm_u B8 131 30 (nI b)) 131 32 1) 131 33 0, J8, nI q.1, ?_, ?_, J8x, rfl, ?_, ?_, by simp (disch := omega) only [tu_same, tu_eq, tu_ne], by simp (disch := omega) only [tu_same, tu_eq, tu_ne], by simp (disch := omega) only [tu_same, tu_eq, tu_ne], by simp (disch := omega) only [u2, tu_same, tu_eq, tu_ne], by simp (disch := omega) only [v145, tu_same, tu_eq, tu_ne], fun j hj => ?_, fun a y u v w z => ?_⟩
    · rw [pre4, x1, e_81_66]
      simp (disch := first | omega | (simp (disch := omega) only [n_ti, Int32.reduceToInt] <;> omega)) only [gg, e_81_70, b8, e_81_87, e_81_91, v31, u2, n_add, nl_add, nr_add, n_mul, nl_mul, nr_mul, n_sub, nr_dec, n_div, nr_sub_1, nr_sub_2, nr_sub_3, nr_sub_4, nr_sub_7, nr_sub_10, nr_sub_11, nr_sub_20, nr_sub_48, nr_sub_97, nl_sub_3, nl_sub_4, nl_sub_12, nl_sub_24, nl_sub_32, nr_div_2, nr_div_4, z_lt, z_le, z_eq, z_cl, n_ti, Int.toNat_natCast, Int32.reduceToInt, Int32.reduceToNatClampNeg, zc_add, zc_sub, zc_add_1, zc_add_2, zc_add_3, zc_add_4, zc_add_8, zc_add_10, zc_add_12, zc_add_16, zc_add_20, zc_sub_1, zc_sub_2, zc_sub_4, zc_sub_10, zc_sub_20, zc_sub_48, zc_sub_97, zc_mul_4, t_ltZ, f_ltZ, t_leZ, f_leZ, t_eqZ, f_eqZ, t_ltN, f_ltN, t_leN, f_leN, t_eqN, f_eqN, ↓reduceIte, and_true, true_and, and_false, false_and, and_self, or_true, true_or, or_false, false_or, or_self, not_true_eq_false, not_false_eq_true, tu_same, tu_eq, tu_ne, b_V, b_I, b_J]
    · simp (disch := omega) only [tu_same, tu_eq, tu_ne]
      exact (F8 131 2 (by omega) (by omega) (by omega)).trans z2
    · simp (disch := omega) only [tu_same, tu_eq, tu_ne]
      exact u1.1
    · simp (disch := omega) only [tu_same, tu_eq, tu_ne]
      exact u1.2
    · obtain ⟨y1, y2, y3, y4, y5⟩ := u3 j hj
      exact ⟨by simp (disch := omega) only [y1, tu_same, tu_eq, tu_ne], by simp (disch := omega) only [y2, tu_same, tu_eq, tu_ne], by simp (disch := omega) only [y3, tu_same, tu_eq, tu_ne], by simp (disch := omega) only [y4, tu_same, tu_eq, tu_ne], by simp (disch := omega) only [y5, tu_same, tu_eq, tu_ne]⟩
    · simp (disch := omega) only [tu_same, tu_eq, tu_ne]
      rw [F8 a y (by omega) w z]
      exact F3 a y (by omega) v (by omega)
