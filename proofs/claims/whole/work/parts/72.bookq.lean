/-! reading: book (class), whole -/
theorem c_53 {x b c d : Nat} {J : Nat → Nat → Int64} {n : Nat} {s : Nat → Int} {A : Nat → Nat → Int32} (hn : n ≤ 1400) (h2 : A 2 11 = nI n) (hs : ∀ i, i < n → (A 3 i).toInt = s i ∧ -128 ≤ s i ∧ s i ≤ 127) (hb : isB b) (hW : WLt J) (N0 : NmD) : ∃ A' J' τ' r, F_53 [.ref 2] (mk A J (x, b, c, d, 3)) = some (some (.int r), mk A' J' τ') ∧ A' 2 11 = 0 ∧ (∀ a y, ¬ (a = 4 ∧ y = 9) → ¬ (b ≤ a ∧ a ≤ b + 37) → J' a y = J a y) ∧ (match pBook s n 12 0 N0 (tok s n 0) with
    | .inl f => r = -1 ∧ τ' = (x, b, c, d, 3) ∧ A' 4 4 = nI f.1 ∧ A' 4 5 = nI f.2 ∧ (∀ a y, a ≠ 4 → ¬ (a = 2 ∧ y = 11) → ¬ (b ≤ a ∧ a ≤ b + 37) → A' a y = A a y)
    | .inr q => r = nI q.1 ∧ τ' = (b, x, c, d, 3) ∧ q.1 ≤ 12 ∧ A' 4 4 = 0 ∧ A' 4 5 = -1 ∧ BkA A' b q.1 q.2.2 ∧ NmA J' b q.1 q.2.1 ∧ A' 24 10 = 0 ∧ A' 24 9 = -1 ∧ A' 2 10 = 0 ∧ A' 8 5 = 0 ∧ A' 8 6 = 0 ∧ (∀ a y, a ≠ 4 → ¬ (a = 2 ∧ (y = 10 ∨ y = 11)) → ¬ (a = 24 ∧ (y = 9 ∨ y = 10)) → ¬ (a = 8 ∧ (y = 5 ∨ y = 6)) → ¬ (b ≤ a ∧ a ≤ b + 37) → A' a y = A a y)) := by
  have hb43 : 43 ≤ b := by unfold isB at hb; omega
  obtain ⟨k1, k2, k3, k4⟩ := bk_1 hb (x, b, c, d, 3)
  obtain ⟨A2, e2⟩ : ∃ z, z = tm_u (tm_u (tm_u (tm_u (tm_u A 2 11 0) 4 2 (nI n)) 4 3 0) 4 4 0) 4 5 (-1) := ⟨_, rfl⟩
  have tx : TxA A2 s n := ⟨hn, by rw [e2]; simp (disch := omega) only [tu_same, tu_eq, tu_ne], fun i hi => by rw [e2]; simp (disch := omega) only [tu_same, tu_eq, tu_ne]; exact hs i hi⟩
  obtain ⟨A3, J3, p1, p2, p3, p4⟩ := s_28 (τ := (x, b, c, d, 3)) rfl (p := 0) tx (Nat.zero_le n) (by rw [e2]; simp (disch := omega) only [tu_same, tu_eq, tu_ne]; rfl) hW
  have hS : ClS s n (tm_u A3 b 1 0) J3 (tok s n 0) := ⟨⟨hn, by simp (disch := omega) only [tu_same, tu_eq, tu_ne]; rw [p3 4 2 (by omega)]; exact tx.2.1, fun i hi => by simp (disch := omega) only [tu_same, tu_eq, tu_ne]; rw [p3 3 i (by omega)]; exact tx.2.2 i hi⟩, ⟨by simp (disch := omega) only [tu_same, tu_eq, tu_ne]; exact p2.1, by simp (disch := omega) only [tu_same, tu_eq, tu_ne]; exact p2.2.1, fun u => by simp (disch := omega) only [tu_same, tu_eq, tu_ne]; exact p2.2.2.1 u, fun u => by simp (disch := omega) only [tu_same, tu_eq, tu_ne]; exact p2.2.2.2.1 u, p2.2.2.2.2⟩, fun k hk => by rw [p4 6 k (by omega)]; exact hW k hk, (tok_ok (Nat.zero_le n)).1⟩
  have hN : BkS (tm_u A3 b 1 0) J3 b 0 N0 := ⟨⟨by simp (disch := omega) only [tu_same, tu_eq, tu_ne]; rfl, fun t ht => by omega⟩, fun t ht => by omega, fun t ht => by omega⟩
  obtain ⟨A4, J4, r, q1, q2, q3, q4⟩ := c_50l (τ := (x, b, c, d, 3)) rfl hb 12 0 (tm_u A3 b 1 0) J3 (tok s n 0) N0 (by omega) hS hN
  have hif : (if (1400 : Int32) < nI n then (1400 : Int32) else nI n) = nI n := by
    simp (disch := first | omega | (simp (disch := omega) only [n_ti, Int32.reduceToInt] <;> omega)) only [n_add, nl_add, nr_add, n_mul, nl_mul, nr_mul, n_sub, nr_dec, n_div, nr_sub_1, nr_sub_2, nr_sub_3, nr_sub_4, nr_sub_7, nr_sub_10, nr_sub_11, nr_sub_20, nr_sub_48, nr_sub_97, nl_sub_3, nl_sub_4, nl_sub_12, nl_sub_24, nl_sub_32, nr_div_2, nr_div_4, z_lt, z_le, z_eq, z_cl, n_ti, Int.toNat_natCast, Int32.reduceToInt, Int32.reduceToNatClampNeg, zc_add, zc_sub, zc_add_1, zc_add_2, zc_add_3, zc_add_4, zc_add_8, zc_add_10, zc_add_12, zc_add_16, zc_add_20, zc_sub_1, zc_sub_2, zc_sub_4, zc_sub_10, zc_sub_20, zc_sub_48, zc_sub_97, zc_mul_4, t_ltZ, f_ltZ, t_leZ, f_leZ, t_eqZ, f_eqZ, t_ltN, f_ltN, t_leN, f_leN, t_eqN, f_eqN, ↓reduceIte, and_true, true_and, and_false, false_and, and_self, or_true, true_or, or_false, false_or, or_self, not_true_eq_false, not_false_eq_true, tu_same, tu_eq, tu_ne, b_V, b_I, b_J]
  have s29 : F_29 [.ref 4, .ref 3, .int (nI n)] (mk (tm_u A 2 11 0) J (x, b, c, d, 3)) = some (none, mk A3 J3 (x, b, c, d, 3)) := by
    rw [e_29, sr_40, hif, ← e2]
    simp (disch := first | omega | (simp (disch := omega) only [n_ti, Int32.reduceToInt] <;> omega)) only [p1, e_29_34, n_add, nl_add, nr_add, n_mul, nl_mul, nr_mul, n_sub, nr_dec, n_div, nr_sub_1, nr_sub_2, nr_sub_3, nr_sub_4, nr_sub_7, nr_sub_10, nr_sub_11, nr_sub_20, nr_sub_48, nr_sub_97, nl_sub_3, nl_sub_4, nl_sub_12, nl_sub_24, nl_sub_32, nr_div_2, nr_div_4, z_lt, z_le, z_eq, z_cl, n_ti, Int.toNat_natCast, Int32.reduceToInt, Int32.reduceToNatClampNeg, zc_add, zc_sub, zc_add_1, zc_add_2, zc_add_3, zc_add_4, zc_add_8, zc_add_10, zc_add_12, zc_add_16, zc_add_20, zc_sub_1, zc_sub_2, zc_sub_4, zc_sub_10, zc_sub_20, zc_sub_48, zc_sub_97, zc_mul_4, t_ltZ, f_ltZ, t_leZ, f_leZ, t_eqZ, f_eqZ, t_ltN, f_ltN, t_leN, f_leN, t_eqN, f_eqN, ↓reduceIte, and_true, true_and, and_false, false_and, and_self, or_true, true_or, or_false, false_or, or_self, not_true_eq_false, not_false_eq_true, tu_same, tu_eq, tu_ne, b_V, b_I, b_J]
  have s50 : F_50 [.ref b, .ref 4] (mk A3 J3 (x, b, c, d, 3)) = some (some (.int r), mk A4 J4 (x, b, c, d, 3)) := by
    rw [e_50, if_pos k1]
    exact q1
  have pre : F_53 [.ref 2] (mk A J (x, b, c, d, 3)) = R_53 26 [(0, .ref 2)] [.int r] (mk A4 J4 (x, b, c, d, 3)) := by
    rw [e_53, e_19, h2]
    simp (disch := first | omega | (simp (disch := omega) only [n_ti, Int32.reduceToInt] <;> omega)) only [e_53_12, s29, e_53_15, k1, s50, n_add, nl_add, nr_add, n_mul, nl_mul, nr_mul, n_sub, nr_dec, n_div, nr_sub_1, nr_sub_2, nr_sub_3, nr_sub_4, nr_sub_7, nr_sub_10, nr_sub_11, nr_sub_20, nr_sub_48, nr_sub_97, nl_sub_3, nl_sub_4, nl_sub_12, nl_sub_24, nl_sub_32, nr_div_2, nr_div_4, z_lt, z_le, z_eq, z_cl, n_ti, Int.toNat_natCast, Int32.reduceToInt, Int32.reduceToNatClampNeg, zc_add, zc_sub, zc_add_1, zc_add_2, zc_add_3, zc_add_4, zc_add_8, zc_add_10, zc_add_12, zc_add_16, zc_add_20, zc_sub_1, zc_sub_2, zc_sub_4, zc_sub_10, zc_sub_20, zc_sub_48, zc_sub_97, zc_mul_4, t_ltZ, f_ltZ, t_leZ, f_leZ, t_eqZ, f_eqZ, t_ltN, f_ltN, t_leN, f_leN, t_eqN, f_eqN, ↓reduceIte, and_true, true_and, and_false, false_and, and_self, or_true, true_or, or_false, false_or, or_self, not_true_eq_false, not_false_eq_true, tu_same, tu_eq, tu_ne, b_V, b_I, b_J]
  have F4 : ∀ a y, a ≠ 4 → ¬ (a = 2 ∧ y = 11) → ¬ (b ≤ a ∧ a ≤ b + 37) → A4 a y = A a y := fun a y u v w => by
    rw [q2 a y u w]
    simp (disch := omega) only [tu_same, tu_eq, tu_ne]
    rw [p3 a y (by omega), e2]
    simp (disch := omega) only [tu_same, tu_eq, tu_ne]
  have h11 : A4 2 11 = 0 := by
    rw [q2 2 11 (by omega) (by omega)]
    simp (disch := omega) only [tu_same, tu_eq, tu_ne]
    rw [p3 2 11 (by omega), e2]
    simp (disch := omega) only [tu_same, tu_eq, tu_ne]
  have G4 : ∀ a y, ¬ (a = 4 ∧ y = 9) → ¬ (b ≤ a ∧ a ≤ b + 37) → J4 a y = J a y := fun a y u w => (q3 a y u w).trans (p4 a y u)
  cases hp : pBook s n 12 0 N0 (tok s n 0) with
  | inl f =>
    rw [hp] at q4
    obtain ⟨rfl, u1, u2⟩ := q4
    refine ⟨A4, J4, (x, b, c, d, 3), -1, ?_, h11, G4, rfl, rfl, u1, u2, F4⟩
    rw [pre, e_53_26]
    simp (disch := first | omega | (simp (disch := omega) only [n_ti, Int32.reduceToInt] <;> omega)) only [n_add, nl_add, nr_add, n_mul, nl_mul, nr_mul, n_sub, nr_dec, n_div, nr_sub_1, nr_sub_2, nr_sub_3, nr_sub_4, nr_sub_7, nr_sub_10, nr_sub_11, nr_sub_20, nr_sub_48, nr_sub_97, nl_sub_3, nl_sub_4, nl_sub_12, nl_sub_24, nl_sub_32, nr_div_2, nr_div_4, z_lt, z_le, z_eq, z_cl, n_ti, Int.toNat_natCast, Int32.reduceToInt, Int32.reduceToNatClampNeg, zc_add, zc_sub, zc_add_1, zc_add_2, zc_add_3, zc_add_4, zc_add_8, zc_add_10, zc_add_12, zc_add_16, zc_add_20, zc_sub_1, zc_sub_2, zc_sub_4, zc_sub_10, zc_sub_20, zc_sub_48, zc_sub_97, zc_mul_4, t_ltZ, f_ltZ, t_leZ, f_leZ, t_eqZ, f_eqZ, t_ltN, f_ltN, t_leN, f_leN, t_eqN, f_eqN, ↓reduceIte, and_true, true_and, and_false, false_and, and_self, or_true, true_or, or_false, false_or, or_self, not_true_eq_false, not_false_eq_true, tu_same, tu_eq, tu_ne, b_V, b_I, b_J]
  | inr q =>
    rw [hp] at q4
    obtain ⟨rfl, u1, ⟨u2, u3, u4⟩, u5, u6⟩ := q4
    have h44 : A4 4 4 = 0 := by
      rw [u5]
      simp (disch := omega) only [tu_same, tu_eq, tu_ne]
      rw [p3 4 4 (by omega), e2]
      simp (disch := omega) only [tu_same, tu_eq, tu_ne]
    have h45 : A4 4 5 = -1 := by
      rw [u6]
      simp (disch := omega) only [tu_same, tu_eq, tu_ne]
      rw [p3 4 5 (by omega), e2]
      simp (disch := omega) only [tu_same, tu_eq, tu_ne]
    have u21 := u2.1
    refine ⟨tm_u (tm_u (tm_u (tm_u (tm_u A4 24 10 0) 24 9 (-1)) 2 10 0) 8 5 0) 8 6 0, J4, (b, x, c, d, 3), nI q.1, ?_, by simp (disch := omega) only [h11, tu_same, tu_eq, tu_ne], G4, rfl, rfl, u1, by simp (disch := omega) only [h44, tu_same, tu_eq, tu_ne], by simp (disch := omega) only [h45, tu_same, tu_eq, tu_ne], u2.tr u1 (fun a k v w => by simp (disch := omega) only [tu_same, tu_eq, tu_ne]), u4, by simp (disch := omega) only [tu_same, tu_eq, tu_ne], by simp (disch := omega) only [tu_same, tu_eq, tu_ne], by simp (disch := omega) only [tu_same, tu_eq, tu_ne], by simp (disch := omega) only [tu_same, tu_eq, tu_ne], by simp (disch := omega) only [tu_same, tu_eq, tu_ne], fun a y v1 v2 v3 v4 v5 => ?_⟩
    · rw [pre, e_53_26, if_neg (by decide), sr_27, sr_26, e_51]
      obtain ⟨k1', -, -, -⟩ := bk_1 hb (b, x, c, d, 3)
      simp (disch := first | omega | (simp (disch := omega) only [n_ti, Int32.reduceToInt] <;> omega)) only [e_53_56, e_52, e_53_71, k1, k1', u21, n_add, nl_add, nr_add, n_mul, nl_mul, nr_mul, n_sub, nr_dec, n_div, nr_sub_1, nr_sub_2, nr_sub_3, nr_sub_4, nr_sub_7, nr_sub_10, nr_sub_11, nr_sub_20, nr_sub_48, nr_sub_97, nl_sub_3, nl_sub_4, nl_sub_12, nl_sub_24, nl_sub_32, nr_div_2, nr_div_4, z_lt, z_le, z_eq, z_cl, n_ti, Int.toNat_natCast, Int32.reduceToInt, Int32.reduceToNatClampNeg, zc_add, zc_sub, zc_add_1, zc_add_2, zc_add_3, zc_add_4, zc_add_8, zc_add_10, zc_add_12, zc_add_16, zc_add_20, zc_sub_1, zc_sub_2, zc_sub_4, zc_sub_10, zc_sub_20, zc_sub_48, zc_sub_97, zc_mul_4, t_ltZ, f_ltZ, t_leZ, f_leZ, t_eqZ, f_eqZ, t_ltN, f_ltN, t_leN, f_leN, t_eqN, f_eqN, ↓reduceIte, and_true, true_and, and_false, false_and, and_self, or_true, true_or, or_false, false_or, or_self, not_true_eq_false, not_false_eq_true, tu_same, tu_eq, tu_ne, b_V, b_I, b_J]
    · simp (disch := omega) only [tu_same, tu_eq, tu_ne]
      exact F4 a y v1 (by omega) v5
