/-! JUDGES: tape -/
def fI (z : Int) : Int32 := if z = 45 then 0 else if z = 98 then 3 else if z = 108 then 1 else if z = 114 then 2 else -1
def isS (z : Int) (g : Nat) : Prop := (z = 45 ∧ g = 0) ∨ (z = 108 ∧ g = 1) ∨ (z = 114 ∧ g = 2) ∨ (z = 98 ∧ g = 3) ∨ (z = 63 ∧ g = 4)
def noS (z : Int) : Prop := z ≠ 45 ∧ z ≠ 108 ∧ z ≠ 114 ∧ z ≠ 98 ∧ z ≠ 63
theorem s_25 {I : Nat → Nat → Int32} {J : Nat → Nat → Int64} {τ : tm_Tu} {x : Int32} : F_25 [.int x] (mk I J τ) = some (some (.int (fI x.toInt)), mk I J τ) := by
  rw [e_25]
  unfold fI
  by_cases c1 : x.toInt = 45
  · simp (disch := first | omega | (simp (disch := omega) only [n_ti, Int32.reduceToInt] <;> omega)) only [n_add, nl_add, nr_add, n_mul, nl_mul, nr_mul, n_sub, nr_dec, n_div, nr_sub_1, nr_sub_2, nr_sub_3, nr_sub_4, nr_sub_7, nr_sub_10, nr_sub_11, nr_sub_20, nr_sub_48, nr_sub_97, nl_sub_3, nl_sub_4, nl_sub_12, nl_sub_24, nl_sub_32, nr_div_2, nr_div_4, z_lt, z_le, z_eq, z_cl, n_ti, Int.toNat_natCast, Int32.reduceToInt, Int32.reduceToNatClampNeg, zc_add, zc_sub, zc_add_1, zc_add_2, zc_add_3, zc_add_4, zc_add_8, zc_add_10, zc_add_12, zc_add_16, zc_add_20, zc_sub_1, zc_sub_2, zc_sub_4, zc_sub_10, zc_sub_20, zc_sub_48, zc_sub_97, zc_mul_4, t_ltZ, f_ltZ, t_leZ, f_leZ, t_eqZ, f_eqZ, t_ltN, f_ltN, t_leN, f_leN, t_eqN, f_eqN, ↓reduceIte, and_true, true_and, and_false, false_and, and_self, or_true, true_or, or_false, false_or, or_self, not_true_eq_false, not_false_eq_true, tu_same, tu_eq, tu_ne, b_V, b_I, b_J]
  · by_cases c2 : x.toInt = 98
    · simp (disch := first | omega | (simp (disch := omega) only [n_ti, Int32.reduceToInt] <;> omega)) only [n_add, nl_add, nr_add, n_mul, nl_mul, nr_mul, n_sub, nr_dec, n_div, nr_sub_1, nr_sub_2, nr_sub_3, nr_sub_4, nr_sub_7, nr_sub_10, nr_sub_11, nr_sub_20, nr_sub_48, nr_sub_97, nl_sub_3, nl_sub_4, nl_sub_12, nl_sub_24, nl_sub_32, nr_div_2, nr_div_4, z_lt, z_le, z_eq, z_cl, n_ti, Int.toNat_natCast, Int32.reduceToInt, Int32.reduceToNatClampNeg, zc_add, zc_sub, zc_add_1, zc_add_2, zc_add_3, zc_add_4, zc_add_8, zc_add_10, zc_add_12, zc_add_16, zc_add_20, zc_sub_1, zc_sub_2, zc_sub_4, zc_sub_10, zc_sub_20, zc_sub_48, zc_sub_97, zc_mul_4, t_ltZ, f_ltZ, t_leZ, f_leZ, t_eqZ, f_eqZ, t_ltN, f_ltN, t_leN, f_leN, t_eqN, f_eqN, ↓reduceIte, and_true, true_and, and_false, false_and, and_self, or_true, true_or, or_false, false_or, or_self, not_true_eq_false, not_false_eq_true, tu_same, tu_eq, tu_ne, b_V, b_I, b_J]
    · by_cases c3 : x.toInt = 108
      · simp (disch := first | omega | (simp (disch := omega) only [n_ti, Int32.reduceToInt] <;> omega)) only [n_add, nl_add, nr_add, n_mul, nl_mul, nr_mul, n_sub, nr_dec, n_div, nr_sub_1, nr_sub_2, nr_sub_3, nr_sub_4, nr_sub_7, nr_sub_10, nr_sub_11, nr_sub_20, nr_sub_48, nr_sub_97, nl_sub_3, nl_sub_4, nl_sub_12, nl_sub_24, nl_sub_32, nr_div_2, nr_div_4, z_lt, z_le, z_eq, z_cl, n_ti, Int.toNat_natCast, Int32.reduceToInt, Int32.reduceToNatClampNeg, zc_add, zc_sub, zc_add_1, zc_add_2, zc_add_3, zc_add_4, zc_add_8, zc_add_10, zc_add_12, zc_add_16, zc_add_20, zc_sub_1, zc_sub_2, zc_sub_4, zc_sub_10, zc_sub_20, zc_sub_48, zc_sub_97, zc_mul_4, t_ltZ, f_ltZ, t_leZ, f_leZ, t_eqZ, f_eqZ, t_ltN, f_ltN, t_leN, f_leN, t_eqN, f_eqN, ↓reduceIte, and_true, true_and, and_false, false_and, and_self, or_true, true_or, or_false, false_or, or_self, not_true_eq_false, not_false_eq_true, tu_same, tu_eq, tu_ne, b_V, b_I, b_J]
      · by_cases c4 : x.toInt = 114
        · simp (disch := first | omega | (simp (disch := omega) only [n_ti, Int32.reduceToInt] <;> omega)) only [n_add, nl_add, nr_add, n_mul, nl_mul, nr_mul, n_sub, nr_dec, n_div, nr_sub_1, nr_sub_2, nr_sub_3, nr_sub_4, nr_sub_7, nr_sub_10, nr_sub_11, nr_sub_20, nr_sub_48, nr_sub_97, nl_sub_3, nl_sub_4, nl_sub_12, nl_sub_24, nl_sub_32, nr_div_2, nr_div_4, z_lt, z_le, z_eq, z_cl, n_ti, Int.toNat_natCast, Int32.reduceToInt, Int32.reduceToNatClampNeg, zc_add, zc_sub, zc_add_1, zc_add_2, zc_add_3, zc_add_4, zc_add_8, zc_add_10, zc_add_12, zc_add_16, zc_add_20, zc_sub_1, zc_sub_2, zc_sub_4, zc_sub_10, zc_sub_20, zc_sub_48, zc_sub_97, zc_mul_4, t_ltZ, f_ltZ, t_leZ, f_leZ, t_eqZ, f_eqZ, t_ltN, f_ltN, t_leN, f_leN, t_eqN, f_eqN, ↓reduceIte, and_true, true_and, and_false, false_and, and_self, or_true, true_or, or_false, false_or, or_self, not_true_eq_false, not_false_eq_true, tu_same, tu_eq, tu_ne, b_V, b_I, b_J]
        · simp (disch := first | omega | (simp (disch := omega) only [n_ti, Int32.reduceToInt] <;> omega)) only [n_add, nl_add, nr_add, n_mul, nl_mul, nr_mul, n_sub, nr_dec, n_div, nr_sub_1, nr_sub_2, nr_sub_3, nr_sub_4, nr_sub_7, nr_sub_10, nr_sub_11, nr_sub_20, nr_sub_48, nr_sub_97, nl_sub_3, nl_sub_4, nl_sub_12, nl_sub_24, nl_sub_32, nr_div_2, nr_div_4, z_lt, z_le, z_eq, z_cl, n_ti, Int.toNat_natCast, Int32.reduceToInt, Int32.reduceToNatClampNeg, zc_add, zc_sub, zc_add_1, zc_add_2, zc_add_3, zc_add_4, zc_add_8, zc_add_10, zc_add_12, zc_add_16, zc_add_20, zc_sub_1, zc_sub_2, zc_sub_4, zc_sub_10, zc_sub_20, zc_sub_48, zc_sub_97, zc_mul_4, t_ltZ, f_ltZ, t_leZ, f_leZ, t_eqZ, f_eqZ, t_ltN, f_ltN, t_leN, f_leN, t_eqN, f_eqN, ↓reduceIte, and_true, true_and, and_false, false_and, and_self, or_true, true_or, or_false, false_or, or_self, not_true_eq_false, not_false_eq_true, tu_same, tu_eq, tu_ne, b_V, b_I, b_J]
theorem s_59 {I : Nat → Nat → Int32} {J : Nat → Nat → Int64} {τ : tm_Tu} {x : Int32} : F_59 [.int x] (mk I J τ) = some (some (.int (fI x.toInt)), mk I J τ) := by
  rw [e_59]
  unfold fI
  by_cases c1 : x.toInt = 45
  · simp (disch := first | omega | (simp (disch := omega) only [n_ti, Int32.reduceToInt] <;> omega)) only [e_59_41, n_add, nl_add, nr_add, n_mul, nl_mul, nr_mul, n_sub, nr_dec, n_div, nr_sub_1, nr_sub_2, nr_sub_3, nr_sub_4, nr_sub_7, nr_sub_10, nr_sub_11, nr_sub_20, nr_sub_48, nr_sub_97, nl_sub_3, nl_sub_4, nl_sub_12, nl_sub_24, nl_sub_32, nr_div_2, nr_div_4, z_lt, z_le, z_eq, z_cl, n_ti, Int.toNat_natCast, Int32.reduceToInt, Int32.reduceToNatClampNeg, zc_add, zc_sub, zc_add_1, zc_add_2, zc_add_3, zc_add_4, zc_add_8, zc_add_10, zc_add_12, zc_add_16, zc_add_20, zc_sub_1, zc_sub_2, zc_sub_4, zc_sub_10, zc_sub_20, zc_sub_48, zc_sub_97, zc_mul_4, t_ltZ, f_ltZ, t_leZ, f_leZ, t_eqZ, f_eqZ, t_ltN, f_ltN, t_leN, f_leN, t_eqN, f_eqN, ↓reduceIte, and_true, true_and, and_false, false_and, and_self, or_true, true_or, or_false, false_or, or_self, not_true_eq_false, not_false_eq_true, tu_same, tu_eq, tu_ne, b_V, b_I, b_J]
  · by_cases c2 : x.toInt = 98
    · simp (disch := first | omega | (simp (disch := omega) only [n_ti, Int32.reduceToInt] <;> omega)) only [e_59_41, n_add, nl_add, nr_add, n_mul, nl_mul, nr_mul, n_sub, nr_dec, n_div, nr_sub_1, nr_sub_2, nr_sub_3, nr_sub_4, nr_sub_7, nr_sub_10, nr_sub_11, nr_sub_20, nr_sub_48, nr_sub_97, nl_sub_3, nl_sub_4, nl_sub_12, nl_sub_24, nl_sub_32, nr_div_2, nr_div_4, z_lt, z_le, z_eq, z_cl, n_ti, Int.toNat_natCast, Int32.reduceToInt, Int32.reduceToNatClampNeg, zc_add, zc_sub, zc_add_1, zc_add_2, zc_add_3, zc_add_4, zc_add_8, zc_add_10, zc_add_12, zc_add_16, zc_add_20, zc_sub_1, zc_sub_2, zc_sub_4, zc_sub_10, zc_sub_20, zc_sub_48, zc_sub_97, zc_mul_4, t_ltZ, f_ltZ, t_leZ, f_leZ, t_eqZ, f_eqZ, t_ltN, f_ltN, t_leN, f_leN, t_eqN, f_eqN, ↓reduceIte, and_true, true_and, and_false, false_and, and_self, or_true, true_or, or_false, false_or, or_self, not_true_eq_false, not_false_eq_true, tu_same, tu_eq, tu_ne, b_V, b_I, b_J]
    · by_cases c3 : x.toInt = 108
      · simp (disch := first | omega | (simp (disch := omega) only [n_ti, Int32.reduceToInt] <;> omega)) only [e_59_41, n_add, nl_add, nr_add, n_mul, nl_mul, nr_mul, n_sub, nr_dec, n_div, nr_sub_1, nr_sub_2, nr_sub_3, nr_sub_4, nr_sub_7, nr_sub_10, nr_sub_11, nr_sub_20, nr_sub_48, nr_sub_97, nl_sub_3, nl_sub_4, nl_sub_12, nl_sub_24, nl_sub_32, nr_div_2, nr_div_4, z_lt, z_le, z_eq, z_cl, n_ti, Int.toNat_natCast, Int32.reduceToInt, Int32.reduceToNatClampNeg, zc_add, zc_sub, zc_add_1, zc_add_2, zc_add_3, zc_add_4, zc_add_8, zc_add_10, zc_add_12, zc_add_16, zc_add_20, zc_sub_1, zc_sub_2, zc_sub_4, zc_sub_10, zc_sub_20, zc_sub_48, zc_sub_97, zc_mul_4, t_ltZ, f_ltZ, t_leZ, f_leZ, t_eqZ, f_eqZ, t_ltN, f_ltN, t_leN, f_leN, t_eqN, f_eqN, ↓reduceIte, and_true, true_and, and_false, false_and, and_self, or_true, true_or, or_false, false_or, or_self, not_true_eq_false, not_false_eq_true, tu_same, tu_eq, tu_ne, b_V, b_I, b_J]
      · by_cases c4 : x.toInt = 114
        · simp (disch := first | omega | (simp (disch := omega) only [n_ti, Int32.reduceToInt] <;> omega)) only [e_59_41, n_add, nl_add, nr_add, n_mul, nl_mul, nr_mul, n_sub, nr_dec, n_div, nr_sub_1, nr_sub_2, nr_sub_3, nr_sub_4, nr_sub_7, nr_sub_10, nr_sub_11, nr_sub_20, nr_sub_48, nr_sub_97, nl_sub_3, nl_sub_4, nl_sub_12, nl_sub_24, nl_sub_32, nr_div_2, nr_div_4, z_lt, z_le, z_eq, z_cl, n_ti, Int.toNat_natCast, Int32.reduceToInt, Int32.reduceToNatClampNeg, zc_add, zc_sub, zc_add_1, zc_add_2, zc_add_3, zc_add_4, zc_add_8, zc_add_10, zc_add_12, zc_add_16, zc_add_20, zc_sub_1, zc_sub_2, zc_sub_4, zc_sub_10, zc_sub_20, zc_sub_48, zc_sub_97, zc_mul_4, t_ltZ, f_ltZ, t_leZ, f_leZ, t_eqZ, f_eqZ, t_ltN, f_ltN, t_leN, f_leN, t_eqN, f_eqN, ↓reduceIte, and_true, true_and, and_false, false_and, and_self, or_true, true_or, or_false, false_or, or_self, not_true_eq_false, not_false_eq_true, tu_same, tu_eq, tu_ne, b_V, b_I, b_J]
        · simp (disch := first | omega | (simp (disch := omega) only [n_ti, Int32.reduceToInt] <;> omega)) only [e_59_41, n_add, nl_add, nr_add, n_mul, nl_mul, nr_mul, n_sub, nr_dec, n_div, nr_sub_1, nr_sub_2, nr_sub_3, nr_sub_4, nr_sub_7, nr_sub_10, nr_sub_11, nr_sub_20, nr_sub_48, nr_sub_97, nl_sub_3, nl_sub_4, nl_sub_12, nl_sub_24, nl_sub_32, nr_div_2, nr_div_4, z_lt, z_le, z_eq, z_cl, n_ti, Int.toNat_natCast, Int32.reduceToInt, Int32.reduceToNatClampNeg, zc_add, zc_sub, zc_add_1, zc_add_2, zc_add_3, zc_add_4, zc_add_8, zc_add_10, zc_add_12, zc_add_16, zc_add_20, zc_sub_1, zc_sub_2, zc_sub_4, zc_sub_10, zc_sub_20, zc_sub_48, zc_sub_97, zc_mul_4, t_ltZ, f_ltZ, t_leZ, f_leZ, t_eqZ, f_eqZ, t_ltN, f_ltN, t_leN, f_leN, t_eqN, f_eqN, ↓reduceIte, and_true, true_and, and_false, false_and, and_self, or_true, true_or, or_false, false_or, or_self, not_true_eq_false, not_false_eq_true, tu_same, tu_eq, tu_ne, b_V, b_I, b_J]
def Tp (J : Nat → Nat → Int64) (n i : Nat) : Prop := i % 20 ≠ 0 → ∀ b, 3 * (i % 20) ≤ b → lb (J 35 (n * 10 + i / 20)) b = false
theorem s_257 {A : Nat → Nat → Int32} {J : Nat → Nat → Int64} {τ : tm_Tu} (n i g : Nat) (hn : n < 30) (hi : i < 200) (hg : g ≤ 4) (h7 : A 34 7 = nI n) (hT : Tp J n i) : ∃ J', F_257 [.ref 34, .int (nI i), .int (nI g)] (mk A J τ) = some (none, mk A J' τ) ∧ Tp J' n (i + 1) ∧ sgJ J' n i = g ∧ (∀ o, o < i → sgJ J' n o = sgJ J n o) ∧ (∀ a y, ¬ (a = 35 ∧ n * 10 ≤ y ∧ y < n * 10 + 10) → J' a y = J a y) := by
  obtain ⟨x, hx⟩ : ∃ x : Int64, x = if i % 20 = 0 then 0 else J 35 (n * 10 + i / 20) := ⟨_, rfl⟩
  have hx2 : ∀ b, 3 * (i % 20) ≤ b → lb x b = false := fun b hb => by
    rw [hx]
    by_cases c : i % 20 = 0
    · rw [if_pos c]; exact lb_0 b
    · rw [if_neg c]; exact hT c b hb
  obtain ⟨u1, u2, u3⟩ := sg_wr (x := x) (k := 3 * (i % 20)) (g := g) (by omega) (by omega) hx2
  refine ⟨tm_u J 35 (n * 10 + i / 20) (x ||| ((nI g).toInt64 <<< ((nI (3 * (i % 20))).toInt64 &&& 63))), ?_, ?_, ?_, ?_, ?_⟩
  · have e : i - i / 20 * 20 = i % 20 := by omega
    rw [e_257, hx]
    by_cases c : i % 20 = 0
    · rw [if_pos c]
      simp (disch := first | omega | (simp (disch := omega) only [n_ti, Int32.reduceToInt] <;> omega)) only [h7, nr_div_20, e, e_257_30, n_add, nl_add, nr_add, n_mul, nl_mul, nr_mul, n_sub, nr_dec, n_div, nr_sub_1, nr_sub_2, nr_sub_3, nr_sub_4, nr_sub_7, nr_sub_10, nr_sub_11, nr_sub_20, nr_sub_48, nr_sub_97, nl_sub_3, nl_sub_4, nl_sub_12, nl_sub_24, nl_sub_32, nr_div_2, nr_div_4, z_lt, z_le, z_eq, z_cl, n_ti, Int.toNat_natCast, Int32.reduceToInt, Int32.reduceToNatClampNeg, zc_add, zc_sub, zc_add_1, zc_add_2, zc_add_3, zc_add_4, zc_add_8, zc_add_10, zc_add_12, zc_add_16, zc_add_20, zc_sub_1, zc_sub_2, zc_sub_4, zc_sub_10, zc_sub_20, zc_sub_48, zc_sub_97, zc_mul_4, t_ltZ, f_ltZ, t_leZ, f_leZ, t_eqZ, f_eqZ, t_ltN, f_ltN, t_leN, f_leN, t_eqN, f_eqN, ↓reduceIte, and_true, true_and, and_false, false_and, and_self, or_true, true_or, or_false, false_or, or_self, not_true_eq_false, not_false_eq_true, tu_same, tu_eq, tu_ne, b_V, b_I, b_J]
    · rw [if_neg c]
      simp (disch := first | omega | (simp (disch := omega) only [n_ti, Int32.reduceToInt] <;> omega)) only [h7, nr_div_20, e, e_257_30, n_add, nl_add, nr_add, n_mul, nl_mul, nr_mul, n_sub, nr_dec, n_div, nr_sub_1, nr_sub_2, nr_sub_3, nr_sub_4, nr_sub_7, nr_sub_10, nr_sub_11, nr_sub_20, nr_sub_48, nr_sub_97, nl_sub_3, nl_sub_4, nl_sub_12, nl_sub_24, nl_sub_32, nr_div_2, nr_div_4, z_lt, z_le, z_eq, z_cl, n_ti, Int.toNat_natCast, Int32.reduceToInt, Int32.reduceToNatClampNeg, zc_add, zc_sub, zc_add_1, zc_add_2, zc_add_3, zc_add_4, zc_add_8, zc_add_10, zc_add_12, zc_add_16, zc_add_20, zc_sub_1, zc_sub_2, zc_sub_4, zc_sub_10, zc_sub_20, zc_sub_48, zc_sub_97, zc_mul_4, t_ltZ, f_ltZ, t_leZ, f_leZ, t_eqZ, f_eqZ, t_ltN, f_ltN, t_leN, f_leN, t_eqN, f_eqN, ↓reduceIte, and_true, true_and, and_false, false_and, and_self, or_true, true_or, or_false, false_or, or_self, not_true_eq_false, not_false_eq_true, tu_same, tu_eq, tu_ne, b_V, b_I, b_J]
  · intro c b hb
    rw [show (i + 1) / 20 = i / 20 by omega, tu_same]
    exact u3 b (by omega)
  · unfold sgJ
    rw [tu_same]
    exact u1
  · intro o ho
    unfold sgJ
    by_cases c : o / 20 = i / 20
    · rw [c, tu_same, u2 _ (by omega), hx, if_neg (by omega)]
    · rw [tu_ne (by omega)]
  · intro a y h
    exact tu_ne (by omega)
theorem l_223 {A : Nat → Nat → Int32} {τ : tm_Tu} (n L : Nat) (x1 x2 x3 : Int32) (hn : n < 30) (hL : L ≤ 200) (f : Nat → Int) (hs : ∀ o, o < L → ∃ g, isS (f o) g) (h7 : A 34 7 = nI n) (hb : ∀ o, o < L → (A 3 o).toInt = f o) : ∀ m i (J : Nat → Nat → Int64), i + m = L → Tp J n i →
    ∃ J', R_223 14 [(0, .ref 34), (1, .int x1), (2, .int x2), (3, .int x3), (4, .ref 3), (5, .int (nI L)), (6, .int (nI i))] [] (mk A J τ) = R_223 83 [(0, .ref 34), (1, .int x1), (2, .int x2), (3, .int x3), (5, .int (nI L))] [] (mk A J' τ) ∧ (∀ o, o < i → sgJ J' n o = sgJ J n o) ∧ (∀ o, i ≤ o → o < L → ∃ g, g ≤ 4 ∧ isS (f o) g ∧ sgJ J' n o = g) ∧ (∀ a y, ¬ (a = 35 ∧ n * 10 ≤ y ∧ y < n * 10 + 10) → J' a y = J a y) := by
  intro m
  induction m with
  | zero =>
    intro i J hi hT
    refine ⟨J, ?_, fun _ _ => rfl, fun o h1 h2 => by omega, fun _ _ _ => rfl⟩
    rw [e_223_14]
    simp (disch := first | omega | (simp (disch := omega) only [n_ti, Int32.reduceToInt] <;> omega)) only [n_add, nl_add, nr_add, n_mul, nl_mul, nr_mul, n_sub, nr_dec, n_div, nr_sub_1, nr_sub_2, nr_sub_3, nr_sub_4, nr_sub_7, nr_sub_10, nr_sub_11, nr_sub_20, nr_sub_48, nr_sub_97, nl_sub_3, nl_sub_4, nl_sub_12, nl_sub_24, nl_sub_32, nr_div_2, nr_div_4, z_lt, z_le, z_eq, z_cl, n_ti, Int.toNat_natCast, Int32.reduceToInt, Int32.reduceToNatClampNeg, zc_add, zc_sub, zc_add_1, zc_add_2, zc_add_3, zc_add_4, zc_add_8, zc_add_10, zc_add_12, zc_add_16, zc_add_20, zc_sub_1, zc_sub_2, zc_sub_4, zc_sub_10, zc_sub_20, zc_sub_48, zc_sub_97, zc_mul_4, t_ltZ, f_ltZ, t_leZ, f_leZ, t_eqZ, f_eqZ, t_ltN, f_ltN, t_leN, f_leN, t_eqN, f_eqN, ↓reduceIte, and_true, true_and, and_false, false_and, and_self, or_true, true_or, or_false, false_or, or_self, not_true_eq_false, not_false_eq_true, tu_same, tu_eq, tu_ne, b_V, b_I, b_J]
  | succ m ih =>
    intro i J hi hT
    obtain ⟨g, hg⟩ := hs i (by omega)
    have hbi := hb i (by omega)
    have hg4 : g ≤ 4 := by unfold isS at hg; omega
    obtain ⟨J1, w1, w2, w3, w4, w5⟩ := s_257 (τ := τ) n i g hn (by omega) hg4 h7 hT
    obtain ⟨J', q1, q0, q2, q3⟩ := ih (i + 1) J1 (by omega) w2
    refine ⟨J', ?_, fun o h => (q0 o (by omega)).trans (w4 o h), fun o h1 h2 => ?_, fun a y h => (q3 a y h).trans (w5 a y h)⟩
    · rw [← q1, e_223_14]
      rcases hg with ⟨e, rfl⟩ | ⟨e, rfl⟩ | ⟨e, rfl⟩ | ⟨e, rfl⟩ | ⟨e, rfl⟩
      · rw [e] at hbi
        have w1' : F_257 [.ref 34, .int (nI i), .int 0] (mk A J τ) = some (none, mk A J1 τ) := w1
        simp (disch := first | omega | (simp (disch := omega) only [n_ti, Int32.reduceToInt] <;> omega)) only [hbi, s_25, fI, e_223_59, w1', e_223_77, n_add, nl_add, nr_add, n_mul, nl_mul, nr_mul, n_sub, nr_dec, n_div, nr_sub_1, nr_sub_2, nr_sub_3, nr_sub_4, nr_sub_7, nr_sub_10, nr_sub_11, nr_sub_20, nr_sub_48, nr_sub_97, nl_sub_3, nl_sub_4, nl_sub_12, nl_sub_24, nl_sub_32, nr_div_2, nr_div_4, z_lt, z_le, z_eq, z_cl, n_ti, Int.toNat_natCast, Int32.reduceToInt, Int32.reduceToNatClampNeg, zc_add, zc_sub, zc_add_1, zc_add_2, zc_add_3, zc_add_4, zc_add_8, zc_add_10, zc_add_12, zc_add_16, zc_add_20, zc_sub_1, zc_sub_2, zc_sub_4, zc_sub_10, zc_sub_20, zc_sub_48, zc_sub_97, zc_mul_4, t_ltZ, f_ltZ, t_leZ, f_leZ, t_eqZ, f_eqZ, t_ltN, f_ltN, t_leN, f_leN, t_eqN, f_eqN, ↓reduceIte, and_true, true_and, and_false, false_and, and_self, or_true, true_or, or_false, false_or, or_self, not_true_eq_false, not_false_eq_true, tu_same, tu_eq, tu_ne, b_V, b_I, b_J]
      · rw [e] at hbi
        have w1' : F_257 [.ref 34, .int (nI i), .int 1] (mk A J τ) = some (none, mk A J1 τ) := w1
        simp (disch := first | omega | (simp (disch := omega) only [n_ti, Int32.reduceToInt] <;> omega)) only [hbi, s_25, fI, e_223_59, w1', e_223_77, n_add, nl_add, nr_add, n_mul, nl_mul, nr_mul, n_sub, nr_dec, n_div, nr_sub_1, nr_sub_2, nr_sub_3, nr_sub_4, nr_sub_7, nr_sub_10, nr_sub_11, nr_sub_20, nr_sub_48, nr_sub_97, nl_sub_3, nl_sub_4, nl_sub_12, nl_sub_24, nl_sub_32, nr_div_2, nr_div_4, z_lt, z_le, z_eq, z_cl, n_ti, Int.toNat_natCast, Int32.reduceToInt, Int32.reduceToNatClampNeg, zc_add, zc_sub, zc_add_1, zc_add_2, zc_add_3, zc_add_4, zc_add_8, zc_add_10, zc_add_12, zc_add_16, zc_add_20, zc_sub_1, zc_sub_2, zc_sub_4, zc_sub_10, zc_sub_20, zc_sub_48, zc_sub_97, zc_mul_4, t_ltZ, f_ltZ, t_leZ, f_leZ, t_eqZ, f_eqZ, t_ltN, f_ltN, t_leN, f_leN, t_eqN, f_eqN, ↓reduceIte, and_true, true_and, and_false, false_and, and_self, or_true, true_or, or_false, false_or, or_self, not_true_eq_false, not_false_eq_true, tu_same, tu_eq, tu_ne, b_V, b_I, b_J]
      · rw [e] at hbi
        have w1' : F_257 [.ref 34, .int (nI i), .int 2] (mk A J τ) = some (none, mk A J1 τ) := w1
        simp (disch := first | omega | (simp (disch := omega) only [n_ti, Int32.reduceToInt] <;> omega)) only [hbi, s_25, fI, e_223_59, w1', e_223_77, n_add, nl_add, nr_add, n_mul, nl_mul, nr_mul, n_sub, nr_dec, n_div, nr_sub_1, nr_sub_2, nr_sub_3, nr_sub_4, nr_sub_7, nr_sub_10, nr_sub_11, nr_sub_20, nr_sub_48, nr_sub_97, nl_sub_3, nl_sub_4, nl_sub_12, nl_sub_24, nl_sub_32, nr_div_2, nr_div_4, z_lt, z_le, z_eq, z_cl, n_ti, Int.toNat_natCast, Int32.reduceToInt, Int32.reduceToNatClampNeg, zc_add, zc_sub, zc_add_1, zc_add_2, zc_add_3, zc_add_4, zc_add_8, zc_add_10, zc_add_12, zc_add_16, zc_add_20, zc_sub_1, zc_sub_2, zc_sub_4, zc_sub_10, zc_sub_20, zc_sub_48, zc_sub_97, zc_mul_4, t_ltZ, f_ltZ, t_leZ, f_leZ, t_eqZ, f_eqZ, t_ltN, f_ltN, t_leN, f_leN, t_eqN, f_eqN, ↓reduceIte, and_true, true_and, and_false, false_and, and_self, or_true, true_or, or_false, false_or, or_self, not_true_eq_false, not_false_eq_true, tu_same, tu_eq, tu_ne, b_V, b_I, b_J]
      · rw [e] at hbi
        have w1' : F_257 [.ref 34, .int (nI i), .int 3] (mk A J τ) = some (none, mk A J1 τ) := w1
        simp (disch := first | omega | (simp (disch := omega) only [n_ti, Int32.reduceToInt] <;> omega)) only [hbi, s_25, fI, e_223_59, w1', e_223_77, n_add, nl_add, nr_add, n_mul, nl_mul, nr_mul, n_sub, nr_dec, n_div, nr_sub_1, nr_sub_2, nr_sub_3, nr_sub_4, nr_sub_7, nr_sub_10, nr_sub_11, nr_sub_20, nr_sub_48, nr_sub_97, nl_sub_3, nl_sub_4, nl_sub_12, nl_sub_24, nl_sub_32, nr_div_2, nr_div_4, z_lt, z_le, z_eq, z_cl, n_ti, Int.toNat_natCast, Int32.reduceToInt, Int32.reduceToNatClampNeg, zc_add, zc_sub, zc_add_1, zc_add_2, zc_add_3, zc_add_4, zc_add_8, zc_add_10, zc_add_12, zc_add_16, zc_add_20, zc_sub_1, zc_sub_2, zc_sub_4, zc_sub_10, zc_sub_20, zc_sub_48, zc_sub_97, zc_mul_4, t_ltZ, f_ltZ, t_leZ, f_leZ, t_eqZ, f_eqZ, t_ltN, f_ltN, t_leN, f_leN, t_eqN, f_eqN, ↓reduceIte, and_true, true_and, and_false, false_and, and_self, or_true, true_or, or_false, false_or, or_self, not_true_eq_false, not_false_eq_true, tu_same, tu_eq, tu_ne, b_V, b_I, b_J]
      · rw [e] at hbi
        have w1' : F_257 [.ref 34, .int (nI i), .int 4] (mk A J τ) = some (none, mk A J1 τ) := w1
        simp (disch := first | omega | (simp (disch := omega) only [n_ti, Int32.reduceToInt] <;> omega)) only [hbi, s_25, fI, e_223_59, w1', e_223_77, n_add, nl_add, nr_add, n_mul, nl_mul, nr_mul, n_sub, nr_dec, n_div, nr_sub_1, nr_sub_2, nr_sub_3, nr_sub_4, nr_sub_7, nr_sub_10, nr_sub_11, nr_sub_20, nr_sub_48, nr_sub_97, nl_sub_3, nl_sub_4, nl_sub_12, nl_sub_24, nl_sub_32, nr_div_2, nr_div_4, z_lt, z_le, z_eq, z_cl, n_ti, Int.toNat_natCast, Int32.reduceToInt, Int32.reduceToNatClampNeg, zc_add, zc_sub, zc_add_1, zc_add_2, zc_add_3, zc_add_4, zc_add_8, zc_add_10, zc_add_12, zc_add_16, zc_add_20, zc_sub_1, zc_sub_2, zc_sub_4, zc_sub_10, zc_sub_20, zc_sub_48, zc_sub_97, zc_mul_4, t_ltZ, f_ltZ, t_leZ, f_leZ, t_eqZ, f_eqZ, t_ltN, f_ltN, t_leN, f_leN, t_eqN, f_eqN, ↓reduceIte, and_true, true_and, and_false, false_and, and_self, or_true, true_or, or_false, false_or, or_self, not_true_eq_false, not_false_eq_true, tu_same, tu_eq, tu_ne, b_V, b_I, b_J]
    · by_cases e : o = i
      · subst e
        exact ⟨g, hg4, hg, (q0 o (by omega)).trans w3⟩
      · exact q2 o (by omega) h2
theorem l_223b {A : Nat → Nat → Int32} {τ : tm_Tu} (n L o : Nat) (x1 x2 x3 : Int32) (hn : n < 30) (hL : L ≤ 200) (ho : o < L) (f : Nat → Int) (hs : ∀ q, q < o → ∃ g, isS (f q) g) (hno : noS (f o)) (h7 : A 34 7 = nI n) (hb : ∀ q, q < L → (A 3 q).toInt = f q) : ∀ m i (J : Nat → Nat → Int64), i + m = o → Tp J n i →
    ∃ J', R_223 14 [(0, .ref 34), (1, .int x1), (2, .int x2), (3, .int x3), (4, .ref 3), (5, .int (nI L)), (6, .int (nI i))] [] (mk A J τ) = some (some (.int (-1)), mk A J' τ) ∧ (∀ a y, ¬ (a = 35 ∧ n * 10 ≤ y ∧ y < n * 10 + 10) → J' a y = J a y) := by
  intro m
  induction m with
  | zero =>
    intro i J hi hT
    have e : i = o := by omega
    subst e
    have hbi := hb i ho
    unfold noS at hno
    refine ⟨J, ?_, fun _ _ _ => rfl⟩
    rw [e_223_14]
    simp (disch := first | omega | (simp (disch := omega) only [n_ti, Int32.reduceToInt] <;> omega)) only [hbi, s_25, fI, e_223_59, h7, n_add, nl_add, nr_add, n_mul, nl_mul, nr_mul, n_sub, nr_dec, n_div, nr_sub_1, nr_sub_2, nr_sub_3, nr_sub_4, nr_sub_7, nr_sub_10, nr_sub_11, nr_sub_20, nr_sub_48, nr_sub_97, nl_sub_3, nl_sub_4, nl_sub_12, nl_sub_24, nl_sub_32, nr_div_2, nr_div_4, z_lt, z_le, z_eq, z_cl, n_ti, Int.toNat_natCast, Int32.reduceToInt, Int32.reduceToNatClampNeg, zc_add, zc_sub, zc_add_1, zc_add_2, zc_add_3, zc_add_4, zc_add_8, zc_add_10, zc_add_12, zc_add_16, zc_add_20, zc_sub_1, zc_sub_2, zc_sub_4, zc_sub_10, zc_sub_20, zc_sub_48, zc_sub_97, zc_mul_4, t_ltZ, f_ltZ, t_leZ, f_leZ, t_eqZ, f_eqZ, t_ltN, f_ltN, t_leN, f_leN, t_eqN, f_eqN, ↓reduceIte, and_true, true_and, and_false, false_and, and_self, or_true, true_or, or_false, false_or, or_self, not_true_eq_false, not_false_eq_true, tu_same, tu_eq, tu_ne, b_V, b_I, b_J]
  | succ m ih =>
    intro i J hi hT
    obtain ⟨g, hg⟩ := hs i (by omega)
    have hbi := hb i (by omega)
    have hg4 : g ≤ 4 := by unfold isS at hg; omega
    obtain ⟨J1, w1, w2, w3, w4, w5⟩ := s_257 (τ := τ) n i g hn (by omega) hg4 h7 hT
    obtain ⟨J', q1, q3⟩ := ih (i + 1) J1 (by omega) w2
    refine ⟨J', ?_, fun a y h => (q3 a y h).trans (w5 a y h)⟩
    · rw [← q1, e_223_14]
      rcases hg with ⟨e, rfl⟩ | ⟨e, rfl⟩ | ⟨e, rfl⟩ | ⟨e, rfl⟩ | ⟨e, rfl⟩
      · rw [e] at hbi
        have w1' : F_257 [.ref 34, .int (nI i), .int 0] (mk A J τ) = some (none, mk A J1 τ) := w1
        simp (disch := first | omega | (simp (disch := omega) only [n_ti, Int32.reduceToInt] <;> omega)) only [hbi, s_25, fI, e_223_59, w1', e_223_77, n_add, nl_add, nr_add, n_mul, nl_mul, nr_mul, n_sub, nr_dec, n_div, nr_sub_1, nr_sub_2, nr_sub_3, nr_sub_4, nr_sub_7, nr_sub_10, nr_sub_11, nr_sub_20, nr_sub_48, nr_sub_97, nl_sub_3, nl_sub_4, nl_sub_12, nl_sub_24, nl_sub_32, nr_div_2, nr_div_4, z_lt, z_le, z_eq, z_cl, n_ti, Int.toNat_natCast, Int32.reduceToInt, Int32.reduceToNatClampNeg, zc_add, zc_sub, zc_add_1, zc_add_2, zc_add_3, zc_add_4, zc_add_8, zc_add_10, zc_add_12, zc_add_16, zc_add_20, zc_sub_1, zc_sub_2, zc_sub_4, zc_sub_10, zc_sub_20, zc_sub_48, zc_sub_97, zc_mul_4, t_ltZ, f_ltZ, t_leZ, f_leZ, t_eqZ, f_eqZ, t_ltN, f_ltN, t_leN, f_leN, t_eqN, f_eqN, ↓reduceIte, and_true, true_and, and_false, false_and, and_self, or_true, true_or, or_false, false_or, or_self, not_true_eq_false, not_false_eq_true, tu_same, tu_eq, tu_ne, b_V, b_I, b_J]
      · rw [e] at hbi
        have w1' : F_257 [.ref 34, .int (nI i), .int 1] (mk A J τ) = some (none, mk A J1 τ) := w1
        simp (disch := first | omega | (simp (disch := omega) only [n_ti, Int32.reduceToInt] <;> omega)) only [hbi, s_25, fI, e_223_59, w1', e_223_77, n_add, nl_add, nr_add, n_mul, nl_mul, nr_mul, n_sub, nr_dec, n_div, nr_sub_1, nr_sub_2, nr_sub_3, nr_sub_4, nr_sub_7, nr_sub_10, nr_sub_11, nr_sub_20, nr_sub_48, nr_sub_97, nl_sub_3, nl_sub_4, nl_sub_12, nl_sub_24, nl_sub_32, nr_div_2, nr_div_4, z_lt, z_le, z_eq, z_cl, n_ti, Int.toNat_natCast, Int32.reduceToInt, Int32.reduceToNatClampNeg, zc_add, zc_sub, zc_add_1, zc_add_2, zc_add_3, zc_add_4, zc_add_8, zc_add_10, zc_add_12, zc_add_16, zc_add_20, zc_sub_1, zc_sub_2, zc_sub_4, zc_sub_10, zc_sub_20, zc_sub_48, zc_sub_97, zc_mul_4, t_ltZ, f_ltZ, t_leZ, f_leZ, t_eqZ, f_eqZ, t_ltN, f_ltN, t_leN, f_leN, t_eqN, f_eqN, ↓reduceIte, and_true, true_and, and_false, false_and, and_self, or_true, true_or, or_false, false_or, or_self, not_true_eq_false, not_false_eq_true, tu_same, tu_eq, tu_ne, b_V, b_I, b_J]
      · rw [e] at hbi
        have w1' : F_257 [.ref 34, .int (nI i), .int 2] (mk A J τ) = some (none, mk A J1 τ) := w1
        simp (disch := first | omega | (simp (disch := omega) only [n_ti, Int32.reduceToInt] <;> omega)) only [hbi, s_25, fI, e_223_59, w1', e_223_77, n_add, nl_add, nr_add, n_mul, nl_mul, nr_mul, n_sub, nr_dec, n_div, nr_sub_1, nr_sub_2, nr_sub_3, nr_sub_4, nr_sub_7, nr_sub_10, nr_sub_11, nr_sub_20, nr_sub_48, nr_sub_97, nl_sub_3, nl_sub_4, nl_sub_12, nl_sub_24, nl_sub_32, nr_div_2, nr_div_4, z_lt, z_le, z_eq, z_cl, n_ti, Int.toNat_natCast, Int32.reduceToInt, Int32.reduceToNatClampNeg, zc_add, zc_sub, zc_add_1, zc_add_2, zc_add_3, zc_add_4, zc_add_8, zc_add_10, zc_add_12, zc_add_16, zc_add_20, zc_sub_1, zc_sub_2, zc_sub_4, zc_sub_10, zc_sub_20, zc_sub_48, zc_sub_97, zc_mul_4, t_ltZ, f_ltZ, t_leZ, f_leZ, t_eqZ, f_eqZ, t_ltN, f_ltN, t_leN, f_leN, t_eqN, f_eqN, ↓reduceIte, and_true, true_and, and_false, false_and, and_self, or_true, true_or, or_false, false_or, or_self, not_true_eq_false, not_false_eq_true, tu_same, tu_eq, tu_ne, b_V, b_I, b_J]
      · rw [e] at hbi
        have w1' : F_257 [.ref 34, .int (nI i), .int 3] (mk A J τ) = some (none, mk A J1 τ) := w1
        simp (disch := first | omega | (simp (disch := omega) only [n_ti, Int32.reduceToInt] <;> omega)) only [hbi, s_25, fI, e_223_59, w1', e_223_77, n_add, nl_add, nr_add, n_mul, nl_mul, nr_mul, n_sub, nr_dec, n_div, nr_sub_1, nr_sub_2, nr_sub_3, nr_sub_4, nr_sub_7, nr_sub_10, nr_sub_11, nr_sub_20, nr_sub_48, nr_sub_97, nl_sub_3, nl_sub_4, nl_sub_12, nl_sub_24, nl_sub_32, nr_div_2, nr_div_4, z_lt, z_le, z_eq, z_cl, n_ti, Int.toNat_natCast, Int32.reduceToInt, Int32.reduceToNatClampNeg, zc_add, zc_sub, zc_add_1, zc_add_2, zc_add_3, zc_add_4, zc_add_8, zc_add_10, zc_add_12, zc_add_16, zc_add_20, zc_sub_1, zc_sub_2, zc_sub_4, zc_sub_10, zc_sub_20, zc_sub_48, zc_sub_97, zc_mul_4, t_ltZ, f_ltZ, t_leZ, f_leZ, t_eqZ, f_eqZ, t_ltN, f_ltN, t_leN, f_leN, t_eqN, f_eqN, ↓reduceIte, and_true, true_and, and_false, false_and, and_self, or_true, true_or, or_false, false_or, or_self, not_true_eq_false, not_false_eq_true, tu_same, tu_eq, tu_ne, b_V, b_I, b_J]
      · rw [e] at hbi
        have w1' : F_257 [.ref 34, .int (nI i), .int 4] (mk A J τ) = some (none, mk A J1 τ) := w1
        simp (disch := first | omega | (simp (disch := omega) only [n_ti, Int32.reduceToInt] <;> omega)) only [hbi, s_25, fI, e_223_59, w1', e_223_77, n_add, nl_add, nr_add, n_mul, nl_mul, nr_mul, n_sub, nr_dec, n_div, nr_sub_1, nr_sub_2, nr_sub_3, nr_sub_4, nr_sub_7, nr_sub_10, nr_sub_11, nr_sub_20, nr_sub_48, nr_sub_97, nl_sub_3, nl_sub_4, nl_sub_12, nl_sub_24, nl_sub_32, nr_div_2, nr_div_4, z_lt, z_le, z_eq, z_cl, n_ti, Int.toNat_natCast, Int32.reduceToInt, Int32.reduceToNatClampNeg, zc_add, zc_sub, zc_add_1, zc_add_2, zc_add_3, zc_add_4, zc_add_8, zc_add_10, zc_add_12, zc_add_16, zc_add_20, zc_sub_1, zc_sub_2, zc_sub_4, zc_sub_10, zc_sub_20, zc_sub_48, zc_sub_97, zc_mul_4, t_ltZ, f_ltZ, t_leZ, f_leZ, t_eqZ, f_eqZ, t_ltN, f_ltN, t_leN, f_leN, t_eqN, f_eqN, ↓reduceIte, and_true, true_and, and_false, false_and, and_self, or_true, true_or, or_false, false_or, or_self, not_true_eq_false, not_false_eq_true, tu_same, tu_eq, tu_ne, b_V, b_I, b_J]
theorem l_225a {B : Nat → Nat → Int32} {J : Nat → Nat → Int64} {τ : tm_Tu} (L o : Nat) (x1 x2 x3 : Int32) (hL : L ≤ 200) (ho : o ≤ L) (f : Nat → Int) (hs : ∀ q, q < o → ∃ g, isS (f q) g) (hb : ∀ q, q < L → (B 132 q).toInt = f q) : ∀ m i, i + m = o →
    R_225 63 [(0, .ref 131), (1, .int x1), (2, .int x2), (3, .int x3), (4, .int (nI L)), (5, .int (nI i))] [] (mk B J τ) = R_225 63 [(0, .ref 131), (1, .int x1), (2, .int x2), (3, .int x3), (4, .int (nI L)), (5, .int (nI o))] [] (mk B J τ) := by
  intro m
  induction m with
  | zero =>
    intro i hi
    rw [show i = o by omega]
  | succ m ih =>
    intro i hi
    obtain ⟨g, hg⟩ := hs i (by omega)
    have hbi := hb i (by omega)
    rw [← ih (i + 1) (by omega), e_225_63]
    rcases hg with ⟨e, rfl⟩ | ⟨e, rfl⟩ | ⟨e, rfl⟩ | ⟨e, rfl⟩ | ⟨e, rfl⟩
    · rw [e] at hbi
      simp (disch := first | omega | (simp (disch := omega) only [n_ti, Int32.reduceToInt] <;> omega)) only [hbi, s_59, fI, e_225_80, e_225_97, n_add, nl_add, nr_add, n_mul, nl_mul, nr_mul, n_sub, nr_dec, n_div, nr_sub_1, nr_sub_2, nr_sub_3, nr_sub_4, nr_sub_7, nr_sub_10, nr_sub_11, nr_sub_20, nr_sub_48, nr_sub_97, nl_sub_3, nl_sub_4, nl_sub_12, nl_sub_24, nl_sub_32, nr_div_2, nr_div_4, z_lt, z_le, z_eq, z_cl, n_ti, Int.toNat_natCast, Int32.reduceToInt, Int32.reduceToNatClampNeg, zc_add, zc_sub, zc_add_1, zc_add_2, zc_add_3, zc_add_4, zc_add_8, zc_add_10, zc_add_12, zc_add_16, zc_add_20, zc_sub_1, zc_sub_2, zc_sub_4, zc_sub_10, zc_sub_20, zc_sub_48, zc_sub_97, zc_mul_4, t_ltZ, f_ltZ, t_leZ, f_leZ, t_eqZ, f_eqZ, t_ltN, f_ltN, t_leN, f_leN, t_eqN, f_eqN, ↓reduceIte, and_true, true_and, and_false, false_and, and_self, or_true, true_or, or_false, false_or, or_self, not_true_eq_false, not_false_eq_true, tu_same, tu_eq, tu_ne, b_V, b_I, b_J]
    · rw [e] at hbi
      simp (disch := first | omega | (simp (disch := omega) only [n_ti, Int32.reduceToInt] <;> omega)) only [hbi, s_59, fI, e_225_80, e_225_97, n_add, nl_add, nr_add, n_mul, nl_mul, nr_mul, n_sub, nr_dec, n_div, nr_sub_1, nr_sub_2, nr_sub_3, nr_sub_4, nr_sub_7, nr_sub_10, nr_sub_11, nr_sub_20, nr_sub_48, nr_sub_97, nl_sub_3, nl_sub_4, nl_sub_12, nl_sub_24, nl_sub_32, nr_div_2, nr_div_4, z_lt, z_le, z_eq, z_cl, n_ti, Int.toNat_natCast, Int32.reduceToInt, Int32.reduceToNatClampNeg, zc_add, zc_sub, zc_add_1, zc_add_2, zc_add_3, zc_add_4, zc_add_8, zc_add_10, zc_add_12, zc_add_16, zc_add_20, zc_sub_1, zc_sub_2, zc_sub_4, zc_sub_10, zc_sub_20, zc_sub_48, zc_sub_97, zc_mul_4, t_ltZ, f_ltZ, t_leZ, f_leZ, t_eqZ, f_eqZ, t_ltN, f_ltN, t_leN, f_leN, t_eqN, f_eqN, ↓reduceIte, and_true, true_and, and_false, false_and, and_self, or_true, true_or, or_false, false_or, or_self, not_true_eq_false, not_false_eq_true, tu_same, tu_eq, tu_ne, b_V, b_I, b_J]
    · rw [e] at hbi
      simp (disch := first | omega | (simp (disch := omega) only [n_ti, Int32.reduceToInt] <;> omega)) only [hbi, s_59, fI, e_225_80, e_225_97, n_add, nl_add, nr_add, n_mul, nl_mul, nr_mul, n_sub, nr_dec, n_div, nr_sub_1, nr_sub_2, nr_sub_3, nr_sub_4, nr_sub_7, nr_sub_10, nr_sub_11, nr_sub_20, nr_sub_48, nr_sub_97, nl_sub_3, nl_sub_4, nl_sub_12, nl_sub_24, nl_sub_32, nr_div_2, nr_div_4, z_lt, z_le, z_eq, z_cl, n_ti, Int.toNat_natCast, Int32.reduceToInt, Int32.reduceToNatClampNeg, zc_add, zc_sub, zc_add_1, zc_add_2, zc_add_3, zc_add_4, zc_add_8, zc_add_10, zc_add_12, zc_add_16, zc_add_20, zc_sub_1, zc_sub_2, zc_sub_4, zc_sub_10, zc_sub_20, zc_sub_48, zc_sub_97, zc_mul_4, t_ltZ, f_ltZ, t_leZ, f_leZ, t_eqZ, f_eqZ, t_ltN, f_ltN, t_leN, f_leN, t_eqN, f_eqN, ↓reduceIte, and_true, true_and, and_false, false_and, and_self, or_true, true_or, or_false, false_or, or_self, not_true_eq_false, not_false_eq_true, tu_same, tu_eq, tu_ne, b_V, b_I, b_J]
    · rw [e] at hbi
      simp (disch := first | omega | (simp (disch := omega) only [n_ti, Int32.reduceToInt] <;> omega)) only [hbi, s_59, fI, e_225_80, e_225_97, n_add, nl_add, nr_add, n_mul, nl_mul, nr_mul, n_sub, nr_dec, n_div, nr_sub_1, nr_sub_2, nr_sub_3, nr_sub_4, nr_sub_7, nr_sub_10, nr_sub_11, nr_sub_20, nr_sub_48, nr_sub_97, nl_sub_3, nl_sub_4, nl_sub_12, nl_sub_24, nl_sub_32, nr_div_2, nr_div_4, z_lt, z_le, z_eq, z_cl, n_ti, Int.toNat_natCast, Int32.reduceToInt, Int32.reduceToNatClampNeg, zc_add, zc_sub, zc_add_1, zc_add_2, zc_add_3, zc_add_4, zc_add_8, zc_add_10, zc_add_12, zc_add_16, zc_add_20, zc_sub_1, zc_sub_2, zc_sub_4, zc_sub_10, zc_sub_20, zc_sub_48, zc_sub_97, zc_mul_4, t_ltZ, f_ltZ, t_leZ, f_leZ, t_eqZ, f_eqZ, t_ltN, f_ltN, t_leN, f_leN, t_eqN, f_eqN, ↓reduceIte, and_true, true_and, and_false, false_and, and_self, or_true, true_or, or_false, false_or, or_self, not_true_eq_false, not_false_eq_true, tu_same, tu_eq, tu_ne, b_V, b_I, b_J]
    · rw [e] at hbi
      simp (disch := first | omega | (simp (disch := omega) only [n_ti, Int32.reduceToInt] <;> omega)) only [hbi, s_59, fI, e_225_80, e_225_97, n_add, nl_add, nr_add, n_mul, nl_mul, nr_mul, n_sub, nr_dec, n_div, nr_sub_1, nr_sub_2, nr_sub_3, nr_sub_4, nr_sub_7, nr_sub_10, nr_sub_11, nr_sub_20, nr_sub_48, nr_sub_97, nl_sub_3, nl_sub_4, nl_sub_12, nl_sub_24, nl_sub_32, nr_div_2, nr_div_4, z_lt, z_le, z_eq, z_cl, n_ti, Int.toNat_natCast, Int32.reduceToInt, Int32.reduceToNatClampNeg, zc_add, zc_sub, zc_add_1, zc_add_2, zc_add_3, zc_add_4, zc_add_8, zc_add_10, zc_add_12, zc_add_16, zc_add_20, zc_sub_1, zc_sub_2, zc_sub_4, zc_sub_10, zc_sub_20, zc_sub_48, zc_sub_97, zc_mul_4, t_ltZ, f_ltZ, t_leZ, f_leZ, t_eqZ, f_eqZ, t_ltN, f_ltN, t_leN, f_leN, t_eqN, f_eqN, ↓reduceIte, and_true, true_and, and_false, false_and, and_self, or_true, true_or, or_false, false_or, or_self, not_true_eq_false, not_false_eq_true, tu_same, tu_eq, tu_ne, b_V, b_I, b_J]
theorem l_225b {J : Nat → Nat → Int64} {τ : tm_Tu} (n L : Nat) (x1 x2 x3 : Int32) (hn : n < 30) (hL : L ≤ 200) (f : Nat → Int) (hs : ∀ q, q < L → ∃ g, isS (f q) g) : ∀ m i (B : Nat → Nat → Int32), i + m = L → B 131 84 = nI n → (∀ q, q < L → (B 132 q).toInt = f q) →
    ∃ B', R_225 106 [(0, .ref 131), (1, .int x1), (2, .int x2), (3, .int x3), (4, .int (nI L)), (5, .int (nI i))] [] (mk B J τ) = R_225 106 [(0, .ref 131), (1, .int x1), (2, .int x2), (3, .int x3), (4, .int (nI L)), (5, .int (nI L))] [] (mk B' J τ) ∧ (∀ o g, i ≤ o → o < L → isS (f o) g → B' 185 (n * 200 + o) = mn g) ∧ (∀ a y, ¬ (a = 185 ∧ n * 200 + i ≤ y) → B' a y = B a y) := by
  intro m
  induction m with
  | zero =>
    intro i B hi h7 hb
    refine ⟨B, ?_, fun o g h1 h2 => by omega, fun _ _ _ => rfl⟩
    rw [show i = L by omega]
  | succ m ih =>
    intro i B hi h7 hb
    obtain ⟨g, hg⟩ := hs i (by omega)
    have hbi := hb i (by omega)
    obtain ⟨B', q1, q2, q3⟩ := ih (i + 1) (tm_u B 185 (200 * n + i) (mn g)) (by omega) (by simp (disch := omega) only [h7, tu_same, tu_eq, tu_ne]) (fun o ho => by simp (disch := omega) only [tu_same, tu_eq, tu_ne]; exact hb o ho)
    refine ⟨B', ?_, fun o g' h1 h2 h3 => ?_, fun a y h => ?_⟩
    · rw [← q1, e_225_106]
      rcases hg with ⟨e, rfl⟩ | ⟨e, rfl⟩ | ⟨e, rfl⟩ | ⟨e, rfl⟩ | ⟨e, rfl⟩
      · rw [e] at hbi
        simp (disch := first | omega | (simp (disch := omega) only [n_ti, Int32.reduceToInt] <;> omega)) only [hbi, s_59, fI, e_225_138, h7, n_add, nl_add, nr_add, n_mul, nl_mul, nr_mul, n_sub, nr_dec, n_div, nr_sub_1, nr_sub_2, nr_sub_3, nr_sub_4, nr_sub_7, nr_sub_10, nr_sub_11, nr_sub_20, nr_sub_48, nr_sub_97, nl_sub_3, nl_sub_4, nl_sub_12, nl_sub_24, nl_sub_32, nr_div_2, nr_div_4, z_lt, z_le, z_eq, z_cl, n_ti, Int.toNat_natCast, Int32.reduceToInt, Int32.reduceToNatClampNeg, zc_add, zc_sub, zc_add_1, zc_add_2, zc_add_3, zc_add_4, zc_add_8, zc_add_10, zc_add_12, zc_add_16, zc_add_20, zc_sub_1, zc_sub_2, zc_sub_4, zc_sub_10, zc_sub_20, zc_sub_48, zc_sub_97, zc_mul_4, t_ltZ, f_ltZ, t_leZ, f_leZ, t_eqZ, f_eqZ, t_ltN, f_ltN, t_leN, f_leN, t_eqN, f_eqN, ↓reduceIte, and_true, true_and, and_false, false_and, and_self, or_true, true_or, or_false, false_or, or_self, not_true_eq_false, not_false_eq_true, tu_same, tu_eq, tu_ne, b_V, b_I, b_J]
        rfl
      · rw [e] at hbi
        simp (disch := first | omega | (simp (disch := omega) only [n_ti, Int32.reduceToInt] <;> omega)) only [hbi, s_59, fI, e_225_138, h7, n_add, nl_add, nr_add, n_mul, nl_mul, nr_mul, n_sub, nr_dec, n_div, nr_sub_1, nr_sub_2, nr_sub_3, nr_sub_4, nr_sub_7, nr_sub_10, nr_sub_11, nr_sub_20, nr_sub_48, nr_sub_97, nl_sub_3, nl_sub_4, nl_sub_12, nl_sub_24, nl_sub_32, nr_div_2, nr_div_4, z_lt, z_le, z_eq, z_cl, n_ti, Int.toNat_natCast, Int32.reduceToInt, Int32.reduceToNatClampNeg, zc_add, zc_sub, zc_add_1, zc_add_2, zc_add_3, zc_add_4, zc_add_8, zc_add_10, zc_add_12, zc_add_16, zc_add_20, zc_sub_1, zc_sub_2, zc_sub_4, zc_sub_10, zc_sub_20, zc_sub_48, zc_sub_97, zc_mul_4, t_ltZ, f_ltZ, t_leZ, f_leZ, t_eqZ, f_eqZ, t_ltN, f_ltN, t_leN, f_leN, t_eqN, f_eqN, ↓reduceIte, and_true, true_and, and_false, false_and, and_self, or_true, true_or, or_false, false_or, or_self, not_true_eq_false, not_false_eq_true, tu_same, tu_eq, tu_ne, b_V, b_I, b_J]
        rfl
      · rw [e] at hbi
        simp (disch := first | omega | (simp (disch := omega) only [n_ti, Int32.reduceToInt] <;> omega)) only [hbi, s_59, fI, e_225_138, h7, n_add, nl_add, nr_add, n_mul, nl_mul, nr_mul, n_sub, nr_dec, n_div, nr_sub_1, nr_sub_2, nr_sub_3, nr_sub_4, nr_sub_7, nr_sub_10, nr_sub_11, nr_sub_20, nr_sub_48, nr_sub_97, nl_sub_3, nl_sub_4, nl_sub_12, nl_sub_24, nl_sub_32, nr_div_2, nr_div_4, z_lt, z_le, z_eq, z_cl, n_ti, Int.toNat_natCast, Int32.reduceToInt, Int32.reduceToNatClampNeg, zc_add, zc_sub, zc_add_1, zc_add_2, zc_add_3, zc_add_4, zc_add_8, zc_add_10, zc_add_12, zc_add_16, zc_add_20, zc_sub_1, zc_sub_2, zc_sub_4, zc_sub_10, zc_sub_20, zc_sub_48, zc_sub_97, zc_mul_4, t_ltZ, f_ltZ, t_leZ, f_leZ, t_eqZ, f_eqZ, t_ltN, f_ltN, t_leN, f_leN, t_eqN, f_eqN, ↓reduceIte, and_true, true_and, and_false, false_and, and_self, or_true, true_or, or_false, false_or, or_self, not_true_eq_false, not_false_eq_true, tu_same, tu_eq, tu_ne, b_V, b_I, b_J]
        rfl
      · rw [e] at hbi
        simp (disch := first | omega | (simp (disch := omega) only [n_ti, Int32.reduceToInt] <;> omega)) only [hbi, s_59, fI, e_225_138, h7, n_add, nl_add, nr_add, n_mul, nl_mul, nr_mul, n_sub, nr_dec, n_div, nr_sub_1, nr_sub_2, nr_sub_3, nr_sub_4, nr_sub_7, nr_sub_10, nr_sub_11, nr_sub_20, nr_sub_48, nr_sub_97, nl_sub_3, nl_sub_4, nl_sub_12, nl_sub_24, nl_sub_32, nr_div_2, nr_div_4, z_lt, z_le, z_eq, z_cl, n_ti, Int.toNat_natCast, Int32.reduceToInt, Int32.reduceToNatClampNeg, zc_add, zc_sub, zc_add_1, zc_add_2, zc_add_3, zc_add_4, zc_add_8, zc_add_10, zc_add_12, zc_add_16, zc_add_20, zc_sub_1, zc_sub_2, zc_sub_4, zc_sub_10, zc_sub_20, zc_sub_48, zc_sub_97, zc_mul_4, t_ltZ, f_ltZ, t_leZ, f_leZ, t_eqZ, f_eqZ, t_ltN, f_ltN, t_leN, f_leN, t_eqN, f_eqN, ↓reduceIte, and_true, true_and, and_false, false_and, and_self, or_true, true_or, or_false, false_or, or_self, not_true_eq_false, not_false_eq_true, tu_same, tu_eq, tu_ne, b_V, b_I, b_J]
        rfl
      · rw [e] at hbi
        simp (disch := first | omega | (simp (disch := omega) only [n_ti, Int32.reduceToInt] <;> omega)) only [hbi, s_59, fI, e_225_138, h7, n_add, nl_add, nr_add, n_mul, nl_mul, nr_mul, n_sub, nr_dec, n_div, nr_sub_1, nr_sub_2, nr_sub_3, nr_sub_4, nr_sub_7, nr_sub_10, nr_sub_11, nr_sub_20, nr_sub_48, nr_sub_97, nl_sub_3, nl_sub_4, nl_sub_12, nl_sub_24, nl_sub_32, nr_div_2, nr_div_4, z_lt, z_le, z_eq, z_cl, n_ti, Int.toNat_natCast, Int32.reduceToInt, Int32.reduceToNatClampNeg, zc_add, zc_sub, zc_add_1, zc_add_2, zc_add_3, zc_add_4, zc_add_8, zc_add_10, zc_add_12, zc_add_16, zc_add_20, zc_sub_1, zc_sub_2, zc_sub_4, zc_sub_10, zc_sub_20, zc_sub_48, zc_sub_97, zc_mul_4, t_ltZ, f_ltZ, t_leZ, f_leZ, t_eqZ, f_eqZ, t_ltN, f_ltN, t_leN, f_leN, t_eqN, f_eqN, ↓reduceIte, and_true, true_and, and_false, false_and, and_self, or_true, true_or, or_false, false_or, or_self, not_true_eq_false, not_false_eq_true, tu_same, tu_eq, tu_ne, b_V, b_I, b_J]
        rfl
    · by_cases e : o = i
      · subst e
        have eg : g' = g := by unfold isS at hg h3; omega
        subst eg
        rw [q3 _ _ (by omega)]
        simp (disch := omega) only [tu_same, tu_eq, tu_ne]
      · exact q2 o g' (by omega) h2 h3
    · rw [q3 a y (by omega)]
      simp (disch := omega) only [tu_same, tu_eq, tu_ne]
theorem isS_or (z : Int) : (∃ g, isS z g) ∨ noS z := by
  unfold isS noS
  by_cases c1 : z = 45
  · exact Or.inl ⟨0, by omega⟩
  · by_cases c2 : z = 108
    · exact Or.inl ⟨1, by omega⟩
    · by_cases c3 : z = 114
      · exact Or.inl ⟨2, by omega⟩
      · by_cases c4 : z = 98
        · exact Or.inl ⟨3, by omega⟩
        · by_cases c5 : z = 63
          · exact Or.inl ⟨4, by omega⟩
          · exact Or.inr (by omega)
theorem isS_all (f : Nat → Int) (L : Nat) : (∀ o, o < L → ∃ g, isS (f o) g) ∨ ∃ o, o < L ∧ noS (f o) ∧ ∀ q, q < o → ∃ g, isS (f q) g := by
  by_cases h : ∃ o, o < L ∧ noS (f o)
  · obtain ⟨o, ⟨h1, h2⟩, h3⟩ := pk_least (fun o => o < L ∧ noS (f o)) h
    refine Or.inr ⟨o, h1, h2, fun q hq => ?_⟩
    rcases isS_or (f q) with e | e
    · exact e
    · exact absurd ⟨by omega, e⟩ (h3 q hq)
  · refine Or.inl fun o ho => ?_
    rcases isS_or (f o) with e | e
    · exact e
    · exact absurd ⟨o, ho, e⟩ h
set_option maxHeartbeats 2000000 in
theorem p_tape {I : Nat → Nat → Int32} {J : Nat → Nat → Int64} {τ : tm_Tu} (x1 x2 x3 : Int32) (h : RTape I) (hJ : RJudge I J) : ∃ r I1 J1 I2, F_224 [.ref 2, .int x1, .int x2, .int x3] (mk I J τ) = some (some (.int r), mk I1 J1 τ) ∧ F_225 [.ref 131, .int x1, .int x2, .int x3] (mk I1 J1 τ) = some (some (.int r), mk I2 J1 τ) ∧ RTape I2 ∧ RJudge I2 J1 ∧ (∀ a y, a ≠ 35 → J1 a y = J a y) ∧ (∀ a k, ¬ (a = 2 ∧ k = 11) → ¬ (a = 131 ∧ (k = 2 ∨ k = 84)) → ¬ (a = 34 ∧ k = 7) → ¬ (35 ≤ a ∧ a ≤ 41) → ¬ (179 ≤ a ∧ a ≤ 185) → I2 a k = I a k) := by
  obtain ⟨L, hL, t1, t2, t3⟩ := id h
  obtain ⟨n, t, h1, h2, h3, h4, h5, h6, h7⟩ := id hJ
  by_cases c0 : 0 ≤ x2.toInt ∧ x2.toInt < 6
  · by_cases c1 : 0 ≤ x3.toInt ∧ x3.toInt < 200
    · by_cases c2 : 0 ≤ x1.toInt ∧ x1.toInt < 3
      · by_cases c3 : L ≤ 200
        · by_cases c4 : n < 30
          · obtain ⟨c01, c02⟩ := c0
            obtain ⟨c11, c12⟩ := c1
            obtain ⟨jq, hj, rfl⟩ := n_of c2.1
            obtain ⟨bq, hb, rfl⟩ := n_of c11
            rw [n_ti hj] at c2
            rw [n_ti hb] at c12
            rcases isS_all (fun o => (I 3 o).toInt) L with hs | ⟨o, ho, hno, hs⟩
            · obtain ⟨J', q1, q0, q2, qJ⟩ := l_223 (A := tm_u I 2 11 0) (τ := τ) n L (nI jq) x2 (nI bq) c4 c3 (fun o => (I 3 o).toInt) hs (by simp (disch := omega) only [h3, tu_same, tu_eq, tu_ne]) (fun o ho => by simp (disch := omega) only [tu_same, tu_eq, tu_ne]) L 0 J (by omega) (fun e => absurd rfl e)
              obtain ⟨A', hA⟩ : ∃ A', A' = tm_u I 2 11 0 := ⟨_, rfl⟩
              have q3 : ∀ a y, ¬ (a = 35 ∧ n * 200 ≤ y) → A' a y = tm_u I 2 11 0 a y := fun _ _ _ => by rw [hA]
              have q1' : R_223 14 [(0, .ref 34), (1, .int (nI jq)), (2, .int x2), (3, .int (nI bq)), (4, .ref 3), (5, .int (nI L)), (6, .int 0)] [] (mk (tm_u I 2 11 0) J τ) = R_223 83 [(0, .ref 34), (1, .int (nI jq)), (2, .int x2), (3, .int (nI bq)), (5, .int (nI L))] [] (mk A' J' τ) := by rw [hA]; exact q1
              have a7 : A' 34 7 = nI n := (q3 _ _ (by omega)).trans (by simp (disch := omega) only [h3, tu_same, tu_eq, tu_ne])
              have a8 : A' 34 8 = nI t := (q3 _ _ (by omega)).trans (by simp (disch := omega) only [h5, tu_same, tu_eq, tu_ne])
              obtain ⟨I1, e1⟩ : ∃ I1, I1 = tm_u (tm_u (tm_u (tm_u (tm_u (tm_u (tm_u A' 36 n (nI jq)) 37 n x2) 38 n (nI (4 * bq))) 39 n (nI L)) 40 n (nI t)) 41 n (-1)) 34 7 (nI (n + 1)) := ⟨_, rfl⟩
              have f1 : ∀ a y, ¬ (a = 2 ∧ y = 11) → ¬ (35 ≤ a ∧ a ≤ 41) → ¬ (a = 34 ∧ y = 7) → I1 a y = I a y := fun a y u1 u2 u3 => by
                rw [e1]
                simp (disch := omega) only [tu_same, tu_eq, tu_ne]
                rw [q3 a y (by omega)]
                simp (disch := omega) only [tu_same, tu_eq, tu_ne]
              have b84 : I1 131 84 = nI n := (f1 _ _ (by omega) (by omega) (by omega)).trans h4
              have hb2 : ∀ q, q < L → (tm_u I1 131 2 0 132 q).toInt = (fun o => (I 3 o).toInt) q := fun q hq => by
                simp (disch := omega) only [tu_same, tu_eq, tu_ne]
                rw [f1 132 q (by omega) (by omega) (by omega), (t3 q hq).1]
              have ga := l_225a (J := J') (τ := τ) (B := tm_u I1 131 2 0) L L (nI jq) x2 (nI bq) c3 (Nat.le_refl _) (fun o => (I 3 o).toInt) hs hb2 L 0 (by omega)
              have ga' : R_225 63 [(0, .ref 131), (1, .int (nI jq)), (2, .int x2), (3, .int (nI bq)), (4, .int (nI L)), (5, .int 0)] [] (mk (tm_u I1 131 2 0) J' τ) = R_225 63 [(0, .ref 131), (1, .int (nI jq)), (2, .int x2), (3, .int (nI bq)), (4, .int (nI L)), (5, .int (nI L))] [] (mk (tm_u I1 131 2 0) J' τ) := ga
              obtain ⟨B', g1, g2, g3⟩ := l_225b (J := J') (τ := τ) n L (nI jq) x2 (nI bq) c4 c3 (fun o => (I 3 o).toInt) hs L 0 (tm_u I1 131 2 0) (by omega) (by simp (disch := omega) only [b84, tu_same, tu_eq, tu_ne]) hb2
              have g1' : R_225 106 [(0, .ref 131), (1, .int (nI jq)), (2, .int x2), (3, .int (nI bq)), (4, .int (nI L)), (5, .int 0)] [] (mk (tm_u I1 131 2 0) J' τ) = R_225 106 [(0, .ref 131), (1, .int (nI jq)), (2, .int x2), (3, .int (nI bq)), (4, .int (nI L)), (5, .int (nI L))] [] (mk B' J' τ) := g1
              have b84' : B' 131 84 = nI n := (g3 _ _ (by omega)).trans (by simp (disch := omega) only [b84, tu_same, tu_eq, tu_ne])
              have b85 : B' 131 85 = nI t := by
                rw [g3 131 85 (by omega)]
                simp (disch := omega) only [tu_same, tu_eq, tu_ne]
                rw [f1 131 85 (by omega) (by omega) (by omega)]
                exact h6
              have fB : ∀ a y, ¬ (a = 185 ∧ n * 200 ≤ y) → ¬ (a = 131 ∧ y = 2) → B' a y = I1 a y := fun a y u1 u2 => by
                rw [g3 a y (by omega)]
                simp (disch := omega) only [tu_same, tu_eq, tu_ne]
              refine ⟨nI n, I1, J', tm_u (tm_u (tm_u (tm_u (tm_u (tm_u (tm_u B' 179 n (nI jq)) 180 n x2) 181 n (nI (4 * bq))) 182 n (nI L)) 183 n (nI t)) 184 n (-1)) 131 84 (nI (n + 1)), ?_, ?_, ⟨0, by omega, ?_, ?_, fun k hk => by omega⟩, ⟨n + 1, t, by omega, h2, ?_, ?_, ?_, ?_, fun j hj => ?_⟩, fun a y h => qJ a y (by omega), ?_⟩
              · rw [e1]
                simp (disch := first | omega | (simp (disch := omega) only [n_ti, Int32.reduceToInt] <;> omega)) only [e_224, s_114t, e_224_4, s_221t, e_224_11, e_222, e_222_30, e_224_26, e_19, e_224_47, e_223, t1, h3, q1', e_223_83, a7, a8, e_224_50, n_add, nl_add, nr_add, n_mul, nl_mul, nr_mul, n_sub, nr_dec, n_div, nr_sub_1, nr_sub_2, nr_sub_3, nr_sub_4, nr_sub_7, nr_sub_10, nr_sub_11, nr_sub_20, nr_sub_48, nr_sub_97, nl_sub_3, nl_sub_4, nl_sub_12, nl_sub_24, nl_sub_32, nr_div_2, nr_div_4, z_lt, z_le, z_eq, z_cl, n_ti, Int.toNat_natCast, Int32.reduceToInt, Int32.reduceToNatClampNeg, zc_add, zc_sub, zc_add_1, zc_add_2, zc_add_3, zc_add_4, zc_add_8, zc_add_10, zc_add_12, zc_add_16, zc_add_20, zc_sub_1, zc_sub_2, zc_sub_4, zc_sub_10, zc_sub_20, zc_sub_48, zc_sub_97, zc_mul_4, t_ltZ, f_ltZ, t_leZ, f_leZ, t_eqZ, f_eqZ, t_ltN, f_ltN, t_leN, f_leN, t_eqN, f_eqN, ↓reduceIte, and_true, true_and, and_false, false_and, and_self, or_true, true_or, or_false, false_or, or_self, not_true_eq_false, not_false_eq_true, tu_same, tu_eq, tu_ne, b_V, b_I, b_J]
                rfl
              · simp (disch := first | omega | (simp (disch := omega) only [n_ti, Int32.reduceToInt] <;> omega)) only [e_225, f1, t2, h4, s_180t, e_225_23, b84, ga', e_225_63, g1', e_225_106, b84', b85, n_add, nl_add, nr_add, n_mul, nl_mul, nr_mul, n_sub, nr_dec, n_div, nr_sub_1, nr_sub_2, nr_sub_3, nr_sub_4, nr_sub_7, nr_sub_10, nr_sub_11, nr_sub_20, nr_sub_48, nr_sub_97, nl_sub_3, nl_sub_4, nl_sub_12, nl_sub_24, nl_sub_32, nr_div_2, nr_div_4, z_lt, z_le, z_eq, z_cl, n_ti, Int.toNat_natCast, Int32.reduceToInt, Int32.reduceToNatClampNeg, zc_add, zc_sub, zc_add_1, zc_add_2, zc_add_3, zc_add_4, zc_add_8, zc_add_10, zc_add_12, zc_add_16, zc_add_20, zc_sub_1, zc_sub_2, zc_sub_4, zc_sub_10, zc_sub_20, zc_sub_48, zc_sub_97, zc_mul_4, t_ltZ, f_ltZ, t_leZ, f_leZ, t_eqZ, f_eqZ, t_ltN, f_ltN, t_leN, f_leN, t_eqN, f_eqN, ↓reduceIte, and_true, true_and, and_false, false_and, and_self, or_true, true_or, or_false, false_or, or_self, not_true_eq_false, not_false_eq_true, tu_same, tu_eq, tu_ne, b_V, b_I, b_J]
                rfl
              · simp (disch := omega) only [tu_same, tu_eq, tu_ne]
                rw [fB 2 11 (by omega) (by omega), e1]
                simp (disch := omega) only [tu_same, tu_eq, tu_ne]
                rw [q3 2 11 (by omega)]
                simp (disch := omega) only [tu_same, tu_eq, tu_ne]
                rfl
              · simp (disch := omega) only [tu_same, tu_eq, tu_ne]
                rw [g3 131 2 (by omega)]
                simp (disch := omega) only [tu_same, tu_eq, tu_ne]
                rfl
              · simp (disch := omega) only [tu_same, tu_eq, tu_ne]
                rw [fB 34 7 (by omega) (by omega), e1]
                simp (disch := omega) only [tu_same, tu_eq, tu_ne]
              · simp (disch := omega) only [tu_same, tu_eq, tu_ne]
              · simp (disch := omega) only [tu_same, tu_eq, tu_ne]
                rw [fB 34 8 (by omega) (by omega), f1 34 8 (by omega) (by omega) (by omega)]
                exact h5
              · simp (disch := omega) only [b85, tu_same, tu_eq, tu_ne]
              · by_cases e : j = n
                · subst e
                  refine ⟨?_, ?_, ?_, ?_, ⟨jq, by omega, ?_, ?_⟩, 4 * bq, L, by omega, c3, ?_, ?_, ?_, ?_, fun o ho => ?_⟩
                  · simp (disch := omega) only [tu_same, tu_eq, tu_ne]
                    rw [fB 37 j (by omega) (by omega), e1]
                    simp (disch := omega) only [tu_same, tu_eq, tu_ne]
                  · simp (disch := omega) only [tu_same, tu_eq, tu_ne]
                    rw [fB 40 j (by omega) (by omega), e1]
                    simp (disch := omega) only [tu_same, tu_eq, tu_ne]
                  · simp (disch := omega) only [tu_same, tu_eq, tu_ne]
                    rw [fB 41 j (by omega) (by omega), e1]
                    simp (disch := omega) only [tu_same, tu_eq, tu_ne]
                  · simp (disch := omega) only [tu_same, tu_eq, tu_ne]
                    rw [fB 41 j (by omega) (by omega), e1]
                    simp (disch := omega) only [tu_same, tu_eq, tu_ne]
                    decide
                  · simp (disch := omega) only [tu_same, tu_eq, tu_ne]
                    rw [fB 36 j (by omega) (by omega), e1]
                    simp (disch := omega) only [tu_same, tu_eq, tu_ne]
                  · simp (disch := omega) only [tu_same, tu_eq, tu_ne]
                  · simp (disch := omega) only [tu_same, tu_eq, tu_ne]
                    rw [fB 38 j (by omega) (by omega), e1]
                    simp (disch := omega) only [tu_same, tu_eq, tu_ne]
                  · simp (disch := omega) only [tu_same, tu_eq, tu_ne]
                  · simp (disch := omega) only [tu_same, tu_eq, tu_ne]
                    rw [fB 39 j (by omega) (by omega), e1]
                    simp (disch := omega) only [tu_same, tu_eq, tu_ne]
                  · simp (disch := omega) only [tu_same, tu_eq, tu_ne]
                  · obtain ⟨g, k1, k2, k3⟩ := q2 o (by omega) ho
                    refine ⟨g, k1, k3, ?_⟩
                    · simp (disch := omega) only [tu_same, tu_eq, tu_ne]
                      exact g2 o g (by omega) ho k2
                · have hjn : j < n := by omega
                  obtain ⟨k1, k2, k3, k4, ⟨d, k5, k6, k7⟩, f', l, m1, m2, m3, m4, m5, m6, m7⟩ := h7 j hjn
                  have fj : ∀ a, 36 ≤ a → a ≤ 41 → I1 a j = I a j := fun a u1 u2 => by
                    rw [e1]
                    simp (disch := omega) only [tu_same, tu_eq, tu_ne]
                    rw [q3 a j (by omega)]
                    simp (disch := omega) only [tu_same, tu_eq, tu_ne]
                  refine ⟨?_, ?_, ?_, ?_, ⟨d, k5, ?_, ?_⟩, f', l, m1, m2, ?_, ?_, ?_, ?_, fun o ho => ?_⟩
                  · simp (disch := omega) only [tu_same, tu_eq, tu_ne]
                    rw [fB 37 j (by omega) (by omega), fB 180 j (by omega) (by omega), fj 37 (by omega) (by omega), f1 180 j (by omega) (by omega) (by omega)]
                    exact k1
                  · simp (disch := omega) only [tu_same, tu_eq, tu_ne]
                    rw [fB 40 j (by omega) (by omega), fB 183 j (by omega) (by omega), fj 40 (by omega) (by omega), f1 183 j (by omega) (by omega) (by omega)]
                    exact k2
                  · simp (disch := omega) only [tu_same, tu_eq, tu_ne]
                    rw [fB 41 j (by omega) (by omega), fB 184 j (by omega) (by omega), fj 41 (by omega) (by omega), f1 184 j (by omega) (by omega) (by omega)]
                    exact k3
                  · simp (disch := omega) only [tu_same, tu_eq, tu_ne]
                    rw [fB 41 j (by omega) (by omega), fj 41 (by omega) (by omega)]
                    exact k4
                  · simp (disch := omega) only [tu_same, tu_eq, tu_ne]
                    rw [fB 36 j (by omega) (by omega), fj 36 (by omega) (by omega)]
                    exact k6
                  · simp (disch := omega) only [tu_same, tu_eq, tu_ne]
                    rw [fB 179 j (by omega) (by omega), f1 179 j (by omega) (by omega) (by omega)]
                    exact k7
                  · simp (disch := omega) only [tu_same, tu_eq, tu_ne]
                    rw [fB 38 j (by omega) (by omega), fj 38 (by omega) (by omega)]
                    exact m3
                  · simp (disch := omega) only [tu_same, tu_eq, tu_ne]
                    rw [fB 181 j (by omega) (by omega), f1 181 j (by omega) (by omega) (by omega)]
                    exact m4
                  · simp (disch := omega) only [tu_same, tu_eq, tu_ne]
                    rw [fB 39 j (by omega) (by omega), fj 39 (by omega) (by omega)]
                    exact m5
                  · simp (disch := omega) only [tu_same, tu_eq, tu_ne]
                    rw [fB 182 j (by omega) (by omega), f1 182 j (by omega) (by omega) (by omega)]
                    exact m6
                  · obtain ⟨g, w1, w2, w3⟩ := m7 o ho
                    refine ⟨g, w1, ?_, ?_⟩
                    · unfold sgJ at w2 ⊢
                      rw [qJ 35 _ (by omega)]
                      exact w2
                    · simp (disch := omega) only [tu_same, tu_eq, tu_ne]
                      rw [fB 185 _ (by omega) (by omega), f1 185 _ (by omega) (by omega) (by omega)]
                      exact w3
              · intro a k u1 u2 u3 u4 u5
                simp (disch := omega) only [tu_same, tu_eq, tu_ne]
                rw [fB a k (by omega) (by omega), f1 a k (by omega) (by omega) (by omega)]
            · obtain ⟨J', q1, qJ⟩ := l_223b (A := tm_u I 2 11 0) (τ := τ) n L o (nI jq) x2 (nI bq) c4 c3 ho (fun o => (I 3 o).toInt) hs hno (by simp (disch := omega) only [h3, tu_same, tu_eq, tu_ne]) (fun o ho => by simp (disch := omega) only [tu_same, tu_eq, tu_ne]) o 0 J (by omega) (fun e => absurd rfl e)
              obtain ⟨A', hA⟩ : ∃ A', A' = tm_u I 2 11 0 := ⟨_, rfl⟩
              have q3 : ∀ a y, ¬ (a = 35 ∧ n * 200 ≤ y) → A' a y = tm_u I 2 11 0 a y := fun _ _ _ => by rw [hA]
              have q1' : R_223 14 [(0, .ref 34), (1, .int (nI jq)), (2, .int x2), (3, .int (nI bq)), (4, .ref 3), (5, .int (nI L)), (6, .int 0)] [] (mk (tm_u I 2 11 0) J τ) = some (some (.int (-1)), mk A' J' τ) := by rw [hA]; exact q1
              have hb2 : ∀ q, q < L → (tm_u A' 131 2 0 132 q).toInt = (fun o => (I 3 o).toInt) q := fun q hq => by
                simp (disch := omega) only [tu_same, tu_eq, tu_ne]
                rw [q3 132 q (by omega)]
                simp (disch := omega) only [tu_same, tu_eq, tu_ne]
                rw [(t3 q hq).1]
              have ga := l_225a (J := J') (τ := τ) (B := tm_u A' 131 2 0) L o (nI jq) x2 (nI bq) c3 (by omega) (fun o => (I 3 o).toInt) hs hb2 o 0 (by omega)
              have ga' : R_225 63 [(0, .ref 131), (1, .int (nI jq)), (2, .int x2), (3, .int (nI bq)), (4, .int (nI L)), (5, .int 0)] [] (mk (tm_u A' 131 2 0) J' τ) = R_225 63 [(0, .ref 131), (1, .int (nI jq)), (2, .int x2), (3, .int (nI bq)), (4, .int (nI L)), (5, .int (nI o))] [] (mk (tm_u A' 131 2 0) J' τ) := ga
              have fA : ∀ a y, ¬ (a = 2 ∧ y = 11) → ¬ (a = 35 ∧ n * 200 ≤ y) → A' a y = I a y := fun a y u1 u2 => by
                rw [q3 a y (by omega)]
                simp (disch := omega) only [tu_same, tu_eq, tu_ne]
              have hbo := hb2 o ho
              unfold noS at hno
              have st : R_225 63 [(0, .ref 131), (1, .int (nI jq)), (2, .int x2), (3, .int (nI bq)), (4, .int (nI L)), (5, .int (nI o))] [] (mk (tm_u A' 131 2 0) J' τ) = some (some (.int (-1)), mk (tm_u A' 131 2 0) J' τ) := by
                rw [e_225_63]
                have e0 : fI (tm_u A' 131 2 0 132 o).toInt = -1 := by
                  rw [hbo]
                  dsimp only
                  unfold fI
                  rw [if_neg (by omega), if_neg (by omega), if_neg (by omega), if_neg (by omega)]
                dsimp only at hbo
                have z0 : ¬ (tm_u A' 131 2 0 132 o) = 63 := fun e => by
                  rw [z_eq, hbo] at e
                  exact hno.2.2.2.2 e
                have i1 : ¬ nI L ≤ nI o := by rw [n_le (by omega) (by omega)]; omega
                have i2 : (0 : Int32) ≤ nI o ∧ (nI o).toNatClampNeg < 1420 := ⟨nI_pos' (by omega), by rw [n_cl (by omega)]; omega⟩
                rw [if_neg i1, if_pos i2, n_cl (by omega), s_59, e0, b_I, e_225_80, if_neg (by decide), if_pos i2, n_cl (by omega), if_neg z0]
              refine ⟨-1, A', J', tm_u A' 131 2 0, ?_, ?_, ⟨0, by omega, ?_, by simp (disch := omega) only [tu_same, tu_eq, tu_ne]; rfl, fun k hk => by omega⟩, ⟨n, t, h1, h2, by simp (disch := omega) only [tu_same, tu_eq, tu_ne]; exact (fA _ _ (by omega) (by omega)).trans h3, by simp (disch := omega) only [tu_same, tu_eq, tu_ne]; exact (fA _ _ (by omega) (by omega)).trans h4, by simp (disch := omega) only [tu_same, tu_eq, tu_ne]; exact (fA _ _ (by omega) (by omega)).trans h5, by simp (disch := omega) only [tu_same, tu_eq, tu_ne]; exact (fA _ _ (by omega) (by omega)).trans h6, fun j hj => ?_⟩, fun a y h => qJ a y (by omega), ?_⟩
              · simp (disch := first | omega | (simp (disch := omega) only [n_ti, Int32.reduceToInt] <;> omega)) only [e_224, s_114t, e_224_4, s_221t, e_224_11, e_222, e_222_30, e_224_26, e_19, e_224_47, e_223, t1, h3, q1', e_224_50, n_add, nl_add, nr_add, n_mul, nl_mul, nr_mul, n_sub, nr_dec, n_div, nr_sub_1, nr_sub_2, nr_sub_3, nr_sub_4, nr_sub_7, nr_sub_10, nr_sub_11, nr_sub_20, nr_sub_48, nr_sub_97, nl_sub_3, nl_sub_4, nl_sub_12, nl_sub_24, nl_sub_32, nr_div_2, nr_div_4, z_lt, z_le, z_eq, z_cl, n_ti, Int.toNat_natCast, Int32.reduceToInt, Int32.reduceToNatClampNeg, zc_add, zc_sub, zc_add_1, zc_add_2, zc_add_3, zc_add_4, zc_add_8, zc_add_10, zc_add_12, zc_add_16, zc_add_20, zc_sub_1, zc_sub_2, zc_sub_4, zc_sub_10, zc_sub_20, zc_sub_48, zc_sub_97, zc_mul_4, t_ltZ, f_ltZ, t_leZ, f_leZ, t_eqZ, f_eqZ, t_ltN, f_ltN, t_leN, f_leN, t_eqN, f_eqN, ↓reduceIte, and_true, true_and, and_false, false_and, and_self, or_true, true_or, or_false, false_or, or_self, not_true_eq_false, not_false_eq_true, tu_same, tu_eq, tu_ne, b_V, b_I, b_J]
              · simp (disch := first | omega | (simp (disch := omega) only [n_ti, Int32.reduceToInt] <;> omega)) only [e_225, fA, t2, s_180t, e_225_23, h4, ga', st, n_add, nl_add, nr_add, n_mul, nl_mul, nr_mul, n_sub, nr_dec, n_div, nr_sub_1, nr_sub_2, nr_sub_3, nr_sub_4, nr_sub_7, nr_sub_10, nr_sub_11, nr_sub_20, nr_sub_48, nr_sub_97, nl_sub_3, nl_sub_4, nl_sub_12, nl_sub_24, nl_sub_32, nr_div_2, nr_div_4, z_lt, z_le, z_eq, z_cl, n_ti, Int.toNat_natCast, Int32.reduceToInt, Int32.reduceToNatClampNeg, zc_add, zc_sub, zc_add_1, zc_add_2, zc_add_3, zc_add_4, zc_add_8, zc_add_10, zc_add_12, zc_add_16, zc_add_20, zc_sub_1, zc_sub_2, zc_sub_4, zc_sub_10, zc_sub_20, zc_sub_48, zc_sub_97, zc_mul_4, t_ltZ, f_ltZ, t_leZ, f_leZ, t_eqZ, f_eqZ, t_ltN, f_ltN, t_leN, f_leN, t_eqN, f_eqN, ↓reduceIte, and_true, true_and, and_false, false_and, and_self, or_true, true_or, or_false, false_or, or_self, not_true_eq_false, not_false_eq_true, tu_same, tu_eq, tu_ne, b_V, b_I, b_J]
              · simp (disch := omega) only [tu_same, tu_eq, tu_ne]
                rw [q3 2 11 (by omega)]
                simp (disch := omega) only [tu_same, tu_eq, tu_ne]
                rfl
              · obtain ⟨k1, k2, k3, k4, ⟨d, k5, k6, k7⟩, f', l, m1, m2, m3, m4, m5, m6, m7⟩ := h7 j hj
                refine ⟨by simp (disch := omega) only [fA, k1, tu_same, tu_eq, tu_ne], by simp (disch := omega) only [fA, k2, tu_same, tu_eq, tu_ne], by simp (disch := omega) only [fA, k3, tu_same, tu_eq, tu_ne], by simp (disch := omega) only [fA, tu_same, tu_eq, tu_ne]; exact k4, ⟨d, k5, by simp (disch := omega) only [fA, k6, tu_same, tu_eq, tu_ne], by simp (disch := omega) only [fA, k7, tu_same, tu_eq, tu_ne]⟩, f', l, m1, m2, by simp (disch := omega) only [fA, m3, tu_same, tu_eq, tu_ne], by simp (disch := omega) only [fA, m4, tu_same, tu_eq, tu_ne], by simp (disch := omega) only [fA, m5, tu_same, tu_eq, tu_ne], by simp (disch := omega) only [fA, m6, tu_same, tu_eq, tu_ne], fun o ho => ?_⟩
                obtain ⟨g, w1, w2, w3⟩ := m7 o ho
                refine ⟨g, w1, ?_, by simp (disch := omega) only [fA, w3, tu_same, tu_eq, tu_ne]⟩
                unfold sgJ at w2 ⊢
                rw [qJ 35 _ (by omega)]
                exact w2
              · intro a k u1 u2 u3 u4 u5
                simp (disch := omega) only [fA, tu_same, tu_eq, tu_ne]
          · refine ⟨-2, I, J, I, ?_, ?_, h, hJ, fun _ _ _ => rfl, fun _ _ _ _ _ _ _ => rfl⟩
            · obtain ⟨c01, c02⟩ := c0
              obtain ⟨c11, c12⟩ := c1
              obtain ⟨c21, c22⟩ := c2
              simp (disch := first | omega | (simp (disch := omega) only [n_ti, Int32.reduceToInt] <;> omega)) only [e_224, s_114t, e_224_4, s_221t, e_224_11, e_222, e_222_29, e_222_30, e_224_26, e_224_29, t1, h3, n_add, nl_add, nr_add, n_mul, nl_mul, nr_mul, n_sub, nr_dec, n_div, nr_sub_1, nr_sub_2, nr_sub_3, nr_sub_4, nr_sub_7, nr_sub_10, nr_sub_11, nr_sub_20, nr_sub_48, nr_sub_97, nl_sub_3, nl_sub_4, nl_sub_12, nl_sub_24, nl_sub_32, nr_div_2, nr_div_4, z_lt, z_le, z_eq, z_cl, n_ti, Int.toNat_natCast, Int32.reduceToInt, Int32.reduceToNatClampNeg, zc_add, zc_sub, zc_add_1, zc_add_2, zc_add_3, zc_add_4, zc_add_8, zc_add_10, zc_add_12, zc_add_16, zc_add_20, zc_sub_1, zc_sub_2, zc_sub_4, zc_sub_10, zc_sub_20, zc_sub_48, zc_sub_97, zc_mul_4, t_ltZ, f_ltZ, t_leZ, f_leZ, t_eqZ, f_eqZ, t_ltN, f_ltN, t_leN, f_leN, t_eqN, f_eqN, ↓reduceIte, and_true, true_and, and_false, false_and, and_self, or_true, true_or, or_false, false_or, or_self, not_true_eq_false, not_false_eq_true, tu_same, tu_eq, tu_ne, b_V, b_I, b_J]
            · obtain ⟨c01, c02⟩ := c0
              obtain ⟨c11, c12⟩ := c1
              obtain ⟨c21, c22⟩ := c2
              simp (disch := first | omega | (simp (disch := omega) only [n_ti, Int32.reduceToInt] <;> omega)) only [e_225, t2, s_180t, e_225_23, h4, e_225_46, n_add, nl_add, nr_add, n_mul, nl_mul, nr_mul, n_sub, nr_dec, n_div, nr_sub_1, nr_sub_2, nr_sub_3, nr_sub_4, nr_sub_7, nr_sub_10, nr_sub_11, nr_sub_20, nr_sub_48, nr_sub_97, nl_sub_3, nl_sub_4, nl_sub_12, nl_sub_24, nl_sub_32, nr_div_2, nr_div_4, z_lt, z_le, z_eq, z_cl, n_ti, Int.toNat_natCast, Int32.reduceToInt, Int32.reduceToNatClampNeg, zc_add, zc_sub, zc_add_1, zc_add_2, zc_add_3, zc_add_4, zc_add_8, zc_add_10, zc_add_12, zc_add_16, zc_add_20, zc_sub_1, zc_sub_2, zc_sub_4, zc_sub_10, zc_sub_20, zc_sub_48, zc_sub_97, zc_mul_4, t_ltZ, f_ltZ, t_leZ, f_leZ, t_eqZ, f_eqZ, t_ltN, f_ltN, t_leN, f_leN, t_eqN, f_eqN, ↓reduceIte, and_true, true_and, and_false, false_and, and_self, or_true, true_or, or_false, false_or, or_self, not_true_eq_false, not_false_eq_true, tu_same, tu_eq, tu_ne, b_V, b_I, b_J]
        · refine ⟨-2, I, J, I, ?_, ?_, h, hJ, fun _ _ _ => rfl, fun _ _ _ _ _ _ _ => rfl⟩
          · obtain ⟨c01, c02⟩ := c0
            obtain ⟨c11, c12⟩ := c1
            obtain ⟨c21, c22⟩ := c2
            simp (disch := first | omega | (simp (disch := omega) only [n_ti, Int32.reduceToInt] <;> omega)) only [e_224, s_114t, e_224_4, s_221t, e_224_11, e_222, e_222_29, e_222_30, e_224_26, e_224_29, t1, h3, n_add, nl_add, nr_add, n_mul, nl_mul, nr_mul, n_sub, nr_dec, n_div, nr_sub_1, nr_sub_2, nr_sub_3, nr_sub_4, nr_sub_7, nr_sub_10, nr_sub_11, nr_sub_20, nr_sub_48, nr_sub_97, nl_sub_3, nl_sub_4, nl_sub_12, nl_sub_24, nl_sub_32, nr_div_2, nr_div_4, z_lt, z_le, z_eq, z_cl, n_ti, Int.toNat_natCast, Int32.reduceToInt, Int32.reduceToNatClampNeg, zc_add, zc_sub, zc_add_1, zc_add_2, zc_add_3, zc_add_4, zc_add_8, zc_add_10, zc_add_12, zc_add_16, zc_add_20, zc_sub_1, zc_sub_2, zc_sub_4, zc_sub_10, zc_sub_20, zc_sub_48, zc_sub_97, zc_mul_4, t_ltZ, f_ltZ, t_leZ, f_leZ, t_eqZ, f_eqZ, t_ltN, f_ltN, t_leN, f_leN, t_eqN, f_eqN, ↓reduceIte, and_true, true_and, and_false, false_and, and_self, or_true, true_or, or_false, false_or, or_self, not_true_eq_false, not_false_eq_true, tu_same, tu_eq, tu_ne, b_V, b_I, b_J]
          · simp (disch := first | omega | (simp (disch := omega) only [n_ti, Int32.reduceToInt] <;> omega)) only [e_225, t2, e_225_46, n_add, nl_add, nr_add, n_mul, nl_mul, nr_mul, n_sub, nr_dec, n_div, nr_sub_1, nr_sub_2, nr_sub_3, nr_sub_4, nr_sub_7, nr_sub_10, nr_sub_11, nr_sub_20, nr_sub_48, nr_sub_97, nl_sub_3, nl_sub_4, nl_sub_12, nl_sub_24, nl_sub_32, nr_div_2, nr_div_4, z_lt, z_le, z_eq, z_cl, n_ti, Int.toNat_natCast, Int32.reduceToInt, Int32.reduceToNatClampNeg, zc_add, zc_sub, zc_add_1, zc_add_2, zc_add_3, zc_add_4, zc_add_8, zc_add_10, zc_add_12, zc_add_16, zc_add_20, zc_sub_1, zc_sub_2, zc_sub_4, zc_sub_10, zc_sub_20, zc_sub_48, zc_sub_97, zc_mul_4, t_ltZ, f_ltZ, t_leZ, f_leZ, t_eqZ, f_eqZ, t_ltN, f_ltN, t_leN, f_leN, t_eqN, f_eqN, ↓reduceIte, and_true, true_and, and_false, false_and, and_self, or_true, true_or, or_false, false_or, or_self, not_true_eq_false, not_false_eq_true, tu_same, tu_eq, tu_ne, b_V, b_I, b_J]
      · refine ⟨-2, I, J, I, ?_, ?_, h, hJ, fun _ _ _ => rfl, fun _ _ _ _ _ _ _ => rfl⟩
        · obtain ⟨c01, c02⟩ := c0
          obtain ⟨c11, c12⟩ := c1
          by_cases c5 : x1.toInt < 0
          · simp (disch := first | omega | (simp (disch := omega) only [n_ti, Int32.reduceToInt] <;> omega)) only [e_224, s_114t, e_224_4, s_221t, e_224_11, e_222, e_222_29, e_222_30, e_224_26, e_224_29, t1, h3, n_add, nl_add, nr_add, n_mul, nl_mul, nr_mul, n_sub, nr_dec, n_div, nr_sub_1, nr_sub_2, nr_sub_3, nr_sub_4, nr_sub_7, nr_sub_10, nr_sub_11, nr_sub_20, nr_sub_48, nr_sub_97, nl_sub_3, nl_sub_4, nl_sub_12, nl_sub_24, nl_sub_32, nr_div_2, nr_div_4, z_lt, z_le, z_eq, z_cl, n_ti, Int.toNat_natCast, Int32.reduceToInt, Int32.reduceToNatClampNeg, zc_add, zc_sub, zc_add_1, zc_add_2, zc_add_3, zc_add_4, zc_add_8, zc_add_10, zc_add_12, zc_add_16, zc_add_20, zc_sub_1, zc_sub_2, zc_sub_4, zc_sub_10, zc_sub_20, zc_sub_48, zc_sub_97, zc_mul_4, t_ltZ, f_ltZ, t_leZ, f_leZ, t_eqZ, f_eqZ, t_ltN, f_ltN, t_leN, f_leN, t_eqN, f_eqN, ↓reduceIte, and_true, true_and, and_false, false_and, and_self, or_true, true_or, or_false, false_or, or_self, not_true_eq_false, not_false_eq_true, tu_same, tu_eq, tu_ne, b_V, b_I, b_J]
          · simp (disch := first | omega | (simp (disch := omega) only [n_ti, Int32.reduceToInt] <;> omega)) only [e_224, s_114t, e_224_4, s_221t, e_224_11, e_222, e_222_29, e_222_30, e_224_26, e_224_29, t1, h3, n_add, nl_add, nr_add, n_mul, nl_mul, nr_mul, n_sub, nr_dec, n_div, nr_sub_1, nr_sub_2, nr_sub_3, nr_sub_4, nr_sub_7, nr_sub_10, nr_sub_11, nr_sub_20, nr_sub_48, nr_sub_97, nl_sub_3, nl_sub_4, nl_sub_12, nl_sub_24, nl_sub_32, nr_div_2, nr_div_4, z_lt, z_le, z_eq, z_cl, n_ti, Int.toNat_natCast, Int32.reduceToInt, Int32.reduceToNatClampNeg, zc_add, zc_sub, zc_add_1, zc_add_2, zc_add_3, zc_add_4, zc_add_8, zc_add_10, zc_add_12, zc_add_16, zc_add_20, zc_sub_1, zc_sub_2, zc_sub_4, zc_sub_10, zc_sub_20, zc_sub_48, zc_sub_97, zc_mul_4, t_ltZ, f_ltZ, t_leZ, f_leZ, t_eqZ, f_eqZ, t_ltN, f_ltN, t_leN, f_leN, t_eqN, f_eqN, ↓reduceIte, and_true, true_and, and_false, false_and, and_self, or_true, true_or, or_false, false_or, or_self, not_true_eq_false, not_false_eq_true, tu_same, tu_eq, tu_ne, b_V, b_I, b_J]
        · by_cases c6 : 200 < L
          · simp (disch := first | omega | (simp (disch := omega) only [n_ti, Int32.reduceToInt] <;> omega)) only [e_225, t2, e_225_46, n_add, nl_add, nr_add, n_mul, nl_mul, nr_mul, n_sub, nr_dec, n_div, nr_sub_1, nr_sub_2, nr_sub_3, nr_sub_4, nr_sub_7, nr_sub_10, nr_sub_11, nr_sub_20, nr_sub_48, nr_sub_97, nl_sub_3, nl_sub_4, nl_sub_12, nl_sub_24, nl_sub_32, nr_div_2, nr_div_4, z_lt, z_le, z_eq, z_cl, n_ti, Int.toNat_natCast, Int32.reduceToInt, Int32.reduceToNatClampNeg, zc_add, zc_sub, zc_add_1, zc_add_2, zc_add_3, zc_add_4, zc_add_8, zc_add_10, zc_add_12, zc_add_16, zc_add_20, zc_sub_1, zc_sub_2, zc_sub_4, zc_sub_10, zc_sub_20, zc_sub_48, zc_sub_97, zc_mul_4, t_ltZ, f_ltZ, t_leZ, f_leZ, t_eqZ, f_eqZ, t_ltN, f_ltN, t_leN, f_leN, t_eqN, f_eqN, ↓reduceIte, and_true, true_and, and_false, false_and, and_self, or_true, true_or, or_false, false_or, or_self, not_true_eq_false, not_false_eq_true, tu_same, tu_eq, tu_ne, b_V, b_I, b_J]
          · by_cases c5 : x1.toInt < 0
            · simp (disch := first | omega | (simp (disch := omega) only [n_ti, Int32.reduceToInt] <;> omega)) only [e_225, t2, e_225_46, n_add, nl_add, nr_add, n_mul, nl_mul, nr_mul, n_sub, nr_dec, n_div, nr_sub_1, nr_sub_2, nr_sub_3, nr_sub_4, nr_sub_7, nr_sub_10, nr_sub_11, nr_sub_20, nr_sub_48, nr_sub_97, nl_sub_3, nl_sub_4, nl_sub_12, nl_sub_24, nl_sub_32, nr_div_2, nr_div_4, z_lt, z_le, z_eq, z_cl, n_ti, Int.toNat_natCast, Int32.reduceToInt, Int32.reduceToNatClampNeg, zc_add, zc_sub, zc_add_1, zc_add_2, zc_add_3, zc_add_4, zc_add_8, zc_add_10, zc_add_12, zc_add_16, zc_add_20, zc_sub_1, zc_sub_2, zc_sub_4, zc_sub_10, zc_sub_20, zc_sub_48, zc_sub_97, zc_mul_4, t_ltZ, f_ltZ, t_leZ, f_leZ, t_eqZ, f_eqZ, t_ltN, f_ltN, t_leN, f_leN, t_eqN, f_eqN, ↓reduceIte, and_true, true_and, and_false, false_and, and_self, or_true, true_or, or_false, false_or, or_self, not_true_eq_false, not_false_eq_true, tu_same, tu_eq, tu_ne, b_V, b_I, b_J]
            · simp (disch := first | omega | (simp (disch := omega) only [n_ti, Int32.reduceToInt] <;> omega)) only [e_225, t2, e_225_46, n_add, nl_add, nr_add, n_mul, nl_mul, nr_mul, n_sub, nr_dec, n_div, nr_sub_1, nr_sub_2, nr_sub_3, nr_sub_4, nr_sub_7, nr_sub_10, nr_sub_11, nr_sub_20, nr_sub_48, nr_sub_97, nl_sub_3, nl_sub_4, nl_sub_12, nl_sub_24, nl_sub_32, nr_div_2, nr_div_4, z_lt, z_le, z_eq, z_cl, n_ti, Int.toNat_natCast, Int32.reduceToInt, Int32.reduceToNatClampNeg, zc_add, zc_sub, zc_add_1, zc_add_2, zc_add_3, zc_add_4, zc_add_8, zc_add_10, zc_add_12, zc_add_16, zc_add_20, zc_sub_1, zc_sub_2, zc_sub_4, zc_sub_10, zc_sub_20, zc_sub_48, zc_sub_97, zc_mul_4, t_ltZ, f_ltZ, t_leZ, f_leZ, t_eqZ, f_eqZ, t_ltN, f_ltN, t_leN, f_leN, t_eqN, f_eqN, ↓reduceIte, and_true, true_and, and_false, false_and, and_self, or_true, true_or, or_false, false_or, or_self, not_true_eq_false, not_false_eq_true, tu_same, tu_eq, tu_ne, b_V, b_I, b_J]
    · refine ⟨-2, I, J, I, ?_, ?_, h, hJ, fun _ _ _ => rfl, fun _ _ _ _ _ _ _ => rfl⟩
      · rw [e_224, s_114t c0.1 c0.2]
        simp (disch := first | omega | (simp (disch := omega) only [n_ti, Int32.reduceToInt] <;> omega)) only [e_224_4, s_221f (show x3.toInt < 0 ∨ 200 ≤ x3.toInt by omega), e_224_11, e_224_29, n_add, nl_add, nr_add, n_mul, nl_mul, nr_mul, n_sub, nr_dec, n_div, nr_sub_1, nr_sub_2, nr_sub_3, nr_sub_4, nr_sub_7, nr_sub_10, nr_sub_11, nr_sub_20, nr_sub_48, nr_sub_97, nl_sub_3, nl_sub_4, nl_sub_12, nl_sub_24, nl_sub_32, nr_div_2, nr_div_4, z_lt, z_le, z_eq, z_cl, n_ti, Int.toNat_natCast, Int32.reduceToInt, Int32.reduceToNatClampNeg, zc_add, zc_sub, zc_add_1, zc_add_2, zc_add_3, zc_add_4, zc_add_8, zc_add_10, zc_add_12, zc_add_16, zc_add_20, zc_sub_1, zc_sub_2, zc_sub_4, zc_sub_10, zc_sub_20, zc_sub_48, zc_sub_97, zc_mul_4, t_ltZ, f_ltZ, t_leZ, f_leZ, t_eqZ, f_eqZ, t_ltN, f_ltN, t_leN, f_leN, t_eqN, f_eqN, ↓reduceIte, and_true, true_and, and_false, false_and, and_self, or_true, true_or, or_false, false_or, or_self, not_true_eq_false, not_false_eq_true, tu_same, tu_eq, tu_ne, b_V, b_I, b_J]
      · by_cases c6 : 200 < L
        · simp (disch := first | omega | (simp (disch := omega) only [n_ti, Int32.reduceToInt] <;> omega)) only [e_225, t2, e_225_46, n_add, nl_add, nr_add, n_mul, nl_mul, nr_mul, n_sub, nr_dec, n_div, nr_sub_1, nr_sub_2, nr_sub_3, nr_sub_4, nr_sub_7, nr_sub_10, nr_sub_11, nr_sub_20, nr_sub_48, nr_sub_97, nl_sub_3, nl_sub_4, nl_sub_12, nl_sub_24, nl_sub_32, nr_div_2, nr_div_4, z_lt, z_le, z_eq, z_cl, n_ti, Int.toNat_natCast, Int32.reduceToInt, Int32.reduceToNatClampNeg, zc_add, zc_sub, zc_add_1, zc_add_2, zc_add_3, zc_add_4, zc_add_8, zc_add_10, zc_add_12, zc_add_16, zc_add_20, zc_sub_1, zc_sub_2, zc_sub_4, zc_sub_10, zc_sub_20, zc_sub_48, zc_sub_97, zc_mul_4, t_ltZ, f_ltZ, t_leZ, f_leZ, t_eqZ, f_eqZ, t_ltN, f_ltN, t_leN, f_leN, t_eqN, f_eqN, ↓reduceIte, and_true, true_and, and_false, false_and, and_self, or_true, true_or, or_false, false_or, or_self, not_true_eq_false, not_false_eq_true, tu_same, tu_eq, tu_ne, b_V, b_I, b_J]
        · by_cases c5 : x1.toInt < 0
          · simp (disch := first | omega | (simp (disch := omega) only [n_ti, Int32.reduceToInt] <;> omega)) only [e_225, t2, e_225_46, n_add, nl_add, nr_add, n_mul, nl_mul, nr_mul, n_sub, nr_dec, n_div, nr_sub_1, nr_sub_2, nr_sub_3, nr_sub_4, nr_sub_7, nr_sub_10, nr_sub_11, nr_sub_20, nr_sub_48, nr_sub_97, nl_sub_3, nl_sub_4, nl_sub_12, nl_sub_24, nl_sub_32, nr_div_2, nr_div_4, z_lt, z_le, z_eq, z_cl, n_ti, Int.toNat_natCast, Int32.reduceToInt, Int32.reduceToNatClampNeg, zc_add, zc_sub, zc_add_1, zc_add_2, zc_add_3, zc_add_4, zc_add_8, zc_add_10, zc_add_12, zc_add_16, zc_add_20, zc_sub_1, zc_sub_2, zc_sub_4, zc_sub_10, zc_sub_20, zc_sub_48, zc_sub_97, zc_mul_4, t_ltZ, f_ltZ, t_leZ, f_leZ, t_eqZ, f_eqZ, t_ltN, f_ltN, t_leN, f_leN, t_eqN, f_eqN, ↓reduceIte, and_true, true_and, and_false, false_and, and_self, or_true, true_or, or_false, false_or, or_self, not_true_eq_false, not_false_eq_true, tu_same, tu_eq, tu_ne, b_V, b_I, b_J]
          · by_cases c7 : 3 ≤ x1.toInt
            · simp (disch := first | omega | (simp (disch := omega) only [n_ti, Int32.reduceToInt] <;> omega)) only [e_225, t2, e_225_46, n_add, nl_add, nr_add, n_mul, nl_mul, nr_mul, n_sub, nr_dec, n_div, nr_sub_1, nr_sub_2, nr_sub_3, nr_sub_4, nr_sub_7, nr_sub_10, nr_sub_11, nr_sub_20, nr_sub_48, nr_sub_97, nl_sub_3, nl_sub_4, nl_sub_12, nl_sub_24, nl_sub_32, nr_div_2, nr_div_4, z_lt, z_le, z_eq, z_cl, n_ti, Int.toNat_natCast, Int32.reduceToInt, Int32.reduceToNatClampNeg, zc_add, zc_sub, zc_add_1, zc_add_2, zc_add_3, zc_add_4, zc_add_8, zc_add_10, zc_add_12, zc_add_16, zc_add_20, zc_sub_1, zc_sub_2, zc_sub_4, zc_sub_10, zc_sub_20, zc_sub_48, zc_sub_97, zc_mul_4, t_ltZ, f_ltZ, t_leZ, f_leZ, t_eqZ, f_eqZ, t_ltN, f_ltN, t_leN, f_leN, t_eqN, f_eqN, ↓reduceIte, and_true, true_and, and_false, false_and, and_self, or_true, true_or, or_false, false_or, or_self, not_true_eq_false, not_false_eq_true, tu_same, tu_eq, tu_ne, b_V, b_I, b_J]
            · by_cases c8 : x3.toInt < 0
              · simp (disch := first | omega | (simp (disch := omega) only [n_ti, Int32.reduceToInt] <;> omega)) only [e_225, t2, s_180t c0.1 c0.2, e_225_23, e_225_46, n_add, nl_add, nr_add, n_mul, nl_mul, nr_mul, n_sub, nr_dec, n_div, nr_sub_1, nr_sub_2, nr_sub_3, nr_sub_4, nr_sub_7, nr_sub_10, nr_sub_11, nr_sub_20, nr_sub_48, nr_sub_97, nl_sub_3, nl_sub_4, nl_sub_12, nl_sub_24, nl_sub_32, nr_div_2, nr_div_4, z_lt, z_le, z_eq, z_cl, n_ti, Int.toNat_natCast, Int32.reduceToInt, Int32.reduceToNatClampNeg, zc_add, zc_sub, zc_add_1, zc_add_2, zc_add_3, zc_add_4, zc_add_8, zc_add_10, zc_add_12, zc_add_16, zc_add_20, zc_sub_1, zc_sub_2, zc_sub_4, zc_sub_10, zc_sub_20, zc_sub_48, zc_sub_97, zc_mul_4, t_ltZ, f_ltZ, t_leZ, f_leZ, t_eqZ, f_eqZ, t_ltN, f_ltN, t_leN, f_leN, t_eqN, f_eqN, ↓reduceIte, and_true, true_and, and_false, false_and, and_self, or_true, true_or, or_false, false_or, or_self, not_true_eq_false, not_false_eq_true, tu_same, tu_eq, tu_ne, b_V, b_I, b_J]
              · simp (disch := first | omega | (simp (disch := omega) only [n_ti, Int32.reduceToInt] <;> omega)) only [e_225, t2, s_180t c0.1 c0.2, e_225_23, e_225_46, n_add, nl_add, nr_add, n_mul, nl_mul, nr_mul, n_sub, nr_dec, n_div, nr_sub_1, nr_sub_2, nr_sub_3, nr_sub_4, nr_sub_7, nr_sub_10, nr_sub_11, nr_sub_20, nr_sub_48, nr_sub_97, nl_sub_3, nl_sub_4, nl_sub_12, nl_sub_24, nl_sub_32, nr_div_2, nr_div_4, z_lt, z_le, z_eq, z_cl, n_ti, Int.toNat_natCast, Int32.reduceToInt, Int32.reduceToNatClampNeg, zc_add, zc_sub, zc_add_1, zc_add_2, zc_add_3, zc_add_4, zc_add_8, zc_add_10, zc_add_12, zc_add_16, zc_add_20, zc_sub_1, zc_sub_2, zc_sub_4, zc_sub_10, zc_sub_20, zc_sub_48, zc_sub_97, zc_mul_4, t_ltZ, f_ltZ, t_leZ, f_leZ, t_eqZ, f_eqZ, t_ltN, f_ltN, t_leN, f_leN, t_eqN, f_eqN, ↓reduceIte, and_true, true_and, and_false, false_and, and_self, or_true, true_or, or_false, false_or, or_self, not_true_eq_false, not_false_eq_true, tu_same, tu_eq, tu_ne, b_V, b_I, b_J]
  · have c4 : x2.toInt < 0 ∨ 6 ≤ x2.toInt := by omega
    refine ⟨-2, I, J, I, ?_, ?_, h, hJ, fun _ _ _ => rfl, fun _ _ _ _ _ _ _ => rfl⟩
    · rw [e_224, s_114f c4]
      simp (disch := first | omega | (simp (disch := omega) only [n_ti, Int32.reduceToInt] <;> omega)) only [e_224_4, e_224_29, n_add, nl_add, nr_add, n_mul, nl_mul, nr_mul, n_sub, nr_dec, n_div, nr_sub_1, nr_sub_2, nr_sub_3, nr_sub_4, nr_sub_7, nr_sub_10, nr_sub_11, nr_sub_20, nr_sub_48, nr_sub_97, nl_sub_3, nl_sub_4, nl_sub_12, nl_sub_24, nl_sub_32, nr_div_2, nr_div_4, z_lt, z_le, z_eq, z_cl, n_ti, Int.toNat_natCast, Int32.reduceToInt, Int32.reduceToNatClampNeg, zc_add, zc_sub, zc_add_1, zc_add_2, zc_add_3, zc_add_4, zc_add_8, zc_add_10, zc_add_12, zc_add_16, zc_add_20, zc_sub_1, zc_sub_2, zc_sub_4, zc_sub_10, zc_sub_20, zc_sub_48, zc_sub_97, zc_mul_4, t_ltZ, f_ltZ, t_leZ, f_leZ, t_eqZ, f_eqZ, t_ltN, f_ltN, t_leN, f_leN, t_eqN, f_eqN, ↓reduceIte, and_true, true_and, and_false, false_and, and_self, or_true, true_or, or_false, false_or, or_self, not_true_eq_false, not_false_eq_true, tu_same, tu_eq, tu_ne, b_V, b_I, b_J]
    · by_cases c6 : 200 < L
      · simp (disch := first | omega | (simp (disch := omega) only [n_ti, Int32.reduceToInt] <;> omega)) only [e_225, t2, e_225_46, n_add, nl_add, nr_add, n_mul, nl_mul, nr_mul, n_sub, nr_dec, n_div, nr_sub_1, nr_sub_2, nr_sub_3, nr_sub_4, nr_sub_7, nr_sub_10, nr_sub_11, nr_sub_20, nr_sub_48, nr_sub_97, nl_sub_3, nl_sub_4, nl_sub_12, nl_sub_24, nl_sub_32, nr_div_2, nr_div_4, z_lt, z_le, z_eq, z_cl, n_ti, Int.toNat_natCast, Int32.reduceToInt, Int32.reduceToNatClampNeg, zc_add, zc_sub, zc_add_1, zc_add_2, zc_add_3, zc_add_4, zc_add_8, zc_add_10, zc_add_12, zc_add_16, zc_add_20, zc_sub_1, zc_sub_2, zc_sub_4, zc_sub_10, zc_sub_20, zc_sub_48, zc_sub_97, zc_mul_4, t_ltZ, f_ltZ, t_leZ, f_leZ, t_eqZ, f_eqZ, t_ltN, f_ltN, t_leN, f_leN, t_eqN, f_eqN, ↓reduceIte, and_true, true_and, and_false, false_and, and_self, or_true, true_or, or_false, false_or, or_self, not_true_eq_false, not_false_eq_true, tu_same, tu_eq, tu_ne, b_V, b_I, b_J]
      · by_cases c5 : x1.toInt < 0
        · simp (disch := first | omega | (simp (disch := omega) only [n_ti, Int32.reduceToInt] <;> omega)) only [e_225, t2, e_225_46, n_add, nl_add, nr_add, n_mul, nl_mul, nr_mul, n_sub, nr_dec, n_div, nr_sub_1, nr_sub_2, nr_sub_3, nr_sub_4, nr_sub_7, nr_sub_10, nr_sub_11, nr_sub_20, nr_sub_48, nr_sub_97, nl_sub_3, nl_sub_4, nl_sub_12, nl_sub_24, nl_sub_32, nr_div_2, nr_div_4, z_lt, z_le, z_eq, z_cl, n_ti, Int.toNat_natCast, Int32.reduceToInt, Int32.reduceToNatClampNeg, zc_add, zc_sub, zc_add_1, zc_add_2, zc_add_3, zc_add_4, zc_add_8, zc_add_10, zc_add_12, zc_add_16, zc_add_20, zc_sub_1, zc_sub_2, zc_sub_4, zc_sub_10, zc_sub_20, zc_sub_48, zc_sub_97, zc_mul_4, t_ltZ, f_ltZ, t_leZ, f_leZ, t_eqZ, f_eqZ, t_ltN, f_ltN, t_leN, f_leN, t_eqN, f_eqN, ↓reduceIte, and_true, true_and, and_false, false_and, and_self, or_true, true_or, or_false, false_or, or_self, not_true_eq_false, not_false_eq_true, tu_same, tu_eq, tu_ne, b_V, b_I, b_J]
        · by_cases c7 : 3 ≤ x1.toInt
          · simp (disch := first | omega | (simp (disch := omega) only [n_ti, Int32.reduceToInt] <;> omega)) only [e_225, t2, e_225_46, n_add, nl_add, nr_add, n_mul, nl_mul, nr_mul, n_sub, nr_dec, n_div, nr_sub_1, nr_sub_2, nr_sub_3, nr_sub_4, nr_sub_7, nr_sub_10, nr_sub_11, nr_sub_20, nr_sub_48, nr_sub_97, nl_sub_3, nl_sub_4, nl_sub_12, nl_sub_24, nl_sub_32, nr_div_2, nr_div_4, z_lt, z_le, z_eq, z_cl, n_ti, Int.toNat_natCast, Int32.reduceToInt, Int32.reduceToNatClampNeg, zc_add, zc_sub, zc_add_1, zc_add_2, zc_add_3, zc_add_4, zc_add_8, zc_add_10, zc_add_12, zc_add_16, zc_add_20, zc_sub_1, zc_sub_2, zc_sub_4, zc_sub_10, zc_sub_20, zc_sub_48, zc_sub_97, zc_mul_4, t_ltZ, f_ltZ, t_leZ, f_leZ, t_eqZ, f_eqZ, t_ltN, f_ltN, t_leN, f_leN, t_eqN, f_eqN, ↓reduceIte, and_true, true_and, and_false, false_and, and_self, or_true, true_or, or_false, false_or, or_self, not_true_eq_false, not_false_eq_true, tu_same, tu_eq, tu_ne, b_V, b_I, b_J]
          · simp (disch := first | omega | (simp (disch := omega) only [n_ti, Int32.reduceToInt] <;> omega)) only [e_225, t2, s_180f c4, e_225_23, e_225_46, n_add, nl_add, nr_add, n_mul, nl_mul, nr_mul, n_sub, nr_dec, n_div, nr_sub_1, nr_sub_2, nr_sub_3, nr_sub_4, nr_sub_7, nr_sub_10, nr_sub_11, nr_sub_20, nr_sub_48, nr_sub_97, nl_sub_3, nl_sub_4, nl_sub_12, nl_sub_24, nl_sub_32, nr_div_2, nr_div_4, z_lt, z_le, z_eq, z_cl, n_ti, Int.toNat_natCast, Int32.reduceToInt, Int32.reduceToNatClampNeg, zc_add, zc_sub, zc_add_1, zc_add_2, zc_add_3, zc_add_4, zc_add_8, zc_add_10, zc_add_12, zc_add_16, zc_add_20, zc_sub_1, zc_sub_2, zc_sub_4, zc_sub_10, zc_sub_20, zc_sub_48, zc_sub_97, zc_mul_4, t_ltZ, f_ltZ, t_leZ, f_leZ, t_eqZ, f_eqZ, t_ltN, f_ltN, t_leN, f_leN, t_eqN, f_eqN, ↓reduceIte, and_true, true_and, and_false, false_and, and_self, or_true, true_or, or_false, false_or, or_self, not_true_eq_false, not_false_eq_true, tu_same, tu_eq, tu_ne, b_V, b_I, b_J]
