/-! reading: the head of a trick (model), its pieces -/
def NmB (J : Nat → Nat → Int64) (b k : Nat) (nm : Nat → List Nat) : Prop := ∀ t, t < k → J 134 (12 * b + t) = lN (en256 (nm t)) ∧ (nm t).length ≤ 8 ∧ okL (nm t)
theorem m_65 {τ : tm_Tu} {B : Nat → Nat → Int32} {J : Nat → Nat → Int64} {b k : Nat} {nm : Nat → List Nat} {l : List Nat} (hb : b < 2) (hk : k ≤ 12) (h1 : B 135 b = nI k) (hN : NmB J b k nm) (hl : l.length ≤ 8) (hok : okL l) : F_65 [.ref 131, .int (nI b), .long (lN (en256 l))] (mk B J τ) = some (some (.int (fnd nm l k 0)), mk B J τ) := by
  have key : ∀ m j, j + m = k → R_65 6 [(0, .ref 131), (1, .int (nI b)), (2, .long (lN (en256 l))), (4, .int (nI (12 * b + j)))] [] (mk B J τ) = some (some (.int (fnd nm l m j)), mk B J τ) := by
    intro m
    induction m with
    | zero =>
      intro j hj
      rw [e_65_6]
      simp (disch := first | omega | (simp (disch := omega) only [n_ti, Int32.reduceToInt] <;> omega)) only [h1, n_add, nl_add, nr_add, n_mul, nl_mul, nr_mul, n_sub, nr_dec, n_div, nr_sub_1, nr_sub_2, nr_sub_3, nr_sub_4, nr_sub_7, nr_sub_10, nr_sub_11, nr_sub_20, nr_sub_48, nr_sub_97, nl_sub_3, nl_sub_4, nl_sub_12, nl_sub_24, nl_sub_32, nr_div_2, nr_div_4, z_lt, z_le, z_eq, z_cl, n_ti, Int.toNat_natCast, Int32.reduceToInt, Int32.reduceToNatClampNeg, zc_add, zc_sub, zc_add_1, zc_add_2, zc_add_3, zc_add_4, zc_add_8, zc_add_10, zc_add_12, zc_add_16, zc_add_20, zc_sub_1, zc_sub_2, zc_sub_4, zc_sub_10, zc_sub_20, zc_sub_48, zc_sub_97, zc_mul_4, t_ltZ, f_ltZ, t_leZ, f_leZ, t_eqZ, f_eqZ, t_ltN, f_ltN, t_leN, f_leN, t_eqN, f_eqN, ↓reduceIte, and_true, true_and, and_false, false_and, and_self, or_true, true_or, or_false, false_or, or_self, not_true_eq_false, not_false_eq_true, tu_same, tu_eq, tu_ne, b_V, b_I, b_J]
      rfl
    | succ m ih =>
      intro j hj
      obtain ⟨n1, n2, n3⟩ := hN j (by omega)
      unfold fnd
      rw [e_65_6]
      by_cases c : nm j = l
      · rw [if_pos c]
        have z : (lg_cmp (lN (en256 (nm j))) (lN (en256 l))).toInt = 0 := (lgz _ _).mpr ((nm_256 n2 hl n3 hok).mpr c)
        have ej : 12 * b + j - 12 * b = j := by omega
        simp (disch := first | omega | (simp (disch := omega) only [n_ti, Int32.reduceToInt] <;> omega)) only [h1, n1, z, ej, n_add, nl_add, nr_add, n_mul, nl_mul, nr_mul, n_sub, nr_dec, n_div, nr_sub_1, nr_sub_2, nr_sub_3, nr_sub_4, nr_sub_7, nr_sub_10, nr_sub_11, nr_sub_20, nr_sub_48, nr_sub_97, nl_sub_3, nl_sub_4, nl_sub_12, nl_sub_24, nl_sub_32, nr_div_2, nr_div_4, z_lt, z_le, z_eq, z_cl, n_ti, Int.toNat_natCast, Int32.reduceToInt, Int32.reduceToNatClampNeg, zc_add, zc_sub, zc_add_1, zc_add_2, zc_add_3, zc_add_4, zc_add_8, zc_add_10, zc_add_12, zc_add_16, zc_add_20, zc_sub_1, zc_sub_2, zc_sub_4, zc_sub_10, zc_sub_20, zc_sub_48, zc_sub_97, zc_mul_4, t_ltZ, f_ltZ, t_leZ, f_leZ, t_eqZ, f_eqZ, t_ltN, f_ltN, t_leN, f_leN, t_eqN, f_eqN, ↓reduceIte, and_true, true_and, and_false, false_and, and_self, or_true, true_or, or_false, false_or, or_self, not_true_eq_false, not_false_eq_true, tu_same, tu_eq, tu_ne, b_V, b_I, b_J]
      · rw [if_neg c, ← ih (j + 1) (by omega)]
        have z : ¬ (lg_cmp (lN (en256 (nm j))) (lN (en256 l))).toInt = 0 := fun e => c ((nm_256 n2 hl n3 hok).mp ((lgz _ _).mp e))
        have ej : 12 * b + j + 1 = 12 * b + (j + 1) := by omega
        simp (disch := first | omega | (simp (disch := omega) only [n_ti, Int32.reduceToInt] <;> omega)) only [h1, n1, z, ej, n_add, nl_add, nr_add, n_mul, nl_mul, nr_mul, n_sub, nr_dec, n_div, nr_sub_1, nr_sub_2, nr_sub_3, nr_sub_4, nr_sub_7, nr_sub_10, nr_sub_11, nr_sub_20, nr_sub_48, nr_sub_97, nl_sub_3, nl_sub_4, nl_sub_12, nl_sub_24, nl_sub_32, nr_div_2, nr_div_4, z_lt, z_le, z_eq, z_cl, n_ti, Int.toNat_natCast, Int32.reduceToInt, Int32.reduceToNatClampNeg, zc_add, zc_sub, zc_add_1, zc_add_2, zc_add_3, zc_add_4, zc_add_8, zc_add_10, zc_add_12, zc_add_16, zc_add_20, zc_sub_1, zc_sub_2, zc_sub_4, zc_sub_10, zc_sub_20, zc_sub_48, zc_sub_97, zc_mul_4, t_ltZ, f_ltZ, t_leZ, f_leZ, t_eqZ, f_eqZ, t_ltN, f_ltN, t_leN, f_leN, t_eqN, f_eqN, ↓reduceIte, and_true, true_and, and_false, false_and, and_self, or_true, true_or, or_false, false_or, or_self, not_true_eq_false, not_false_eq_true, tu_same, tu_eq, tu_ne, b_V, b_I, b_J]
  rw [e_65]
  have k0 := key k 0 (by omega)
  rw [← k0]
  simp (disch := first | omega | (simp (disch := omega) only [n_ti, Int32.reduceToInt] <;> omega)) only [Nat.add_zero, n_add, nl_add, nr_add, n_mul, nl_mul, nr_mul, n_sub, nr_dec, n_div, nr_sub_1, nr_sub_2, nr_sub_3, nr_sub_4, nr_sub_7, nr_sub_10, nr_sub_11, nr_sub_20, nr_sub_48, nr_sub_97, nl_sub_3, nl_sub_4, nl_sub_12, nl_sub_24, nl_sub_32, nr_div_2, nr_div_4, z_lt, z_le, z_eq, z_cl, n_ti, Int.toNat_natCast, Int32.reduceToInt, Int32.reduceToNatClampNeg, zc_add, zc_sub, zc_add_1, zc_add_2, zc_add_3, zc_add_4, zc_add_8, zc_add_10, zc_add_12, zc_add_16, zc_add_20, zc_sub_1, zc_sub_2, zc_sub_4, zc_sub_10, zc_sub_20, zc_sub_48, zc_sub_97, zc_mul_4, t_ltZ, f_ltZ, t_leZ, f_leZ, t_eqZ, f_eqZ, t_ltN, f_ltN, t_leN, f_leN, t_eqN, f_eqN, ↓reduceIte, and_true, true_and, and_false, false_and, and_self, or_true, true_or, or_false, false_or, or_self, not_true_eq_false, not_false_eq_true, tu_same, tu_eq, tu_ne, b_V, b_I, b_J]
theorem w_62 {τ : tm_Tu} {B : Nat → Nat → Int32} {J : Nat → Nat → Int64} {l : Int64} : ∃ r, F_62 [.ref 131, .long l] (mk B J τ) = some (some (.int r), mk B J τ) := by
  rw [e_62]
  by_cases c : B 131 8 = 3
  · rw [if_pos c]
    by_cases d : lg_cmp (J 131 10) l = 0
    · refine ⟨1, ?_⟩
      rw [if_pos d]
      simp (disch := first | omega | (simp (disch := omega) only [n_ti, Int32.reduceToInt] <;> omega)) only [e_62_22, n_add, nl_add, nr_add, n_mul, nl_mul, nr_mul, n_sub, nr_dec, n_div, nr_sub_1, nr_sub_2, nr_sub_3, nr_sub_4, nr_sub_7, nr_sub_10, nr_sub_11, nr_sub_20, nr_sub_48, nr_sub_97, nl_sub_3, nl_sub_4, nl_sub_12, nl_sub_24, nl_sub_32, nr_div_2, nr_div_4, z_lt, z_le, z_eq, z_cl, n_ti, Int.toNat_natCast, Int32.reduceToInt, Int32.reduceToNatClampNeg, zc_add, zc_sub, zc_add_1, zc_add_2, zc_add_3, zc_add_4, zc_add_8, zc_add_10, zc_add_12, zc_add_16, zc_add_20, zc_sub_1, zc_sub_2, zc_sub_4, zc_sub_10, zc_sub_20, zc_sub_48, zc_sub_97, zc_mul_4, t_ltZ, f_ltZ, t_leZ, f_leZ, t_eqZ, f_eqZ, t_ltN, f_ltN, t_leN, f_leN, t_eqN, f_eqN, ↓reduceIte, and_true, true_and, and_false, false_and, and_self, or_true, true_or, or_false, false_or, or_self, not_true_eq_false, not_false_eq_true, tu_same, tu_eq, tu_ne, b_V, b_I, b_J]
    · refine ⟨0, ?_⟩
      rw [if_neg d]
      simp (disch := first | omega | (simp (disch := omega) only [n_ti, Int32.reduceToInt] <;> omega)) only [e_62_21, e_62_22, n_add, nl_add, nr_add, n_mul, nl_mul, nr_mul, n_sub, nr_dec, n_div, nr_sub_1, nr_sub_2, nr_sub_3, nr_sub_4, nr_sub_7, nr_sub_10, nr_sub_11, nr_sub_20, nr_sub_48, nr_sub_97, nl_sub_3, nl_sub_4, nl_sub_12, nl_sub_24, nl_sub_32, nr_div_2, nr_div_4, z_lt, z_le, z_eq, z_cl, n_ti, Int.toNat_natCast, Int32.reduceToInt, Int32.reduceToNatClampNeg, zc_add, zc_sub, zc_add_1, zc_add_2, zc_add_3, zc_add_4, zc_add_8, zc_add_10, zc_add_12, zc_add_16, zc_add_20, zc_sub_1, zc_sub_2, zc_sub_4, zc_sub_10, zc_sub_20, zc_sub_48, zc_sub_97, zc_mul_4, t_ltZ, f_ltZ, t_leZ, f_leZ, t_eqZ, f_eqZ, t_ltN, f_ltN, t_leN, f_leN, t_eqN, f_eqN, ↓reduceIte, and_true, true_and, and_false, false_and, and_self, or_true, true_or, or_false, false_or, or_self, not_true_eq_false, not_false_eq_true, tu_same, tu_eq, tu_ne, b_V, b_I, b_J]
  · refine ⟨0, ?_⟩
    rw [if_neg c]
    simp (disch := first | omega | (simp (disch := omega) only [n_ti, Int32.reduceToInt] <;> omega)) only [e_62_21, e_62_22, n_add, nl_add, nr_add, n_mul, nl_mul, nr_mul, n_sub, nr_dec, n_div, nr_sub_1, nr_sub_2, nr_sub_3, nr_sub_4, nr_sub_7, nr_sub_10, nr_sub_11, nr_sub_20, nr_sub_48, nr_sub_97, nl_sub_3, nl_sub_4, nl_sub_12, nl_sub_24, nl_sub_32, nr_div_2, nr_div_4, z_lt, z_le, z_eq, z_cl, n_ti, Int.toNat_natCast, Int32.reduceToInt, Int32.reduceToNatClampNeg, zc_add, zc_sub, zc_add_1, zc_add_2, zc_add_3, zc_add_4, zc_add_8, zc_add_10, zc_add_12, zc_add_16, zc_add_20, zc_sub_1, zc_sub_2, zc_sub_4, zc_sub_10, zc_sub_20, zc_sub_48, zc_sub_97, zc_mul_4, t_ltZ, f_ltZ, t_leZ, f_leZ, t_eqZ, f_eqZ, t_ltN, f_ltN, t_leN, f_leN, t_eqN, f_eqN, ↓reduceIte, and_true, true_and, and_false, false_and, and_self, or_true, true_or, or_false, false_or, or_self, not_true_eq_false, not_false_eq_true, tu_same, tu_eq, tu_ne, b_V, b_I, b_J]
theorem w_68 {τ : tm_Tu} {s : Nat → Int} {n q c : Nat} {B : Nat → Nat → Int32} {J : Nat → Nat → Int64} (h : TxB B s n) (h6 : B 131 6 = nI q) (hq : q < 100000) (hc : c = 58 ∨ c = 59) : ∃ r, F_68 [.ref 131, .int (nI c)] (mk B J τ) = some (some (.int r), mk B J τ) := by
  have hn := h.1
  obtain ⟨z, hz, e⟩ : ∃ z : Nat, z < 256 ∧ F_55 [.ref 131, .int (nI q)] (mk B J τ) = some (some (.int (nI z)), mk B J τ) := by
    by_cases d : q < n
    · exact ⟨ubt (s q), by unfold ubt; omega, s_55 h d⟩
    · exact ⟨0, by omega, s_55o h (by omega) (by omega)⟩
  rw [e_68]
  by_cases d : (B 131 8).toInt = 6
  · by_cases d2 : z = c
    · refine ⟨1, ?_⟩
      simp (disch := first | omega | (simp (disch := omega) only [n_ti, Int32.reduceToInt] <;> omega)) only [d, h6, e, e_68_17, e_68_26, n_add, nl_add, nr_add, n_mul, nl_mul, nr_mul, n_sub, nr_dec, n_div, nr_sub_1, nr_sub_2, nr_sub_3, nr_sub_4, nr_sub_7, nr_sub_10, nr_sub_11, nr_sub_20, nr_sub_48, nr_sub_97, nl_sub_3, nl_sub_4, nl_sub_12, nl_sub_24, nl_sub_32, nr_div_2, nr_div_4, z_lt, z_le, z_eq, z_cl, n_ti, Int.toNat_natCast, Int32.reduceToInt, Int32.reduceToNatClampNeg, zc_add, zc_sub, zc_add_1, zc_add_2, zc_add_3, zc_add_4, zc_add_8, zc_add_10, zc_add_12, zc_add_16, zc_add_20, zc_sub_1, zc_sub_2, zc_sub_4, zc_sub_10, zc_sub_20, zc_sub_48, zc_sub_97, zc_mul_4, t_ltZ, f_ltZ, t_leZ, f_leZ, t_eqZ, f_eqZ, t_ltN, f_ltN, t_leN, f_leN, t_eqN, f_eqN, ↓reduceIte, and_true, true_and, and_false, false_and, and_self, or_true, true_or, or_false, false_or, or_self, not_true_eq_false, not_false_eq_true, tu_same, tu_eq, tu_ne, b_V, b_I, b_J]
    · refine ⟨0, ?_⟩
      simp (disch := first | omega | (simp (disch := omega) only [n_ti, Int32.reduceToInt] <;> omega)) only [d, h6, e, e_68_17, e_68_25, e_68_26, n_add, nl_add, nr_add, n_mul, nl_mul, nr_mul, n_sub, nr_dec, n_div, nr_sub_1, nr_sub_2, nr_sub_3, nr_sub_4, nr_sub_7, nr_sub_10, nr_sub_11, nr_sub_20, nr_sub_48, nr_sub_97, nl_sub_3, nl_sub_4, nl_sub_12, nl_sub_24, nl_sub_32, nr_div_2, nr_div_4, z_lt, z_le, z_eq, z_cl, n_ti, Int.toNat_natCast, Int32.reduceToInt, Int32.reduceToNatClampNeg, zc_add, zc_sub, zc_add_1, zc_add_2, zc_add_3, zc_add_4, zc_add_8, zc_add_10, zc_add_12, zc_add_16, zc_add_20, zc_sub_1, zc_sub_2, zc_sub_4, zc_sub_10, zc_sub_20, zc_sub_48, zc_sub_97, zc_mul_4, t_ltZ, f_ltZ, t_leZ, f_leZ, t_eqZ, f_eqZ, t_ltN, f_ltN, t_leN, f_leN, t_eqN, f_eqN, ↓reduceIte, and_true, true_and, and_false, false_and, and_self, or_true, true_or, or_false, false_or, or_self, not_true_eq_false, not_false_eq_true, tu_same, tu_eq, tu_ne, b_V, b_I, b_J]
  · refine ⟨0, ?_⟩
    simp (disch := first | omega | (simp (disch := omega) only [n_ti, Int32.reduceToInt] <;> omega)) only [d, e_68_25, e_68_26, n_add, nl_add, nr_add, n_mul, nl_mul, nr_mul, n_sub, nr_dec, n_div, nr_sub_1, nr_sub_2, nr_sub_3, nr_sub_4, nr_sub_7, nr_sub_10, nr_sub_11, nr_sub_20, nr_sub_48, nr_sub_97, nl_sub_3, nl_sub_4, nl_sub_12, nl_sub_24, nl_sub_32, nr_div_2, nr_div_4, z_lt, z_le, z_eq, z_cl, n_ti, Int.toNat_natCast, Int32.reduceToInt, Int32.reduceToNatClampNeg, zc_add, zc_sub, zc_add_1, zc_add_2, zc_add_3, zc_add_4, zc_add_8, zc_add_10, zc_add_12, zc_add_16, zc_add_20, zc_sub_1, zc_sub_2, zc_sub_4, zc_sub_10, zc_sub_20, zc_sub_48, zc_sub_97, zc_mul_4, t_ltZ, f_ltZ, t_leZ, f_leZ, t_eqZ, f_eqZ, t_ltN, f_ltN, t_leN, f_leN, t_eqN, f_eqN, ↓reduceIte, and_true, true_and, and_false, false_and, and_self, or_true, true_or, or_false, false_or, or_self, not_true_eq_false, not_false_eq_true, tu_same, tu_eq, tu_ne, b_V, b_I, b_J]
theorem b_182 {τ : tm_Tu} {B : Nat → Nat → Int32} {J : Nat → Nat → Int64} {m : Nat} {f : Nat × Nat} (h : BadB B f) : R_72 182 [(0, .ref 131), (1, .int (nI m))] [] (mk B J τ) = some (none, mk B J τ) := by
  have g := m_bd (τ := τ) (J := J) h
  rw [e_72_182]
  simp (disch := first | omega | (simp (disch := omega) only [n_ti, Int32.reduceToInt] <;> omega)) only [g, e_72_186, n_add, nl_add, nr_add, n_mul, nl_mul, nr_mul, n_sub, nr_dec, n_div, nr_sub_1, nr_sub_2, nr_sub_3, nr_sub_4, nr_sub_7, nr_sub_10, nr_sub_11, nr_sub_20, nr_sub_48, nr_sub_97, nl_sub_3, nl_sub_4, nl_sub_12, nl_sub_24, nl_sub_32, nr_div_2, nr_div_4, z_lt, z_le, z_eq, z_cl, n_ti, Int.toNat_natCast, Int32.reduceToInt, Int32.reduceToNatClampNeg, zc_add, zc_sub, zc_add_1, zc_add_2, zc_add_3, zc_add_4, zc_add_8, zc_add_10, zc_add_12, zc_add_16, zc_add_20, zc_sub_1, zc_sub_2, zc_sub_4, zc_sub_10, zc_sub_20, zc_sub_48, zc_sub_97, zc_mul_4, t_ltZ, f_ltZ, t_leZ, f_leZ, t_eqZ, f_eqZ, t_ltN, f_ltN, t_leN, f_leN, t_eqN, f_eqN, ↓reduceIte, and_true, true_and, and_false, false_and, and_self, or_true, true_or, or_false, false_or, or_self, not_true_eq_false, not_false_eq_true, tu_same, tu_eq, tu_ne, b_V, b_I, b_J]
theorem b_152 {τ : tm_Tu} {B : Nat → Nat → Int32} {J : Nat → Nat → Int64} {m : Nat} {f : Nat × Nat} (h : BadB B f) : R_72 152 [(0, .ref 131), (1, .int (nI m))] [] (mk B J τ) = some (none, mk B J τ) := by
  have g := m_bd (τ := τ) (J := J) h
  have g2 := b_182 (τ := τ) (J := J) (m := m) h
  obtain ⟨r, hr⟩ := w_62 (τ := τ) (B := B) (J := J) (l := 1717921140)
  have gm := m_must0 (τ := τ) (J := J) (x := r) h
  rw [e_72_152]
  simp (disch := first | omega | (simp (disch := omega) only [n_ti, Int32.reduceToInt] <;> omega)) only [hr, e_72_160, gm, e_72_163, g, e_72_167, g2, n_add, nl_add, nr_add, n_mul, nl_mul, nr_mul, n_sub, nr_dec, n_div, nr_sub_1, nr_sub_2, nr_sub_3, nr_sub_4, nr_sub_7, nr_sub_10, nr_sub_11, nr_sub_20, nr_sub_48, nr_sub_97, nl_sub_3, nl_sub_4, nl_sub_12, nl_sub_24, nl_sub_32, nr_div_2, nr_div_4, z_lt, z_le, z_eq, z_cl, n_ti, Int.toNat_natCast, Int32.reduceToInt, Int32.reduceToNatClampNeg, zc_add, zc_sub, zc_add_1, zc_add_2, zc_add_3, zc_add_4, zc_add_8, zc_add_10, zc_add_12, zc_add_16, zc_add_20, zc_sub_1, zc_sub_2, zc_sub_4, zc_sub_10, zc_sub_20, zc_sub_48, zc_sub_97, zc_mul_4, t_ltZ, f_ltZ, t_leZ, f_leZ, t_eqZ, f_eqZ, t_ltN, f_ltN, t_leN, f_leN, t_eqN, f_eqN, ↓reduceIte, and_true, true_and, and_false, false_and, and_self, or_true, true_or, or_false, false_or, or_self, not_true_eq_false, not_false_eq_true, tu_same, tu_eq, tu_ne, b_V, b_I, b_J]
theorem b_163 {τ : tm_Tu} {B : Nat → Nat → Int32} {J : Nat → Nat → Int64} {m : Nat} {f : Nat × Nat} (h : BadB B f) : R_72 163 [(0, .ref 131), (1, .int (nI m))] [] (mk B J τ) = some (none, mk B J τ) := by
  have g := m_bd (τ := τ) (J := J) h
  have g2 := b_182 (τ := τ) (J := J) (m := m) h
  rw [e_72_163]
  simp (disch := first | omega | (simp (disch := omega) only [n_ti, Int32.reduceToInt] <;> omega)) only [g, e_72_167, g2, n_add, nl_add, nr_add, n_mul, nl_mul, nr_mul, n_sub, nr_dec, n_div, nr_sub_1, nr_sub_2, nr_sub_3, nr_sub_4, nr_sub_7, nr_sub_10, nr_sub_11, nr_sub_20, nr_sub_48, nr_sub_97, nl_sub_3, nl_sub_4, nl_sub_12, nl_sub_24, nl_sub_32, nr_div_2, nr_div_4, z_lt, z_le, z_eq, z_cl, n_ti, Int.toNat_natCast, Int32.reduceToInt, Int32.reduceToNatClampNeg, zc_add, zc_sub, zc_add_1, zc_add_2, zc_add_3, zc_add_4, zc_add_8, zc_add_10, zc_add_12, zc_add_16, zc_add_20, zc_sub_1, zc_sub_2, zc_sub_4, zc_sub_10, zc_sub_20, zc_sub_48, zc_sub_97, zc_mul_4, t_ltZ, f_ltZ, t_leZ, f_leZ, t_eqZ, f_eqZ, t_ltN, f_ltN, t_leN, f_leN, t_eqN, f_eqN, ↓reduceIte, and_true, true_and, and_false, false_and, and_self, or_true, true_or, or_false, false_or, or_self, not_true_eq_false, not_false_eq_true, tu_same, tu_eq, tu_ne, b_V, b_I, b_J]
theorem b_141 {τ : tm_Tu} {s : Nat → Int} {n q : Nat} {B : Nat → Nat → Int32} {J : Nat → Nat → Int64} {m : Nat} {f : Nat × Nat} {x : Int32} (h : BadB B f) (hm : m < 24) (hT : TxB B s n) (h6 : B 131 6 = nI q) (hq : q ≤ n) : R_72 141 [(0, .ref 131), (1, .int (nI m))] [.int x, .int (nI m), .ref 136] (mk B J τ) = some (none, mk (tm_u B 136 m x) J τ) := by
  have h' := BadB.u h 136 m x (by omega)
  have g2 := b_152 (τ := τ) (J := J) (m := m) h'
  obtain ⟨r, hr⟩ := w_68 (τ := τ) (J := J) (c := 58) (B := tm_u B 136 m x) (hT.tr (fun a k u => by simp (disch := omega) only [tu_same, tu_eq, tu_ne])) (show tm_u B 136 m x 131 6 = nI q by simp (disch := omega) only [h6, tu_same, tu_eq, tu_ne]) (by have := hT.1; omega) (Or.inl rfl)
  have hr' : F_68 [.ref 131, .int 58] (mk (tm_u B 136 m x) J τ) = some (some (.int r), mk (tm_u B 136 m x) J τ) := hr
  have gm := m_must0 (τ := τ) (J := J) (x := r) h'
  rw [e_72_141]
  simp (disch := first | omega | (simp (disch := omega) only [n_ti, Int32.reduceToInt] <;> omega)) only [hr', e_72_149, gm, g2, n_add, nl_add, nr_add, n_mul, nl_mul, nr_mul, n_sub, nr_dec, n_div, nr_sub_1, nr_sub_2, nr_sub_3, nr_sub_4, nr_sub_7, nr_sub_10, nr_sub_11, nr_sub_20, nr_sub_48, nr_sub_97, nl_sub_3, nl_sub_4, nl_sub_12, nl_sub_24, nl_sub_32, nr_div_2, nr_div_4, z_lt, z_le, z_eq, z_cl, n_ti, Int.toNat_natCast, Int32.reduceToInt, Int32.reduceToNatClampNeg, zc_add, zc_sub, zc_add_1, zc_add_2, zc_add_3, zc_add_4, zc_add_8, zc_add_10, zc_add_12, zc_add_16, zc_add_20, zc_sub_1, zc_sub_2, zc_sub_4, zc_sub_10, zc_sub_20, zc_sub_48, zc_sub_97, zc_mul_4, t_ltZ, f_ltZ, t_leZ, f_leZ, t_eqZ, f_eqZ, t_ltN, f_ltN, t_leN, f_leN, t_eqN, f_eqN, ↓reduceIte, and_true, true_and, and_false, false_and, and_self, or_true, true_or, or_false, false_or, or_self, not_true_eq_false, not_false_eq_true, tu_same, tu_eq, tu_ne, b_V, b_I, b_J]
theorem b_128 {τ : tm_Tu} {s : Nat → Int} {n q : Nat} {B : Nat → Nat → Int32} {J : Nat → Nat → Int64} {m : Nat} {f : Nat × Nat} (h : BadB B f) (hm : m < 24) (hT : TxB B s n) (h6 : B 131 6 = nI q) (hq : q ≤ n) : R_72 128 [(0, .ref 131), (1, .int (nI m))] [] (mk B J τ) = some (none, mk (tm_u B 136 m 0) J τ) := by
  have g7 := m_num0 (τ := τ) (J := J) (x := 0) (y := 999) h
  have g2 := b_141 (τ := τ) (J := J) (m := m) (x := 0) h hm hT h6 hq
  rw [e_72_128]
  simp (disch := first | omega | (simp (disch := omega) only [n_ti, Int32.reduceToInt] <;> omega)) only [g7, g2, n_add, nl_add, nr_add, n_mul, nl_mul, nr_mul, n_sub, nr_dec, n_div, nr_sub_1, nr_sub_2, nr_sub_3, nr_sub_4, nr_sub_7, nr_sub_10, nr_sub_11, nr_sub_20, nr_sub_48, nr_sub_97, nl_sub_3, nl_sub_4, nl_sub_12, nl_sub_24, nl_sub_32, nr_div_2, nr_div_4, z_lt, z_le, z_eq, z_cl, n_ti, Int.toNat_natCast, Int32.reduceToInt, Int32.reduceToNatClampNeg, zc_add, zc_sub, zc_add_1, zc_add_2, zc_add_3, zc_add_4, zc_add_8, zc_add_10, zc_add_12, zc_add_16, zc_add_20, zc_sub_1, zc_sub_2, zc_sub_4, zc_sub_10, zc_sub_20, zc_sub_48, zc_sub_97, zc_mul_4, t_ltZ, f_ltZ, t_leZ, f_leZ, t_eqZ, f_eqZ, t_ltN, f_ltN, t_leN, f_leN, t_eqN, f_eqN, ↓reduceIte, and_true, true_and, and_false, false_and, and_self, or_true, true_or, or_false, false_or, or_self, not_true_eq_false, not_false_eq_true, tu_same, tu_eq, tu_ne, b_V, b_I, b_J]
theorem b_117 {τ : tm_Tu} {s : Nat → Int} {n q : Nat} {B : Nat → Nat → Int32} {J : Nat → Nat → Int64} {m : Nat} {f : Nat × Nat} (h : BadB B f) (hm : m < 24) (hT : TxB B s n) (h6 : B 131 6 = nI q) (hq : q ≤ n) : R_72 117 [(0, .ref 131), (1, .int (nI m))] [] (mk B J τ) = some (none, mk (tm_u B 136 m 0) J τ) := by
  have g2 := b_128 (τ := τ) (J := J) h hm hT h6 hq
  obtain ⟨r, hr⟩ := w_62 (τ := τ) (B := B) (J := J) (l := 512970880104)
  have gm := m_must0 (τ := τ) (J := J) (x := r) h
  rw [e_72_117]
  simp (disch := first | omega | (simp (disch := omega) only [n_ti, Int32.reduceToInt] <;> omega)) only [hr, e_72_125, gm, g2, n_add, nl_add, nr_add, n_mul, nl_mul, nr_mul, n_sub, nr_dec, n_div, nr_sub_1, nr_sub_2, nr_sub_3, nr_sub_4, nr_sub_7, nr_sub_10, nr_sub_11, nr_sub_20, nr_sub_48, nr_sub_97, nl_sub_3, nl_sub_4, nl_sub_12, nl_sub_24, nl_sub_32, nr_div_2, nr_div_4, z_lt, z_le, z_eq, z_cl, n_ti, Int.toNat_natCast, Int32.reduceToInt, Int32.reduceToNatClampNeg, zc_add, zc_sub, zc_add_1, zc_add_2, zc_add_3, zc_add_4, zc_add_8, zc_add_10, zc_add_12, zc_add_16, zc_add_20, zc_sub_1, zc_sub_2, zc_sub_4, zc_sub_10, zc_sub_20, zc_sub_48, zc_sub_97, zc_mul_4, t_ltZ, f_ltZ, t_leZ, f_leZ, t_eqZ, f_eqZ, t_ltN, f_ltN, t_leN, f_leN, t_eqN, f_eqN, ↓reduceIte, and_true, true_and, and_false, false_and, and_self, or_true, true_or, or_false, false_or, or_self, not_true_eq_false, not_false_eq_true, tu_same, tu_eq, tu_ne, b_V, b_I, b_J]
theorem tok_82 {s : Nat → Int} {n : Nat} {B : Nat → Nat → Int32} {J : Nat → Nat → Int64} {t : TK} (h : MoS s n B J t) (hk : ¬ tK t = 30) : ¬ (B 131 8).toInt = 2 := by
  obtain ⟨h1, ⟨a1, a2, a3, a4, a5, a6, a7, a8, a9, a10⟩, h3, h4⟩ := h
  have hK := h3.2.2.2.1
  by_cases d2 : tK t < 23
  · rw [(a3 d2).1]; decide
  · by_cases d3 : tK t = 31
    · rw [(a5 d3).1]; decide
    · by_cases d4 : tK t = 32
      · rw [a6 d4]; decide
      · by_cases d5 : tK t = 33
        · rw [(a7 d5).1]; decide
        · by_cases d6 : tK t = 34
          · rw [(a8 d6).1]; decide
          · by_cases d7 : tK t = 35
            · rw [a9 d7]; decide
            · rw [a10 (by omega)]; decide
theorem tok_85 {s : Nat → Int} {n : Nat} {B : Nat → Nat → Int32} {J : Nat → Nat → Int64} {t : TK} (h : MoS s n B J t) (hk : ¬ tK t = 32) : ¬ (B 131 8).toInt = 5 := by
  obtain ⟨h1, ⟨a1, a2, a3, a4, a5, a6, a7, a8, a9, a10⟩, h3, h4⟩ := h
  have hK := h3.2.2.2.1
  by_cases d2 : tK t < 23
  · rw [(a3 d2).1]; decide
  · by_cases d3 : tK t = 31
    · rw [(a5 d3).1]; decide
    · by_cases d4 : tK t = 30
      · rw [(a4 d4).1]; decide
      · by_cases d5 : tK t = 33
        · rw [(a7 d5).1]; decide
        · by_cases d6 : tK t = 34
          · rw [(a8 d6).1]; decide
          · by_cases d7 : tK t = 35
            · rw [a9 d7]; decide
            · rw [a10 (by omega)]; decide
