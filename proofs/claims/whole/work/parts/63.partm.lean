/-! reading: the parts of a trick (model) -/
theorem is_t {τ : tm_Tu} {s : Nat → Int} {n w : Nat} {B : Nat → Nat → Int32} {J : Nat → Nat → Int64} {t : TK} (h : MoS s n B J t) (hw : w < 23) (e : tK t = w) : F_62 [.ref 131, .long (lN (en256 (wrd w)))] (mk B J τ) = some (some (.int 1), mk B J τ) := by
  have i := m_isW (τ := τ) h hw
  have e : b2 (decide (tK t = w)) = 1 := by simp [e, b2]
  rw [e] at i
  exact i
theorem is_f {τ : tm_Tu} {s : Nat → Int} {n w : Nat} {B : Nat → Nat → Int32} {J : Nat → Nat → Int64} {t : TK} (h : MoS s n B J t) (hw : w < 23) (e : ¬ tK t = w) : F_62 [.ref 131, .long (lN (en256 (wrd w)))] (mk B J τ) = some (some (.int 0), mk B J τ) := by
  have i := m_isW (τ := τ) h hw
  have e : b2 (decide (tK t = w)) = 0 := by simp [e, b2]
  rw [e] at i
  exact i
theorem if_f {τ : tm_Tu} {s : Nat → Int} {n w : Nat} {B : Nat → Nat → Int32} {J : Nat → Nat → Int64} {t : TK} (h : MoS s n B J t) (hw : w < 23) (e : ¬ tK t = w) : F_69 [.ref 131, .long (lN (en256 (wrd w)))] (mk B J τ) = some (some (.int 0), mk B J τ) := by
  rcases m_if (τ := τ) h hw with i | i
  · exact absurd i.1 e
  · exact i.2
theorem if_t {τ : tm_Tu} {s : Nat → Int} {n w : Nat} {B : Nat → Nat → Int32} {J : Nat → Nat → Int64} {t : TK} (h : MoS s n B J t) (hw : w < 23) (e : tK t = w) : ∃ B' J', F_69 [.ref 131, .long (lN (en256 (wrd w)))] (mk B J τ) = some (some (.int 1), mk B' J' τ) ∧ MoS s n B' J' (nx s n t) ∧ moF B B' J J' := by
  rcases m_if (τ := τ) h hw with i | i
  · exact i.2
  · exact absurd e i.1
def Fl (x : Int32) (D : TD) : Prop := x = 0 ∧ dT D = 0 ∨ x = 1 ∧ dT D ≠ 0
def StB (τ : tm_Tu) (s : Nat → Int) (n m : Nat) (B : Nat → Nat → Int32) (J : Nat → Nat → Int64) (x : Int32) (r : PR) : Prop := ∃ B' J' x', R_71 4 [(0, .ref 131), (1, .int (nI m)), (2, .int x), (3, .int 1)] [] (mk B J τ) = R_71 4 [(0, .ref 131), (1, .int (nI m)), (2, .int x'), (3, .int 1)] [] (mk B' J' τ) ∧ PoB s n B B' J J' m r ∧ (∀ q, r = .inr q → Fl x' q.1)
theorem m_71b {τ : tm_Tu} {m : Nat} {B : Nat → Nat → Int32} {J : Nat → Nat → Int64} {x : Int32} {f : Nat × Nat} (h : BadB B f) : R_71 4 [(0, .ref 131), (1, .int (nI m)), (2, .int x), (3, .int 1)] [] (mk B J τ) = some (none, mk B J τ) := by
  have g := m_bd (τ := τ) (J := J) h
  rw [e_71_4]
  simp (disch := first | omega | (simp (disch := omega) only [n_ti, Int32.reduceToInt] <;> omega)) only [g, e_71_12, e_71_359, n_add, nl_add, nr_add, n_mul, nl_mul, nr_mul, n_sub, nr_dec, n_div, nr_sub_1, nr_sub_2, nr_sub_3, nr_sub_4, nr_sub_7, nr_sub_10, nr_sub_11, nr_sub_20, nr_sub_48, nr_sub_97, nl_sub_3, nl_sub_4, nl_sub_12, nl_sub_24, nl_sub_32, nr_div_2, nr_div_4, z_lt, z_le, z_eq, z_cl, n_ti, Int.toNat_natCast, Int32.reduceToInt, Int32.reduceToNatClampNeg, zc_add, zc_sub, zc_add_1, zc_add_2, zc_add_3, zc_add_4, zc_add_8, zc_add_10, zc_add_12, zc_add_16, zc_add_20, zc_sub_1, zc_sub_2, zc_sub_4, zc_sub_10, zc_sub_20, zc_sub_48, zc_sub_97, zc_mul_4, t_ltZ, f_ltZ, t_leZ, f_leZ, t_eqZ, f_eqZ, t_ltN, f_ltN, t_leN, f_leN, t_eqN, f_eqN, ↓reduceIte, and_true, true_and, and_false, false_and, and_self, or_true, true_or, or_false, false_or, or_self, not_true_eq_false, not_false_eq_true, tu_same, tu_eq, tu_ne, b_V, b_I, b_J]
theorem m_70b {τ : tm_Tu} {m : Nat} {B : Nat → Nat → Int32} {J : Nat → Nat → Int64} {x : Int32} {f : Nat × Nat} (h : BadB B f) (hm : m < 24) : F_70 [.ref 131, .int (nI m), .int x] (mk B J τ) = some (none, mk B J τ) := by
  have g := m_bd (τ := τ) (J := J) h
  have g7 := m_num0 (τ := τ) (J := J) (x := 0) (y := B 137 m - 1) h
  rw [e_70]
  simp (disch := first | omega | (simp (disch := omega) only [n_ti, Int32.reduceToInt] <;> omega)) only [g7, e_70_18, g, e_70_24, e_70_48, e_70_52, n_add, nl_add, nr_add, n_mul, nl_mul, nr_mul, n_sub, nr_dec, n_div, nr_sub_1, nr_sub_2, nr_sub_3, nr_sub_4, nr_sub_7, nr_sub_10, nr_sub_11, nr_sub_20, nr_sub_48, nr_sub_97, nl_sub_3, nl_sub_4, nl_sub_12, nl_sub_24, nl_sub_32, nr_div_2, nr_div_4, z_lt, z_le, z_eq, z_cl, n_ti, Int.toNat_natCast, Int32.reduceToInt, Int32.reduceToNatClampNeg, zc_add, zc_sub, zc_add_1, zc_add_2, zc_add_3, zc_add_4, zc_add_8, zc_add_10, zc_add_12, zc_add_16, zc_add_20, zc_sub_1, zc_sub_2, zc_sub_4, zc_sub_10, zc_sub_20, zc_sub_48, zc_sub_97, zc_mul_4, t_ltZ, f_ltZ, t_leZ, f_leZ, t_eqZ, f_eqZ, t_ltN, f_ltN, t_leN, f_leN, t_eqN, f_eqN, ↓reduceIte, and_true, true_and, and_false, false_and, and_self, or_true, true_or, or_false, false_or, or_self, not_true_eq_false, not_false_eq_true, tu_same, tu_eq, tu_ne, b_V, b_I, b_J]
theorem m_71p {τ : tm_Tu} {s : Nat → Int} {n m : Nat} {B : Nat → Nat → Int32} {J : Nat → Nat → Int64} {t : TK} {D : TD} {x : Int32} (h : MoS s n B J t) (hm : m < 24) (hB : TrB B m D) (hD : TDok D) (hx : Fl x D) (w6 : tK t = 6 → dT D = 0) (w7 : tK t = 7 → dF D = 0) (w8 : tK t = 8 → (dC D).toInt = -1) (w9 : tK t = 9 → (dA D).toInt = 0) : R_71 4 [(0, .ref 131), (1, .int (nI m)), (2, .int x), (3, .int 1)] [] (mk B J τ) = R_71 106 [(0, .ref 131), (1, .int (nI m)), (2, .int x), (3, .int 1)] [.int 1] (mk B J τ) := by
  obtain ⟨q1, q2, q3, q4, q5, q6, -, -⟩ := hB
  have hg := m_gd (τ := τ) (J := J) h.2.2.2
  rw [e_71_4]
  by_cases c6 : tK t = 6
  · have hx0 : x = 0 := by
      rcases hx with e | e
      · exact e.1
      · exact absurd (w6 c6) e.2
    subst hx0
    have i6 : F_62 [.ref 131, .long 1953854062] (mk B J τ) = some (some (.int 1), mk B J τ) := by rw [wc_6]; exact is_t h (by omega) (by omega)
    have i7 : F_62 [.ref 131, .long 1718775661] (mk B J τ) = some (some (.int 0), mk B J τ) := by rw [wc_7]; exact is_f h (by omega) (by omega)
    have i8 : F_62 [.ref 131, .long 112568465714791] (mk B J τ) = some (some (.int 0), mk B J τ) := by rw [wc_8]; exact is_f h (by omega) (by omega)
    have i9 : F_62 [.ref 131, .long 418431069797] (mk B J τ) = some (some (.int 0), mk B J τ) := by rw [wc_9]; exact is_f h (by omega) (by omega)
    simp (disch := first | omega | (simp (disch := omega) only [n_ti, Int32.reduceToInt] <;> omega)) only [hg, e_71_12, i6, e_71_22, e_71_29, i7, e_71_36, e_71_48, i8, e_71_55, e_71_67, i9, e_71_74, e_71_86, e_71_90, e_71_91, e_71_102, n_add, nl_add, nr_add, n_mul, nl_mul, nr_mul, n_sub, nr_dec, n_div, nr_sub_1, nr_sub_2, nr_sub_3, nr_sub_4, nr_sub_7, nr_sub_10, nr_sub_11, nr_sub_20, nr_sub_48, nr_sub_97, nl_sub_3, nl_sub_4, nl_sub_12, nl_sub_24, nl_sub_32, nr_div_2, nr_div_4, z_lt, z_le, z_eq, z_cl, n_ti, Int.toNat_natCast, Int32.reduceToInt, Int32.reduceToNatClampNeg, zc_add, zc_sub, zc_add_1, zc_add_2, zc_add_3, zc_add_4, zc_add_8, zc_add_10, zc_add_12, zc_add_16, zc_add_20, zc_sub_1, zc_sub_2, zc_sub_4, zc_sub_10, zc_sub_20, zc_sub_48, zc_sub_97, zc_mul_4, t_ltZ, f_ltZ, t_leZ, f_leZ, t_eqZ, f_eqZ, t_ltN, f_ltN, t_leN, f_leN, t_eqN, f_eqN, ↓reduceIte, and_true, true_and, and_false, false_and, and_self, or_true, true_or, or_false, false_or, or_self, not_true_eq_false, not_false_eq_true, tu_same, tu_eq, tu_ne, b_V, b_I, b_J]
  · have i6 : F_62 [.ref 131, .long 1953854062] (mk B J τ) = some (some (.int 0), mk B J τ) := by rw [wc_6]; exact is_f h (by omega) (by omega)
    by_cases c7 : tK t = 7
    · have v := w7 c7
      have i7 : F_62 [.ref 131, .long 1718775661] (mk B J τ) = some (some (.int 1), mk B J τ) := by rw [wc_7]; exact is_t h (by omega) (by omega)
      have i8 : F_62 [.ref 131, .long 112568465714791] (mk B J τ) = some (some (.int 0), mk B J τ) := by rw [wc_8]; exact is_f h (by omega) (by omega)
      have i9 : F_62 [.ref 131, .long 418431069797] (mk B J τ) = some (some (.int 0), mk B J τ) := by rw [wc_9]; exact is_f h (by omega) (by omega)
      rw [v] at q4
      simp (disch := first | omega | (simp (disch := omega) only [n_ti, Int32.reduceToInt] <;> omega)) only [hg, e_71_12, i6, e_71_22, e_71_29, i7, e_71_36, q4, e_71_48, i8, e_71_55, e_71_67, i9, e_71_74, e_71_86, e_71_90, e_71_91, e_71_102, n_add, nl_add, nr_add, n_mul, nl_mul, nr_mul, n_sub, nr_dec, n_div, nr_sub_1, nr_sub_2, nr_sub_3, nr_sub_4, nr_sub_7, nr_sub_10, nr_sub_11, nr_sub_20, nr_sub_48, nr_sub_97, nl_sub_3, nl_sub_4, nl_sub_12, nl_sub_24, nl_sub_32, nr_div_2, nr_div_4, z_lt, z_le, z_eq, z_cl, n_ti, Int.toNat_natCast, Int32.reduceToInt, Int32.reduceToNatClampNeg, zc_add, zc_sub, zc_add_1, zc_add_2, zc_add_3, zc_add_4, zc_add_8, zc_add_10, zc_add_12, zc_add_16, zc_add_20, zc_sub_1, zc_sub_2, zc_sub_4, zc_sub_10, zc_sub_20, zc_sub_48, zc_sub_97, zc_mul_4, t_ltZ, f_ltZ, t_leZ, f_leZ, t_eqZ, f_eqZ, t_ltN, f_ltN, t_leN, f_leN, t_eqN, f_eqN, ↓reduceIte, and_true, true_and, and_false, false_and, and_self, or_true, true_or, or_false, false_or, or_self, not_true_eq_false, not_false_eq_true, tu_same, tu_eq, tu_ne, b_V, b_I, b_J]
    · have i7 : F_62 [.ref 131, .long 1718775661] (mk B J τ) = some (some (.int 0), mk B J τ) := by rw [wc_7]; exact is_f h (by omega) (by omega)
      by_cases c8 : tK t = 8
      · have v := w8 c8
        have i8 : F_62 [.ref 131, .long 112568465714791] (mk B J τ) = some (some (.int 1), mk B J τ) := by rw [wc_8]; exact is_t h (by omega) (by omega)
        have i9 : F_62 [.ref 131, .long 418431069797] (mk B J τ) = some (some (.int 0), mk B J τ) := by rw [wc_9]; exact is_f h (by omega) (by omega)
        simp (disch := first | omega | (simp (disch := omega) only [n_ti, Int32.reduceToInt] <;> omega)) only [hg, e_71_12, i6, e_71_22, e_71_29, i7, e_71_36, e_71_48, i8, e_71_55, q5, v, e_71_67, i9, e_71_74, e_71_86, e_71_90, e_71_91, e_71_102, n_add, nl_add, nr_add, n_mul, nl_mul, nr_mul, n_sub, nr_dec, n_div, nr_sub_1, nr_sub_2, nr_sub_3, nr_sub_4, nr_sub_7, nr_sub_10, nr_sub_11, nr_sub_20, nr_sub_48, nr_sub_97, nl_sub_3, nl_sub_4, nl_sub_12, nl_sub_24, nl_sub_32, nr_div_2, nr_div_4, z_lt, z_le, z_eq, z_cl, n_ti, Int.toNat_natCast, Int32.reduceToInt, Int32.reduceToNatClampNeg, zc_add, zc_sub, zc_add_1, zc_add_2, zc_add_3, zc_add_4, zc_add_8, zc_add_10, zc_add_12, zc_add_16, zc_add_20, zc_sub_1, zc_sub_2, zc_sub_4, zc_sub_10, zc_sub_20, zc_sub_48, zc_sub_97, zc_mul_4, t_ltZ, f_ltZ, t_leZ, f_leZ, t_eqZ, f_eqZ, t_ltN, f_ltN, t_leN, f_leN, t_eqN, f_eqN, ↓reduceIte, and_true, true_and, and_false, false_and, and_self, or_true, true_or, or_false, false_or, or_self, not_true_eq_false, not_false_eq_true, tu_same, tu_eq, tu_ne, b_V, b_I, b_J]
      · have i8 : F_62 [.ref 131, .long 112568465714791] (mk B J τ) = some (some (.int 0), mk B J τ) := by rw [wc_8]; exact is_f h (by omega) (by omega)
        by_cases c9 : tK t = 9
        · have v := w9 c9
          have i9 : F_62 [.ref 131, .long 418431069797] (mk B J τ) = some (some (.int 1), mk B J τ) := by rw [wc_9]; exact is_t h (by omega) (by omega)
          simp (disch := first | omega | (simp (disch := omega) only [n_ti, Int32.reduceToInt] <;> omega)) only [hg, e_71_12, i6, e_71_22, e_71_29, i7, e_71_36, e_71_48, i8, e_71_55, e_71_67, i9, e_71_74, q6, v, e_71_86, e_71_90, e_71_91, e_71_102, n_add, nl_add, nr_add, n_mul, nl_mul, nr_mul, n_sub, nr_dec, n_div, nr_sub_1, nr_sub_2, nr_sub_3, nr_sub_4, nr_sub_7, nr_sub_10, nr_sub_11, nr_sub_20, nr_sub_48, nr_sub_97, nl_sub_3, nl_sub_4, nl_sub_12, nl_sub_24, nl_sub_32, nr_div_2, nr_div_4, z_lt, z_le, z_eq, z_cl, n_ti, Int.toNat_natCast, Int32.reduceToInt, Int32.reduceToNatClampNeg, zc_add, zc_sub, zc_add_1, zc_add_2, zc_add_3, zc_add_4, zc_add_8, zc_add_10, zc_add_12, zc_add_16, zc_add_20, zc_sub_1, zc_sub_2, zc_sub_4, zc_sub_10, zc_sub_20, zc_sub_48, zc_sub_97, zc_mul_4, t_ltZ, f_ltZ, t_leZ, f_leZ, t_eqZ, f_eqZ, t_ltN, f_ltN, t_leN, f_leN, t_eqN, f_eqN, ↓reduceIte, and_true, true_and, and_false, false_and, and_self, or_true, true_or, or_false, false_or, or_self, not_true_eq_false, not_false_eq_true, tu_same, tu_eq, tu_ne, b_V, b_I, b_J]
        · have i9 : F_62 [.ref 131, .long 418431069797] (mk B J τ) = some (some (.int 0), mk B J τ) := by rw [wc_9]; exact is_f h (by omega) (by omega)
          simp (disch := first | omega | (simp (disch := omega) only [n_ti, Int32.reduceToInt] <;> omega)) only [hg, e_71_12, i6, e_71_22, e_71_29, i7, e_71_36, e_71_48, i8, e_71_55, e_71_67, i9, e_71_74, e_71_86, e_71_90, e_71_91, e_71_102, n_add, nl_add, nr_add, n_mul, nl_mul, nr_mul, n_sub, nr_dec, n_div, nr_sub_1, nr_sub_2, nr_sub_3, nr_sub_4, nr_sub_7, nr_sub_10, nr_sub_11, nr_sub_20, nr_sub_48, nr_sub_97, nl_sub_3, nl_sub_4, nl_sub_12, nl_sub_24, nl_sub_32, nr_div_2, nr_div_4, z_lt, z_le, z_eq, z_cl, n_ti, Int.toNat_natCast, Int32.reduceToInt, Int32.reduceToNatClampNeg, zc_add, zc_sub, zc_add_1, zc_add_2, zc_add_3, zc_add_4, zc_add_8, zc_add_10, zc_add_12, zc_add_16, zc_add_20, zc_sub_1, zc_sub_2, zc_sub_4, zc_sub_10, zc_sub_20, zc_sub_48, zc_sub_97, zc_mul_4, t_ltZ, f_ltZ, t_leZ, f_leZ, t_eqZ, f_eqZ, t_ltN, f_ltN, t_leN, f_leN, t_eqN, f_eqN, ↓reduceIte, and_true, true_and, and_false, false_and, and_self, or_true, true_or, or_false, false_or, or_self, not_true_eq_false, not_false_eq_true, tu_same, tu_eq, tu_ne, b_V, b_I, b_J]
theorem m_71w {τ : tm_Tu} {s : Nat → Int} {n m : Nat} {B : Nat → Nat → Int32} {J : Nat → Nat → Int64} {t : TK} {D : TD} {x : Int32} (h : MoS s n B J t) (hm : m < 24) (hB : TrB B m D) (hD : TDok D) (hx : Fl x D) (w : (tK t = 6 ∧ dT D ≠ 0) ∨ (tK t = 7 ∧ dF D ≠ 0) ∨ (tK t = 8 ∧ (dC D).toInt ≠ -1) ∨ (tK t = 9 ∧ (dA D).toInt ≠ 0)) : StB τ s n m B J x (.inl (flt t 2)) := by
  obtain ⟨q1, q2, q3, q4, q5, q6, -, -⟩ := hB
  obtain ⟨o1, o2, o3, o4, o5, -, -, o8, o9, o10⟩ := hD
  have hg := m_gd (τ := τ) (J := J) h.2.2.2
  have wr := m_wrong (τ := τ) h
  have bad := BadB.of h 2 (by omega) (by omega)
  have gb := m_bd (τ := τ) (J := J) bad
  have lb := m_71b (τ := τ) (m := m) (J := J) (x := x) bad
  refine ⟨tm_u (tm_u B 131 4 (nI (flt t 2).1)) 131 5 (nI (flt t 2).2), J, x, ?_, ⟨fun a y u v => ?_, fun _ _ _ => rfl, bad⟩, fun q e => by cases e⟩
  · rw [lb, e_71_4]
    rcases w with ⟨c, v⟩ | ⟨c, v⟩ | ⟨c, v⟩ | ⟨c, v⟩
    · have hx0 : x = 1 := by
        rcases hx with e | e
        · exact absurd e.2 v
        · exact e.1
      subst hx0
      have i6 : F_62 [.ref 131, .long 1953854062] (mk B J τ) = some (some (.int 1), mk B J τ) := by rw [wc_6]; exact is_t h (by omega) (by omega)
      simp (disch := first | omega | (simp (disch := omega) only [n_ti, Int32.reduceToInt] <;> omega)) only [hg, e_71_12, i6, e_71_22, e_71_86, e_71_91, wr, e_71_102, gb, e_71_106, n_add, nl_add, nr_add, n_mul, nl_mul, nr_mul, n_sub, nr_dec, n_div, nr_sub_1, nr_sub_2, nr_sub_3, nr_sub_4, nr_sub_7, nr_sub_10, nr_sub_11, nr_sub_20, nr_sub_48, nr_sub_97, nl_sub_3, nl_sub_4, nl_sub_12, nl_sub_24, nl_sub_32, nr_div_2, nr_div_4, z_lt, z_le, z_eq, z_cl, n_ti, Int.toNat_natCast, Int32.reduceToInt, Int32.reduceToNatClampNeg, zc_add, zc_sub, zc_add_1, zc_add_2, zc_add_3, zc_add_4, zc_add_8, zc_add_10, zc_add_12, zc_add_16, zc_add_20, zc_sub_1, zc_sub_2, zc_sub_4, zc_sub_10, zc_sub_20, zc_sub_48, zc_sub_97, zc_mul_4, t_ltZ, f_ltZ, t_leZ, f_leZ, t_eqZ, f_eqZ, t_ltN, f_ltN, t_leN, f_leN, t_eqN, f_eqN, ↓reduceIte, and_true, true_and, and_false, false_and, and_self, or_true, true_or, or_false, false_or, or_self, not_true_eq_false, not_false_eq_true, tu_same, tu_eq, tu_ne, b_V, b_I, b_J]
    · have i6 : F_62 [.ref 131, .long 1953854062] (mk B J τ) = some (some (.int 0), mk B J τ) := by rw [wc_6]; exact is_f h (by omega) (by omega)
      have i7 : F_62 [.ref 131, .long 1718775661] (mk B J τ) = some (some (.int 1), mk B J τ) := by rw [wc_7]; exact is_t h (by omega) (by omega)
      simp (disch := first | omega | (simp (disch := omega) only [n_ti, Int32.reduceToInt] <;> omega)) only [hg, e_71_12, i6, e_71_22, e_71_29, i7, e_71_36, q4, e_71_86, e_71_91, wr, e_71_102, gb, e_71_106, n_add, nl_add, nr_add, n_mul, nl_mul, nr_mul, n_sub, nr_dec, n_div, nr_sub_1, nr_sub_2, nr_sub_3, nr_sub_4, nr_sub_7, nr_sub_10, nr_sub_11, nr_sub_20, nr_sub_48, nr_sub_97, nl_sub_3, nl_sub_4, nl_sub_12, nl_sub_24, nl_sub_32, nr_div_2, nr_div_4, z_lt, z_le, z_eq, z_cl, n_ti, Int.toNat_natCast, Int32.reduceToInt, Int32.reduceToNatClampNeg, zc_add, zc_sub, zc_add_1, zc_add_2, zc_add_3, zc_add_4, zc_add_8, zc_add_10, zc_add_12, zc_add_16, zc_add_20, zc_sub_1, zc_sub_2, zc_sub_4, zc_sub_10, zc_sub_20, zc_sub_48, zc_sub_97, zc_mul_4, t_ltZ, f_ltZ, t_leZ, f_leZ, t_eqZ, f_eqZ, t_ltN, f_ltN, t_leN, f_leN, t_eqN, f_eqN, ↓reduceIte, and_true, true_and, and_false, false_and, and_self, or_true, true_or, or_false, false_or, or_self, not_true_eq_false, not_false_eq_true, tu_same, tu_eq, tu_ne, b_V, b_I, b_J]
    · have i6 : F_62 [.ref 131, .long 1953854062] (mk B J τ) = some (some (.int 0), mk B J τ) := by rw [wc_6]; exact is_f h (by omega) (by omega)
      have i7 : F_62 [.ref 131, .long 1718775661] (mk B J τ) = some (some (.int 0), mk B J τ) := by rw [wc_7]; exact is_f h (by omega) (by omega)
      have i8 : F_62 [.ref 131, .long 112568465714791] (mk B J τ) = some (some (.int 1), mk B J τ) := by rw [wc_8]; exact is_t h (by omega) (by omega)
      simp (disch := first | omega | (simp (disch := omega) only [n_ti, Int32.reduceToInt] <;> omega)) only [hg, e_71_12, i6, e_71_22, e_71_29, i7, e_71_36, e_71_48, i8, e_71_55, q5, e_71_86, e_71_91, wr, e_71_102, gb, e_71_106, n_add, nl_add, nr_add, n_mul, nl_mul, nr_mul, n_sub, nr_dec, n_div, nr_sub_1, nr_sub_2, nr_sub_3, nr_sub_4, nr_sub_7, nr_sub_10, nr_sub_11, nr_sub_20, nr_sub_48, nr_sub_97, nl_sub_3, nl_sub_4, nl_sub_12, nl_sub_24, nl_sub_32, nr_div_2, nr_div_4, z_lt, z_le, z_eq, z_cl, n_ti, Int.toNat_natCast, Int32.reduceToInt, Int32.reduceToNatClampNeg, zc_add, zc_sub, zc_add_1, zc_add_2, zc_add_3, zc_add_4, zc_add_8, zc_add_10, zc_add_12, zc_add_16, zc_add_20, zc_sub_1, zc_sub_2, zc_sub_4, zc_sub_10, zc_sub_20, zc_sub_48, zc_sub_97, zc_mul_4, t_ltZ, f_ltZ, t_leZ, f_leZ, t_eqZ, f_eqZ, t_ltN, f_ltN, t_leN, f_leN, t_eqN, f_eqN, ↓reduceIte, and_true, true_and, and_false, false_and, and_self, or_true, true_or, or_false, false_or, or_self, not_true_eq_false, not_false_eq_true, tu_same, tu_eq, tu_ne, b_V, b_I, b_J]
    · have i6 : F_62 [.ref 131, .long 1953854062] (mk B J τ) = some (some (.int 0), mk B J τ) := by rw [wc_6]; exact is_f h (by omega) (by omega)
      have i7 : F_62 [.ref 131, .long 1718775661] (mk B J τ) = some (some (.int 0), mk B J τ) := by rw [wc_7]; exact is_f h (by omega) (by omega)
      have i8 : F_62 [.ref 131, .long 112568465714791] (mk B J τ) = some (some (.int 0), mk B J τ) := by rw [wc_8]; exact is_f h (by omega) (by omega)
      have i9 : F_62 [.ref 131, .long 418431069797] (mk B J τ) = some (some (.int 1), mk B J τ) := by rw [wc_9]; exact is_t h (by omega) (by omega)
      simp (disch := first | omega | (simp (disch := omega) only [n_ti, Int32.reduceToInt] <;> omega)) only [hg, e_71_12, i6, e_71_22, e_71_29, i7, e_71_36, e_71_48, i8, e_71_55, e_71_67, i9, e_71_74, q6, e_71_86, e_71_91, wr, e_71_102, gb, e_71_106, n_add, nl_add, nr_add, n_mul, nl_mul, nr_mul, n_sub, nr_dec, n_div, nr_sub_1, nr_sub_2, nr_sub_3, nr_sub_4, nr_sub_7, nr_sub_10, nr_sub_11, nr_sub_20, nr_sub_48, nr_sub_97, nl_sub_3, nl_sub_4, nl_sub_12, nl_sub_24, nl_sub_32, nr_div_2, nr_div_4, z_lt, z_le, z_eq, z_cl, n_ti, Int.toNat_natCast, Int32.reduceToInt, Int32.reduceToNatClampNeg, zc_add, zc_sub, zc_add_1, zc_add_2, zc_add_3, zc_add_4, zc_add_8, zc_add_10, zc_add_12, zc_add_16, zc_add_20, zc_sub_1, zc_sub_2, zc_sub_4, zc_sub_10, zc_sub_20, zc_sub_48, zc_sub_97, zc_mul_4, t_ltZ, f_ltZ, t_leZ, f_leZ, t_eqZ, f_eqZ, t_ltN, f_ltN, t_leN, f_leN, t_eqN, f_eqN, ↓reduceIte, and_true, true_and, and_false, false_and, and_self, or_true, true_or, or_false, false_or, or_self, not_true_eq_false, not_false_eq_true, tu_same, tu_eq, tu_ne, b_V, b_I, b_J]
  · simp (disch := omega) only [tu_same, tu_eq, tu_ne]
