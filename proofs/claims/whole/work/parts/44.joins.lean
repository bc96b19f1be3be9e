/-! JOINED: the model; best, joined -/
def CnB (B : Nat → Nat → Int32) (T : Nat → Nat → Bool) (k : Nat) : Prop := ∀ s st, s < k → st < 16 → B 175 (16 * s + st) = b2 (T s st)
theorem b2_01 (b : Bool) : b2 b = 0 ∨ b2 b = 1 := by
  cases b
  · exact Or.inl rfl
  · exact Or.inr rfl
theorem b2_and (b : Bool) : b2 b &&& 1 = b2 b := by
  cases b <;> decide
theorem s_199 {B : Nat → Nat → Int32} {J : Nat → Nat → Int64} {τ : tm_Tu} {b n t mi f : Nat} {D : Nat → TD} (hn : n ≤ 12) (hD : DOk n D) (hb : b < 2) (hB : BkB B b n D) (ht : t < n) (hm : mi ≤ 1) (hf : f ≤ 3) : F_199 [.ref 131, .int (nI t), .int (nI mi), .int (nI f)] (mk B J τ) = some (some (.int (nI (if lfw D (2 * t + mi) = 0 then f else lfw D (2 * t + mi)))), mk B J τ) := by
  have s := s_99 (J := J) (τ := τ) mi hm (hD t ht) hb hB.1 (by omega) (hB.2.2 t ht)
  have e : lfw D (2 * t + mi) = lf (dnM mi (D t)) (4 * dQ (D t)) := by
    unfold lfw
    rw [show (2 * t + mi) / 2 = t by omega, show (2 * t + mi) % 2 = mi by omega]
  have h3 := lfw_le hD (w := 2 * t + mi) (by omega)
  rw [← e] at s
  rw [e_199]
  by_cases c : lfw D (2 * t + mi) = 0
  · rw [if_pos c]
    rw [c] at s
    simp (disch := first | omega | (simp (disch := omega) only [n_ti, Int32.reduceToInt] <;> omega)) only [s, e_199_6, e_199_19, n_add, nl_add, nr_add, n_mul, nl_mul, nr_mul, n_sub, nr_dec, n_div, nr_sub_1, nr_sub_2, nr_sub_3, nr_sub_4, nr_sub_7, nr_sub_10, nr_sub_11, nr_sub_20, nr_sub_48, nr_sub_97, nl_sub_3, nl_sub_4, nl_sub_12, nl_sub_24, nl_sub_32, nr_div_2, nr_div_4, z_lt, z_le, z_eq, z_cl, n_ti, Int.toNat_natCast, Int32.reduceToInt, Int32.reduceToNatClampNeg, zc_add, zc_sub, zc_add_1, zc_add_2, zc_add_3, zc_add_4, zc_add_8, zc_add_10, zc_add_12, zc_add_16, zc_add_20, zc_sub_1, zc_sub_2, zc_sub_4, zc_sub_10, zc_sub_20, zc_sub_48, zc_sub_97, zc_mul_4, t_ltZ, f_ltZ, t_leZ, f_leZ, t_eqZ, f_eqZ, t_ltN, f_ltN, t_leN, f_leN, t_eqN, f_eqN, ↓reduceIte, and_true, true_and, and_false, false_and, and_self, or_true, true_or, or_false, false_or, or_self, not_true_eq_false, not_false_eq_true, tu_same, tu_eq, tu_ne, b_V, b_I, b_J]
  · rw [if_neg c]
    simp (disch := first | omega | (simp (disch := omega) only [n_ti, Int32.reduceToInt] <;> omega)) only [s, e_199_6, e_199_19, n_add, nl_add, nr_add, n_mul, nl_mul, nr_mul, n_sub, nr_dec, n_div, nr_sub_1, nr_sub_2, nr_sub_3, nr_sub_4, nr_sub_7, nr_sub_10, nr_sub_11, nr_sub_20, nr_sub_48, nr_sub_97, nl_sub_3, nl_sub_4, nl_sub_12, nl_sub_24, nl_sub_32, nr_div_2, nr_div_4, z_lt, z_le, z_eq, z_cl, n_ti, Int.toNat_natCast, Int32.reduceToInt, Int32.reduceToNatClampNeg, zc_add, zc_sub, zc_add_1, zc_add_2, zc_add_3, zc_add_4, zc_add_8, zc_add_10, zc_add_12, zc_add_16, zc_add_20, zc_sub_1, zc_sub_2, zc_sub_4, zc_sub_10, zc_sub_20, zc_sub_48, zc_sub_97, zc_mul_4, t_ltZ, f_ltZ, t_leZ, f_leZ, t_eqZ, f_eqZ, t_ltN, f_ltN, t_leN, f_leN, t_eqN, f_eqN, ↓reduceIte, and_true, true_and, and_false, false_and, and_self, or_true, true_or, or_false, false_or, or_self, not_true_eq_false, not_false_eq_true, tu_same, tu_eq, tu_ne, b_V, b_I, b_J]
set_option maxHeartbeats 1000000 in
theorem s_198 {B : Nat → Nat → Int32} {J : Nat → Nat → Int64} {τ : tm_Tu} {b n t mi f d : Nat} {D : Nat → TD} (hn : n ≤ 12) (hD : DOk n D) (hb : b < 2) (hB : BkB B b n D) (ht : t < n) (hm : mi ≤ 1) (hf : f ≤ 3) (hd : d ≤ 3) : F_198 [.ref 131, .int (nI t), .int (nI mi), .int (nI f), .int (nI d)] (mk B J τ) = some (some (.int (b2 (may D (2 * t + mi) (4 * f + d)))), mk B J τ) := by
  have hDt := hD t ht
  have s1 := s_106 (J := J) (τ := τ) hDt hb hB.1 (by omega) (hB.2.2 t ht)
  have s2 := s_97 (J := J) (τ := τ) mi hm hDt hb hB.1 (by omega) (hB.2.2 t ht)
  have h21 := hB.1
  have h140 := (hB.2.2 t ht).2.2.2.2.1
  have hfr : frM mi (D t) ≤ 3 := by
    have o5 := hDt.2.2.2.2.1
    unfold frM
    by_cases c0 : mi = 0
    · rw [if_pos c0]; exact o5
    · rw [if_neg c0]; exact mir_le o5
  have hc1 := hDt.2.2.2.2.2.2.2.1
  have hc2 := hDt.2.2.2.2.2.2.2.2.1
  rw [e_198]
  unfold b2 may
  rw [show (2 * t + mi) / 2 = t by omega, show (2 * t + mi) % 2 = mi by omega, show (4 * f + d) / 4 = f by omega, show (4 * f + d) % 4 = d by omega]
  generalize frM mi (D t) = fr at *
  generalize clash (D t) = cl at *
  generalize dC (D t) = fc at *
  by_cases d1 : cl.toInt < 0
  · by_cases d2 : fr = 0
    · by_cases d3 : fc.toInt < 0
      · simp (disch := first | omega | (simp (disch := omega) only [n_ti, Int32.reduceToInt] <;> omega)) only [h21, s1, h140, e_198_21, s2, e_198_30, e_198_39, e_198_43, e_198_55, e_198_60, decide_eq_true_eq, n_add, nl_add, nr_add, n_mul, nl_mul, nr_mul, n_sub, nr_dec, n_div, nr_sub_1, nr_sub_2, nr_sub_3, nr_sub_4, nr_sub_7, nr_sub_10, nr_sub_11, nr_sub_20, nr_sub_48, nr_sub_97, nl_sub_3, nl_sub_4, nl_sub_12, nl_sub_24, nl_sub_32, nr_div_2, nr_div_4, z_lt, z_le, z_eq, z_cl, n_ti, Int.toNat_natCast, Int32.reduceToInt, Int32.reduceToNatClampNeg, zc_add, zc_sub, zc_add_1, zc_add_2, zc_add_3, zc_add_4, zc_add_8, zc_add_10, zc_add_12, zc_add_16, zc_add_20, zc_sub_1, zc_sub_2, zc_sub_4, zc_sub_10, zc_sub_20, zc_sub_48, zc_sub_97, zc_mul_4, t_ltZ, f_ltZ, t_leZ, f_leZ, t_eqZ, f_eqZ, t_ltN, f_ltN, t_leN, f_leN, t_eqN, f_eqN, ↓reduceIte, and_true, true_and, and_false, false_and, and_self, or_true, true_or, or_false, false_or, or_self, not_true_eq_false, not_false_eq_true, tu_same, tu_eq, tu_ne, b_V, b_I, b_J]
      · by_cases d4 : fc.toInt = d
        · simp (disch := first | omega | (simp (disch := omega) only [n_ti, Int32.reduceToInt] <;> omega)) only [h21, s1, h140, e_198_21, s2, e_198_30, e_198_39, e_198_43, e_198_55, e_198_60, decide_eq_true_eq, n_add, nl_add, nr_add, n_mul, nl_mul, nr_mul, n_sub, nr_dec, n_div, nr_sub_1, nr_sub_2, nr_sub_3, nr_sub_4, nr_sub_7, nr_sub_10, nr_sub_11, nr_sub_20, nr_sub_48, nr_sub_97, nl_sub_3, nl_sub_4, nl_sub_12, nl_sub_24, nl_sub_32, nr_div_2, nr_div_4, z_lt, z_le, z_eq, z_cl, n_ti, Int.toNat_natCast, Int32.reduceToInt, Int32.reduceToNatClampNeg, zc_add, zc_sub, zc_add_1, zc_add_2, zc_add_3, zc_add_4, zc_add_8, zc_add_10, zc_add_12, zc_add_16, zc_add_20, zc_sub_1, zc_sub_2, zc_sub_4, zc_sub_10, zc_sub_20, zc_sub_48, zc_sub_97, zc_mul_4, t_ltZ, f_ltZ, t_leZ, f_leZ, t_eqZ, f_eqZ, t_ltN, f_ltN, t_leN, f_leN, t_eqN, f_eqN, ↓reduceIte, and_true, true_and, and_false, false_and, and_self, or_true, true_or, or_false, false_or, or_self, not_true_eq_false, not_false_eq_true, tu_same, tu_eq, tu_ne, b_V, b_I, b_J]
        · simp (disch := first | omega | (simp (disch := omega) only [n_ti, Int32.reduceToInt] <;> omega)) only [h21, s1, h140, e_198_21, s2, e_198_30, e_198_39, e_198_43, e_198_59, e_198_60, decide_eq_true_eq, n_add, nl_add, nr_add, n_mul, nl_mul, nr_mul, n_sub, nr_dec, n_div, nr_sub_1, nr_sub_2, nr_sub_3, nr_sub_4, nr_sub_7, nr_sub_10, nr_sub_11, nr_sub_20, nr_sub_48, nr_sub_97, nl_sub_3, nl_sub_4, nl_sub_12, nl_sub_24, nl_sub_32, nr_div_2, nr_div_4, z_lt, z_le, z_eq, z_cl, n_ti, Int.toNat_natCast, Int32.reduceToInt, Int32.reduceToNatClampNeg, zc_add, zc_sub, zc_add_1, zc_add_2, zc_add_3, zc_add_4, zc_add_8, zc_add_10, zc_add_12, zc_add_16, zc_add_20, zc_sub_1, zc_sub_2, zc_sub_4, zc_sub_10, zc_sub_20, zc_sub_48, zc_sub_97, zc_mul_4, t_ltZ, f_ltZ, t_leZ, f_leZ, t_eqZ, f_eqZ, t_ltN, f_ltN, t_leN, f_leN, t_eqN, f_eqN, ↓reduceIte, and_true, true_and, and_false, false_and, and_self, or_true, true_or, or_false, false_or, or_self, not_true_eq_false, not_false_eq_true, tu_same, tu_eq, tu_ne, b_V, b_I, b_J]
    · by_cases d5 : fr = f
      · by_cases d3 : fc.toInt < 0
        · simp (disch := first | omega | (simp (disch := omega) only [n_ti, Int32.reduceToInt] <;> omega)) only [h21, s1, h140, e_198_21, s2, e_198_30, e_198_39, e_198_43, e_198_55, e_198_60, decide_eq_true_eq, n_add, nl_add, nr_add, n_mul, nl_mul, nr_mul, n_sub, nr_dec, n_div, nr_sub_1, nr_sub_2, nr_sub_3, nr_sub_4, nr_sub_7, nr_sub_10, nr_sub_11, nr_sub_20, nr_sub_48, nr_sub_97, nl_sub_3, nl_sub_4, nl_sub_12, nl_sub_24, nl_sub_32, nr_div_2, nr_div_4, z_lt, z_le, z_eq, z_cl, n_ti, Int.toNat_natCast, Int32.reduceToInt, Int32.reduceToNatClampNeg, zc_add, zc_sub, zc_add_1, zc_add_2, zc_add_3, zc_add_4, zc_add_8, zc_add_10, zc_add_12, zc_add_16, zc_add_20, zc_sub_1, zc_sub_2, zc_sub_4, zc_sub_10, zc_sub_20, zc_sub_48, zc_sub_97, zc_mul_4, t_ltZ, f_ltZ, t_leZ, f_leZ, t_eqZ, f_eqZ, t_ltN, f_ltN, t_leN, f_leN, t_eqN, f_eqN, ↓reduceIte, and_true, true_and, and_false, false_and, and_self, or_true, true_or, or_false, false_or, or_self, not_true_eq_false, not_false_eq_true, tu_same, tu_eq, tu_ne, b_V, b_I, b_J]
        · by_cases d4 : fc.toInt = d
          · simp (disch := first | omega | (simp (disch := omega) only [n_ti, Int32.reduceToInt] <;> omega)) only [h21, s1, h140, e_198_21, s2, e_198_30, e_198_39, e_198_43, e_198_55, e_198_60, decide_eq_true_eq, n_add, nl_add, nr_add, n_mul, nl_mul, nr_mul, n_sub, nr_dec, n_div, nr_sub_1, nr_sub_2, nr_sub_3, nr_sub_4, nr_sub_7, nr_sub_10, nr_sub_11, nr_sub_20, nr_sub_48, nr_sub_97, nl_sub_3, nl_sub_4, nl_sub_12, nl_sub_24, nl_sub_32, nr_div_2, nr_div_4, z_lt, z_le, z_eq, z_cl, n_ti, Int.toNat_natCast, Int32.reduceToInt, Int32.reduceToNatClampNeg, zc_add, zc_sub, zc_add_1, zc_add_2, zc_add_3, zc_add_4, zc_add_8, zc_add_10, zc_add_12, zc_add_16, zc_add_20, zc_sub_1, zc_sub_2, zc_sub_4, zc_sub_10, zc_sub_20, zc_sub_48, zc_sub_97, zc_mul_4, t_ltZ, f_ltZ, t_leZ, f_leZ, t_eqZ, f_eqZ, t_ltN, f_ltN, t_leN, f_leN, t_eqN, f_eqN, ↓reduceIte, and_true, true_and, and_false, false_and, and_self, or_true, true_or, or_false, false_or, or_self, not_true_eq_false, not_false_eq_true, tu_same, tu_eq, tu_ne, b_V, b_I, b_J]
          · simp (disch := first | omega | (simp (disch := omega) only [n_ti, Int32.reduceToInt] <;> omega)) only [h21, s1, h140, e_198_21, s2, e_198_30, e_198_39, e_198_43, e_198_59, e_198_60, decide_eq_true_eq, n_add, nl_add, nr_add, n_mul, nl_mul, nr_mul, n_sub, nr_dec, n_div, nr_sub_1, nr_sub_2, nr_sub_3, nr_sub_4, nr_sub_7, nr_sub_10, nr_sub_11, nr_sub_20, nr_sub_48, nr_sub_97, nl_sub_3, nl_sub_4, nl_sub_12, nl_sub_24, nl_sub_32, nr_div_2, nr_div_4, z_lt, z_le, z_eq, z_cl, n_ti, Int.toNat_natCast, Int32.reduceToInt, Int32.reduceToNatClampNeg, zc_add, zc_sub, zc_add_1, zc_add_2, zc_add_3, zc_add_4, zc_add_8, zc_add_10, zc_add_12, zc_add_16, zc_add_20, zc_sub_1, zc_sub_2, zc_sub_4, zc_sub_10, zc_sub_20, zc_sub_48, zc_sub_97, zc_mul_4, t_ltZ, f_ltZ, t_leZ, f_leZ, t_eqZ, f_eqZ, t_ltN, f_ltN, t_leN, f_leN, t_eqN, f_eqN, ↓reduceIte, and_true, true_and, and_false, false_and, and_self, or_true, true_or, or_false, false_or, or_self, not_true_eq_false, not_false_eq_true, tu_same, tu_eq, tu_ne, b_V, b_I, b_J]
      · simp (disch := first | omega | (simp (disch := omega) only [n_ti, Int32.reduceToInt] <;> omega)) only [h21, s1, h140, e_198_21, s2, e_198_30, e_198_39, e_198_59, e_198_60, decide_eq_true_eq, n_add, nl_add, nr_add, n_mul, nl_mul, nr_mul, n_sub, nr_dec, n_div, nr_sub_1, nr_sub_2, nr_sub_3, nr_sub_4, nr_sub_7, nr_sub_10, nr_sub_11, nr_sub_20, nr_sub_48, nr_sub_97, nl_sub_3, nl_sub_4, nl_sub_12, nl_sub_24, nl_sub_32, nr_div_2, nr_div_4, z_lt, z_le, z_eq, z_cl, n_ti, Int.toNat_natCast, Int32.reduceToInt, Int32.reduceToNatClampNeg, zc_add, zc_sub, zc_add_1, zc_add_2, zc_add_3, zc_add_4, zc_add_8, zc_add_10, zc_add_12, zc_add_16, zc_add_20, zc_sub_1, zc_sub_2, zc_sub_4, zc_sub_10, zc_sub_20, zc_sub_48, zc_sub_97, zc_mul_4, t_ltZ, f_ltZ, t_leZ, f_leZ, t_eqZ, f_eqZ, t_ltN, f_ltN, t_leN, f_leN, t_eqN, f_eqN, ↓reduceIte, and_true, true_and, and_false, false_and, and_self, or_true, true_or, or_false, false_or, or_self, not_true_eq_false, not_false_eq_true, tu_same, tu_eq, tu_ne, b_V, b_I, b_J]
  · simp (disch := first | omega | (simp (disch := omega) only [n_ti, Int32.reduceToInt] <;> omega)) only [h21, s1, h140, e_198_21, e_198_59, e_198_60, decide_eq_true_eq, n_add, nl_add, nr_add, n_mul, nl_mul, nr_mul, n_sub, nr_dec, n_div, nr_sub_1, nr_sub_2, nr_sub_3, nr_sub_4, nr_sub_7, nr_sub_10, nr_sub_11, nr_sub_20, nr_sub_48, nr_sub_97, nl_sub_3, nl_sub_4, nl_sub_12, nl_sub_24, nl_sub_32, nr_div_2, nr_div_4, z_lt, z_le, z_eq, z_cl, n_ti, Int.toNat_natCast, Int32.reduceToInt, Int32.reduceToNatClampNeg, zc_add, zc_sub, zc_add_1, zc_add_2, zc_add_3, zc_add_4, zc_add_8, zc_add_10, zc_add_12, zc_add_16, zc_add_20, zc_sub_1, zc_sub_2, zc_sub_4, zc_sub_10, zc_sub_20, zc_sub_48, zc_sub_97, zc_mul_4, t_ltZ, f_ltZ, t_leZ, f_leZ, t_eqZ, f_eqZ, t_ltN, f_ltN, t_leN, f_leN, t_eqN, f_eqN, ↓reduceIte, and_true, true_and, and_false, false_and, and_self, or_true, true_or, or_false, false_or, or_self, not_true_eq_false, not_false_eq_true, tu_same, tu_eq, tu_ne, b_V, b_I, b_J]
theorem s_201 {B : Nat → Nat → Int32} {J : Nat → Nat → Int64} {τ : tm_Tu} {b n t mi f d set : Nat} {D : Nat → TD} {T : Nat → Nat → Bool} (hn : n ≤ 12) (hD : DOk n D) (hb : b < 2) (hB : BkB B b n D) (ht : t < n) (hm : mi ≤ 1) (hf : f ≤ 3) (hd : d ≤ 3) (hs : set < 4096) (hC : CnB B T set) : F_201 [.ref 131, .int (nI set), .int (nI f), .int (nI d), .int (nI t), .int (nI mi)] (mk B J τ) = some (some (.int (b2 (ledP D T set (4 * f + d) (2 * t + mi)))), mk B J τ) := by
  have s1 := s_198 (J := J) (τ := τ) hn hD hb hB ht hm hf hd
  have s2 := s_199 (J := J) (τ := τ) hn hD hb hB ht hm hf
  have s3 := s_95 (J := J) (τ := τ) mi hm (hD t ht) hb hB.1 (by omega) (hB.2.2 t ht)
  have e5 : tuw D (2 * t + mi) = tuM mi (D t) := by
    unfold tuw
    rw [show (2 * t + mi) / 2 = t by omega, show (2 * t + mi) % 2 = mi by omega]
  rw [← e5] at s3
  have hnx := nxt_lt hD (w := 2 * t + mi) (st := 4 * f + d) (by omega) (by omega)
  have htu := tuw_le hD (w := 2 * t + mi) (by omega)
  have hl := lfw_le hD (w := 2 * t + mi) (by omega)
  have hsh := shl_1 (t := t) (by omega)
  have en : nxt D (2 * t + mi) (4 * f + d) = 4 * (if lfw D (2 * t + mi) = 0 then f else lfw D (2 * t + mi)) + (d + tuw D (2 * t + mi)) % 4 := by
    unfold nxt
    rw [show (4 * f + d) / 4 = f by omega, show (4 * f + d) % 4 = d by omega]
  unfold ledP
  rw [show (2 * t + mi) / 2 = t by omega, e_201]
  cases hb1 : set.testBit t with
  | false =>
    have hbf := bit_f (s := set) (t := t) (by omega) (by omega) hb1
    simp (disch := first | omega | (simp (disch := omega) only [n_ti, Int32.reduceToInt] <;> omega)) only [hbf, e_201_22, Bool.false_and, b2f, n_add, nl_add, nr_add, n_mul, nl_mul, nr_mul, n_sub, nr_dec, n_div, nr_sub_1, nr_sub_2, nr_sub_3, nr_sub_4, nr_sub_7, nr_sub_10, nr_sub_11, nr_sub_20, nr_sub_48, nr_sub_97, nl_sub_3, nl_sub_4, nl_sub_12, nl_sub_24, nl_sub_32, nr_div_2, nr_div_4, z_lt, z_le, z_eq, z_cl, n_ti, Int.toNat_natCast, Int32.reduceToInt, Int32.reduceToNatClampNeg, zc_add, zc_sub, zc_add_1, zc_add_2, zc_add_3, zc_add_4, zc_add_8, zc_add_10, zc_add_12, zc_add_16, zc_add_20, zc_sub_1, zc_sub_2, zc_sub_4, zc_sub_10, zc_sub_20, zc_sub_48, zc_sub_97, zc_mul_4, t_ltZ, f_ltZ, t_leZ, f_leZ, t_eqZ, f_eqZ, t_ltN, f_ltN, t_leN, f_leN, t_eqN, f_eqN, ↓reduceIte, and_true, true_and, and_false, false_and, and_self, or_true, true_or, or_false, false_or, or_self, not_true_eq_false, not_false_eq_true, tu_same, tu_eq, tu_ne, b_V, b_I, b_J]
  | true =>
    have hbt := bit_t (s := set) (t := t) (by omega) (by omega) hb1
    cases hb2 : may D (2 * t + mi) (4 * f + d) with
    | false =>
      rw [hb2, b2f] at s1
      simp (disch := first | omega | (simp (disch := omega) only [n_ti, Int32.reduceToInt] <;> omega)) only [hbt, s1, e_201_19, e_201_22, Bool.true_and, Bool.false_and, b2f, n_add, nl_add, nr_add, n_mul, nl_mul, nr_mul, n_sub, nr_dec, n_div, nr_sub_1, nr_sub_2, nr_sub_3, nr_sub_4, nr_sub_7, nr_sub_10, nr_sub_11, nr_sub_20, nr_sub_48, nr_sub_97, nl_sub_3, nl_sub_4, nl_sub_12, nl_sub_24, nl_sub_32, nr_div_2, nr_div_4, z_lt, z_le, z_eq, z_cl, n_ti, Int.toNat_natCast, Int32.reduceToInt, Int32.reduceToNatClampNeg, zc_add, zc_sub, zc_add_1, zc_add_2, zc_add_3, zc_add_4, zc_add_8, zc_add_10, zc_add_12, zc_add_16, zc_add_20, zc_sub_1, zc_sub_2, zc_sub_4, zc_sub_10, zc_sub_20, zc_sub_48, zc_sub_97, zc_mul_4, t_ltZ, f_ltZ, t_leZ, f_leZ, t_eqZ, f_eqZ, t_ltN, f_ltN, t_leN, f_leN, t_eqN, f_eqN, ↓reduceIte, and_true, true_and, and_false, false_and, and_self, or_true, true_or, or_false, false_or, or_self, not_true_eq_false, not_false_eq_true, tu_same, tu_eq, tu_ne, b_V, b_I, b_J]
    | true =>
      rw [hb2, b2t] at s1
      have hlt := xor_lt hb1
      have hC1 := hC _ _ hlt hnx
      have h01 := b2_01 (T (set ^^^ 2 ^ t) (nxt D (2 * t + mi) (4 * f + d)))
      have em : d + tuw D (2 * t + mi) - (d + tuw D (2 * t + mi)) / 4 * 4 = (d + tuw D (2 * t + mi)) % 4 := by omega
      have el : (d + tuw D (2 * t + mi)) / 4 * 4 ≤ d + tuw D (2 * t + mi) := by omega
      have ei : 16 * (set ^^^ 2 ^ t) + 4 * (if lfw D (2 * t + mi) = 0 then f else lfw D (2 * t + mi)) + (d + tuw D (2 * t + mi)) % 4 = 16 * (set ^^^ 2 ^ t) + nxt D (2 * t + mi) (4 * f + d) := by rw [en]; omega
      generalize (if lfw D (2 * t + mi) = 0 then f else lfw D (2 * t + mi)) = fb' at *
      simp (disch := first | omega | (simp (disch := omega) only [n_ti, Int32.reduceToInt] <;> omega)) only [hbt, s1, e_201_19, s2, e_201_43, s3, e_201_52, hsh, i_xor, em, e_200, ei, e_201_58, hC1, Bool.true_and, n_add, nl_add, nr_add, n_mul, nl_mul, nr_mul, n_sub, nr_dec, n_div, nr_sub_1, nr_sub_2, nr_sub_3, nr_sub_4, nr_sub_7, nr_sub_10, nr_sub_11, nr_sub_20, nr_sub_48, nr_sub_97, nl_sub_3, nl_sub_4, nl_sub_12, nl_sub_24, nl_sub_32, nr_div_2, nr_div_4, z_lt, z_le, z_eq, z_cl, n_ti, Int.toNat_natCast, Int32.reduceToInt, Int32.reduceToNatClampNeg, zc_add, zc_sub, zc_add_1, zc_add_2, zc_add_3, zc_add_4, zc_add_8, zc_add_10, zc_add_12, zc_add_16, zc_add_20, zc_sub_1, zc_sub_2, zc_sub_4, zc_sub_10, zc_sub_20, zc_sub_48, zc_sub_97, zc_mul_4, t_ltZ, f_ltZ, t_leZ, f_leZ, t_eqZ, f_eqZ, t_ltN, f_ltN, t_leN, f_leN, t_eqN, f_eqN, ↓reduceIte, and_true, true_and, and_false, false_and, and_self, or_true, true_or, or_false, false_or, or_self, not_true_eq_false, not_false_eq_true, tu_same, tu_eq, tu_ne, b_V, b_I, b_J]
      rcases h01 with h | h <;> rw [h] <;> simp (disch := first | omega | (simp (disch := omega) only [n_ti, Int32.reduceToInt] <;> omega)) only [n_add, nl_add, nr_add, n_mul, nl_mul, nr_mul, n_sub, nr_dec, n_div, nr_sub_1, nr_sub_2, nr_sub_3, nr_sub_4, nr_sub_7, nr_sub_10, nr_sub_11, nr_sub_20, nr_sub_48, nr_sub_97, nl_sub_3, nl_sub_4, nl_sub_12, nl_sub_24, nl_sub_32, nr_div_2, nr_div_4, z_lt, z_le, z_eq, z_cl, n_ti, Int.toNat_natCast, Int32.reduceToInt, Int32.reduceToNatClampNeg, zc_add, zc_sub, zc_add_1, zc_add_2, zc_add_3, zc_add_4, zc_add_8, zc_add_10, zc_add_12, zc_add_16, zc_add_20, zc_sub_1, zc_sub_2, zc_sub_4, zc_sub_10, zc_sub_20, zc_sub_48, zc_sub_97, zc_mul_4, t_ltZ, f_ltZ, t_leZ, f_leZ, t_eqZ, f_eqZ, t_ltN, f_ltN, t_leN, f_leN, t_eqN, f_eqN, ↓reduceIte, and_true, true_and, and_false, false_and, and_self, or_true, true_or, or_false, false_or, or_self, not_true_eq_false, not_false_eq_true, tu_same, tu_eq, tu_ne, b_V, b_I, b_J]
def sumW (wb : Nat) (D : Nat → TD) (t : Nat) : Nat := if wb = 1 then dW (D t) else dQ (D t)
theorem s_203 {B : Nat → Nat → Int32} {J : Nat → Nat → Int64} {τ : tm_Tu} {b n s wb : Nat} {D : Nat → TD} (hn : n ≤ 12) (hD : DOk n D) (hb : b < 2) (hB : BkB B b n D) (hs : s < 4096) (hw : wb ≤ 1) : F_203 [.ref 131, .int (nI s), .int (nI wb)] (mk B J τ) = some (some (.int (nI (wsum (sumW wb D) s n))), mk B J τ) := by
  obtain ⟨h21, h135, hT⟩ := hB
  have key : ∀ m t, t + m = n → R_203 5 [(0, .ref 131), (1, .int (nI s)), (2, .int (nI wb)), (3, .int (nI (wsum (sumW wb D) s t))), (4, .int (nI t))] [] (mk B J τ) = some (some (.int (nI (wsum (sumW wb D) s n))), mk B J τ) := by
    intro m
    induction m with
    | zero =>
      intro t ht
      have e : t = n := by omega
      subst e
      rw [e_203_5]
      simp (disch := first | omega | (simp (disch := omega) only [n_ti, Int32.reduceToInt] <;> omega)) only [h21, h135, n_add, nl_add, nr_add, n_mul, nl_mul, nr_mul, n_sub, nr_dec, n_div, nr_sub_1, nr_sub_2, nr_sub_3, nr_sub_4, nr_sub_7, nr_sub_10, nr_sub_11, nr_sub_20, nr_sub_48, nr_sub_97, nl_sub_3, nl_sub_4, nl_sub_12, nl_sub_24, nl_sub_32, nr_div_2, nr_div_4, z_lt, z_le, z_eq, z_cl, n_ti, Int.toNat_natCast, Int32.reduceToInt, Int32.reduceToNatClampNeg, zc_add, zc_sub, zc_add_1, zc_add_2, zc_add_3, zc_add_4, zc_add_8, zc_add_10, zc_add_12, zc_add_16, zc_add_20, zc_sub_1, zc_sub_2, zc_sub_4, zc_sub_10, zc_sub_20, zc_sub_48, zc_sub_97, zc_mul_4, t_ltZ, f_ltZ, t_leZ, f_leZ, t_eqZ, f_eqZ, t_ltN, f_ltN, t_leN, f_leN, t_eqN, f_eqN, ↓reduceIte, and_true, true_and, and_false, false_and, and_self, or_true, true_or, or_false, false_or, or_self, not_true_eq_false, not_false_eq_true, tu_same, tu_eq, tu_ne, b_V, b_I, b_J]
    | succ m ih =>
      intro t ht
      have hbi := bit_i (s := s) (t := t) (by omega) (by omega)
      have s94 := s_94 (J := J) (τ := τ) hb h21 (show t < 12 by omega) (hT t (by omega))
      have h136 := (hT t (by omega)).2.1
      have es : wsum (sumW wb D) s (t + 1) = wsum (sumW wb D) s t + (if s.testBit t = true then 1 else 0) * sumW wb D t := by
        show wsum (sumW wb D) s t + (if s.testBit t = true then sumW wb D t else 0) = _
        by_cases c : s.testBit t = true
        · rw [if_pos c, if_pos c, Nat.one_mul]
        · rw [if_neg c, if_neg c, Nat.zero_mul]
      rw [← ih (t + 1) (by omega), e_203_5, es]
      generalize (if s.testBit t = true then 1 else 0) = bt at *
      by_cases c : wb = 0
      · have e1 : sumW wb D t = dQ (D t) := if_neg (by omega)
        rw [e1]
        simp (disch := first | omega | (simp (disch := omega) only [n_ti, Int32.reduceToInt] <;> omega)) only [h21, h135, hbi, s94, e_203_54, n_add, nl_add, nr_add, n_mul, nl_mul, nr_mul, n_sub, nr_dec, n_div, nr_sub_1, nr_sub_2, nr_sub_3, nr_sub_4, nr_sub_7, nr_sub_10, nr_sub_11, nr_sub_20, nr_sub_48, nr_sub_97, nl_sub_3, nl_sub_4, nl_sub_12, nl_sub_24, nl_sub_32, nr_div_2, nr_div_4, z_lt, z_le, z_eq, z_cl, n_ti, Int.toNat_natCast, Int32.reduceToInt, Int32.reduceToNatClampNeg, zc_add, zc_sub, zc_add_1, zc_add_2, zc_add_3, zc_add_4, zc_add_8, zc_add_10, zc_add_12, zc_add_16, zc_add_20, zc_sub_1, zc_sub_2, zc_sub_4, zc_sub_10, zc_sub_20, zc_sub_48, zc_sub_97, zc_mul_4, t_ltZ, f_ltZ, t_leZ, f_leZ, t_eqZ, f_eqZ, t_ltN, f_ltN, t_leN, f_leN, t_eqN, f_eqN, ↓reduceIte, and_true, true_and, and_false, false_and, and_self, or_true, true_or, or_false, false_or, or_self, not_true_eq_false, not_false_eq_true, tu_same, tu_eq, tu_ne, b_V, b_I, b_J]
      · have e1 : sumW wb D t = dW (D t) := if_pos (by omega)
        rw [e1]
        simp (disch := first | omega | (simp (disch := omega) only [n_ti, Int32.reduceToInt] <;> omega)) only [h21, h135, hbi, h136, e_203_54, n_add, nl_add, nr_add, n_mul, nl_mul, nr_mul, n_sub, nr_dec, n_div, nr_sub_1, nr_sub_2, nr_sub_3, nr_sub_4, nr_sub_7, nr_sub_10, nr_sub_11, nr_sub_20, nr_sub_48, nr_sub_97, nl_sub_3, nl_sub_4, nl_sub_12, nl_sub_24, nl_sub_32, nr_div_2, nr_div_4, z_lt, z_le, z_eq, z_cl, n_ti, Int.toNat_natCast, Int32.reduceToInt, Int32.reduceToNatClampNeg, zc_add, zc_sub, zc_add_1, zc_add_2, zc_add_3, zc_add_4, zc_add_8, zc_add_10, zc_add_12, zc_add_16, zc_add_20, zc_sub_1, zc_sub_2, zc_sub_4, zc_sub_10, zc_sub_20, zc_sub_48, zc_sub_97, zc_mul_4, t_ltZ, f_ltZ, t_leZ, f_leZ, t_eqZ, f_eqZ, t_ltN, f_ltN, t_leN, f_leN, t_eqN, f_eqN, ↓reduceIte, and_true, true_and, and_false, false_and, and_self, or_true, true_or, or_false, false_or, or_self, not_true_eq_false, not_false_eq_true, tu_same, tu_eq, tu_ne, b_V, b_I, b_J]
  rw [e_203]
  exact key n 0 (by omega)
set_option maxHeartbeats 1000000 in
theorem l_202a {B : Nat → Nat → Int32} {J : Nat → Nat → Int64} {τ : tm_Tu} {b n f d set : Nat} {D : Nat → TD} {T : Nat → Nat → Bool} (hn : n ≤ 12) (hD : DOk n D) (hb : b < 2) (hB : BkB B b n D) (hf : f ≤ 3) (hd : d ≤ 3) (hs : set < 4096) (hC : CnB B T set) (z : Bool) : ∀ m t, t + m = n → R_202 62 [(0, .ref 131), (1, .int (nI n)), (2, .int (nI set)), (3, .int (nI f)), (4, .int (nI d)), (5, .int (b2 (z || anyw (ledP D T set (4 * f + d)) (2 * t)))), (6, .int (nI t))] [] (mk B J τ) = R_202 114 [(0, .ref 131), (1, .int (nI n)), (2, .int (nI set)), (3, .int (nI f)), (4, .int (nI d)), (5, .int (b2 (z || anyw (ledP D T set (4 * f + d)) (2 * n))))] [] (mk B J τ) := by
  intro m
  induction m with
  | zero =>
    intro t ht
    have e : t = n := by omega
    subst e
    rw [e_202_62]
    simp (disch := first | omega | (simp (disch := omega) only [n_ti, Int32.reduceToInt] <;> omega)) only [n_add, nl_add, nr_add, n_mul, nl_mul, nr_mul, n_sub, nr_dec, n_div, nr_sub_1, nr_sub_2, nr_sub_3, nr_sub_4, nr_sub_7, nr_sub_10, nr_sub_11, nr_sub_20, nr_sub_48, nr_sub_97, nl_sub_3, nl_sub_4, nl_sub_12, nl_sub_24, nl_sub_32, nr_div_2, nr_div_4, z_lt, z_le, z_eq, z_cl, n_ti, Int.toNat_natCast, Int32.reduceToInt, Int32.reduceToNatClampNeg, zc_add, zc_sub, zc_add_1, zc_add_2, zc_add_3, zc_add_4, zc_add_8, zc_add_10, zc_add_12, zc_add_16, zc_add_20, zc_sub_1, zc_sub_2, zc_sub_4, zc_sub_10, zc_sub_20, zc_sub_48, zc_sub_97, zc_mul_4, t_ltZ, f_ltZ, t_leZ, f_leZ, t_eqZ, f_eqZ, t_ltN, f_ltN, t_leN, f_leN, t_eqN, f_eqN, ↓reduceIte, and_true, true_and, and_false, false_and, and_self, or_true, true_or, or_false, false_or, or_self, not_true_eq_false, not_false_eq_true, tu_same, tu_eq, tu_ne, b_V, b_I, b_J]
  | succ m ih =>
    intro t ht
    have hany : anyw (ledP D T set (4 * f + d)) (2 * (t + 1)) = ((anyw (ledP D T set (4 * f + d)) (2 * t) || ledP D T set (4 * f + d) (2 * t)) || ledP D T set (4 * f + d) (2 * t + 1)) := rfl
    have s1 : F_201 [.ref 131, .int (nI set), .int (nI f), .int (nI d), .int (nI t), .int 0] (mk B J τ) = some (some (.int (b2 (ledP D T set (4 * f + d) (2 * t)))), mk B J τ) := s_201 (J := J) (τ := τ) (mi := 0) hn hD hb hB (show t < n by omega) (by omega) hf hd hs hC
    have s2 : F_201 [.ref 131, .int (nI set), .int (nI f), .int (nI d), .int (nI t), .int 1] (mk B J τ) = some (some (.int (b2 (ledP D T set (4 * f + d) (2 * t + 1)))), mk B J τ) := s_201 (J := J) (τ := τ) (mi := 1) hn hD hb hB (show t < n by omega) (by omega) hf hd hs hC
    have ih' := ih (t + 1) (by omega)
    rw [hany] at ih'
    rw [e_202_62]
    cases ha : (z || anyw (ledP D T set (4 * f + d)) (2 * t)) with
    | true =>
      have e : (z || anyw (ledP D T set (4 * f + d)) (2 * n)) = true := by
        rw [Bool.or_eq_true] at ha ⊢
        rcases ha with h | h
        · exact Or.inl h
        · refine Or.inr ?_
          rw [anyw_iff] at h ⊢
          obtain ⟨w, h1, h2⟩ := h
          exact ⟨w, by omega, h2⟩
      rw [e, b2t]
      simp (disch := first | omega | (simp (disch := omega) only [n_ti, Int32.reduceToInt] <;> omega)) only [n_add, nl_add, nr_add, n_mul, nl_mul, nr_mul, n_sub, nr_dec, n_div, nr_sub_1, nr_sub_2, nr_sub_3, nr_sub_4, nr_sub_7, nr_sub_10, nr_sub_11, nr_sub_20, nr_sub_48, nr_sub_97, nl_sub_3, nl_sub_4, nl_sub_12, nl_sub_24, nl_sub_32, nr_div_2, nr_div_4, z_lt, z_le, z_eq, z_cl, n_ti, Int.toNat_natCast, Int32.reduceToInt, Int32.reduceToNatClampNeg, zc_add, zc_sub, zc_add_1, zc_add_2, zc_add_3, zc_add_4, zc_add_8, zc_add_10, zc_add_12, zc_add_16, zc_add_20, zc_sub_1, zc_sub_2, zc_sub_4, zc_sub_10, zc_sub_20, zc_sub_48, zc_sub_97, zc_mul_4, t_ltZ, f_ltZ, t_leZ, f_leZ, t_eqZ, f_eqZ, t_ltN, f_ltN, t_leN, f_leN, t_eqN, f_eqN, ↓reduceIte, and_true, true_and, and_false, false_and, and_self, or_true, true_or, or_false, false_or, or_self, not_true_eq_false, not_false_eq_true, tu_same, tu_eq, tu_ne, b_V, b_I, b_J]
    | false =>
      have hz : z = false ∧ anyw (ledP D T set (4 * f + d)) (2 * t) = false := by
        rw [Bool.or_eq_false_iff] at ha
        exact ha
      rw [hz.1, hz.2, Bool.false_or, Bool.false_or] at ih'
      rw [hz.1, b2f, ← ih']
      cases p1 : ledP D T set (4 * f + d) (2 * t) with
      | true =>
        rw [p1, b2t] at s1
        simp (disch := first | omega | (simp (disch := omega) only [n_ti, Int32.reduceToInt] <;> omega)) only [s1, e_202_84, e_202_101, e_202_106, Bool.true_or, b2t, n_add, nl_add, nr_add, n_mul, nl_mul, nr_mul, n_sub, nr_dec, n_div, nr_sub_1, nr_sub_2, nr_sub_3, nr_sub_4, nr_sub_7, nr_sub_10, nr_sub_11, nr_sub_20, nr_sub_48, nr_sub_97, nl_sub_3, nl_sub_4, nl_sub_12, nl_sub_24, nl_sub_32, nr_div_2, nr_div_4, z_lt, z_le, z_eq, z_cl, n_ti, Int.toNat_natCast, Int32.reduceToInt, Int32.reduceToNatClampNeg, zc_add, zc_sub, zc_add_1, zc_add_2, zc_add_3, zc_add_4, zc_add_8, zc_add_10, zc_add_12, zc_add_16, zc_add_20, zc_sub_1, zc_sub_2, zc_sub_4, zc_sub_10, zc_sub_20, zc_sub_48, zc_sub_97, zc_mul_4, t_ltZ, f_ltZ, t_leZ, f_leZ, t_eqZ, f_eqZ, t_ltN, f_ltN, t_leN, f_leN, t_eqN, f_eqN, ↓reduceIte, and_true, true_and, and_false, false_and, and_self, or_true, true_or, or_false, false_or, or_self, not_true_eq_false, not_false_eq_true, tu_same, tu_eq, tu_ne, b_V, b_I, b_J]
      | false =>
        rw [p1, b2f] at s1
        cases p2 : ledP D T set (4 * f + d) (2 * t + 1) with
        | true =>
          rw [p2, b2t] at s2
          simp (disch := first | omega | (simp (disch := omega) only [n_ti, Int32.reduceToInt] <;> omega)) only [s1, e_202_84, s2, e_202_98, e_202_101, e_202_106, Bool.false_or, b2t, n_add, nl_add, nr_add, n_mul, nl_mul, nr_mul, n_sub, nr_dec, n_div, nr_sub_1, nr_sub_2, nr_sub_3, nr_sub_4, nr_sub_7, nr_sub_10, nr_sub_11, nr_sub_20, nr_sub_48, nr_sub_97, nl_sub_3, nl_sub_4, nl_sub_12, nl_sub_24, nl_sub_32, nr_div_2, nr_div_4, z_lt, z_le, z_eq, z_cl, n_ti, Int.toNat_natCast, Int32.reduceToInt, Int32.reduceToNatClampNeg, zc_add, zc_sub, zc_add_1, zc_add_2, zc_add_3, zc_add_4, zc_add_8, zc_add_10, zc_add_12, zc_add_16, zc_add_20, zc_sub_1, zc_sub_2, zc_sub_4, zc_sub_10, zc_sub_20, zc_sub_48, zc_sub_97, zc_mul_4, t_ltZ, f_ltZ, t_leZ, f_leZ, t_eqZ, f_eqZ, t_ltN, f_ltN, t_leN, f_leN, t_eqN, f_eqN, ↓reduceIte, and_true, true_and, and_false, false_and, and_self, or_true, true_or, or_false, false_or, or_self, not_true_eq_false, not_false_eq_true, tu_same, tu_eq, tu_ne, b_V, b_I, b_J]
        | false =>
          rw [p2, b2f] at s2
          simp (disch := first | omega | (simp (disch := omega) only [n_ti, Int32.reduceToInt] <;> omega)) only [s1, e_202_84, s2, e_202_98, e_202_106, Bool.false_or, b2f, n_add, nl_add, nr_add, n_mul, nl_mul, nr_mul, n_sub, nr_dec, n_div, nr_sub_1, nr_sub_2, nr_sub_3, nr_sub_4, nr_sub_7, nr_sub_10, nr_sub_11, nr_sub_20, nr_sub_48, nr_sub_97, nl_sub_3, nl_sub_4, nl_sub_12, nl_sub_24, nl_sub_32, nr_div_2, nr_div_4, z_lt, z_le, z_eq, z_cl, n_ti, Int.toNat_natCast, Int32.reduceToInt, Int32.reduceToNatClampNeg, zc_add, zc_sub, zc_add_1, zc_add_2, zc_add_3, zc_add_4, zc_add_8, zc_add_10, zc_add_12, zc_add_16, zc_add_20, zc_sub_1, zc_sub_2, zc_sub_4, zc_sub_10, zc_sub_20, zc_sub_48, zc_sub_97, zc_mul_4, t_ltZ, f_ltZ, t_leZ, f_leZ, t_eqZ, f_eqZ, t_ltN, f_ltN, t_leN, f_leN, t_eqN, f_eqN, ↓reduceIte, and_true, true_and, and_false, false_and, and_self, or_true, true_or, or_false, false_or, or_self, not_true_eq_false, not_false_eq_true, tu_same, tu_eq, tu_ne, b_V, b_I, b_J]
theorem l_202b {J : Nat → Nat → Int64} {τ : tm_Tu} {b n f set : Nat} {D : Nat → TD} {T : Nat → Nat → Bool} (hn : n ≤ 12) (hD : DOk n D) (hb : b < 2) (hf : f ≤ 3) (hs : set < 4096) (hT : ∀ st, st < 16 → T set st = rowOf n D T set st) : ∀ m d (B : Nat → Nat → Int32), d + m = 4 → BkB B b n D → CnB B T set → ∃ B', R_202 42 [(0, .ref 131), (1, .int (nI n)), (2, .int (nI set)), (3, .int (nI f)), (4, .int (nI d))] [] (mk B J τ) = R_202 34 [(0, .ref 131), (1, .int (nI n)), (2, .int (nI set)), (3, .int (nI (f + 1)))] [] (mk B' J τ) ∧ (∀ x, d ≤ x → x < 4 → B' 175 (16 * set + (4 * f + x)) = b2 (T set (4 * f + x))) ∧ (∀ a y, ¬ (a = 175 ∧ 16 * set + 4 * f + d ≤ y ∧ y < 16 * set + 4 * f + 4) → B' a y = B a y) := by
  intro m
  induction m with
  | zero =>
    intro d B hd hB hC
    have e : d = 4 := by omega
    subst e
    refine ⟨B, ?_, fun x h1 h2 => by omega, fun _ _ _ => rfl⟩
    rw [e_202_42]
    simp (disch := first | omega | (simp (disch := omega) only [n_ti, Int32.reduceToInt] <;> omega)) only [n_add, nl_add, nr_add, n_mul, nl_mul, nr_mul, n_sub, nr_dec, n_div, nr_sub_1, nr_sub_2, nr_sub_3, nr_sub_4, nr_sub_7, nr_sub_10, nr_sub_11, nr_sub_20, nr_sub_48, nr_sub_97, nl_sub_3, nl_sub_4, nl_sub_12, nl_sub_24, nl_sub_32, nr_div_2, nr_div_4, z_lt, z_le, z_eq, z_cl, n_ti, Int.toNat_natCast, Int32.reduceToInt, Int32.reduceToNatClampNeg, zc_add, zc_sub, zc_add_1, zc_add_2, zc_add_3, zc_add_4, zc_add_8, zc_add_10, zc_add_12, zc_add_16, zc_add_20, zc_sub_1, zc_sub_2, zc_sub_4, zc_sub_10, zc_sub_20, zc_sub_48, zc_sub_97, zc_mul_4, t_ltZ, f_ltZ, t_leZ, f_leZ, t_eqZ, f_eqZ, t_ltN, f_ltN, t_leN, f_leN, t_eqN, f_eqN, ↓reduceIte, and_true, true_and, and_false, false_and, and_self, or_true, true_or, or_false, false_or, or_self, not_true_eq_false, not_false_eq_true, tu_same, tu_eq, tu_ne, b_V, b_I, b_J]
  | succ m ih =>
    intro d B hd hB hC
    have hi := l_202a (J := J) (τ := τ) (f := f) (d := d) hn hD hb hB hf (by omega) hs hC (decide (set = 0)) n 0 (by omega)
    have hr : (decide (set = 0) || anyw (ledP D T set (4 * f + d)) (2 * n)) = T set (4 * f + d) := (hT _ (by omega)).symm
    rw [hr] at hi
    have e0 : (decide (set = 0) || anyw (ledP D T set (4 * f + d)) (2 * 0)) = decide (set = 0) := by simp [anyw]
    rw [e0] at hi
    obtain ⟨B', g1, g2, g3⟩ := ih (d + 1) (tm_u B 175 (16 * set + 4 * f + d) (b2 (T set (4 * f + d)))) (by omega) (hB.tr (fun a k u => by simp (disch := omega) only [tu_same, tu_eq, tu_ne])) (fun s st h1 h2 => by simp (disch := omega) only [tu_same, tu_eq, tu_ne]; exact hC s st h1 h2)
    refine ⟨B', ?_, fun x h1 h2 => ?_, fun a y h => (g3 a y (by omega)).trans (by simp (disch := omega) only [tu_same, tu_eq, tu_ne])⟩
    · rw [← g1, e_202_42]
      by_cases c : set = 0
      · have e : b2 (decide (set = 0)) = 1 := by simp [c, b2]
        rw [e] at hi
        have hi' : R_202 62 [(0, .ref 131), (1, .int (nI n)), (2, .int (nI set)), (3, .int (nI f)), (4, .int (nI d)), (5, .int 1), (6, .int 0)] [] (mk B J τ) = R_202 114 [(0, .ref 131), (1, .int (nI n)), (2, .int (nI set)), (3, .int (nI f)), (4, .int (nI d)), (5, .int (b2 (T set (4 * f + d))))] [] (mk B J τ) := hi
        simp (disch := first | omega | (simp (disch := omega) only [n_ti, Int32.reduceToInt] <;> omega)) only [e_202_57, hi', e_202_114, e_200, e_202_125, b2_and, n_add, nl_add, nr_add, n_mul, nl_mul, nr_mul, n_sub, nr_dec, n_div, nr_sub_1, nr_sub_2, nr_sub_3, nr_sub_4, nr_sub_7, nr_sub_10, nr_sub_11, nr_sub_20, nr_sub_48, nr_sub_97, nl_sub_3, nl_sub_4, nl_sub_12, nl_sub_24, nl_sub_32, nr_div_2, nr_div_4, z_lt, z_le, z_eq, z_cl, n_ti, Int.toNat_natCast, Int32.reduceToInt, Int32.reduceToNatClampNeg, zc_add, zc_sub, zc_add_1, zc_add_2, zc_add_3, zc_add_4, zc_add_8, zc_add_10, zc_add_12, zc_add_16, zc_add_20, zc_sub_1, zc_sub_2, zc_sub_4, zc_sub_10, zc_sub_20, zc_sub_48, zc_sub_97, zc_mul_4, t_ltZ, f_ltZ, t_leZ, f_leZ, t_eqZ, f_eqZ, t_ltN, f_ltN, t_leN, f_leN, t_eqN, f_eqN, ↓reduceIte, and_true, true_and, and_false, false_and, and_self, or_true, true_or, or_false, false_or, or_self, not_true_eq_false, not_false_eq_true, tu_same, tu_eq, tu_ne, b_V, b_I, b_J]
      · have e : b2 (decide (set = 0)) = 0 := by simp [c, b2]
        rw [e] at hi
        have hi' : R_202 62 [(0, .ref 131), (1, .int (nI n)), (2, .int (nI set)), (3, .int (nI f)), (4, .int (nI d)), (5, .int 0), (6, .int 0)] [] (mk B J τ) = R_202 114 [(0, .ref 131), (1, .int (nI n)), (2, .int (nI set)), (3, .int (nI f)), (4, .int (nI d)), (5, .int (b2 (T set (4 * f + d))))] [] (mk B J τ) := hi
        simp (disch := first | omega | (simp (disch := omega) only [n_ti, Int32.reduceToInt] <;> omega)) only [e_202_57, hi', e_202_114, e_200, e_202_125, b2_and, n_add, nl_add, nr_add, n_mul, nl_mul, nr_mul, n_sub, nr_dec, n_div, nr_sub_1, nr_sub_2, nr_sub_3, nr_sub_4, nr_sub_7, nr_sub_10, nr_sub_11, nr_sub_20, nr_sub_48, nr_sub_97, nl_sub_3, nl_sub_4, nl_sub_12, nl_sub_24, nl_sub_32, nr_div_2, nr_div_4, z_lt, z_le, z_eq, z_cl, n_ti, Int.toNat_natCast, Int32.reduceToInt, Int32.reduceToNatClampNeg, zc_add, zc_sub, zc_add_1, zc_add_2, zc_add_3, zc_add_4, zc_add_8, zc_add_10, zc_add_12, zc_add_16, zc_add_20, zc_sub_1, zc_sub_2, zc_sub_4, zc_sub_10, zc_sub_20, zc_sub_48, zc_sub_97, zc_mul_4, t_ltZ, f_ltZ, t_leZ, f_leZ, t_eqZ, f_eqZ, t_ltN, f_ltN, t_leN, f_leN, t_eqN, f_eqN, ↓reduceIte, and_true, true_and, and_false, false_and, and_self, or_true, true_or, or_false, false_or, or_self, not_true_eq_false, not_false_eq_true, tu_same, tu_eq, tu_ne, b_V, b_I, b_J]
    · by_cases e : x = d
      · subst e
        rw [g3 175 _ (by omega)]
        simp (disch := omega) only [tu_same, tu_eq, tu_ne]
      · exact g2 x (by omega) h2
theorem l_202c {J : Nat → Nat → Int64} {τ : tm_Tu} {b n set : Nat} {D : Nat → TD} {T : Nat → Nat → Bool} (hn : n ≤ 12) (hD : DOk n D) (hb : b < 2) (hs : set < 4096) (hT : ∀ st, st < 16 → T set st = rowOf n D T set st) : ∀ m f (B : Nat → Nat → Int32), f + m = 4 → BkB B b n D → CnB B T set → ∃ B', R_202 34 [(0, .ref 131), (1, .int (nI n)), (2, .int (nI set)), (3, .int (nI f))] [] (mk B J τ) = R_202 25 [(0, .ref 131), (1, .int (nI n)), (2, .int (nI (set + 1)))] [] (mk B' J τ) ∧ (∀ st, 4 * f ≤ st → st < 16 → B' 175 (16 * set + st) = b2 (T set st)) ∧ (∀ a y, ¬ (a = 175 ∧ 16 * set + 4 * f ≤ y) → B' a y = B a y) := by
  intro m
  induction m with
  | zero =>
    intro f B hf hB hC
    have e : f = 4 := by omega
    subst e
    refine ⟨B, ?_, fun x h1 h2 => by omega, fun _ _ _ => rfl⟩
    rw [e_202_34]
    simp (disch := first | omega | (simp (disch := omega) only [n_ti, Int32.reduceToInt] <;> omega)) only [n_add, nl_add, nr_add, n_mul, nl_mul, nr_mul, n_sub, nr_dec, n_div, nr_sub_1, nr_sub_2, nr_sub_3, nr_sub_4, nr_sub_7, nr_sub_10, nr_sub_11, nr_sub_20, nr_sub_48, nr_sub_97, nl_sub_3, nl_sub_4, nl_sub_12, nl_sub_24, nl_sub_32, nr_div_2, nr_div_4, z_lt, z_le, z_eq, z_cl, n_ti, Int.toNat_natCast, Int32.reduceToInt, Int32.reduceToNatClampNeg, zc_add, zc_sub, zc_add_1, zc_add_2, zc_add_3, zc_add_4, zc_add_8, zc_add_10, zc_add_12, zc_add_16, zc_add_20, zc_sub_1, zc_sub_2, zc_sub_4, zc_sub_10, zc_sub_20, zc_sub_48, zc_sub_97, zc_mul_4, t_ltZ, f_ltZ, t_leZ, f_leZ, t_eqZ, f_eqZ, t_ltN, f_ltN, t_leN, f_leN, t_eqN, f_eqN, ↓reduceIte, and_true, true_and, and_false, false_and, and_self, or_true, true_or, or_false, false_or, or_self, not_true_eq_false, not_false_eq_true, tu_same, tu_eq, tu_ne, b_V, b_I, b_J]
  | succ m ih =>
    intro f B hf hB hC
    obtain ⟨B1, p1, p2, p3⟩ := l_202b (J := J) (τ := τ) hn hD hb (show f ≤ 3 by omega) hs hT 4 0 B (by omega) hB hC
    obtain ⟨B', g1, g2, g3⟩ := ih (f + 1) B1 (by omega) (hB.tr (fun a k u => p3 a k (by omega))) (fun s st h1 h2 => by rw [p3 175 _ (by omega)]; exact hC s st h1 h2)
    refine ⟨B', ?_, fun st h1 h2 => ?_, fun a y h => ?_⟩
    · have p1' : R_202 42 [(0, .ref 131), (1, .int (nI n)), (2, .int (nI set)), (3, .int (nI f)), (4, .int 0)] [] (mk B J τ) = R_202 34 [(0, .ref 131), (1, .int (nI n)), (2, .int (nI set)), (3, .int (nI (f + 1)))] [] (mk B1 J τ) := p1
      rw [← g1, ← p1', e_202_34]
      simp (disch := first | omega | (simp (disch := omega) only [n_ti, Int32.reduceToInt] <;> omega)) only [n_add, nl_add, nr_add, n_mul, nl_mul, nr_mul, n_sub, nr_dec, n_div, nr_sub_1, nr_sub_2, nr_sub_3, nr_sub_4, nr_sub_7, nr_sub_10, nr_sub_11, nr_sub_20, nr_sub_48, nr_sub_97, nl_sub_3, nl_sub_4, nl_sub_12, nl_sub_24, nl_sub_32, nr_div_2, nr_div_4, z_lt, z_le, z_eq, z_cl, n_ti, Int.toNat_natCast, Int32.reduceToInt, Int32.reduceToNatClampNeg, zc_add, zc_sub, zc_add_1, zc_add_2, zc_add_3, zc_add_4, zc_add_8, zc_add_10, zc_add_12, zc_add_16, zc_add_20, zc_sub_1, zc_sub_2, zc_sub_4, zc_sub_10, zc_sub_20, zc_sub_48, zc_sub_97, zc_mul_4, t_ltZ, f_ltZ, t_leZ, f_leZ, t_eqZ, f_eqZ, t_ltN, f_ltN, t_leN, f_leN, t_eqN, f_eqN, ↓reduceIte, and_true, true_and, and_false, false_and, and_self, or_true, true_or, or_false, false_or, or_self, not_true_eq_false, not_false_eq_true, tu_same, tu_eq, tu_ne, b_V, b_I, b_J]
    · by_cases c : st < 4 * f + 4
      · rw [g3 175 _ (by omega)]
        have := p2 (st - 4 * f) (by omega) (by omega)
        rw [show 4 * f + (st - 4 * f) = st by omega] at this
        exact this
      · exact g2 st (by omega) h2
    · rw [g3 a y (by omega), p3 a y (by omega)]
theorem s_202 {B : Nat → Nat → Int32} {J : Nat → Nat → Int64} {τ : tm_Tu} {b n : Nat} {D : Nat → TD} (hn : n ≤ 12) (hD : DOk n D) (hb : b < 2) (hB : BkB B b n D) (hR : B 131 72 = 0 ∨ (B 131 72 = 1 ∧ CnB B (tbl n D (2 ^ n)) (2 ^ n))) : ∃ B', F_202 [.ref 131] (mk B J τ) = some (none, mk B' J τ) ∧ BkB B' b n D ∧ B' 131 72 = 1 ∧ CnB B' (tbl n D (2 ^ n)) (2 ^ n) ∧ (∀ a y, a ≠ 175 → ¬ (a = 131 ∧ y = 72) → B' a y = B a y) := by
  have hp := pow_12 hn
  have hsh := shl_1 (t := n) (by omega)
  rcases hR with h0 | ⟨h0, hC⟩
  · have key : ∀ m k (B : Nat → Nat → Int32), k + m = 2 ^ n → BkB B b n D → CnB B (tbl n D (2 ^ n)) k → ∃ B', R_202 25 [(0, .ref 131), (1, .int (nI n)), (2, .int (nI k))] [] (mk B J τ) = some (none, mk B' J τ) ∧ CnB B' (tbl n D (2 ^ n)) (2 ^ n) ∧ (∀ a y, a ≠ 175 → B' a y = B a y) := by
      intro m
      induction m with
      | zero =>
        intro k B hk hB hC
        refine ⟨B, ?_, by rw [show 2 ^ n = k by omega] at hC ⊢; exact hC, fun _ _ _ => rfl⟩
        rw [e_202_25]
        simp (disch := first | omega | (simp (disch := omega) only [n_ti, Int32.reduceToInt] <;> omega)) only [hsh, n_add, nl_add, nr_add, n_mul, nl_mul, nr_mul, n_sub, nr_dec, n_div, nr_sub_1, nr_sub_2, nr_sub_3, nr_sub_4, nr_sub_7, nr_sub_10, nr_sub_11, nr_sub_20, nr_sub_48, nr_sub_97, nl_sub_3, nl_sub_4, nl_sub_12, nl_sub_24, nl_sub_32, nr_div_2, nr_div_4, z_lt, z_le, z_eq, z_cl, n_ti, Int.toNat_natCast, Int32.reduceToInt, Int32.reduceToNatClampNeg, zc_add, zc_sub, zc_add_1, zc_add_2, zc_add_3, zc_add_4, zc_add_8, zc_add_10, zc_add_12, zc_add_16, zc_add_20, zc_sub_1, zc_sub_2, zc_sub_4, zc_sub_10, zc_sub_20, zc_sub_48, zc_sub_97, zc_mul_4, t_ltZ, f_ltZ, t_leZ, f_leZ, t_eqZ, f_eqZ, t_ltN, f_ltN, t_leN, f_leN, t_eqN, f_eqN, ↓reduceIte, and_true, true_and, and_false, false_and, and_self, or_true, true_or, or_false, false_or, or_self, not_true_eq_false, not_false_eq_true, tu_same, tu_eq, tu_ne, b_V, b_I, b_J]
      | succ m ih =>
        intro k B hk hB hC
        obtain ⟨B1, p1, p2, p3⟩ := l_202c (J := J) (τ := τ) (T := tbl n D (2 ^ n)) hn hD hb (show k < 4096 by omega) (fun st _ => tbl_fix n D (2 ^ n) k st (by omega)) 4 0 B (by omega) hB hC
        obtain ⟨B', g1, g2, g3⟩ := ih (k + 1) B1 (by omega) (hB.tr (fun a k u => p3 a k (by omega))) (fun s st h1 h2 => by
          by_cases e : s = k
          · rw [e]; exact p2 st (by omega) h2
          · rw [p3 175 _ (by omega)]
            exact hC s st (by omega) h2)
        have p1' : R_202 34 [(0, .ref 131), (1, .int (nI n)), (2, .int (nI k)), (3, .int 0)] [] (mk B J τ) = R_202 25 [(0, .ref 131), (1, .int (nI n)), (2, .int (nI (k + 1)))] [] (mk B1 J τ) := p1
        refine ⟨B', ?_, g2, fun a y h => ?_⟩
        · rw [← g1, ← p1', e_202_25]
          simp (disch := first | omega | (simp (disch := omega) only [n_ti, Int32.reduceToInt] <;> omega)) only [hsh, n_add, nl_add, nr_add, n_mul, nl_mul, nr_mul, n_sub, nr_dec, n_div, nr_sub_1, nr_sub_2, nr_sub_3, nr_sub_4, nr_sub_7, nr_sub_10, nr_sub_11, nr_sub_20, nr_sub_48, nr_sub_97, nl_sub_3, nl_sub_4, nl_sub_12, nl_sub_24, nl_sub_32, nr_div_2, nr_div_4, z_lt, z_le, z_eq, z_cl, n_ti, Int.toNat_natCast, Int32.reduceToInt, Int32.reduceToNatClampNeg, zc_add, zc_sub, zc_add_1, zc_add_2, zc_add_3, zc_add_4, zc_add_8, zc_add_10, zc_add_12, zc_add_16, zc_add_20, zc_sub_1, zc_sub_2, zc_sub_4, zc_sub_10, zc_sub_20, zc_sub_48, zc_sub_97, zc_mul_4, t_ltZ, f_ltZ, t_leZ, f_leZ, t_eqZ, f_eqZ, t_ltN, f_ltN, t_leN, f_leN, t_eqN, f_eqN, ↓reduceIte, and_true, true_and, and_false, false_and, and_self, or_true, true_or, or_false, false_or, or_self, not_true_eq_false, not_false_eq_true, tu_same, tu_eq, tu_ne, b_V, b_I, b_J]
        · rw [g3 a y h, p3 a y (by omega)]
    obtain ⟨B', g1, g2, g3⟩ := key (2 ^ n) 0 (tm_u B 131 72 1) (by omega) (hB.tr (fun a k u => by simp (disch := omega) only [tu_same, tu_eq, tu_ne])) (fun s st h1 h2 => by omega)
    have g1' : R_202 25 [(0, .ref 131), (1, .int (nI n)), (2, .int 0)] [] (mk (tm_u B 131 72 1) J τ) = some (none, mk B' J τ) := g1
    obtain ⟨h21, h135, hTT⟩ := hB
    refine ⟨B', ?_, ?_, ?_, g2, fun a y u1 u2 => ?_⟩
    · rw [e_202]
      simp (disch := first | omega | (simp (disch := omega) only [n_ti, Int32.reduceToInt] <;> omega)) only [h0, h21, h135, g1', n_add, nl_add, nr_add, n_mul, nl_mul, nr_mul, n_sub, nr_dec, n_div, nr_sub_1, nr_sub_2, nr_sub_3, nr_sub_4, nr_sub_7, nr_sub_10, nr_sub_11, nr_sub_20, nr_sub_48, nr_sub_97, nl_sub_3, nl_sub_4, nl_sub_12, nl_sub_24, nl_sub_32, nr_div_2, nr_div_4, z_lt, z_le, z_eq, z_cl, n_ti, Int.toNat_natCast, Int32.reduceToInt, Int32.reduceToNatClampNeg, zc_add, zc_sub, zc_add_1, zc_add_2, zc_add_3, zc_add_4, zc_add_8, zc_add_10, zc_add_12, zc_add_16, zc_add_20, zc_sub_1, zc_sub_2, zc_sub_4, zc_sub_10, zc_sub_20, zc_sub_48, zc_sub_97, zc_mul_4, t_ltZ, f_ltZ, t_leZ, f_leZ, t_eqZ, f_eqZ, t_ltN, f_ltN, t_leN, f_leN, t_eqN, f_eqN, ↓reduceIte, and_true, true_and, and_false, false_and, and_self, or_true, true_or, or_false, false_or, or_self, not_true_eq_false, not_false_eq_true, tu_same, tu_eq, tu_ne, b_V, b_I, b_J]
    · exact (BkB.tr ⟨h21, h135, hTT⟩ (fun a k u => by rw [g3 a k (by omega)]; simp (disch := omega) only [tu_same, tu_eq, tu_ne]))
    · rw [g3 131 72 (by omega)]
      simp (disch := omega) only [tu_same, tu_eq, tu_ne]
    · rw [g3 a y u1]
      simp (disch := omega) only [tu_same, tu_eq, tu_ne]
  · refine ⟨B, ?_, hB, h0, hC, fun _ _ _ _ => rfl⟩
    rw [e_202]
    simp (disch := first | omega | (simp (disch := omega) only [n_ti, Int32.reduceToInt] <;> omega)) only [h0, n_add, nl_add, nr_add, n_mul, nl_mul, nr_mul, n_sub, nr_dec, n_div, nr_sub_1, nr_sub_2, nr_sub_3, nr_sub_4, nr_sub_7, nr_sub_10, nr_sub_11, nr_sub_20, nr_sub_48, nr_sub_97, nl_sub_3, nl_sub_4, nl_sub_12, nl_sub_24, nl_sub_32, nr_div_2, nr_div_4, z_lt, z_le, z_eq, z_cl, n_ti, Int.toNat_natCast, Int32.reduceToInt, Int32.reduceToNatClampNeg, zc_add, zc_sub, zc_add_1, zc_add_2, zc_add_3, zc_add_4, zc_add_8, zc_add_10, zc_add_12, zc_add_16, zc_add_20, zc_sub_1, zc_sub_2, zc_sub_4, zc_sub_10, zc_sub_20, zc_sub_48, zc_sub_97, zc_mul_4, t_ltZ, f_ltZ, t_leZ, f_leZ, t_eqZ, f_eqZ, t_ltN, f_ltN, t_leN, f_leN, t_eqN, f_eqN, ↓reduceIte, and_true, true_and, and_false, false_and, and_self, or_true, true_or, or_false, false_or, or_self, not_true_eq_false, not_false_eq_true, tu_same, tu_eq, tu_ne, b_V, b_I, b_J]
