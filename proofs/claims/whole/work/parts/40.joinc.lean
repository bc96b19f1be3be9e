/-! JOINED: the class's ways and sets -/
def uM (tu : Nat) : Nat := 4369 * (2 ^ (4 - tu) - 1)
theorem uM_c : ∀ tu : Fin 4, (4369 * (((1 : Int32) <<< ((4 - nI tu.val) &&& 31)) - 1) = nI (uM tu.val)) ∧ (nI (uM tu.val) ^^^ (-1) = nI (4294967295 - uM tu.val)) ∧ (((4 - nI tu.val) &&& 31).toBitVec.smod 32).toNat = 4 - tu.val ∧ (((4 * nI tu.val) &&& 31).toBitVec.smod 32).toNat = 4 * tu.val ∧ uM tu.val < 65536 := by decide +kernel
theorem uM_b : ∀ tu : Fin 4, ∀ st : Fin 16, (uM tu.val).testBit st.val = decide (st.val % 4 + tu.val < 4) ∧ (4294967295 - uM tu.val).testBit st.val = !(decide (st.val % 4 + tu.val < 4)) ∧ (65535 : Nat).testBit st.val = true := by decide +kernel
theorem m15_b : ∀ x : Fin 16, ∀ st : Fin 16, (4369 * x.val).testBit st.val = x.val.testBit (st.val % 4) ∧ (15 : Nat).testBit (st.val % 4) = true ∧ 4369 * x.val < 65536 := by decide +kernel
def tb (tu v : Nat) : Nat := ((v / 2 ^ tu) &&& uM tu) ||| (((v * 2 ^ (4 - tu)) &&& 65535) &&& (4294967295 - uM tu))
theorem tb_lt {tu v : Nat} (h : tu < 4) : tb tu v < 65536 := by
  unfold tb
  refine Nat.or_lt_two_pow (n := 16) ?_ ?_
  · exact Nat.and_lt_two_pow _ (uM_c ⟨tu, h⟩).2.2.2.2
  · exact Nat.lt_of_le_of_lt Nat.and_le_left (Nat.and_lt_two_pow _ (by decide))
theorem tb_bit {tu v st : Nat} (h : tu < 4) (hs : st < 16) : (tb tu v).testBit st = v.testBit (4 * (st / 4) + (st % 4 + tu) % 4) := by
  obtain ⟨k1, k2, k3⟩ := uM_b ⟨tu, h⟩ ⟨st, hs⟩
  dsimp only at k1 k2 k3
  unfold tb
  rw [Nat.testBit_or, Nat.testBit_and, Nat.testBit_and, Nat.testBit_and, k1, k2, k3, Nat.testBit_div_two_pow, Nat.testBit_mul_two_pow]
  by_cases c : st % 4 + tu < 4
  · have e : 4 * (st / 4) + (st % 4 + tu) % 4 = st + tu := by omega
    rw [e]
    simp [c]
  · have e : 4 * (st / 4) + (st % 4 + tu) % 4 = st - (4 - tu) := by omega
    rw [e]
    have l : 4 - tu ≤ st := by omega
    simp [c, l]
def tl (tu lf v : Nat) : Nat := if lf = 0 then tb tu v else 4369 * ((tb tu v / 2 ^ (4 * lf)) % 16)
theorem tl_lt {tu lf v : Nat} (h : tu < 4) : tl tu lf v < 65536 := by
  unfold tl
  by_cases c : lf = 0
  · rw [if_pos c]; exact tb_lt h
  · rw [if_neg c]; exact (m15_b ⟨(tb tu v / 2 ^ (4 * lf)) % 16, by omega⟩ ⟨0, by omega⟩).2.2
theorem tl_bit {tu lf v st : Nat} (h : tu < 4) (hl : lf < 4) (hs : st < 16) : (tl tu lf v).testBit st = v.testBit (4 * (if lf = 0 then st / 4 else lf) + (st % 4 + tu) % 4) := by
  unfold tl
  by_cases c : lf = 0
  · rw [if_pos c, if_pos c]; exact tb_bit h hs
  · rw [if_neg c, if_neg c]
    obtain ⟨k1, k2, -⟩ := m15_b ⟨(tb tu v / 2 ^ (4 * lf)) % 16, by omega⟩ ⟨st, hs⟩
    dsimp only at k1 k2
    rw [k1, show 16 = 2 ^ 4 from rfl, Nat.testBit_mod_two_pow, Nat.testBit_div_two_pow, tb_bit h (by omega)]
    have l : st % 4 < 4 := by omega
    have e : 4 * ((st % 4 + 4 * lf) / 4) + ((st % 4 + 4 * lf) % 4 + tu) % 4 = 4 * lf + (st % 4 + tu) % 4 := by omega
    rw [e]
    simp [l]
theorem s_188 {A : Nat → Nat → Int32} {J : Nat → Nat → Int64} {τ : tm_Tu} {w v tu lf wm : Nat} (hw : w < 24) (hv : v < 65536) (ht : tu < 4) (hl : lf < 4) (h29 : A 29 w = nI lf) (h30 : A 30 w = nI tu) (h28 : A 28 w = nI wm) : F_188 [.ref 24, .int (nI w), .int (nI v)] (mk A J τ) = some (some (.int (nI (tl tu lf v &&& wm))), mk A J τ) := by
  obtain ⟨k1, k2, k3, -, k5⟩ := uM_c ⟨tu, ht⟩
  have k4 := (uM_c ⟨lf, hl⟩).2.2.2.1
  dsimp only at k1 k2 k3 k4 k5
  have a1 : nI v >>> (nI tu &&& 31) = nI (v / 2 ^ tu) := pk_shrN (by omega) _ tu (sh_c ⟨tu, by omega⟩).1
  have b1 : v * 2 ^ (4 - tu) < 2 ^ 32 := by
    have : 2 ^ (4 - tu) ≤ 2 ^ 4 := Nat.pow_le_pow_right (by omega) (by omega)
    calc v * 2 ^ (4 - tu) ≤ v * 2 ^ 4 := Nat.mul_le_mul_left _ this
      _ < 2 ^ 32 := by omega
  have a2 : nI v <<< ((4 - nI tu) &&& 31) = nI (v * 2 ^ (4 - tu)) := pk_shlN _ (4 - tu) k3 b1
  have a3 : (65535 : Int32) = nI 65535 := rfl
  have a4 : nI (v / 2 ^ tu) &&& nI (uM tu) ||| nI (v * 2 ^ (4 - tu)) &&& nI 65535 &&& nI (4294967295 - uM tu) = nI (tb tu v) := by
    rw [i_and, i_and, i_and, i_or]
    rfl
  have a5 : nI (tb tu v) >>> (4 * nI lf &&& 31) = nI (tb tu v / 2 ^ (4 * lf)) := pk_shrN (Nat.lt_trans (tb_lt ht) (by omega)) _ (4 * lf) k4
  have a6 : nI (tb tu v / 2 ^ (4 * lf)) &&& 15 = nI (tb tu v / 2 ^ (4 * lf) % 16) := pk_andN (m := 15) (Nat.lt_of_le_of_lt (Nat.div_le_self _ _) (Nat.lt_trans (tb_lt ht) (by omega))) 4 (by decide)
  have i1 : (0 : Int32) ≤ nI w ∧ (nI w).toNatClampNeg < 24 := ⟨nI_pos' (by omega), by rw [n_cl (by omega)]; omega⟩
  rw [e_188, if_pos i1, if_pos i1, n_cl (by omega), h29, h30, k1, k2, a1, a2, a3, a4, a5, a6]
  unfold tl
  by_cases c : lf = 0
  · subst c
    have z : nI 0 = (0 : Int32) := rfl
    rw [if_pos z, e_188_71, if_pos i1, n_cl (by omega), h28, i_and, if_pos rfl]
  · have z : ¬ nI lf = (0 : Int32) := fun e => c (by
      have : nI lf = nI 0 := e
      rwa [n_eq (by omega) (by omega)] at this)
    have i2 : (0 : Int32) ≤ nI w ∧ w < 24 := ⟨i1.1, hw⟩
    rw [if_neg z, if_pos i2, e_188_71, if_pos i1, n_cl (by omega), h28, nl_mul, i_and, if_neg c]
theorem s_121 {A : Nat → Nat → Int32} {J : Nat → Nat → Int64} {τ : tm_Tu} {c : Nat} {D : TD} (mi fo fa : Nat) (hm : mi ≤ 1) (hf : fo ≤ 3) (hfa : fa ≤ 3) (hc : isT c) (hD : TDok D) (h : TrA A c D) : F_121 [.ref c, .int (nI fo), .int (nI fa), .int (nI mi)] (mk A J τ) = some (some (.int (b2 (decide ((frM mi D = 0 ∨ frM mi D = fo) ∧ ((dC D).toInt < 0 ∨ (dC D).toInt = (fa : Int)))))), mk A J τ) := by
  have k1 := (bk_3 hc τ).1
  have s87 := s_87 (J := J) (τ := τ) mi hm hc hD h
  obtain ⟨o1, o2, o3, o4, o5, o6, o7, o8, o9, o10⟩ := hD
  obtain ⟨h1, h2, h3, h4, h5, h6, h7, h8⟩ := h
  have hfr : frM mi D ≤ 3 := by
    unfold frM
    by_cases c0 : mi = 0
    · rw [if_pos c0]; exact o5
    · rw [if_neg c0]; exact mir_le o5
  rw [e_121]
  unfold b2
  generalize frM mi D = f at *
  by_cases c0 : f = 0
  · by_cases c1 : (dC D).toInt < 0
    · have c2 : (dC D).toInt = -1 := by omega
      simp (disch := first | omega | (simp (disch := omega) only [n_ti, Int32.reduceToInt] <;> omega)) only [k1, s87, e_121_5, e_121_18, h5, e_121_34, e_121_39, decide_eq_true_eq, n_add, nl_add, nr_add, n_mul, nl_mul, nr_mul, n_sub, nr_dec, n_div, nr_sub_1, nr_sub_2, nr_sub_3, nr_sub_4, nr_sub_7, nr_sub_10, nr_sub_11, nr_sub_20, nr_sub_48, nr_sub_97, nl_sub_3, nl_sub_4, nl_sub_12, nl_sub_24, nl_sub_32, nr_div_2, nr_div_4, z_lt, z_le, z_eq, z_cl, n_ti, Int.toNat_natCast, Int32.reduceToInt, Int32.reduceToNatClampNeg, zc_add, zc_sub, zc_add_1, zc_add_2, zc_add_3, zc_add_4, zc_add_8, zc_add_10, zc_add_12, zc_add_16, zc_add_20, zc_sub_1, zc_sub_2, zc_sub_4, zc_sub_10, zc_sub_20, zc_sub_48, zc_sub_97, zc_mul_4, t_ltZ, f_ltZ, t_leZ, f_leZ, t_eqZ, f_eqZ, t_ltN, f_ltN, t_leN, f_leN, t_eqN, f_eqN, ↓reduceIte, and_true, true_and, and_false, false_and, and_self, or_true, true_or, or_false, false_or, or_self, not_true_eq_false, not_false_eq_true, tu_same, tu_eq, tu_ne, b_V, b_I, b_J]
    · by_cases c2 : (dC D).toInt = fa
      · simp (disch := first | omega | (simp (disch := omega) only [n_ti, Int32.reduceToInt] <;> omega)) only [k1, s87, e_121_5, e_121_18, h5, e_121_34, e_121_39, decide_eq_true_eq, n_add, nl_add, nr_add, n_mul, nl_mul, nr_mul, n_sub, nr_dec, n_div, nr_sub_1, nr_sub_2, nr_sub_3, nr_sub_4, nr_sub_7, nr_sub_10, nr_sub_11, nr_sub_20, nr_sub_48, nr_sub_97, nl_sub_3, nl_sub_4, nl_sub_12, nl_sub_24, nl_sub_32, nr_div_2, nr_div_4, z_lt, z_le, z_eq, z_cl, n_ti, Int.toNat_natCast, Int32.reduceToInt, Int32.reduceToNatClampNeg, zc_add, zc_sub, zc_add_1, zc_add_2, zc_add_3, zc_add_4, zc_add_8, zc_add_10, zc_add_12, zc_add_16, zc_add_20, zc_sub_1, zc_sub_2, zc_sub_4, zc_sub_10, zc_sub_20, zc_sub_48, zc_sub_97, zc_mul_4, t_ltZ, f_ltZ, t_leZ, f_leZ, t_eqZ, f_eqZ, t_ltN, f_ltN, t_leN, f_leN, t_eqN, f_eqN, ↓reduceIte, and_true, true_and, and_false, false_and, and_self, or_true, true_or, or_false, false_or, or_self, not_true_eq_false, not_false_eq_true, tu_same, tu_eq, tu_ne, b_V, b_I, b_J]
      · simp (disch := first | omega | (simp (disch := omega) only [n_ti, Int32.reduceToInt] <;> omega)) only [k1, s87, e_121_5, e_121_18, h5, e_121_34, e_121_38, e_121_39, decide_eq_true_eq, n_add, nl_add, nr_add, n_mul, nl_mul, nr_mul, n_sub, nr_dec, n_div, nr_sub_1, nr_sub_2, nr_sub_3, nr_sub_4, nr_sub_7, nr_sub_10, nr_sub_11, nr_sub_20, nr_sub_48, nr_sub_97, nl_sub_3, nl_sub_4, nl_sub_12, nl_sub_24, nl_sub_32, nr_div_2, nr_div_4, z_lt, z_le, z_eq, z_cl, n_ti, Int.toNat_natCast, Int32.reduceToInt, Int32.reduceToNatClampNeg, zc_add, zc_sub, zc_add_1, zc_add_2, zc_add_3, zc_add_4, zc_add_8, zc_add_10, zc_add_12, zc_add_16, zc_add_20, zc_sub_1, zc_sub_2, zc_sub_4, zc_sub_10, zc_sub_20, zc_sub_48, zc_sub_97, zc_mul_4, t_ltZ, f_ltZ, t_leZ, f_leZ, t_eqZ, f_eqZ, t_ltN, f_ltN, t_leN, f_leN, t_eqN, f_eqN, ↓reduceIte, and_true, true_and, and_false, false_and, and_self, or_true, true_or, or_false, false_or, or_self, not_true_eq_false, not_false_eq_true, tu_same, tu_eq, tu_ne, b_V, b_I, b_J]
  · by_cases c3 : f = fo
    · by_cases c1 : (dC D).toInt < 0
      · have c2 : (dC D).toInt = -1 := by omega
        simp (disch := first | omega | (simp (disch := omega) only [n_ti, Int32.reduceToInt] <;> omega)) only [k1, s87, e_121_5, e_121_18, h5, e_121_34, e_121_39, decide_eq_true_eq, n_add, nl_add, nr_add, n_mul, nl_mul, nr_mul, n_sub, nr_dec, n_div, nr_sub_1, nr_sub_2, nr_sub_3, nr_sub_4, nr_sub_7, nr_sub_10, nr_sub_11, nr_sub_20, nr_sub_48, nr_sub_97, nl_sub_3, nl_sub_4, nl_sub_12, nl_sub_24, nl_sub_32, nr_div_2, nr_div_4, z_lt, z_le, z_eq, z_cl, n_ti, Int.toNat_natCast, Int32.reduceToInt, Int32.reduceToNatClampNeg, zc_add, zc_sub, zc_add_1, zc_add_2, zc_add_3, zc_add_4, zc_add_8, zc_add_10, zc_add_12, zc_add_16, zc_add_20, zc_sub_1, zc_sub_2, zc_sub_4, zc_sub_10, zc_sub_20, zc_sub_48, zc_sub_97, zc_mul_4, t_ltZ, f_ltZ, t_leZ, f_leZ, t_eqZ, f_eqZ, t_ltN, f_ltN, t_leN, f_leN, t_eqN, f_eqN, ↓reduceIte, and_true, true_and, and_false, false_and, and_self, or_true, true_or, or_false, false_or, or_self, not_true_eq_false, not_false_eq_true, tu_same, tu_eq, tu_ne, b_V, b_I, b_J]
      · by_cases c2 : (dC D).toInt = fa
        · simp (disch := first | omega | (simp (disch := omega) only [n_ti, Int32.reduceToInt] <;> omega)) only [k1, s87, e_121_5, e_121_18, h5, e_121_34, e_121_39, decide_eq_true_eq, n_add, nl_add, nr_add, n_mul, nl_mul, nr_mul, n_sub, nr_dec, n_div, nr_sub_1, nr_sub_2, nr_sub_3, nr_sub_4, nr_sub_7, nr_sub_10, nr_sub_11, nr_sub_20, nr_sub_48, nr_sub_97, nl_sub_3, nl_sub_4, nl_sub_12, nl_sub_24, nl_sub_32, nr_div_2, nr_div_4, z_lt, z_le, z_eq, z_cl, n_ti, Int.toNat_natCast, Int32.reduceToInt, Int32.reduceToNatClampNeg, zc_add, zc_sub, zc_add_1, zc_add_2, zc_add_3, zc_add_4, zc_add_8, zc_add_10, zc_add_12, zc_add_16, zc_add_20, zc_sub_1, zc_sub_2, zc_sub_4, zc_sub_10, zc_sub_20, zc_sub_48, zc_sub_97, zc_mul_4, t_ltZ, f_ltZ, t_leZ, f_leZ, t_eqZ, f_eqZ, t_ltN, f_ltN, t_leN, f_leN, t_eqN, f_eqN, ↓reduceIte, and_true, true_and, and_false, false_and, and_self, or_true, true_or, or_false, false_or, or_self, not_true_eq_false, not_false_eq_true, tu_same, tu_eq, tu_ne, b_V, b_I, b_J]
        · simp (disch := first | omega | (simp (disch := omega) only [n_ti, Int32.reduceToInt] <;> omega)) only [k1, s87, e_121_5, e_121_18, h5, e_121_34, e_121_38, e_121_39, decide_eq_true_eq, n_add, nl_add, nr_add, n_mul, nl_mul, nr_mul, n_sub, nr_dec, n_div, nr_sub_1, nr_sub_2, nr_sub_3, nr_sub_4, nr_sub_7, nr_sub_10, nr_sub_11, nr_sub_20, nr_sub_48, nr_sub_97, nl_sub_3, nl_sub_4, nl_sub_12, nl_sub_24, nl_sub_32, nr_div_2, nr_div_4, z_lt, z_le, z_eq, z_cl, n_ti, Int.toNat_natCast, Int32.reduceToInt, Int32.reduceToNatClampNeg, zc_add, zc_sub, zc_add_1, zc_add_2, zc_add_3, zc_add_4, zc_add_8, zc_add_10, zc_add_12, zc_add_16, zc_add_20, zc_sub_1, zc_sub_2, zc_sub_4, zc_sub_10, zc_sub_20, zc_sub_48, zc_sub_97, zc_mul_4, t_ltZ, f_ltZ, t_leZ, f_leZ, t_eqZ, f_eqZ, t_ltN, f_ltN, t_leN, f_leN, t_eqN, f_eqN, ↓reduceIte, and_true, true_and, and_false, false_and, and_self, or_true, true_or, or_false, false_or, or_self, not_true_eq_false, not_false_eq_true, tu_same, tu_eq, tu_ne, b_V, b_I, b_J]
    · simp (disch := first | omega | (simp (disch := omega) only [n_ti, Int32.reduceToInt] <;> omega)) only [k1, s87, e_121_5, e_121_18, h5, e_121_34, e_121_38, e_121_39, decide_eq_true_eq, n_add, nl_add, nr_add, n_mul, nl_mul, nr_mul, n_sub, nr_dec, n_div, nr_sub_1, nr_sub_2, nr_sub_3, nr_sub_4, nr_sub_7, nr_sub_10, nr_sub_11, nr_sub_20, nr_sub_48, nr_sub_97, nl_sub_3, nl_sub_4, nl_sub_12, nl_sub_24, nl_sub_32, nr_div_2, nr_div_4, z_lt, z_le, z_eq, z_cl, n_ti, Int.toNat_natCast, Int32.reduceToInt, Int32.reduceToNatClampNeg, zc_add, zc_sub, zc_add_1, zc_add_2, zc_add_3, zc_add_4, zc_add_8, zc_add_10, zc_add_12, zc_add_16, zc_add_20, zc_sub_1, zc_sub_2, zc_sub_4, zc_sub_10, zc_sub_20, zc_sub_48, zc_sub_97, zc_mul_4, t_ltZ, f_ltZ, t_leZ, f_leZ, t_eqZ, f_eqZ, t_ltN, f_ltN, t_leN, f_leN, t_eqN, f_eqN, ↓reduceIte, and_true, true_and, and_false, false_and, and_self, or_true, true_or, or_false, false_or, or_self, not_true_eq_false, not_false_eq_true, tu_same, tu_eq, tu_ne, b_V, b_I, b_J]
def mskN (P : Nat → Bool) : Nat → Nat
  | 0 => 0
  | k + 1 => if P k = true then mskN P k ||| 2 ^ k else mskN P k
theorem mskN_lt (P : Nat → Bool) : ∀ k, mskN P k < 2 ^ k := by
  intro k
  induction k with
  | zero => exact Nat.one_pos
  | succ k ih =>
    have h1 : mskN P k < 2 ^ (k + 1) := Nat.lt_trans ih (Nat.pow_lt_pow_right (by omega) (by omega))
    show (if P k = true then mskN P k ||| 2 ^ k else mskN P k) < 2 ^ (k + 1)
    by_cases c : P k = true
    · rw [if_pos c]
      exact Nat.or_lt_two_pow h1 (Nat.pow_lt_pow_right (by omega) (by omega))
    · rw [if_neg c]; exact h1
theorem mskN_bit (P : Nat → Bool) (j : Nat) : ∀ k, (mskN P k).testBit j = (decide (j < k) && P j) := by
  intro k
  induction k with
  | zero => simp [mskN]
  | succ k ih =>
    show (if P k = true then mskN P k ||| 2 ^ k else mskN P k).testBit j = _
    by_cases c : P k = true
    · rw [if_pos c, Nat.testBit_or, ih, Nat.testBit_two_pow]
      by_cases e : k = j
      · subst e; simp [c]
      · have : (decide (j < k + 1)) = decide (j < k) := by
          by_cases l : j < k
          · simp [l]; omega
          · simp [l]; omega
        rw [this]; simp [e]
    · rw [if_neg c, ih]
      by_cases e : k = j
      · subst e; simp [c]
      · have : (decide (j < k + 1)) = decide (j < k) := by
          by_cases l : j < k
          · simp [l]; omega
          · simp [l]; omega
        rw [this]
/-- a way's stands -/
def wnt (D : Nat → TD) (w : Nat) : Nat := mskN (may D w) 16
theorem l_186 {J : Nat → Nat → Int64} {τ : tm_Tu} {c w mi : Nat} {Dt : TD} (P : Nat → Bool) (hw : w < 24) (hm : mi ≤ 1) (hc : isT c) (hD : TDok Dt) (hP : ∀ st, st < 16 → P st = decide ((frM mi Dt = 0 ∨ frM mi Dt = st / 4) ∧ ((dC Dt).toInt < 0 ∨ (dC Dt).toInt = ((st % 4 : Nat) : Int)))) : ∀ m st (A : Nat → Nat → Int32), st + m = 16 → TrA A c Dt → A 28 w = nI (mskN P st) → ∃ A', R_186 55 [(0, .ref 24), (1, .ref c), (2, .int (nI w)), (3, .int (nI mi)), (4, .int (nI st))] [] (mk A J τ) = some (none, mk A' J τ) ∧ A' 28 w = nI (mskN P 16) ∧ (∀ a y, ¬ (a = 28 ∧ y = w) → A' a y = A a y) := by
  have k1 := (bk_3 hc τ).1
  have k8 := (bk_3 hc τ).2.2.2.2.2.2.2.1
  intro m
  induction m with
  | zero =>
    intro st A hs hA h28
    have e : st = 16 := by omega
    subst e
    refine ⟨A, ?_, h28, fun _ _ _ => rfl⟩
    rw [e_186_55]
    simp (disch := first | omega | (simp (disch := omega) only [n_ti, Int32.reduceToInt] <;> omega)) only [n_add, nl_add, nr_add, n_mul, nl_mul, nr_mul, n_sub, nr_dec, n_div, nr_sub_1, nr_sub_2, nr_sub_3, nr_sub_4, nr_sub_7, nr_sub_10, nr_sub_11, nr_sub_20, nr_sub_48, nr_sub_97, nl_sub_3, nl_sub_4, nl_sub_12, nl_sub_24, nl_sub_32, nr_div_2, nr_div_4, z_lt, z_le, z_eq, z_cl, n_ti, Int.toNat_natCast, Int32.reduceToInt, Int32.reduceToNatClampNeg, zc_add, zc_sub, zc_add_1, zc_add_2, zc_add_3, zc_add_4, zc_add_8, zc_add_10, zc_add_12, zc_add_16, zc_add_20, zc_sub_1, zc_sub_2, zc_sub_4, zc_sub_10, zc_sub_20, zc_sub_48, zc_sub_97, zc_mul_4, t_ltZ, f_ltZ, t_leZ, f_leZ, t_eqZ, f_eqZ, t_ltN, f_ltN, t_leN, f_leN, t_eqN, f_eqN, ↓reduceIte, and_true, true_and, and_false, false_and, and_self, or_true, true_or, or_false, false_or, or_self, not_true_eq_false, not_false_eq_true, tu_same, tu_eq, tu_ne, b_V, b_I, b_J]
  | succ m ih =>
    intro st A hs hA h28
    have s := s_121 (J := J) (τ := τ) mi (st / 4) (st % 4) hm (by omega) (by omega) hc hD hA
    rw [← hP st (by omega)] at s
    have em : st - st / 4 * 4 = st % 4 := by omega
    have hsh := shl_1 (t := st) (by omega)
    rw [e_186_55]
    cases hb : P st with
    | false =>
      rw [hb, b2f] at s
      have e : mskN P (st + 1) = mskN P st := if_neg (by rw [hb]; exact Bool.false_ne_true)
      obtain ⟨A', g1, g2, g3⟩ := ih (st + 1) A (by omega) hA (by rw [e]; exact h28)
      refine ⟨A', ?_, g2, g3⟩
      rw [← g1]
      simp (disch := first | omega | (simp (disch := omega) only [n_ti, Int32.reduceToInt] <;> omega)) only [k1, em, s, e_186_75, e_186_91, n_add, nl_add, nr_add, n_mul, nl_mul, nr_mul, n_sub, nr_dec, n_div, nr_sub_1, nr_sub_2, nr_sub_3, nr_sub_4, nr_sub_7, nr_sub_10, nr_sub_11, nr_sub_20, nr_sub_48, nr_sub_97, nl_sub_3, nl_sub_4, nl_sub_12, nl_sub_24, nl_sub_32, nr_div_2, nr_div_4, z_lt, z_le, z_eq, z_cl, n_ti, Int.toNat_natCast, Int32.reduceToInt, Int32.reduceToNatClampNeg, zc_add, zc_sub, zc_add_1, zc_add_2, zc_add_3, zc_add_4, zc_add_8, zc_add_10, zc_add_12, zc_add_16, zc_add_20, zc_sub_1, zc_sub_2, zc_sub_4, zc_sub_10, zc_sub_20, zc_sub_48, zc_sub_97, zc_mul_4, t_ltZ, f_ltZ, t_leZ, f_leZ, t_eqZ, f_eqZ, t_ltN, f_ltN, t_leN, f_leN, t_eqN, f_eqN, ↓reduceIte, and_true, true_and, and_false, false_and, and_self, or_true, true_or, or_false, false_or, or_self, not_true_eq_false, not_false_eq_true, tu_same, tu_eq, tu_ne, b_V, b_I, b_J]
    | true =>
      rw [hb, b2t] at s
      have e : mskN P (st + 1) = mskN P st ||| 2 ^ st := if_pos hb
      obtain ⟨A', g1, g2, g3⟩ := ih (st + 1) (tm_u A 28 w (nI (mskN P st ||| 2 ^ st))) (by omega) (hA.tr (fun a k u v => by simp (disch := omega) only [tu_same, tu_eq, tu_ne])) (by simp (disch := omega) only [e, tu_same, tu_eq, tu_ne])
      refine ⟨A', ?_, g2, fun a y h => (g3 a y h).trans (by simp (disch := omega) only [tu_same, tu_eq, tu_ne])⟩
      rw [← g1]
      simp (disch := first | omega | (simp (disch := omega) only [n_ti, Int32.reduceToInt] <;> omega)) only [k1, em, s, e_186_75, e_186_91, h28, hsh, i_or, n_add, nl_add, nr_add, n_mul, nl_mul, nr_mul, n_sub, nr_dec, n_div, nr_sub_1, nr_sub_2, nr_sub_3, nr_sub_4, nr_sub_7, nr_sub_10, nr_sub_11, nr_sub_20, nr_sub_48, nr_sub_97, nl_sub_3, nl_sub_4, nl_sub_12, nl_sub_24, nl_sub_32, nr_div_2, nr_div_4, z_lt, z_le, z_eq, z_cl, n_ti, Int.toNat_natCast, Int32.reduceToInt, Int32.reduceToNatClampNeg, zc_add, zc_sub, zc_add_1, zc_add_2, zc_add_3, zc_add_4, zc_add_8, zc_add_10, zc_add_12, zc_add_16, zc_add_20, zc_sub_1, zc_sub_2, zc_sub_4, zc_sub_10, zc_sub_20, zc_sub_48, zc_sub_97, zc_mul_4, t_ltZ, f_ltZ, t_leZ, f_leZ, t_eqZ, f_eqZ, t_ltN, f_ltN, t_leN, f_leN, t_eqN, f_eqN, ↓reduceIte, and_true, true_and, and_false, false_and, and_self, or_true, true_or, or_false, false_or, or_self, not_true_eq_false, not_false_eq_true, tu_same, tu_eq, tu_ne, b_V, b_I, b_J]
