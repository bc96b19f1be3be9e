/-! run: begin a trick, take an end, a whole line (class) -/
theorem c_121 {A : Nat → Nat → Int32} {J : Nat → Nat → Int64} {τ : tm_Tu} {c f d mi : Nat} {D : TD} (hm : mi ≤ 1) (hc : isT c) (hD : TDok D) (h : TrA A c D) (hf : f ≤ 3) (hd : d ≤ 3) : F_121 [.ref c, .int (nI f), .int (nI d), .int (nI mi)] (mk A J τ) = some (some (.int (b2 (decide ((frM mi D = 0 ∨ frM mi D = f) ∧ ((dC D).toInt = -1 ∨ (dC D).toInt = d))))), mk A J τ) := by
  have k1 := (bk_3 hc τ).1
  have s87 := s_87 (J := J) (τ := τ) mi hm hc hD h
  have h7 := h.2.2.2.2.1
  have hfr : frM mi D ≤ 3 := by
    unfold frM
    have := hD.2.2.2.2.1
    split
    · exact this
    · exact mir_le this
  have e18 : R_121 18 [(0, .ref c), (2, .int (nI d))] [] (mk A J τ) = some (some (.int (b2 (decide ((dC D).toInt = -1 ∨ (dC D).toInt = d)))), mk A J τ) := by
    rw [e_121_18]
    by_cases c1 : (dC D).toInt = -1
    · have e : b2 (decide ((dC D).toInt = -1 ∨ (dC D).toInt = d)) = 1 := by simp [c1, b2]
      rw [e]
      simp (disch := first | omega | (simp (disch := omega) only [n_ti, Int32.reduceToInt] <;> omega)) only [k1, h7, e_121_34, e_121_39, n_add, nl_add, nr_add, n_mul, nl_mul, nr_mul, n_sub, nr_dec, n_div, nr_sub_1, nr_sub_2, nr_sub_3, nr_sub_4, nr_sub_7, nr_sub_10, nr_sub_11, nr_sub_20, nr_sub_48, nr_sub_97, nl_sub_3, nl_sub_4, nl_sub_12, nl_sub_24, nl_sub_32, nr_div_2, nr_div_4, z_lt, z_le, z_eq, z_cl, n_ti, Int.toNat_natCast, Int32.reduceToInt, Int32.reduceToNatClampNeg, zc_add, zc_sub, zc_add_1, zc_add_2, zc_add_3, zc_add_4, zc_add_8, zc_add_10, zc_add_12, zc_add_16, zc_add_20, zc_sub_1, zc_sub_2, zc_sub_4, zc_sub_10, zc_sub_20, zc_sub_48, zc_sub_97, zc_mul_4, t_ltZ, f_ltZ, t_leZ, f_leZ, t_eqZ, f_eqZ, t_ltN, f_ltN, t_leN, f_leN, t_eqN, f_eqN, ↓reduceIte, and_true, true_and, and_false, false_and, and_self, or_true, true_or, or_false, false_or, or_self, not_true_eq_false, not_false_eq_true, tu_same, tu_eq, tu_ne, b_V, b_I, b_J]
    · by_cases c2 : (dC D).toInt = d
      · have e : b2 (decide ((dC D).toInt = -1 ∨ (dC D).toInt = d)) = 1 := by simp [c2, b2]
        rw [e]
        simp (disch := first | omega | (simp (disch := omega) only [n_ti, Int32.reduceToInt] <;> omega)) only [k1, h7, e_121_34, e_121_39, n_add, nl_add, nr_add, n_mul, nl_mul, nr_mul, n_sub, nr_dec, n_div, nr_sub_1, nr_sub_2, nr_sub_3, nr_sub_4, nr_sub_7, nr_sub_10, nr_sub_11, nr_sub_20, nr_sub_48, nr_sub_97, nl_sub_3, nl_sub_4, nl_sub_12, nl_sub_24, nl_sub_32, nr_div_2, nr_div_4, z_lt, z_le, z_eq, z_cl, n_ti, Int.toNat_natCast, Int32.reduceToInt, Int32.reduceToNatClampNeg, zc_add, zc_sub, zc_add_1, zc_add_2, zc_add_3, zc_add_4, zc_add_8, zc_add_10, zc_add_12, zc_add_16, zc_add_20, zc_sub_1, zc_sub_2, zc_sub_4, zc_sub_10, zc_sub_20, zc_sub_48, zc_sub_97, zc_mul_4, t_ltZ, f_ltZ, t_leZ, f_leZ, t_eqZ, f_eqZ, t_ltN, f_ltN, t_leN, f_leN, t_eqN, f_eqN, ↓reduceIte, and_true, true_and, and_false, false_and, and_self, or_true, true_or, or_false, false_or, or_self, not_true_eq_false, not_false_eq_true, tu_same, tu_eq, tu_ne, b_V, b_I, b_J]
      · have e : b2 (decide ((dC D).toInt = -1 ∨ (dC D).toInt = d)) = 0 := by simp [c1, c2, b2]
        rw [e]
        simp (disch := first | omega | (simp (disch := omega) only [n_ti, Int32.reduceToInt] <;> omega)) only [k1, h7, e_121_38, e_121_39, n_add, nl_add, nr_add, n_mul, nl_mul, nr_mul, n_sub, nr_dec, n_div, nr_sub_1, nr_sub_2, nr_sub_3, nr_sub_4, nr_sub_7, nr_sub_10, nr_sub_11, nr_sub_20, nr_sub_48, nr_sub_97, nl_sub_3, nl_sub_4, nl_sub_12, nl_sub_24, nl_sub_32, nr_div_2, nr_div_4, z_lt, z_le, z_eq, z_cl, n_ti, Int.toNat_natCast, Int32.reduceToInt, Int32.reduceToNatClampNeg, zc_add, zc_sub, zc_add_1, zc_add_2, zc_add_3, zc_add_4, zc_add_8, zc_add_10, zc_add_12, zc_add_16, zc_add_20, zc_sub_1, zc_sub_2, zc_sub_4, zc_sub_10, zc_sub_20, zc_sub_48, zc_sub_97, zc_mul_4, t_ltZ, f_ltZ, t_leZ, f_leZ, t_eqZ, f_eqZ, t_ltN, f_ltN, t_leN, f_leN, t_eqN, f_eqN, ↓reduceIte, and_true, true_and, and_false, false_and, and_self, or_true, true_or, or_false, false_or, or_self, not_true_eq_false, not_false_eq_true, tu_same, tu_eq, tu_ne, b_V, b_I, b_J]
  rw [e_121]
  by_cases c0 : frM mi D = 0 ∨ frM mi D = f
  · have e : decide ((frM mi D = 0 ∨ frM mi D = f) ∧ ((dC D).toInt = -1 ∨ (dC D).toInt = d)) = decide ((dC D).toInt = -1 ∨ (dC D).toInt = d) := by
      rw [decide_eq_decide]
      exact ⟨fun u => u.2, fun u => ⟨c0, u⟩⟩
    rw [e, ← e18]
    by_cases c1 : frM mi D = 0
    · rw [c1] at s87
      simp (disch := first | omega | (simp (disch := omega) only [n_ti, Int32.reduceToInt] <;> omega)) only [k1, s87, e_121_5, n_add, nl_add, nr_add, n_mul, nl_mul, nr_mul, n_sub, nr_dec, n_div, nr_sub_1, nr_sub_2, nr_sub_3, nr_sub_4, nr_sub_7, nr_sub_10, nr_sub_11, nr_sub_20, nr_sub_48, nr_sub_97, nl_sub_3, nl_sub_4, nl_sub_12, nl_sub_24, nl_sub_32, nr_div_2, nr_div_4, z_lt, z_le, z_eq, z_cl, n_ti, Int.toNat_natCast, Int32.reduceToInt, Int32.reduceToNatClampNeg, zc_add, zc_sub, zc_add_1, zc_add_2, zc_add_3, zc_add_4, zc_add_8, zc_add_10, zc_add_12, zc_add_16, zc_add_20, zc_sub_1, zc_sub_2, zc_sub_4, zc_sub_10, zc_sub_20, zc_sub_48, zc_sub_97, zc_mul_4, t_ltZ, f_ltZ, t_leZ, f_leZ, t_eqZ, f_eqZ, t_ltN, f_ltN, t_leN, f_leN, t_eqN, f_eqN, ↓reduceIte, and_true, true_and, and_false, false_and, and_self, or_true, true_or, or_false, false_or, or_self, not_true_eq_false, not_false_eq_true, tu_same, tu_eq, tu_ne, b_V, b_I, b_J]
    · have c2 : frM mi D = f := by omega
      rw [c2] at s87 c1
      simp (disch := first | omega | (simp (disch := omega) only [n_ti, Int32.reduceToInt] <;> omega)) only [k1, s87, e_121_5, n_add, nl_add, nr_add, n_mul, nl_mul, nr_mul, n_sub, nr_dec, n_div, nr_sub_1, nr_sub_2, nr_sub_3, nr_sub_4, nr_sub_7, nr_sub_10, nr_sub_11, nr_sub_20, nr_sub_48, nr_sub_97, nl_sub_3, nl_sub_4, nl_sub_12, nl_sub_24, nl_sub_32, nr_div_2, nr_div_4, z_lt, z_le, z_eq, z_cl, n_ti, Int.toNat_natCast, Int32.reduceToInt, Int32.reduceToNatClampNeg, zc_add, zc_sub, zc_add_1, zc_add_2, zc_add_3, zc_add_4, zc_add_8, zc_add_10, zc_add_12, zc_add_16, zc_add_20, zc_sub_1, zc_sub_2, zc_sub_4, zc_sub_10, zc_sub_20, zc_sub_48, zc_sub_97, zc_mul_4, t_ltZ, f_ltZ, t_leZ, f_leZ, t_eqZ, f_eqZ, t_ltN, f_ltN, t_leN, f_leN, t_eqN, f_eqN, ↓reduceIte, and_true, true_and, and_false, false_and, and_self, or_true, true_or, or_false, false_or, or_self, not_true_eq_false, not_false_eq_true, tu_same, tu_eq, tu_ne, b_V, b_I, b_J]
  · have e : b2 (decide ((frM mi D = 0 ∨ frM mi D = f) ∧ ((dC D).toInt = -1 ∨ (dC D).toInt = d))) = 0 := by simp only [c0, false_and, decide_false, b2]; rfl
    rw [e]
    simp (disch := first | omega | (simp (disch := omega) only [n_ti, Int32.reduceToInt] <;> omega)) only [k1, s87, e_121_5, e_121_38, e_121_39, n_add, nl_add, nr_add, n_mul, nl_mul, nr_mul, n_sub, nr_dec, n_div, nr_sub_1, nr_sub_2, nr_sub_3, nr_sub_4, nr_sub_7, nr_sub_10, nr_sub_11, nr_sub_20, nr_sub_48, nr_sub_97, nl_sub_3, nl_sub_4, nl_sub_12, nl_sub_24, nl_sub_32, nr_div_2, nr_div_4, z_lt, z_le, z_eq, z_cl, n_ti, Int.toNat_natCast, Int32.reduceToInt, Int32.reduceToNatClampNeg, zc_add, zc_sub, zc_add_1, zc_add_2, zc_add_3, zc_add_4, zc_add_8, zc_add_10, zc_add_12, zc_add_16, zc_add_20, zc_sub_1, zc_sub_2, zc_sub_4, zc_sub_10, zc_sub_20, zc_sub_48, zc_sub_97, zc_mul_4, t_ltZ, f_ltZ, t_leZ, f_leZ, t_eqZ, f_eqZ, t_ltN, f_ltN, t_leN, f_leN, t_eqN, f_eqN, ↓reduceIte, and_true, true_and, and_false, false_and, and_self, or_true, true_or, or_false, false_or, or_self, not_true_eq_false, not_false_eq_true, tu_same, tu_eq, tu_ne, b_V, b_I, b_J]
set_option maxHeartbeats 1000000 in
theorem c_123 {A : Nat → Nat → Int32} {J : Nat → Nat → Int64} {τ : tm_Tu} {cb n b p mb x mi : Nat} {D : Nat → TD} {S : PS} {E : ES} {L : LD} (h : PsA A S) (hS : SOk n D b S) (hp : p < 6) (hb : isB cb) (hn : n ≤ 12) (hD : DOk n D) (hA : BkA A cb n D) (hx : x < n) (hmi : mi ≤ 1) (hL : L.2.1 = p ∧ L.2.2.1 = 18 ∧ L.2.2.2.1 = x ∧ L.2.2.2.2 = mi) : ∃ A', F_123 [.ref 7, .ref cb, .ref (18 + p), .int (nI x), .int (nI mi), .int (nI b)] (mk A J τ) = some (some (.int (nI (lawP D mb S E L))), mk A' J τ) ∧ fLn A A' ∧ (∀ a k, a < 18 → A' a k = A a k) ∧ ((lawP D mb S E L ≠ 0 ∧ A' = A) ∨ (lawP D mb S E L = 0 ∧ PsA A' (updN S p (pW (S p), pF (S p), pD (S p), x + 1, mi, b, pX (S p))))) := by
  obtain ⟨q1, q2, q3, q4⟩ := hL
  have k2 := j_2 hp
  obtain ⟨h0, h1, h2, h3, h4, h5, h6⟩ := h p hp
  obtain ⟨w1, w2, w3, w4, w5, w6, -⟩ := hS p hp
  obtain ⟨b1, b2', b3, b4⟩ := bk_1 hb τ
  have k5 := bk_2 hb (show x < 12 by omega) τ
  have hT : isT (cb + 2 + 3 * x) := ⟨cb, x, hb, by omega, rfl⟩
  have k6 := (bk_3 hT τ).1
  have h8 := (hA.2 x hx).2.2.2.2.2.1
  have a84 := s_84t (J := J) (τ := τ) hb hn hA.1 hx
  have f := c_119 (J := J) (τ := τ) hp (h p hp) w1 (by omega)
  have f121 := c_121 (J := J) (τ := τ) (f := pF (S p)) (d := pD (S p)) hmi hT (hD x hx) (hA.2 x hx) w2 w3
  have f115 := c_115 (J := J) (τ := τ) h hS
  have hc' : cnt S ≤ 6 := cntF_le (inP S) 6 0
  have eL : lawP D mb S E L = (if frS (S p) = true then (if frM mi (D x) ≠ 0 ∧ frM mi (D x) ≠ pF (S p) then 5 else if (dC (D x)).toInt ≠ -1 ∧ (dC (D x)).toInt ≠ pD (S p) then 5 else if (dA (D x)).toInt ≠ 0 ∧ 1 < cnt S then 6 else 0) else 1) := by
    unfold lawP
    rw [if_neg (by omega), if_neg (by omega), if_pos q2, q1, q3, q4]
  rw [eL, e_123]
  unfold frS
  cases hf : decide (pW (S p) = 1 ∧ pT (S p) = 0) with
  | false =>
    rw [hf, b2f] at f
    rw [if_neg Bool.false_ne_true]
    refine ⟨A, ?_, fun _ _ _ => rfl, fun _ _ _ => rfl, Or.inl ⟨by omega, rfl⟩⟩
    simp (disch := first | omega | (simp (disch := omega) only [n_ti, Int32.reduceToInt] <;> omega)) only [k2, f, e_123_4, e_123_15, n_add, nl_add, nr_add, n_mul, nl_mul, nr_mul, n_sub, nr_dec, n_div, nr_sub_1, nr_sub_2, nr_sub_3, nr_sub_4, nr_sub_7, nr_sub_10, nr_sub_11, nr_sub_20, nr_sub_48, nr_sub_97, nl_sub_3, nl_sub_4, nl_sub_12, nl_sub_24, nl_sub_32, nr_div_2, nr_div_4, z_lt, z_le, z_eq, z_cl, n_ti, Int.toNat_natCast, Int32.reduceToInt, Int32.reduceToNatClampNeg, zc_add, zc_sub, zc_add_1, zc_add_2, zc_add_3, zc_add_4, zc_add_8, zc_add_10, zc_add_12, zc_add_16, zc_add_20, zc_sub_1, zc_sub_2, zc_sub_4, zc_sub_10, zc_sub_20, zc_sub_48, zc_sub_97, zc_mul_4, t_ltZ, f_ltZ, t_leZ, f_leZ, t_eqZ, f_eqZ, t_ltN, f_ltN, t_leN, f_leN, t_eqN, f_eqN, ↓reduceIte, and_true, true_and, and_false, false_and, and_self, or_true, true_or, or_false, false_or, or_self, not_true_eq_false, not_false_eq_true, tu_same, tu_eq, tu_ne, b_V, b_I, b_J]
    rfl
  | true =>
    rw [hf, b2t] at f
    rw [if_pos rfl]
    by_cases c1 : frM mi (D x) ≠ 0 ∧ frM mi (D x) ≠ pF (S p)
    · have e : b2 (decide ((frM mi (D x) = 0 ∨ frM mi (D x) = pF (S p)) ∧ ((dC (D x)).toInt = -1 ∨ (dC (D x)).toInt = pD (S p)))) = 0 := by simp only [c1.1, c1.2, or_self, false_and, decide_false, b2]; rfl
      rw [e] at f121
      rw [if_pos c1]
      refine ⟨A, ?_, fun _ _ _ => rfl, fun _ _ _ => rfl, Or.inl ⟨by omega, rfl⟩⟩
      simp (disch := first | omega | (simp (disch := omega) only [n_ti, Int32.reduceToInt] <;> omega)) only [k2, f, e_123_4, b1, a84, e_123_12, b2', b3, b4, k5, k6, h1, h2, f121, e_123_40, n_add, nl_add, nr_add, n_mul, nl_mul, nr_mul, n_sub, nr_dec, n_div, nr_sub_1, nr_sub_2, nr_sub_3, nr_sub_4, nr_sub_7, nr_sub_10, nr_sub_11, nr_sub_20, nr_sub_48, nr_sub_97, nl_sub_3, nl_sub_4, nl_sub_12, nl_sub_24, nl_sub_32, nr_div_2, nr_div_4, z_lt, z_le, z_eq, z_cl, n_ti, Int.toNat_natCast, Int32.reduceToInt, Int32.reduceToNatClampNeg, zc_add, zc_sub, zc_add_1, zc_add_2, zc_add_3, zc_add_4, zc_add_8, zc_add_10, zc_add_12, zc_add_16, zc_add_20, zc_sub_1, zc_sub_2, zc_sub_4, zc_sub_10, zc_sub_20, zc_sub_48, zc_sub_97, zc_mul_4, t_ltZ, f_ltZ, t_leZ, f_leZ, t_eqZ, f_eqZ, t_ltN, f_ltN, t_leN, f_leN, t_eqN, f_eqN, ↓reduceIte, and_true, true_and, and_false, false_and, and_self, or_true, true_or, or_false, false_or, or_self, not_true_eq_false, not_false_eq_true, tu_same, tu_eq, tu_ne, b_V, b_I, b_J]
      rfl
    · rw [if_neg c1]
      have c1' : frM mi (D x) = 0 ∨ frM mi (D x) = pF (S p) := by omega
      by_cases c2 : (dC (D x)).toInt ≠ -1 ∧ (dC (D x)).toInt ≠ pD (S p)
      · have e : b2 (decide ((frM mi (D x) = 0 ∨ frM mi (D x) = pF (S p)) ∧ ((dC (D x)).toInt = -1 ∨ (dC (D x)).toInt = pD (S p)))) = 0 := by simp only [c2.1, c2.2, or_self, and_false, decide_false, b2]; rfl
        rw [e] at f121
        rw [if_pos c2]
        refine ⟨A, ?_, fun _ _ _ => rfl, fun _ _ _ => rfl, Or.inl ⟨by omega, rfl⟩⟩
        simp (disch := first | omega | (simp (disch := omega) only [n_ti, Int32.reduceToInt] <;> omega)) only [k2, f, e_123_4, b1, a84, e_123_12, b2', b3, b4, k5, k6, h1, h2, f121, e_123_40, n_add, nl_add, nr_add, n_mul, nl_mul, nr_mul, n_sub, nr_dec, n_div, nr_sub_1, nr_sub_2, nr_sub_3, nr_sub_4, nr_sub_7, nr_sub_10, nr_sub_11, nr_sub_20, nr_sub_48, nr_sub_97, nl_sub_3, nl_sub_4, nl_sub_12, nl_sub_24, nl_sub_32, nr_div_2, nr_div_4, z_lt, z_le, z_eq, z_cl, n_ti, Int.toNat_natCast, Int32.reduceToInt, Int32.reduceToNatClampNeg, zc_add, zc_sub, zc_add_1, zc_add_2, zc_add_3, zc_add_4, zc_add_8, zc_add_10, zc_add_12, zc_add_16, zc_add_20, zc_sub_1, zc_sub_2, zc_sub_4, zc_sub_10, zc_sub_20, zc_sub_48, zc_sub_97, zc_mul_4, t_ltZ, f_ltZ, t_leZ, f_leZ, t_eqZ, f_eqZ, t_ltN, f_ltN, t_leN, f_leN, t_eqN, f_eqN, ↓reduceIte, and_true, true_and, and_false, false_and, and_self, or_true, true_or, or_false, false_or, or_self, not_true_eq_false, not_false_eq_true, tu_same, tu_eq, tu_ne, b_V, b_I, b_J]
        rfl
      · have c2' : (dC (D x)).toInt = -1 ∨ (dC (D x)).toInt = pD (S p) := by omega
        have e : b2 (decide ((frM mi (D x) = 0 ∨ frM mi (D x) = pF (S p)) ∧ ((dC (D x)).toInt = -1 ∨ (dC (D x)).toInt = pD (S p)))) = 1 := by simp only [c1', c2', and_self, decide_true, b2, if_true]
        rw [e] at f121
        rw [if_neg c2]
        have s122 : F_122 [.ref (18 + p), .int (nI x), .int (nI mi), .int (nI b)] (mk A J τ) = some (none, mk (tm_u (tm_u (tm_u A (18 + p) 3 (nI x)) (18 + p) 4 (nI mi)) (18 + p) 5 (nI b)) J τ) := by
          rw [e_122]
          have hmi' : mi = 0 ∨ mi = 1 := by omega
          rcases hmi' with e | e <;> subst e <;> simp (disch := first | omega | (simp (disch := omega) only [n_ti, Int32.reduceToInt] <;> omega)) only [k2, n_add, nl_add, nr_add, n_mul, nl_mul, nr_mul, n_sub, nr_dec, n_div, nr_sub_1, nr_sub_2, nr_sub_3, nr_sub_4, nr_sub_7, nr_sub_10, nr_sub_11, nr_sub_20, nr_sub_48, nr_sub_97, nl_sub_3, nl_sub_4, nl_sub_12, nl_sub_24, nl_sub_32, nr_div_2, nr_div_4, z_lt, z_le, z_eq, z_cl, n_ti, Int.toNat_natCast, Int32.reduceToInt, Int32.reduceToNatClampNeg, zc_add, zc_sub, zc_add_1, zc_add_2, zc_add_3, zc_add_4, zc_add_8, zc_add_10, zc_add_12, zc_add_16, zc_add_20, zc_sub_1, zc_sub_2, zc_sub_4, zc_sub_10, zc_sub_20, zc_sub_48, zc_sub_97, zc_mul_4, t_ltZ, f_ltZ, t_leZ, f_leZ, t_eqZ, f_eqZ, t_ltN, f_ltN, t_leN, f_leN, t_eqN, f_eqN, ↓reduceIte, and_true, true_and, and_false, false_and, and_self, or_true, true_or, or_false, false_or, or_self, not_true_eq_false, not_false_eq_true, tu_same, tu_eq, tu_ne, b_V, b_I, b_J]
        have good : PsA (tm_u (tm_u (tm_u A (18 + p) 3 (nI x)) (18 + p) 4 (nI mi)) (18 + p) 5 (nI b)) (updN S p (pW (S p), pF (S p), pD (S p), x + 1, mi, b, pX (S p))) := h.up (fun a k u v z => by simp (disch := omega) only [tu_same, tu_eq, tu_ne]) ⟨by simp (disch := omega) only [h0, tu_same, tu_eq, tu_ne], by simp (disch := omega) only [h1, tu_same, tu_eq, tu_ne], by simp (disch := omega) only [h2, tu_same, tu_eq, tu_ne], by simp (disch := omega) only [tu_same, tu_eq, tu_ne]; rfl, by simp (disch := omega) only [tu_same, tu_eq, tu_ne], by simp (disch := omega) only [tu_same, tu_eq, tu_ne], by simp (disch := omega) only [h6, tu_same, tu_eq, tu_ne]⟩
        rcases dA_z (hD x hx) with ea | ea
        · have za : ¬ ((dA (D x)).toInt ≠ 0 ∧ 1 < cnt S) := by rw [ea]; intro u; exact u.1 rfl
          rw [ea] at h8
          rw [if_neg za]
          refine ⟨_, ?_, fun a k u => by simp (disch := omega) only [tu_same, tu_eq, tu_ne], fun a k u => by simp (disch := omega) only [tu_same, tu_eq, tu_ne], Or.inr ⟨rfl, good⟩⟩
          simp (disch := first | omega | (simp (disch := omega) only [n_ti, Int32.reduceToInt] <;> omega)) only [k2, f, e_123_4, b1, a84, e_123_12, b2', b3, b4, k5, k6, h1, h2, f121, e_123_40, h8, e_123_64, s122, e_123_73, n_add, nl_add, nr_add, n_mul, nl_mul, nr_mul, n_sub, nr_dec, n_div, nr_sub_1, nr_sub_2, nr_sub_3, nr_sub_4, nr_sub_7, nr_sub_10, nr_sub_11, nr_sub_20, nr_sub_48, nr_sub_97, nl_sub_3, nl_sub_4, nl_sub_12, nl_sub_24, nl_sub_32, nr_div_2, nr_div_4, z_lt, z_le, z_eq, z_cl, n_ti, Int.toNat_natCast, Int32.reduceToInt, Int32.reduceToNatClampNeg, zc_add, zc_sub, zc_add_1, zc_add_2, zc_add_3, zc_add_4, zc_add_8, zc_add_10, zc_add_12, zc_add_16, zc_add_20, zc_sub_1, zc_sub_2, zc_sub_4, zc_sub_10, zc_sub_20, zc_sub_48, zc_sub_97, zc_mul_4, t_ltZ, f_ltZ, t_leZ, f_leZ, t_eqZ, f_eqZ, t_ltN, f_ltN, t_leN, f_leN, t_eqN, f_eqN, ↓reduceIte, and_true, true_and, and_false, false_and, and_self, or_true, true_or, or_false, false_or, or_self, not_true_eq_false, not_false_eq_true, tu_same, tu_eq, tu_ne, b_V, b_I, b_J]
          rfl
        · have ea' : (dA (D x)).toInt ≠ 0 := by rw [ea]; decide
          rw [ea] at h8
          by_cases c3 : 1 < cnt S
          · have zc : (dA (D x)).toInt ≠ 0 ∧ 1 < cnt S := ⟨ea', c3⟩
            rw [if_pos zc]
            refine ⟨A, ?_, fun _ _ _ => rfl, fun _ _ _ => rfl, Or.inl ⟨by omega, rfl⟩⟩
            simp (disch := first | omega | (simp (disch := omega) only [n_ti, Int32.reduceToInt] <;> omega)) only [k2, f, e_123_4, b1, a84, e_123_12, b2', b3, b4, k5, k6, h1, h2, f121, e_123_40, h8, f115, e_123_57, n_add, nl_add, nr_add, n_mul, nl_mul, nr_mul, n_sub, nr_dec, n_div, nr_sub_1, nr_sub_2, nr_sub_3, nr_sub_4, nr_sub_7, nr_sub_10, nr_sub_11, nr_sub_20, nr_sub_48, nr_sub_97, nl_sub_3, nl_sub_4, nl_sub_12, nl_sub_24, nl_sub_32, nr_div_2, nr_div_4, z_lt, z_le, z_eq, z_cl, n_ti, Int.toNat_natCast, Int32.reduceToInt, Int32.reduceToNatClampNeg, zc_add, zc_sub, zc_add_1, zc_add_2, zc_add_3, zc_add_4, zc_add_8, zc_add_10, zc_add_12, zc_add_16, zc_add_20, zc_sub_1, zc_sub_2, zc_sub_4, zc_sub_10, zc_sub_20, zc_sub_48, zc_sub_97, zc_mul_4, t_ltZ, f_ltZ, t_leZ, f_leZ, t_eqZ, f_eqZ, t_ltN, f_ltN, t_leN, f_leN, t_eqN, f_eqN, ↓reduceIte, and_true, true_and, and_false, false_and, and_self, or_true, true_or, or_false, false_or, or_self, not_true_eq_false, not_false_eq_true, tu_same, tu_eq, tu_ne, b_V, b_I, b_J]
            rfl
          · have zc : ¬ ((dA (D x)).toInt ≠ 0 ∧ 1 < cnt S) := fun u => c3 u.2
            rw [if_neg zc]
            refine ⟨_, ?_, fun a k u => by simp (disch := omega) only [tu_same, tu_eq, tu_ne], fun a k u => by simp (disch := omega) only [tu_same, tu_eq, tu_ne], Or.inr ⟨rfl, good⟩⟩
            simp (disch := first | omega | (simp (disch := omega) only [n_ti, Int32.reduceToInt] <;> omega)) only [k2, f, e_123_4, b1, a84, e_123_12, b2', b3, b4, k5, k6, h1, h2, f121, e_123_40, h8, f115, e_123_57, e_123_64, s122, e_123_73, n_add, nl_add, nr_add, n_mul, nl_mul, nr_mul, n_sub, nr_dec, n_div, nr_sub_1, nr_sub_2, nr_sub_3, nr_sub_4, nr_sub_7, nr_sub_10, nr_sub_11, nr_sub_20, nr_sub_48, nr_sub_97, nl_sub_3, nl_sub_4, nl_sub_12, nl_sub_24, nl_sub_32, nr_div_2, nr_div_4, z_lt, z_le, z_eq, z_cl, n_ti, Int.toNat_natCast, Int32.reduceToInt, Int32.reduceToNatClampNeg, zc_add, zc_sub, zc_add_1, zc_add_2, zc_add_3, zc_add_4, zc_add_8, zc_add_10, zc_add_12, zc_add_16, zc_add_20, zc_sub_1, zc_sub_2, zc_sub_4, zc_sub_10, zc_sub_20, zc_sub_48, zc_sub_97, zc_mul_4, t_ltZ, f_ltZ, t_leZ, f_leZ, t_eqZ, f_eqZ, t_ltN, f_ltN, t_leN, f_leN, t_eqN, f_eqN, ↓reduceIte, and_true, true_and, and_false, false_and, and_self, or_true, true_or, or_false, false_or, or_self, not_true_eq_false, not_false_eq_true, tu_same, tu_eq, tu_ne, b_V, b_I, b_J]
            rfl
theorem c_124 {A : Nat → Nat → Int32} {J : Nat → Nat → Int64} {τ : tm_Tu} {n b p mb x : Nat} {D : Nat → TD} {S : PS} {E : ES} {L : LD} (h : PsA A S) (hE : EnA A E) (hS : SOk n D b S) (hO : EOk S E) (hp : p < 6) (hn : n ≤ 12) (hx : x ≤ 1) (hL : L.2.1 = p ∧ L.2.2.1 = 20 ∧ L.2.2.2.1 = x) : ∃ A', F_124 [.ref 7, .int (nI p), .int (nI x)] (mk A J τ) = some (some (.int (nI (lawP D mb S E L))), mk A' J τ) ∧ fLn A A' ∧ ((lawP D mb S E L ≠ 0 ∧ A' = A) ∨ (lawP D mb S E L = 0 ∧ PsA A' (updN S p (4 + x, 0, 0, 0, 0, 0, 0)) ∧ EnA A' (updN E x (eH (E x), p + 1, 0)))) := by
  obtain ⟨q1, q2, q3⟩ := hL
  have k1 := j_1 hp τ
  have k2 := j_2 hp
  have h0 := (h p hp).1
  obtain ⟨w1, w2, w3, w4, w5, w6, -⟩ := hS p hp
  obtain ⟨e1, e2, e3⟩ := hE x (by omega)
  have o2 := (hO x (by omega)).2.1
  have f := c_119 (J := J) (τ := τ) hp (h p hp) w1 (by omega)
  have eL : lawP D mb S E L = (if (pW (S p) = 0 ∨ frS (S p) = true) ∧ eK (E x) = 0 then 0 else 1) := by
    unfold lawP
    rw [if_neg (by omega), if_neg (by omega), if_neg (by omega), q1, q3]
  have st : F_124 [.ref 7, .int (nI p), .int (nI x)] (mk A J τ) = R_124 26 [(0, .ref 7), (1, .int (nI p)), (2, .int (nI x)), (3, .ref (18 + p))] [.int (b2 (decide (pW (S p) = 0 ∨ frS (S p) = true)))] (mk A J τ) := by
    rw [e_124]
    by_cases c : pW (S p) = 0
    · have e : b2 (decide (pW (S p) = 0 ∨ frS (S p) = true)) = 1 := by simp [c, b2]
      rw [c] at h0
      rw [e]
      simp (disch := first | omega | (simp (disch := omega) only [n_ti, Int32.reduceToInt] <;> omega)) only [k1, k2, h0, e_124_21, n_add, nl_add, nr_add, n_mul, nl_mul, nr_mul, n_sub, nr_dec, n_div, nr_sub_1, nr_sub_2, nr_sub_3, nr_sub_4, nr_sub_7, nr_sub_10, nr_sub_11, nr_sub_20, nr_sub_48, nr_sub_97, nl_sub_3, nl_sub_4, nl_sub_12, nl_sub_24, nl_sub_32, nr_div_2, nr_div_4, z_lt, z_le, z_eq, z_cl, n_ti, Int.toNat_natCast, Int32.reduceToInt, Int32.reduceToNatClampNeg, zc_add, zc_sub, zc_add_1, zc_add_2, zc_add_3, zc_add_4, zc_add_8, zc_add_10, zc_add_12, zc_add_16, zc_add_20, zc_sub_1, zc_sub_2, zc_sub_4, zc_sub_10, zc_sub_20, zc_sub_48, zc_sub_97, zc_mul_4, t_ltZ, f_ltZ, t_leZ, f_leZ, t_eqZ, f_eqZ, t_ltN, f_ltN, t_leN, f_leN, t_eqN, f_eqN, ↓reduceIte, and_true, true_and, and_false, false_and, and_self, or_true, true_or, or_false, false_or, or_self, not_true_eq_false, not_false_eq_true, tu_same, tu_eq, tu_ne, b_V, b_I, b_J]
    · unfold frS
      cases hf : decide (pW (S p) = 1 ∧ pT (S p) = 0) with
      | false =>
        rw [hf, b2f] at f
        have e : b2 (decide (pW (S p) = 0 ∨ false = true)) = 0 := by simp [c, b2]
        rw [e]
        simp (disch := first | omega | (simp (disch := omega) only [n_ti, Int32.reduceToInt] <;> omega)) only [k1, k2, h0, f, e_124_18, n_add, nl_add, nr_add, n_mul, nl_mul, nr_mul, n_sub, nr_dec, n_div, nr_sub_1, nr_sub_2, nr_sub_3, nr_sub_4, nr_sub_7, nr_sub_10, nr_sub_11, nr_sub_20, nr_sub_48, nr_sub_97, nl_sub_3, nl_sub_4, nl_sub_12, nl_sub_24, nl_sub_32, nr_div_2, nr_div_4, z_lt, z_le, z_eq, z_cl, n_ti, Int.toNat_natCast, Int32.reduceToInt, Int32.reduceToNatClampNeg, zc_add, zc_sub, zc_add_1, zc_add_2, zc_add_3, zc_add_4, zc_add_8, zc_add_10, zc_add_12, zc_add_16, zc_add_20, zc_sub_1, zc_sub_2, zc_sub_4, zc_sub_10, zc_sub_20, zc_sub_48, zc_sub_97, zc_mul_4, t_ltZ, f_ltZ, t_leZ, f_leZ, t_eqZ, f_eqZ, t_ltN, f_ltN, t_leN, f_leN, t_eqN, f_eqN, ↓reduceIte, and_true, true_and, and_false, false_and, and_self, or_true, true_or, or_false, false_or, or_self, not_true_eq_false, not_false_eq_true, tu_same, tu_eq, tu_ne, b_V, b_I, b_J]
      | true =>
        rw [hf, b2t] at f
        have e : b2 (decide (pW (S p) = 0 ∨ true = true)) = 1 := by simp [b2]
        rw [e]
        simp (disch := first | omega | (simp (disch := omega) only [n_ti, Int32.reduceToInt] <;> omega)) only [k1, k2, h0, f, e_124_18, e_124_21, n_add, nl_add, nr_add, n_mul, nl_mul, nr_mul, n_sub, nr_dec, n_div, nr_sub_1, nr_sub_2, nr_sub_3, nr_sub_4, nr_sub_7, nr_sub_10, nr_sub_11, nr_sub_20, nr_sub_48, nr_sub_97, nl_sub_3, nl_sub_4, nl_sub_12, nl_sub_24, nl_sub_32, nr_div_2, nr_div_4, z_lt, z_le, z_eq, z_cl, n_ti, Int.toNat_natCast, Int32.reduceToInt, Int32.reduceToNatClampNeg, zc_add, zc_sub, zc_add_1, zc_add_2, zc_add_3, zc_add_4, zc_add_8, zc_add_10, zc_add_12, zc_add_16, zc_add_20, zc_sub_1, zc_sub_2, zc_sub_4, zc_sub_10, zc_sub_20, zc_sub_48, zc_sub_97, zc_mul_4, t_ltZ, f_ltZ, t_leZ, f_leZ, t_eqZ, f_eqZ, t_ltN, f_ltN, t_leN, f_leN, t_eqN, f_eqN, ↓reduceIte, and_true, true_and, and_false, false_and, and_self, or_true, true_or, or_false, false_or, or_self, not_true_eq_false, not_false_eq_true, tu_same, tu_eq, tu_ne, b_V, b_I, b_J]
  rw [eL, st, e_124_26]
  by_cases c : pW (S p) = 0 ∨ frS (S p) = true
  · have e : b2 (decide (pW (S p) = 0 ∨ frS (S p) = true)) = 1 := by simp only [c, decide_true, b2, if_true]
    rw [e]
    by_cases d : eK (E x) = 0
    · have zc : (pW (S p) = 0 ∨ frS (S p) = true) ∧ eK (E x) = 0 := ⟨c, d⟩
      rw [if_pos zc]
      rw [tI_z d] at e2
      obtain ⟨A1, g1, g2, g3⟩ := c_111 (A := A) (J := J) (τ := τ) (w := 4 + x) hp
      refine ⟨tm_u (tm_u A1 16 x (nI p)) 17 x 0, ?_, fun a k u => by simp (disch := omega) only [tu_same, tu_eq, tu_ne]; exact g3 a k (by omega), Or.inr ⟨rfl, h.up (fun a k u v z => by simp (disch := omega) only [tu_same, tu_eq, tu_ne]; exact g3 a k z) (g2.tr (fun k => by simp (disch := omega) only [tu_same, tu_eq, tu_ne])), fun q hq => ?_⟩⟩
      · simp (disch := first | omega | (simp (disch := omega) only [n_ti, Int32.reduceToInt] <;> omega)) only [e2, k2, g1, e_124_61, n_add, nl_add, nr_add, n_mul, nl_mul, nr_mul, n_sub, nr_dec, n_div, nr_sub_1, nr_sub_2, nr_sub_3, nr_sub_4, nr_sub_7, nr_sub_10, nr_sub_11, nr_sub_20, nr_sub_48, nr_sub_97, nl_sub_3, nl_sub_4, nl_sub_12, nl_sub_24, nl_sub_32, nr_div_2, nr_div_4, z_lt, z_le, z_eq, z_cl, n_ti, Int.toNat_natCast, Int32.reduceToInt, Int32.reduceToNatClampNeg, zc_add, zc_sub, zc_add_1, zc_add_2, zc_add_3, zc_add_4, zc_add_8, zc_add_10, zc_add_12, zc_add_16, zc_add_20, zc_sub_1, zc_sub_2, zc_sub_4, zc_sub_10, zc_sub_20, zc_sub_48, zc_sub_97, zc_mul_4, t_ltZ, f_ltZ, t_leZ, f_leZ, t_eqZ, f_eqZ, t_ltN, f_ltN, t_leN, f_leN, t_eqN, f_eqN, ↓reduceIte, and_true, true_and, and_false, false_and, and_self, or_true, true_or, or_false, false_or, or_self, not_true_eq_false, not_false_eq_true, tu_same, tu_eq, tu_ne, b_V, b_I, b_J]
        rfl
      · unfold updN
        by_cases eq : q = x
        · rw [if_pos eq, eq]
          refine ⟨?_, by simp (disch := omega) only [tu_same, tu_eq, tu_ne]; rfl, fun _ => by simp (disch := omega) only [tu_same, tu_eq, tu_ne]; rfl⟩
          simp (disch := omega) only [tu_same, tu_eq, tu_ne]
          rw [g3 15 x (by omega)]
          exact e1
        · rw [if_neg eq]
          obtain ⟨z1, z2, z3⟩ := hE q hq
          refine ⟨?_, ?_, ?_⟩
          · simp (disch := omega) only [tu_same, tu_eq, tu_ne]; rw [g3 15 q (by omega)]; exact z1
          · simp (disch := omega) only [tu_same, tu_eq, tu_ne]; rw [g3 16 q (by omega)]; exact z2
          · intro u; simp (disch := omega) only [tu_same, tu_eq, tu_ne]; rw [g3 17 q (by omega)]; exact z3 u
    · have zc : ¬ ((pW (S p) = 0 ∨ frS (S p) = true) ∧ eK (E x) = 0) := fun u => d u.2
      rw [if_neg zc]
      rw [tI_s d] at e2
      refine ⟨A, ?_, fun _ _ _ => rfl, Or.inl ⟨by omega, rfl⟩⟩
      simp (disch := first | omega | (simp (disch := omega) only [n_ti, Int32.reduceToInt] <;> omega)) only [e2, e_124_52, n_add, nl_add, nr_add, n_mul, nl_mul, nr_mul, n_sub, nr_dec, n_div, nr_sub_1, nr_sub_2, nr_sub_3, nr_sub_4, nr_sub_7, nr_sub_10, nr_sub_11, nr_sub_20, nr_sub_48, nr_sub_97, nl_sub_3, nl_sub_4, nl_sub_12, nl_sub_24, nl_sub_32, nr_div_2, nr_div_4, z_lt, z_le, z_eq, z_cl, n_ti, Int.toNat_natCast, Int32.reduceToInt, Int32.reduceToNatClampNeg, zc_add, zc_sub, zc_add_1, zc_add_2, zc_add_3, zc_add_4, zc_add_8, zc_add_10, zc_add_12, zc_add_16, zc_add_20, zc_sub_1, zc_sub_2, zc_sub_4, zc_sub_10, zc_sub_20, zc_sub_48, zc_sub_97, zc_mul_4, t_ltZ, f_ltZ, t_leZ, f_leZ, t_eqZ, f_eqZ, t_ltN, f_ltN, t_leN, f_leN, t_eqN, f_eqN, ↓reduceIte, and_true, true_and, and_false, false_and, and_self, or_true, true_or, or_false, false_or, or_self, not_true_eq_false, not_false_eq_true, tu_same, tu_eq, tu_ne, b_V, b_I, b_J]
      rfl
  · have e : b2 (decide (pW (S p) = 0 ∨ frS (S p) = true)) = 0 := by simp only [c, decide_false, b2]; rfl
    have zc : ¬ ((pW (S p) = 0 ∨ frS (S p) = true) ∧ eK (E x) = 0) := fun u => c u.1
    rw [e, if_neg zc]
    refine ⟨A, ?_, fun _ _ _ => rfl, Or.inl ⟨by omega, rfl⟩⟩
    simp (disch := first | omega | (simp (disch := omega) only [n_ti, Int32.reduceToInt] <;> omega)) only [e_124_52, n_add, nl_add, nr_add, n_mul, nl_mul, nr_mul, n_sub, nr_dec, n_div, nr_sub_1, nr_sub_2, nr_sub_3, nr_sub_4, nr_sub_7, nr_sub_10, nr_sub_11, nr_sub_20, nr_sub_48, nr_sub_97, nl_sub_3, nl_sub_4, nl_sub_12, nl_sub_24, nl_sub_32, nr_div_2, nr_div_4, z_lt, z_le, z_eq, z_cl, n_ti, Int.toNat_natCast, Int32.reduceToInt, Int32.reduceToNatClampNeg, zc_add, zc_sub, zc_add_1, zc_add_2, zc_add_3, zc_add_4, zc_add_8, zc_add_10, zc_add_12, zc_add_16, zc_add_20, zc_sub_1, zc_sub_2, zc_sub_4, zc_sub_10, zc_sub_20, zc_sub_48, zc_sub_97, zc_mul_4, t_ltZ, f_ltZ, t_leZ, f_leZ, t_eqZ, f_eqZ, t_ltN, f_ltN, t_leN, f_leN, t_eqN, f_eqN, ↓reduceIte, and_true, true_and, and_false, false_and, and_self, or_true, true_or, or_false, false_or, or_self, not_true_eq_false, not_false_eq_true, tu_same, tu_eq, tu_ne, b_V, b_I, b_J]
    rfl
/-- persons, ends and misses behind a line -/
abbrev XS : Type := PS × ES × ML
def lineP (D : Nat → TD) (mb b : Nat) (X : XS) (L : LD) : XS := if lawP D mb X.1 X.2.1 L = 0 then ((actP b X.1 X.2.1 L).1, (actP b X.1 X.2.1 L).2, X.2.2) else (X.1, X.2.1, adM X.2.2 (b, lawP D mb X.1 X.2.1 L, L.2.1))
theorem law_le (D : Nat → TD) (mb : Nat) (S : PS) (E : ES) (L : LD) : lawP D mb S E L ≤ 6 := by
  unfold lawP
  repeat' split
  all_goals omega
def XsA (A : Nat → Nat → Int32) (X : XS) : Prop := PsA A X.1 ∧ EnA A X.2.1 ∧ MsA A X.2.2
theorem c_114 {I : Nat → Nat → Int32} {J : Nat → Nat → Int64} {τ : tm_Tu} {p : Nat} (hp : p < 6) : F_114 [.int (nI p)] (mk I J τ) = some (some (.int 1), mk I J τ) := by
  rw [e_114]
  simp (disch := first | omega | (simp (disch := omega) only [n_ti, Int32.reduceToInt] <;> omega)) only [e_114_15, n_add, nl_add, nr_add, n_mul, nl_mul, nr_mul, n_sub, nr_dec, n_div, nr_sub_1, nr_sub_2, nr_sub_3, nr_sub_4, nr_sub_7, nr_sub_10, nr_sub_11, nr_sub_20, nr_sub_48, nr_sub_97, nl_sub_3, nl_sub_4, nl_sub_12, nl_sub_24, nl_sub_32, nr_div_2, nr_div_4, z_lt, z_le, z_eq, z_cl, n_ti, Int.toNat_natCast, Int32.reduceToInt, Int32.reduceToNatClampNeg, zc_add, zc_sub, zc_add_1, zc_add_2, zc_add_3, zc_add_4, zc_add_8, zc_add_10, zc_add_12, zc_add_16, zc_add_20, zc_sub_1, zc_sub_2, zc_sub_4, zc_sub_10, zc_sub_20, zc_sub_48, zc_sub_97, zc_mul_4, t_ltZ, f_ltZ, t_leZ, f_leZ, t_eqZ, f_eqZ, t_ltN, f_ltN, t_leN, f_leN, t_eqN, f_eqN, ↓reduceIte, and_true, true_and, and_false, false_and, and_self, or_true, true_or, or_false, false_or, or_self, not_true_eq_false, not_false_eq_true, tu_same, tu_eq, tu_ne, b_V, b_I, b_J]
set_option maxHeartbeats 2000000 in
theorem c_126 {A : Nat → Nat → Int32} {J : Nat → Nat → Int64} {τ : tm_Tu} {cb a n b mb k N : Nat} {D : Nat → TD} {X : XS} {L : LD} (h : XsA A X) (hS : SOk n D b X.1) (hO : EOk X.1 X.2.1) (hb : isB cb) (hn : n ≤ 12) (hD : DOk n D) (hA : BkA A cb n D) (h75 : A 7 5 = nI mb) (hmb : mb ≤ 3) (hms : X.2.2.1 < 100000) (ha : isR a) (hk : k < 60) (hL : LnA A a k L) (hok : LOk n N L) (hLb : L.1 = b) : ∃ A', F_126 [.ref 7, .ref cb, .ref a, .int (nI k)] (mk A J τ) = some (none, mk A' J τ) ∧ XsA A' (lineP D mb b X L) ∧ (∀ x y, ¬ (15 ≤ x ∧ x ≤ 23) → ¬ (x = 8 ∧ y = 7) → x ≠ 9 → A' x y = A x y) := by
  obtain ⟨hP, hE, hM⟩ := h
  obtain ⟨k1, k2, k3, k4, k5, k6⟩ := ro_1 ha τ
  obtain ⟨⟨x1, x2⟩, ⟨y1, y2⟩, ⟨z1, z2⟩, ⟨m1, m2⟩, ⟨n1, n2⟩⟩ := ro_2 ha
  have ha' : 119 ≤ a := by unfold isR at ha; omega
  obtain ⟨l1, l2, l3, l4, l5⟩ := hL
  obtain ⟨o1, o2, o3⟩ := hok
  have hp : L.2.1 < 6 := by omega
  have j1 := j_1 hp τ
  have f114 := c_114 (I := A) (J := J) (τ := τ) hp
  have a1 : ¬ a + 1 = 1 := by omega
  have a2 : ¬ a + 2 = 1 := by omega
  have a3 : ¬ a + 3 = 1 := by omega
  have a4 : ¬ a + 4 = 1 := by omega
  rw [hLb] at l1
  have hw : L.2.2.2.1 < 12 := by omega
  have hl6 := law_le D mb X.1 X.2.1 L
  -- the act itself
  have key : ∃ A1, F_126 [.ref 7, .ref cb, .ref a, .int (nI k)] (mk A J τ) = R_126 135 [(0, .ref 7), (4, .int (nI b)), (5, .int (nI L.2.1)), (8, .int (nI (lawP D mb X.1 X.2.1 L)))] [] (mk A1 J τ) ∧ fLn A A1 ∧ ((lawP D mb X.1 X.2.1 L ≠ 0 ∧ A1 = A) ∨ (lawP D mb X.1 X.2.1 L = 0 ∧ PsA A1 (actP b X.1 X.2.1 L).1 ∧ EnA A1 (actP b X.1 X.2.1 L).2)) := by
    rcases o3 with ⟨o4, o5, o6⟩ | ⟨o4, o5, o6⟩
    · rcases o4 with o4 | o4 | o4
      · obtain ⟨A1, g1, g2, g3, g4⟩ := c_118 (J := J) (τ := τ) (E := X.2.1) hP hS hp hb hn hD hA h75 hmb o5 ⟨rfl, o4, rfl⟩
        refine ⟨A1, ?_, g2, ?_⟩
        · rw [o4] at l3
          rw [e_126]
          simp (disch := first | omega | (simp (disch := omega) only [n_ti, Int32.reduceToInt] <;> omega)) only [k1, k2, k3, k4, k5, a1, a2, a3, a4, x1, x2, y1, y2, z1, z2, m1, m2, l1, l2, l3, l4, f114, e_126_29, j1, g1, e_126_85, n_add, nl_add, nr_add, n_mul, nl_mul, nr_mul, n_sub, nr_dec, n_div, nr_sub_1, nr_sub_2, nr_sub_3, nr_sub_4, nr_sub_7, nr_sub_10, nr_sub_11, nr_sub_20, nr_sub_48, nr_sub_97, nl_sub_3, nl_sub_4, nl_sub_12, nl_sub_24, nl_sub_32, nr_div_2, nr_div_4, z_lt, z_le, z_eq, z_cl, n_ti, Int.toNat_natCast, Int32.reduceToInt, Int32.reduceToNatClampNeg, zc_add, zc_sub, zc_add_1, zc_add_2, zc_add_3, zc_add_4, zc_add_8, zc_add_10, zc_add_12, zc_add_16, zc_add_20, zc_sub_1, zc_sub_2, zc_sub_4, zc_sub_10, zc_sub_20, zc_sub_48, zc_sub_97, zc_mul_4, t_ltZ, f_ltZ, t_leZ, f_leZ, t_eqZ, f_eqZ, t_ltN, f_ltN, t_leN, f_leN, t_eqN, f_eqN, ↓reduceIte, and_true, true_and, and_false, false_and, and_self, or_true, true_or, or_false, false_or, or_self, not_true_eq_false, not_false_eq_true, tu_same, tu_eq, tu_ne, b_V, b_I, b_J]
        · rcases g4 with ⟨u1, u2⟩ | ⟨u1, u2⟩
          · exact Or.inl ⟨u1, u2⟩
          · refine Or.inr ⟨u1, ?_, ?_⟩
            · unfold actP; rw [if_pos o4]; exact u2
            · unfold actP; rw [if_pos o4]; exact hE.tr (fun x y v w => g3 x y (by omega))
      · obtain ⟨A1, g1, g2, g3, g4⟩ := c_120 (J := J) (τ := τ) (E := X.2.1) (mb := mb) hP hS hp hn o5 ⟨rfl, o4, rfl⟩
        refine ⟨A1, ?_, g2, ?_⟩
        · rw [o4] at l3
          rw [e_126]
          simp (disch := first | omega | (simp (disch := omega) only [n_ti, Int32.reduceToInt] <;> omega)) only [k1, k2, k3, k4, k5, a1, a2, a3, a4, x1, x2, y1, y2, z1, z2, m1, m2, l1, l2, l3, l4, f114, e_126_29, j1, g1, e_126_98, n_add, nl_add, nr_add, n_mul, nl_mul, nr_mul, n_sub, nr_dec, n_div, nr_sub_1, nr_sub_2, nr_sub_3, nr_sub_4, nr_sub_7, nr_sub_10, nr_sub_11, nr_sub_20, nr_sub_48, nr_sub_97, nl_sub_3, nl_sub_4, nl_sub_12, nl_sub_24, nl_sub_32, nr_div_2, nr_div_4, z_lt, z_le, z_eq, z_cl, n_ti, Int.toNat_natCast, Int32.reduceToInt, Int32.reduceToNatClampNeg, zc_add, zc_sub, zc_add_1, zc_add_2, zc_add_3, zc_add_4, zc_add_8, zc_add_10, zc_add_12, zc_add_16, zc_add_20, zc_sub_1, zc_sub_2, zc_sub_4, zc_sub_10, zc_sub_20, zc_sub_48, zc_sub_97, zc_mul_4, t_ltZ, f_ltZ, t_leZ, f_leZ, t_eqZ, f_eqZ, t_ltN, f_ltN, t_leN, f_leN, t_eqN, f_eqN, ↓reduceIte, and_true, true_and, and_false, false_and, and_self, or_true, true_or, or_false, false_or, or_self, not_true_eq_false, not_false_eq_true, tu_same, tu_eq, tu_ne, b_V, b_I, b_J]
        · rcases g4 with ⟨u1, u2⟩ | ⟨u1, u2⟩
          · exact Or.inl ⟨u1, u2⟩
          · refine Or.inr ⟨u1, ?_, ?_⟩
            · unfold actP; rw [if_neg (by omega), if_pos o4]; exact u2
            · unfold actP; rw [if_neg (by omega), if_pos o4]; exact hE.tr (fun x y v w => g3 x y (by omega))
      · obtain ⟨A1, g1, g2, g4⟩ := c_124 (J := J) (τ := τ) (mb := mb) hP hE hS hO hp hn o5 ⟨rfl, o4, rfl⟩
        refine ⟨A1, ?_, g2, ?_⟩
        · rw [o4] at l3
          rw [e_126]
          simp (disch := first | omega | (simp (disch := omega) only [n_ti, Int32.reduceToInt] <;> omega)) only [k1, k2, k3, k4, k5, a1, a2, a3, a4, x1, x2, y1, y2, z1, z2, m1, m2, l1, l2, l3, l4, f114, e_126_29, j1, g1, e_126_133, n_add, nl_add, nr_add, n_mul, nl_mul, nr_mul, n_sub, nr_dec, n_div, nr_sub_1, nr_sub_2, nr_sub_3, nr_sub_4, nr_sub_7, nr_sub_10, nr_sub_11, nr_sub_20, nr_sub_48, nr_sub_97, nl_sub_3, nl_sub_4, nl_sub_12, nl_sub_24, nl_sub_32, nr_div_2, nr_div_4, z_lt, z_le, z_eq, z_cl, n_ti, Int.toNat_natCast, Int32.reduceToInt, Int32.reduceToNatClampNeg, zc_add, zc_sub, zc_add_1, zc_add_2, zc_add_3, zc_add_4, zc_add_8, zc_add_10, zc_add_12, zc_add_16, zc_add_20, zc_sub_1, zc_sub_2, zc_sub_4, zc_sub_10, zc_sub_20, zc_sub_48, zc_sub_97, zc_mul_4, t_ltZ, f_ltZ, t_leZ, f_leZ, t_eqZ, f_eqZ, t_ltN, f_ltN, t_leN, f_leN, t_eqN, f_eqN, ↓reduceIte, and_true, true_and, and_false, false_and, and_self, or_true, true_or, or_false, false_or, or_self, not_true_eq_false, not_false_eq_true, tu_same, tu_eq, tu_ne, b_V, b_I, b_J]
        · rcases g4 with ⟨u1, u2⟩ | ⟨u1, u2, u3⟩
          · exact Or.inl ⟨u1, u2⟩
          · refine Or.inr ⟨u1, ?_, ?_⟩
            · unfold actP; rw [if_neg (by omega), if_neg (by omega), if_neg (by omega)]; exact u2
            · unfold actP; rw [if_neg (by omega), if_neg (by omega), if_neg (by omega)]; exact u3
    · obtain ⟨A1, g1, g2, g3, g4⟩ := c_123 (J := J) (τ := τ) (E := X.2.1) (mb := mb) hP hS hp hb hn hD hA o5 o6 ⟨rfl, o4, rfl, rfl⟩
      refine ⟨A1, ?_, g2, ?_⟩
      · rw [o4] at l3
        rw [e_126]
        simp (disch := first | omega | (simp (disch := omega) only [n_ti, Int32.reduceToInt] <;> omega)) only [k1, k2, k3, k4, k5, k6, a1, a2, a3, a4, x1, x2, y1, y2, z1, z2, m1, m2, n1, n2, l1, l2, l3, l4, l5, f114, e_126_29, j1, g1, e_126_120, n_add, nl_add, nr_add, n_mul, nl_mul, nr_mul, n_sub, nr_dec, n_div, nr_sub_1, nr_sub_2, nr_sub_3, nr_sub_4, nr_sub_7, nr_sub_10, nr_sub_11, nr_sub_20, nr_sub_48, nr_sub_97, nl_sub_3, nl_sub_4, nl_sub_12, nl_sub_24, nl_sub_32, nr_div_2, nr_div_4, z_lt, z_le, z_eq, z_cl, n_ti, Int.toNat_natCast, Int32.reduceToInt, Int32.reduceToNatClampNeg, zc_add, zc_sub, zc_add_1, zc_add_2, zc_add_3, zc_add_4, zc_add_8, zc_add_10, zc_add_12, zc_add_16, zc_add_20, zc_sub_1, zc_sub_2, zc_sub_4, zc_sub_10, zc_sub_20, zc_sub_48, zc_sub_97, zc_mul_4, t_ltZ, f_ltZ, t_leZ, f_leZ, t_eqZ, f_eqZ, t_ltN, f_ltN, t_leN, f_leN, t_eqN, f_eqN, ↓reduceIte, and_true, true_and, and_false, false_and, and_self, or_true, true_or, or_false, false_or, or_self, not_true_eq_false, not_false_eq_true, tu_same, tu_eq, tu_ne, b_V, b_I, b_J]
      · rcases g4 with ⟨u1, u2⟩ | ⟨u1, u2⟩
        · exact Or.inl ⟨u1, u2⟩
        · refine Or.inr ⟨u1, ?_, ?_⟩
          · unfold actP; rw [if_neg (by omega), if_neg (by omega), if_pos o4]; exact u2
          · unfold actP; rw [if_neg (by omega), if_neg (by omega), if_pos o4]; exact hE.tr (fun x y v w => g3 x y (by omega))
  obtain ⟨A1, g1, g2, g3⟩ := key
  rw [g1, e_126_135]
  unfold lineP
  rcases g3 with ⟨u1, u2⟩ | ⟨u1, u2, u3⟩
  · rw [if_neg u1]
    subst u2
    obtain ⟨A2, p1, p2, p3⟩ := c_125 (J := J) (τ := τ) hM hms b (lawP D mb X.1 X.2.1 L) L.2.1
    refine ⟨A2, ?_, ⟨hP.tr (fun x y v w => p3 x y (by omega) (by omega)), hE.tr (fun x y v w => p3 x y (by omega) (by omega)), p2⟩, fun x y v w z => p3 x y w z⟩
    simp (disch := first | omega | (simp (disch := omega) only [n_ti, Int32.reduceToInt] <;> omega)) only [p1, e_126_153, n_add, nl_add, nr_add, n_mul, nl_mul, nr_mul, n_sub, nr_dec, n_div, nr_sub_1, nr_sub_2, nr_sub_3, nr_sub_4, nr_sub_7, nr_sub_10, nr_sub_11, nr_sub_20, nr_sub_48, nr_sub_97, nl_sub_3, nl_sub_4, nl_sub_12, nl_sub_24, nl_sub_32, nr_div_2, nr_div_4, z_lt, z_le, z_eq, z_cl, n_ti, Int.toNat_natCast, Int32.reduceToInt, Int32.reduceToNatClampNeg, zc_add, zc_sub, zc_add_1, zc_add_2, zc_add_3, zc_add_4, zc_add_8, zc_add_10, zc_add_12, zc_add_16, zc_add_20, zc_sub_1, zc_sub_2, zc_sub_4, zc_sub_10, zc_sub_20, zc_sub_48, zc_sub_97, zc_mul_4, t_ltZ, f_ltZ, t_leZ, f_leZ, t_eqZ, f_eqZ, t_ltN, f_ltN, t_leN, f_leN, t_eqN, f_eqN, ↓reduceIte, and_true, true_and, and_false, false_and, and_self, or_true, true_or, or_false, false_or, or_self, not_true_eq_false, not_false_eq_true, tu_same, tu_eq, tu_ne, b_V, b_I, b_J]
  · rw [if_pos u1, u1]
    refine ⟨A1, ?_, ⟨u2, u3, hM.tr (fun x y v => g2 x y (by omega))⟩, fun x y v w z => g2 x y v⟩
    simp (disch := first | omega | (simp (disch := omega) only [n_ti, Int32.reduceToInt] <;> omega)) only [e_126_153, n_add, nl_add, nr_add, n_mul, nl_mul, nr_mul, n_sub, nr_dec, n_div, nr_sub_1, nr_sub_2, nr_sub_3, nr_sub_4, nr_sub_7, nr_sub_10, nr_sub_11, nr_sub_20, nr_sub_48, nr_sub_97, nl_sub_3, nl_sub_4, nl_sub_12, nl_sub_24, nl_sub_32, nr_div_2, nr_div_4, z_lt, z_le, z_eq, z_cl, n_ti, Int.toNat_natCast, Int32.reduceToInt, Int32.reduceToNatClampNeg, zc_add, zc_sub, zc_add_1, zc_add_2, zc_add_3, zc_add_4, zc_add_8, zc_add_10, zc_add_12, zc_add_16, zc_add_20, zc_sub_1, zc_sub_2, zc_sub_4, zc_sub_10, zc_sub_20, zc_sub_48, zc_sub_97, zc_mul_4, t_ltZ, f_ltZ, t_leZ, f_leZ, t_eqZ, f_eqZ, t_ltN, f_ltN, t_leN, f_leN, t_eqN, f_eqN, ↓reduceIte, and_true, true_and, and_false, false_and, and_self, or_true, true_or, or_false, false_or, or_self, not_true_eq_false, not_false_eq_true, tu_same, tu_eq, tu_ne, b_V, b_I, b_J]
