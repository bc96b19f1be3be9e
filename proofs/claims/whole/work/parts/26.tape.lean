/-! the bytes on the TAPE: feed, end -/
def RTape (I : Nat → Nat → Int32) : Prop := ∃ n : Nat, n ≤ 1400 ∧ I 2 11 = nI n ∧ I 131 2 = nI n ∧ ∀ k, k < n → I 3 k = I 132 k ∧ -128 ≤ (I 3 k).toInt ∧ (I 3 k).toInt ≤ 127
theorem RTape.tr {I I' : Nat → Nat → Int32} (h : RTape I) (f : ∀ a k, (a = 2 ∧ k = 11) ∨ (a = 131 ∧ k = 2) ∨ a = 3 ∨ a = 132 → I' a k = I a k) : RTape I' := by
  obtain ⟨n, hn, h1, h2, h3⟩ := h
  refine ⟨n, hn, (f _ _ (by omega)).trans h1, (f _ _ (by omega)).trans h2, fun k hk => ?_⟩
  rw [f 3 k (by omega), f 132 k (by omega)]
  exact h3 k hk
theorem p_end {I : Nat → Nat → Int32} {J : Nat → Nat → Int64} {τ : tm_Tu} (x : Int32) (h : RTape I) : ∃ r I1 I2, F_17 [.ref 2, .int x] (mk I J τ) = some (some (.int r), mk I1 J τ) ∧ F_18 [.ref 131, .int x] (mk I1 J τ) = some (some (.int r), mk I2 J τ) ∧ RTape I2 ∧ (∀ a k, ¬ (a = 2 ∧ k = 11) → ¬ (a = 131 ∧ k = 2) → I2 a k = I a k) := by
  obtain ⟨n, hn, h1, h2, h3⟩ := h
  by_cases c0 : x.toInt < 0
  · refine ⟨-1, I, I, ?_, ?_, ⟨n, hn, h1, h2, h3⟩, fun _ _ _ _ => rfl⟩
    · simp (disch := omega) only [e_17, e_17_12, h1, h2, n_add, nl_add, nr_add, n_mul, nl_mul, nr_mul, n_sub, nl_sub, nr_sub, nr_dec, nr_div, n_div, z_lt, z_le, z_eq, z_cl, n_ti, Int.toNat_natCast, Int32.reduceToInt, Int32.reduceToNatClampNeg, zc_add, zc_sub, zc_addl, zc_subl, zc_mull, t_ltZ, f_ltZ, t_leZ, f_leZ, t_eqZ, f_eqZ, t_ltN, f_ltN, t_leN, f_leN, t_eqN, f_eqN, ↓reduceIte, and_true, true_and, and_false, false_and, and_self, or_true, true_or, or_false, false_or, or_self, not_true_eq_false, not_false_eq_true, tu_same, tu_eq, tu_ne, b_V, b_I, b_J]
    · simp (disch := omega) only [e_18, e_18_12, h1, h2, n_add, nl_add, nr_add, n_mul, nl_mul, nr_mul, n_sub, nl_sub, nr_sub, nr_dec, nr_div, n_div, z_lt, z_le, z_eq, z_cl, n_ti, Int.toNat_natCast, Int32.reduceToInt, Int32.reduceToNatClampNeg, zc_add, zc_sub, zc_addl, zc_subl, zc_mull, t_ltZ, f_ltZ, t_leZ, f_leZ, t_eqZ, f_eqZ, t_ltN, f_ltN, t_leN, f_leN, t_eqN, f_eqN, ↓reduceIte, and_true, true_and, and_false, false_and, and_self, or_true, true_or, or_false, false_or, or_self, not_true_eq_false, not_false_eq_true, tu_same, tu_eq, tu_ne, b_V, b_I, b_J]
  · obtain ⟨q, hq, rfl⟩ := n_of (Int.not_lt.mp c0)
    by_cases c : q ≤ n
    · refine ⟨nI q, tm_u I 2 11 (nI q), tm_u (tm_u I 2 11 (nI q)) 131 2 (nI q), ?_, ?_, ?_, ?_⟩
      · simp (disch := omega) only [e_17, e_17_12, h1, h2, n_add, nl_add, nr_add, n_mul, nl_mul, nr_mul, n_sub, nl_sub, nr_sub, nr_dec, nr_div, n_div, z_lt, z_le, z_eq, z_cl, n_ti, Int.toNat_natCast, Int32.reduceToInt, Int32.reduceToNatClampNeg, zc_add, zc_sub, zc_addl, zc_subl, zc_mull, t_ltZ, f_ltZ, t_leZ, f_leZ, t_eqZ, f_eqZ, t_ltN, f_ltN, t_leN, f_leN, t_eqN, f_eqN, ↓reduceIte, and_true, true_and, and_false, false_and, and_self, or_true, true_or, or_false, false_or, or_self, not_true_eq_false, not_false_eq_true, tu_same, tu_eq, tu_ne, b_V, b_I, b_J]
      · simp (disch := omega) only [e_18, e_18_12, h1, h2, n_add, nl_add, nr_add, n_mul, nl_mul, nr_mul, n_sub, nl_sub, nr_sub, nr_dec, nr_div, n_div, z_lt, z_le, z_eq, z_cl, n_ti, Int.toNat_natCast, Int32.reduceToInt, Int32.reduceToNatClampNeg, zc_add, zc_sub, zc_addl, zc_subl, zc_mull, t_ltZ, f_ltZ, t_leZ, f_leZ, t_eqZ, f_eqZ, t_ltN, f_ltN, t_leN, f_leN, t_eqN, f_eqN, ↓reduceIte, and_true, true_and, and_false, false_and, and_self, or_true, true_or, or_false, false_or, or_self, not_true_eq_false, not_false_eq_true, tu_same, tu_eq, tu_ne, b_V, b_I, b_J]
      · refine ⟨q, by omega, by simp (disch := omega) only [tu_same, tu_eq, tu_ne], by simp (disch := omega) only [tu_same, tu_eq, tu_ne], fun k hk => ?_⟩
        simp (disch := omega) only [tu_same, tu_eq, tu_ne]
        exact h3 k (by omega)
      · intro a k ha hb
        simp (disch := omega) only [tu_same, tu_eq, tu_ne]
    · refine ⟨-1, I, I, ?_, ?_, ⟨n, hn, h1, h2, h3⟩, fun _ _ _ _ => rfl⟩
      · simp (disch := omega) only [e_17, e_17_12, h1, h2, n_add, nl_add, nr_add, n_mul, nl_mul, nr_mul, n_sub, nl_sub, nr_sub, nr_dec, nr_div, n_div, z_lt, z_le, z_eq, z_cl, n_ti, Int.toNat_natCast, Int32.reduceToInt, Int32.reduceToNatClampNeg, zc_add, zc_sub, zc_addl, zc_subl, zc_mull, t_ltZ, f_ltZ, t_leZ, f_leZ, t_eqZ, f_eqZ, t_ltN, f_ltN, t_leN, f_leN, t_eqN, f_eqN, ↓reduceIte, and_true, true_and, and_false, false_and, and_self, or_true, true_or, or_false, false_or, or_self, not_true_eq_false, not_false_eq_true, tu_same, tu_eq, tu_ne, b_V, b_I, b_J]
      · simp (disch := omega) only [e_18, e_18_12, h1, h2, n_add, nl_add, nr_add, n_mul, nl_mul, nr_mul, n_sub, nl_sub, nr_sub, nr_dec, nr_div, n_div, z_lt, z_le, z_eq, z_cl, n_ti, Int.toNat_natCast, Int32.reduceToInt, Int32.reduceToNatClampNeg, zc_add, zc_sub, zc_addl, zc_subl, zc_mull, t_ltZ, f_ltZ, t_leZ, f_leZ, t_eqZ, f_eqZ, t_ltN, f_ltN, t_leN, f_leN, t_eqN, f_eqN, ↓reduceIte, and_true, true_and, and_false, false_and, and_self, or_true, true_or, or_false, false_or, or_self, not_true_eq_false, not_false_eq_true, tu_same, tu_eq, tu_ne, b_V, b_I, b_J]
/-- byte i of a number, as the model takes it -/
def fb (x : Int32) (i : Nat) : Int32 := ((x >>> ((24 - (8 * (nI i &&& 3))) &&& 31)).toInt8.toInt32).toInt8.toInt32
def fsel (a b c d e : Int32) (i : Nat) : Int32 := if i < 4 then a else if i < 8 then b else if i < 12 then c else if i < 16 then d else e
theorem fb_rng (x : Int32) (i : Nat) : -128 ≤ (fb x i).toInt ∧ (fb x i).toInt ≤ 127 := by
  have h := Int8.toInt_lt ((x >>> ((24 - (8 * (nI i &&& 3))) &&& 31)).toInt8.toInt32).toInt8
  have g := Int8.le_toInt ((x >>> ((24 - (8 * (nI i &&& 3))) &&& 31)).toInt8.toInt32).toInt8
  have e : (fb x i).toInt = (((x >>> ((24 - (8 * (nI i &&& 3))) &&& 31)).toInt8.toInt32).toInt8).toInt := Int8.toInt_toInt32 _
  rw [e]
  omega
theorem l_16_sel {I : Nat → Nat → Int32} {J : Nat → Nat → Int64} {τ : tm_Tu} (a b c d e : Int32) (k : Nat) (hk : k < 20) : R_16 18 [(0, .ref 131), (1, .int a), (2, .int b), (3, .int c), (4, .int d), (5, .int e), (6, .int (nI k))] [] (mk I J τ) = R_16 71 [(0, .ref 131), (1, .int a), (2, .int b), (3, .int c), (4, .int d), (5, .int e), (6, .int (nI k))] [.int (fsel a b c d e k)] (mk I J τ) := by
  rw [e_16_18]
  unfold fsel
  by_cases c1 : k < 4
  · simp (disch := omega) only [n_add, nl_add, nr_add, n_mul, nl_mul, nr_mul, n_sub, nl_sub, nr_sub, nr_dec, nr_div, n_div, z_lt, z_le, z_eq, z_cl, n_ti, Int.toNat_natCast, Int32.reduceToInt, Int32.reduceToNatClampNeg, zc_add, zc_sub, zc_addl, zc_subl, zc_mull, t_ltZ, f_ltZ, t_leZ, f_leZ, t_eqZ, f_eqZ, t_ltN, f_ltN, t_leN, f_leN, t_eqN, f_eqN, ↓reduceIte, and_true, true_and, and_false, false_and, and_self, or_true, true_or, or_false, false_or, or_self, not_true_eq_false, not_false_eq_true, tu_same, tu_eq, tu_ne, b_V, b_I, b_J]
  · by_cases c2 : k < 8
    · simp (disch := omega) only [n_add, nl_add, nr_add, n_mul, nl_mul, nr_mul, n_sub, nl_sub, nr_sub, nr_dec, nr_div, n_div, z_lt, z_le, z_eq, z_cl, n_ti, Int.toNat_natCast, Int32.reduceToInt, Int32.reduceToNatClampNeg, zc_add, zc_sub, zc_addl, zc_subl, zc_mull, t_ltZ, f_ltZ, t_leZ, f_leZ, t_eqZ, f_eqZ, t_ltN, f_ltN, t_leN, f_leN, t_eqN, f_eqN, ↓reduceIte, and_true, true_and, and_false, false_and, and_self, or_true, true_or, or_false, false_or, or_self, not_true_eq_false, not_false_eq_true, tu_same, tu_eq, tu_ne, b_V, b_I, b_J]
    · by_cases c3 : k < 12
      · simp (disch := omega) only [n_add, nl_add, nr_add, n_mul, nl_mul, nr_mul, n_sub, nl_sub, nr_sub, nr_dec, nr_div, n_div, z_lt, z_le, z_eq, z_cl, n_ti, Int.toNat_natCast, Int32.reduceToInt, Int32.reduceToNatClampNeg, zc_add, zc_sub, zc_addl, zc_subl, zc_mull, t_ltZ, f_ltZ, t_leZ, f_leZ, t_eqZ, f_eqZ, t_ltN, f_ltN, t_leN, f_leN, t_eqN, f_eqN, ↓reduceIte, and_true, true_and, and_false, false_and, and_self, or_true, true_or, or_false, false_or, or_self, not_true_eq_false, not_false_eq_true, tu_same, tu_eq, tu_ne, b_V, b_I, b_J]
      · by_cases c4 : k < 16
        · simp (disch := omega) only [n_add, nl_add, nr_add, n_mul, nl_mul, nr_mul, n_sub, nl_sub, nr_sub, nr_dec, nr_div, n_div, z_lt, z_le, z_eq, z_cl, n_ti, Int.toNat_natCast, Int32.reduceToInt, Int32.reduceToNatClampNeg, zc_add, zc_sub, zc_addl, zc_subl, zc_mull, t_ltZ, f_ltZ, t_leZ, f_leZ, t_eqZ, f_eqZ, t_ltN, f_ltN, t_leN, f_leN, t_eqN, f_eqN, ↓reduceIte, and_true, true_and, and_false, false_and, and_self, or_true, true_or, or_false, false_or, or_self, not_true_eq_false, not_false_eq_true, tu_same, tu_eq, tu_ne, b_V, b_I, b_J]
        · simp (disch := omega) only [n_add, nl_add, nr_add, n_mul, nl_mul, nr_mul, n_sub, nl_sub, nr_sub, nr_dec, nr_div, n_div, z_lt, z_le, z_eq, z_cl, n_ti, Int.toNat_natCast, Int32.reduceToInt, Int32.reduceToNatClampNeg, zc_add, zc_sub, zc_addl, zc_subl, zc_mull, t_ltZ, f_ltZ, t_leZ, f_leZ, t_eqZ, f_eqZ, t_ltN, f_ltN, t_leN, f_leN, t_eqN, f_eqN, ↓reduceIte, and_true, true_and, and_false, false_and, and_self, or_true, true_or, or_false, false_or, or_self, not_true_eq_false, not_false_eq_true, tu_same, tu_eq, tu_ne, b_V, b_I, b_J]
theorem l_16 {J : Nat → Nat → Int64} {τ : tm_Tu} (a b c d e : Int32) (n : Nat) (hn : n ≤ 1380) : ∀ m k, k + m = 20 → ∀ I : Nat → Nat → Int32, I 131 2 = nI n → ∃ I' : Nat → Nat → Int32, R_16 18 [(0, .ref 131), (1, .int a), (2, .int b), (3, .int c), (4, .int d), (5, .int e), (6, .int (nI k))] [] (mk I J τ) = some (some (.int (nI (n + 20))), mk I' J τ) ∧ I' 131 2 = nI (n + 20) ∧ (∀ i, k ≤ i → i < 20 → I' 132 (n + i) = fb (fsel a b c d e i) i) ∧ (∀ x y, ¬ (x = 131 ∧ y = 2) → ¬ (x = 132 ∧ n + k ≤ y ∧ y < n + 20) → I' x y = I x y) := by
  intro m
  induction m with
  | zero =>
    intro k hk I hI
    refine ⟨tm_u I 131 2 (nI (n + 20)), ?_, by simp (disch := omega) only [tu_same, tu_eq, tu_ne], fun i h1 h2 => by omega, fun x y h1 h2 => by simp (disch := omega) only [tu_same, tu_eq, tu_ne]⟩
    rw [e_16_18]
    simp (disch := omega) only [hI, n_add, nl_add, nr_add, n_mul, nl_mul, nr_mul, n_sub, nl_sub, nr_sub, nr_dec, nr_div, n_div, z_lt, z_le, z_eq, z_cl, n_ti, Int.toNat_natCast, Int32.reduceToInt, Int32.reduceToNatClampNeg, zc_add, zc_sub, zc_addl, zc_subl, zc_mull, t_ltZ, f_ltZ, t_leZ, f_leZ, t_eqZ, f_eqZ, t_ltN, f_ltN, t_leN, f_leN, t_eqN, f_eqN, ↓reduceIte, and_true, true_and, and_false, false_and, and_self, or_true, true_or, or_false, false_or, or_self, not_true_eq_false, not_false_eq_true, tu_same, tu_eq, tu_ne, b_V, b_I, b_J]
  | succ m ih =>
    intro k hk I hI
    obtain ⟨I', g1, g2, g3, g4⟩ := ih (k + 1) (by omega) (tm_u I 132 (n + k) (fb (fsel a b c d e k) k)) (by simp (disch := omega) only [hI, tu_same, tu_eq, tu_ne])
    refine ⟨I', ?_, g2, fun i h1 h2 => ?_, fun x y h1 h2 => ?_⟩
    · rw [l_16_sel a b c d e k (by omega), e_16_71, ← g1]
      simp (disch := omega) only [hI, fb, n_add, nl_add, nr_add, n_mul, nl_mul, nr_mul, n_sub, nl_sub, nr_sub, nr_dec, nr_div, n_div, z_lt, z_le, z_eq, z_cl, n_ti, Int.toNat_natCast, Int32.reduceToInt, Int32.reduceToNatClampNeg, zc_add, zc_sub, zc_addl, zc_subl, zc_mull, t_ltZ, f_ltZ, t_leZ, f_leZ, t_eqZ, f_eqZ, t_ltN, f_ltN, t_leN, f_leN, t_eqN, f_eqN, ↓reduceIte, and_true, true_and, and_false, false_and, and_self, or_true, true_or, or_false, false_or, or_self, not_true_eq_false, not_false_eq_true, tu_same, tu_eq, tu_ne, b_V, b_I, b_J]
    · by_cases hi : i = k
      · subst hi
        rw [g4 132 (n + i) (by omega) (by omega)]
        simp (disch := omega) only [tu_same, tu_eq, tu_ne]
      · exact g3 i (by omega) h2
    · rw [g4 x y h1 (by omega)]
      simp (disch := omega) only [tu_same, tu_eq, tu_ne]
theorem fb_mod (x : Int32) (i : Nat) (h : i < 20) : fb x i = fb x (i % 4) := by
  unfold fb
  rw [pk_andN (n := i) (m := 3) (by omega) 2 (by decide), pk_andN (n := i % 4) (m := 3) (by omega) 2 (by decide), show i % 4 % 2 ^ 2 = i % 2 ^ 2 by omega]
theorem fb_0 (x : Int32) : fb x 0 = ((x >>> 24 : Int32).toInt8.toInt32 : Int32).toInt8.toInt32 := by
  unfold fb
  rw [show ((24 - (8 * (nI 0 &&& 3))) &&& 31 : Int32) = 24 by decide]
theorem fb_1 (x : Int32) : fb x 1 = ((x >>> 16 : Int32).toInt8.toInt32 : Int32).toInt8.toInt32 := by
  unfold fb
  rw [show ((24 - (8 * (nI 1 &&& 3))) &&& 31 : Int32) = 16 by decide]
theorem fb_2 (x : Int32) : fb x 2 = ((x >>> 8 : Int32).toInt8.toInt32 : Int32).toInt8.toInt32 := by
  unfold fb
  rw [show ((24 - (8 * (nI 2 &&& 3))) &&& 31 : Int32) = 8 by decide]
theorem fb_3 (x : Int32) : fb x 3 = (x.toInt8.toInt32 : Int32).toInt8.toInt32 := by
  unfold fb
  rw [show ((24 - (8 * (nI 3 &&& 3))) &&& 31 : Int32) = 0 by decide, show x >>> (0 : Int32) = x from Int32.toInt_inj.1 (by rw [pk_shr x 0 0 (by decide)]; exact Int.shiftRight_zero _)]
theorem s_14 {I : Nat → Nat → Int32} {J : Nat → Nat → Int64} {τ : tm_Tu} (n : Nat) (x : Int32) (h : n + 4 ≤ 1400) : F_14 [.ref 2, .int (nI n), .int x] (mk I J τ) = some (none, mk (tm_u (tm_u (tm_u (tm_u I 3 n (fb x 0)) 3 (n + 1) (fb x 1)) 3 (n + 2) (fb x 2)) 3 (n + 3) (fb x 3)) J τ) := by
  rw [fb_0, fb_1, fb_2, fb_3, e_14]
  simp (disch := omega) only [e_14_11, n_add, nl_add, nr_add, n_mul, nl_mul, nr_mul, n_sub, nl_sub, nr_sub, nr_dec, nr_div, n_div, z_lt, z_le, z_eq, z_cl, n_ti, Int.toNat_natCast, Int32.reduceToInt, Int32.reduceToNatClampNeg, zc_add, zc_sub, zc_addl, zc_subl, zc_mull, t_ltZ, f_ltZ, t_leZ, f_leZ, t_eqZ, f_eqZ, t_ltN, f_ltN, t_leN, f_leN, t_eqN, f_eqN, ↓reduceIte, and_true, true_and, and_false, false_and, and_self, or_true, true_or, or_false, false_or, or_self, not_true_eq_false, not_false_eq_true, tu_same, tu_eq, tu_ne, b_V, b_I, b_J]
set_option maxHeartbeats 4000000 in
theorem s_15 {I : Nat → Nat → Int32} {J : Nat → Nat → Int64} {τ : tm_Tu} (n : Nat) (a b c d e : Int32) (h : n ≤ 1380) (h1 : I 2 11 = nI n) : ∃ I' : Nat → Nat → Int32, F_15 [.ref 2, .int a, .int b, .int c, .int d, .int e] (mk I J τ) = some (some (.int (nI (n + 20))), mk I' J τ) ∧ I' 2 11 = nI (n + 20) ∧ (∀ i, i < 20 → I' 3 (n + i) = fb (fsel a b c d e i) i) ∧ (∀ x y, ¬ (x = 2 ∧ y = 11) → ¬ (x = 3 ∧ n ≤ y ∧ y < n + 20) → I' x y = I x y) := by
  refine ⟨?_, ?_, ?_, ?_, ?_⟩
  rotate_left
  · simp (disch := omega) only [e_15, e_15_21, e_15_32, e_15_44, e_15_57, e_15_70, s_14, h1, n_add, nl_add, nr_add, n_mul, nl_mul, nr_mul, n_sub, nl_sub, nr_sub, nr_dec, nr_div, n_div, z_lt, z_le, z_eq, z_cl, n_ti, Int.toNat_natCast, Int32.reduceToInt, Int32.reduceToNatClampNeg, zc_add, zc_sub, zc_addl, zc_subl, zc_mull, t_ltZ, f_ltZ, t_leZ, f_leZ, t_eqZ, f_eqZ, t_ltN, f_ltN, t_leN, f_leN, t_eqN, f_eqN, ↓reduceIte, and_true, true_and, and_false, false_and, and_self, or_true, true_or, or_false, false_or, or_self, not_true_eq_false, not_false_eq_true, tu_same, tu_eq, tu_ne, b_V, b_I, b_J]
    rfl
  · simp (disch := omega) only [h1, n_add, nl_add, nr_add, n_mul, nl_mul, nr_mul, n_sub, nl_sub, nr_sub, nr_dec, nr_div, n_div, z_lt, z_le, z_eq, z_cl, n_ti, Int.toNat_natCast, Int32.reduceToInt, Int32.reduceToNatClampNeg, zc_add, zc_sub, zc_addl, zc_subl, zc_mull, t_ltZ, f_ltZ, t_leZ, f_leZ, t_eqZ, f_eqZ, t_ltN, f_ltN, t_leN, f_leN, t_eqN, f_eqN, ↓reduceIte, and_true, true_and, and_false, false_and, and_self, or_true, true_or, or_false, false_or, or_self, not_true_eq_false, not_false_eq_true, tu_same, tu_eq, tu_ne, b_V, b_I, b_J]
  · intro i hi
    have hc : i = 0 ∨ i = 1 ∨ i = 2 ∨ i = 3 ∨ i = 4 ∨ i = 5 ∨ i = 6 ∨ i = 7 ∨ i = 8 ∨ i = 9 ∨ i = 10 ∨ i = 11 ∨ i = 12 ∨ i = 13 ∨ i = 14 ∨ i = 15 ∨ i = 16 ∨ i = 17 ∨ i = 18 ∨ i = 19 := by omega
    rw [fb_mod _ i hi]
    rcases hc with rfl | rfl | rfl | rfl | rfl | rfl | rfl | rfl | rfl | rfl | rfl | rfl | rfl | rfl | rfl | rfl | rfl | rfl | rfl | rfl <;> (simp (disch := omega) only [tu_same, tu_eq, tu_ne]; rfl)
  · intro x y hx hy
    simp (disch := omega) only [tu_same, tu_eq, tu_ne]
theorem p_feed {I : Nat → Nat → Int32} {J : Nat → Nat → Int64} {τ : tm_Tu} (a b c d e : Int32) (h : RTape I) : ∃ r I1 I2, F_15 [.ref 2, .int a, .int b, .int c, .int d, .int e] (mk I J τ) = some (some (.int r), mk I1 J τ) ∧ F_16 [.ref 131, .int a, .int b, .int c, .int d, .int e] (mk I1 J τ) = some (some (.int r), mk I2 J τ) ∧ RTape I2 ∧ (∀ a k, ¬ (a = 2 ∧ k = 11) → ¬ (a = 131 ∧ k = 2) → a ≠ 3 → a ≠ 132 → I2 a k = I a k) := by
  obtain ⟨n, hn, h1, h2, h3⟩ := h
  by_cases c0 : n ≤ 1380
  · obtain ⟨I1, f1, f2, f3, f4⟩ := s_15 (J := J) (τ := τ) n a b c d e c0 h1
    obtain ⟨I2, g1, g2, g3, g4⟩ := l_16 (J := J) (τ := τ) a b c d e n c0 20 0 rfl I1 ((f4 _ _ (by omega) (by omega)).trans h2)
    refine ⟨_, I1, I2, f1, ?_, ⟨n + 20, by omega, ?_, g2, fun k hk => ?_⟩, fun x y h1 h2 h3 h4 => ?_⟩
    · rw [← g1, e_16]
      simp (disch := omega) only [(f4 131 2 (by omega) (by omega)).trans h2, n_add, nl_add, nr_add, n_mul, nl_mul, nr_mul, n_sub, nl_sub, nr_sub, nr_dec, nr_div, n_div, z_lt, z_le, z_eq, z_cl, n_ti, Int.toNat_natCast, Int32.reduceToInt, Int32.reduceToNatClampNeg, zc_add, zc_sub, zc_addl, zc_subl, zc_mull, t_ltZ, f_ltZ, t_leZ, f_leZ, t_eqZ, f_eqZ, t_ltN, f_ltN, t_leN, f_leN, t_eqN, f_eqN, ↓reduceIte, and_true, true_and, and_false, false_and, and_self, or_true, true_or, or_false, false_or, or_self, not_true_eq_false, not_false_eq_true, tu_same, tu_eq, tu_ne, b_V, b_I, b_J]
      rfl
    · rw [g4 _ _ (by omega) (by omega)]
      exact f2
    · rw [g4 3 k (by omega) (by omega)]
      by_cases hk' : k < n
      · rw [g4 132 k (by omega) (by omega), f4 132 k (by omega) (by omega), f4 3 k (by omega) (by omega)]
        exact h3 k hk'
      · obtain ⟨i, rfl⟩ : ∃ i, k = n + i := ⟨k - n, by omega⟩
        rw [g3 i (by omega) (by omega), f3 i (by omega)]
        exact ⟨rfl, fb_rng _ _⟩
    · rw [g4 x y h2 (by omega), f4 x y h1 (by omega)]
  · refine ⟨-1, I, I, ?_, ?_, ⟨n, hn, h1, h2, h3⟩, fun _ _ _ _ _ _ => rfl⟩
    · simp (disch := omega) only [e_15, h1, n_add, nl_add, nr_add, n_mul, nl_mul, nr_mul, n_sub, nl_sub, nr_sub, nr_dec, nr_div, n_div, z_lt, z_le, z_eq, z_cl, n_ti, Int.toNat_natCast, Int32.reduceToInt, Int32.reduceToNatClampNeg, zc_add, zc_sub, zc_addl, zc_subl, zc_mull, t_ltZ, f_ltZ, t_leZ, f_leZ, t_eqZ, f_eqZ, t_ltN, f_ltN, t_leN, f_leN, t_eqN, f_eqN, ↓reduceIte, and_true, true_and, and_false, false_and, and_self, or_true, true_or, or_false, false_or, or_self, not_true_eq_false, not_false_eq_true, tu_same, tu_eq, tu_ne, b_V, b_I, b_J]
    · simp (disch := omega) only [e_16, h2, n_add, nl_add, nr_add, n_mul, nl_mul, nr_mul, n_sub, nl_sub, nr_sub, nr_dec, nr_div, n_div, z_lt, z_le, z_eq, z_cl, n_ti, Int.toNat_natCast, Int32.reduceToInt, Int32.reduceToNatClampNeg, zc_add, zc_sub, zc_addl, zc_subl, zc_mull, t_ltZ, f_ltZ, t_leZ, f_leZ, t_eqZ, f_eqZ, t_ltN, f_ltN, t_leN, f_leN, t_eqN, f_eqN, ↓reduceIte, and_true, true_and, and_false, false_and, and_self, or_true, true_or, or_false, false_or, or_self, not_true_eq_false, not_false_eq_true, tu_same, tu_eq, tu_ne, b_V, b_I, b_J]
