/-! reading: the head of a trick (model) -/
def fr (B B' : Nat → Nat → Int32) (m : Nat) : Prop := ∀ a y, ¬ (a = 131 ∧ 4 ≤ y ∧ y ≤ 9) → ¬ inB m a y → B' a y = B a y
def jr (J J' : Nat → Nat → Int64) (m : Nat) : Prop := ∀ a y, ¬ (a = 131 ∧ y = 10) → ¬ (a = 134 ∧ y = m) → J' a y = J a y
theorem fr.u {B B1 : Nat → Nat → Int32} {m : Nat} (h : fr B B1 m) (a y : Nat) (v : Int32) (hi : inB m a y) : fr B (tm_u B1 a y v) m := by
  intro a' y' u w
  by_cases e : a' = a ∧ y' = y
  · obtain ⟨rfl, rfl⟩ := e
    exact absurd hi w
  · simp (disch := omega) only [tu_same, tu_eq, tu_ne]
    exact h a' y' u w
theorem fr.b {B B1 : Nat → Nat → Int32} {m : Nat} (h : fr B B1 m) (x y : Int32) : fr B (tm_u (tm_u B1 131 4 x) 131 5 y) m := by
  intro a' y' u w
  simp (disch := omega) only [tu_same, tu_eq, tu_ne]
  exact h a' y' u w
theorem fr.mo {B B1 B2 : Nat → Nat → Int32} {J1 J2 : Nat → Nat → Int64} {m : Nat} (h : fr B B1 m) (g : moF B1 B2 J1 J2) : fr B B2 m := fun a y u w => (g.1 a y u).trans (h a y u w)
theorem jr.mo {B1 B2 : Nat → Nat → Int32} {J J1 J2 : Nat → Nat → Int64} {m : Nat} (h : jr J J1 m) (g : moF B1 B2 J1 J2) : jr J J2 m := fun a y u w => (g.2 a y u).trans (h a y u w)
theorem jr.u {J J1 : Nat → Nat → Int64} {m : Nat} (h : jr J J1 m) (v : Int64) : jr J (tm_u J1 134 m v) m := by
  intro a' y' u w
  simp (disch := omega) only [tu_same, tu_eq, tu_ne]
  exact h a' y' u w
theorem fub {z : Int} (h : isF z = true) : fI ((nI (ubt z)).toInt) = nI (fo z) := by
  unfold isF at h
  rw [decide_eq_true_iff] at h
  rcases h with e | e | e | e <;> subst e <;> decide
theorem l_211 {τ : tm_Tu} {s : Nat → Int} {n m Q q : Nat} {J : Nat → Nat → Int64} (hm : m < 24) (hq : q ≤ 8) (hn : Q + 1 + 4 * q ≤ n) (hF : ∀ i, i < 4 * q → isF (s (Q + 1 + i)) = true) : ∀ k j (B : Nat → Nat → Int32), j + k = 4 * q → TxB B s n → B 131 6 = nI Q → B 137 m = nI q → ∃ B', R_72 211 [(0, .ref 131), (1, .int (nI m)), (2, .int (nI j))] [] (mk B J τ) = R_72 257 [(0, .ref 131), (1, .int (nI m)), (2, .int (nI 0))] [] (mk B' J τ) ∧ (∀ i, j ≤ i → i < 4 * q → B' 141 (32 * m + i) = nI (fo (s (Q + 1 + i)))) ∧ (∀ a y, ¬ (a = 141 ∧ 32 * m + j ≤ y ∧ y < 32 * m + 32) → B' a y = B a y) := by
  intro k
  induction k with
  | zero =>
    intro j B hj hT h6 h7
    refine ⟨B, ?_, fun i h1 h2 => by omega, fun _ _ _ => rfl⟩
    rw [e_72_211]
    simp (disch := first | omega | (simp (disch := omega) only [n_ti, Int32.reduceToInt] <;> omega)) only [h7, n_add, nl_add, nr_add, n_mul, nl_mul, nr_mul, n_sub, nr_dec, n_div, nr_sub_1, nr_sub_2, nr_sub_3, nr_sub_4, nr_sub_7, nr_sub_10, nr_sub_11, nr_sub_20, nr_sub_48, nr_sub_97, nl_sub_3, nl_sub_4, nl_sub_12, nl_sub_24, nl_sub_32, nr_div_2, nr_div_4, z_lt, z_le, z_eq, z_cl, n_ti, Int.toNat_natCast, Int32.reduceToInt, Int32.reduceToNatClampNeg, zc_add, zc_sub, zc_add_1, zc_add_2, zc_add_3, zc_add_4, zc_add_8, zc_add_10, zc_add_12, zc_add_16, zc_add_20, zc_sub_1, zc_sub_2, zc_sub_4, zc_sub_10, zc_sub_20, zc_sub_48, zc_sub_97, zc_mul_4, t_ltZ, f_ltZ, t_leZ, f_leZ, t_eqZ, f_eqZ, t_ltN, f_ltN, t_leN, f_leN, t_eqN, f_eqN, ↓reduceIte, and_true, true_and, and_false, false_and, and_self, or_true, true_or, or_false, false_or, or_self, not_true_eq_false, not_false_eq_true, tu_same, tu_eq, tu_ne, b_V, b_I, b_J]
    rfl
  | succ k ih =>
    intro j B hj hT h6 h7
    have hn0 := hT.1
    obtain ⟨B', g1, g2, g3⟩ := ih (j + 1) (tm_u B 141 (32 * m + j) (nI (fo (s (Q + 1 + j))))) (by omega) (hT.tr (fun a k u => by simp (disch := omega) only [tu_same, tu_eq, tu_ne])) (by simp (disch := omega) only [h6, tu_same, tu_eq, tu_ne]) (by simp (disch := omega) only [h7, tu_same, tu_eq, tu_ne])
    have s55 := s_55 (J := J) (τ := τ) (k := Q + 1 + j) hT (by omega)
    have hf := fub (hF j (by omega))
    have s59 : F_59 [.int (nI (ubt (s (Q + 1 + j))))] (mk B J τ) = some (some (.int (nI (fo (s (Q + 1 + j))))), mk B J τ) := by rw [s_59, hf]
    refine ⟨B', ?_, fun i h1 h2 => ?_, fun a y u => ?_⟩
    · rw [← g1, e_72_211]
      simp (disch := first | omega | (simp (disch := omega) only [n_ti, Int32.reduceToInt] <;> omega)) only [h7, h6, s55, e_72_245, s59, e_72_248, n_add, nl_add, nr_add, n_mul, nl_mul, nr_mul, n_sub, nr_dec, n_div, nr_sub_1, nr_sub_2, nr_sub_3, nr_sub_4, nr_sub_7, nr_sub_10, nr_sub_11, nr_sub_20, nr_sub_48, nr_sub_97, nl_sub_3, nl_sub_4, nl_sub_12, nl_sub_24, nl_sub_32, nr_div_2, nr_div_4, z_lt, z_le, z_eq, z_cl, n_ti, Int.toNat_natCast, Int32.reduceToInt, Int32.reduceToNatClampNeg, zc_add, zc_sub, zc_add_1, zc_add_2, zc_add_3, zc_add_4, zc_add_8, zc_add_10, zc_add_12, zc_add_16, zc_add_20, zc_sub_1, zc_sub_2, zc_sub_4, zc_sub_10, zc_sub_20, zc_sub_48, zc_sub_97, zc_mul_4, t_ltZ, f_ltZ, t_leZ, f_leZ, t_eqZ, f_eqZ, t_ltN, f_ltN, t_leN, f_leN, t_eqN, f_eqN, ↓reduceIte, and_true, true_and, and_false, false_and, and_self, or_true, true_or, or_false, false_or, or_self, not_true_eq_false, not_false_eq_true, tu_same, tu_eq, tu_ne, b_V, b_I, b_J]
    · by_cases e : i = j
      · subst e
        rw [g3 141 (32 * m + i) (by omega)]
        simp (disch := omega) only [tu_same, tu_eq, tu_ne]
      · exact g2 i (by omega) h2
    · rw [g3 a y (by omega)]
      simp (disch := omega) only [tu_same, tu_eq, tu_ne]
theorem l_257 {τ : tm_Tu} {m : Nat} {J : Nat → Nat → Int64} (hm : m < 24) : ∀ k j (B : Nat → Nat → Int32), j + k = 8 → ∃ B', R_72 257 [(0, .ref 131), (1, .int (nI m)), (2, .int (nI j))] [] (mk B J τ) = R_72 257 [(0, .ref 131), (1, .int (nI m)), (2, .int (nI 8))] [] (mk B' J τ) ∧ (∀ i, j ≤ i → i < 8 → B' 142 (8 * m + i) = -1) ∧ (∀ a y, ¬ (a = 142 ∧ 8 * m + j ≤ y ∧ y < 8 * m + 8) → B' a y = B a y) := by
  intro k
  induction k with
  | zero =>
    intro j B hj
    have e : j = 8 := by omega
    subst e
    exact ⟨B, rfl, fun i h1 h2 => by omega, fun _ _ _ => rfl⟩
  | succ k ih =>
    intro j B hj
    obtain ⟨B', g1, g2, g3⟩ := ih (j + 1) (tm_u B 142 (8 * m + j) (-1)) (by omega)
    refine ⟨B', ?_, fun i h1 h2 => ?_, fun a y u => ?_⟩
    · rw [← g1, e_72_257]
      simp (disch := first | omega | (simp (disch := omega) only [n_ti, Int32.reduceToInt] <;> omega)) only [n_add, nl_add, nr_add, n_mul, nl_mul, nr_mul, n_sub, nr_dec, n_div, nr_sub_1, nr_sub_2, nr_sub_3, nr_sub_4, nr_sub_7, nr_sub_10, nr_sub_11, nr_sub_20, nr_sub_48, nr_sub_97, nl_sub_3, nl_sub_4, nl_sub_12, nl_sub_24, nl_sub_32, nr_div_2, nr_div_4, z_lt, z_le, z_eq, z_cl, n_ti, Int.toNat_natCast, Int32.reduceToInt, Int32.reduceToNatClampNeg, zc_add, zc_sub, zc_add_1, zc_add_2, zc_add_3, zc_add_4, zc_add_8, zc_add_10, zc_add_12, zc_add_16, zc_add_20, zc_sub_1, zc_sub_2, zc_sub_4, zc_sub_10, zc_sub_20, zc_sub_48, zc_sub_97, zc_mul_4, t_ltZ, f_ltZ, t_leZ, f_leZ, t_eqZ, f_eqZ, t_ltN, f_ltN, t_leN, f_leN, t_eqN, f_eqN, ↓reduceIte, and_true, true_and, and_false, false_and, and_self, or_true, true_or, or_false, false_or, or_self, not_true_eq_false, not_false_eq_true, tu_same, tu_eq, tu_ne, b_V, b_I, b_J]
    · by_cases e : i = j
      · subst e
        rw [g3 142 (8 * m + i) (by omega)]
        simp (disch := omega) only [tu_same, tu_eq, tu_ne]
      · exact g2 i (by omega) h2
    · rw [g3 a y (by omega)]
      simp (disch := omega) only [tu_same, tu_eq, tu_ne]
def HdM (τ : tm_Tu) (s : Nat → Int) (n : Nat) (B : Nat → Nat → Int32) (J : Nat → Nat → Int64) (m : Nat) (r : Sum (Nat × Nat) ((List Nat × TD) × TK)) : Prop := ∃ B' J', fr B B' m ∧ jr J J' m ∧ (match r with
    | .inl f => F_72 [.ref 131] (mk B J τ) = some (none, mk B' J' τ) ∧ BadB B' f
    | .inr q => F_72 [.ref 131] (mk B J τ) = R_72 313 [(0, .ref 131), (1, .int (nI m))] [] (mk B' J' τ) ∧ MoS s n B' J' q.2 ∧ TrB B' m q.1.2 ∧ TDok q.1.2 ∧ J' 134 m = lN (en256 q.1.1) ∧ q.1.1.length ≤ 8 ∧ okL q.1.1 ∧ 1 ≤ tQ q.2)
theorem TxB.bb {s : Nat → Int} {n : Nat} {B : Nat → Nat → Int32} (h : TxB B s n) (x y : Int32) : TxB (tm_u (tm_u B 131 4 x) 131 5 y) s n := h.tr (fun a k u => by simp (disch := omega) only [tu_same, tu_eq, tu_ne])
