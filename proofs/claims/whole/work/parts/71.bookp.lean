/-! reading: book (model), whole -/
theorem i8_id {x : Int32} (h1 : -128 ≤ x.toInt) (h2 : x.toInt ≤ 127) : x.toInt8.toInt32 = x := by
  apply Int32.toInt_inj.mp
  rw [Int8.toInt_toInt32, Int32.toInt_toInt8]
  exact Int.bmod_eq_of_le (by omega) (by omega)
theorem l_54 {τ : tm_Tu} {J : Nat → Nat → Int64} {n : Nat} (hn : n ≤ 1400) : ∀ m k (B : Nat → Nat → Int32), k + m = n → B 131 3 = nI n → (∀ i, i < n → -128 ≤ (B 132 i).toInt ∧ (B 132 i).toInt ≤ 127) → ∃ B', R_54 20 [(0, .ref 131), (1, .int (nI k))] [] (mk B J τ) = some (none, mk (tm_u (tm_u B' 131 2 0) 131 7 0) J τ) ∧ (∀ i, k ≤ i → i < n → B' 133 i = B 132 i) ∧ (∀ a y, ¬ (a = 133 ∧ k ≤ y) → B' a y = B a y) := by
  intro m
  induction m with
  | zero =>
    intro k B hk h3 hB
    refine ⟨B, ?_, fun i h1 h2 => by omega, fun _ _ _ => rfl⟩
    rw [e_54_20]
    simp (disch := first | omega | (simp (disch := omega) only [n_ti, Int32.reduceToInt] <;> omega)) only [h3, n_add, nl_add, nr_add, n_mul, nl_mul, nr_mul, n_sub, nr_dec, n_div, nr_sub_1, nr_sub_2, nr_sub_3, nr_sub_4, nr_sub_7, nr_sub_10, nr_sub_11, nr_sub_20, nr_sub_48, nr_sub_97, nl_sub_3, nl_sub_4, nl_sub_12, nl_sub_24, nl_sub_32, nr_div_2, nr_div_4, z_lt, z_le, z_eq, z_cl, n_ti, Int.toNat_natCast, Int32.reduceToInt, Int32.reduceToNatClampNeg, zc_add, zc_sub, zc_add_1, zc_add_2, zc_add_3, zc_add_4, zc_add_8, zc_add_10, zc_add_12, zc_add_16, zc_add_20, zc_sub_1, zc_sub_2, zc_sub_4, zc_sub_10, zc_sub_20, zc_sub_48, zc_sub_97, zc_mul_4, t_ltZ, f_ltZ, t_leZ, f_leZ, t_eqZ, f_eqZ, t_ltN, f_ltN, t_leN, f_leN, t_eqN, f_eqN, ↓reduceIte, and_true, true_and, and_false, false_and, and_self, or_true, true_or, or_false, false_or, or_self, not_true_eq_false, not_false_eq_true, tu_same, tu_eq, tu_ne, b_V, b_I, b_J]
  | succ m ih =>
    intro k B hk h3 hB
    obtain ⟨x1, x2⟩ := hB k (by omega)
    have hx : (B 132 k).toInt8.toInt32 = B 132 k := i8_id x1 x2
    obtain ⟨B', g1, g2, g3⟩ := ih (k + 1) (tm_u B 133 k (B 132 k)) (by omega) (by simp (disch := omega) only [h3, tu_same, tu_eq, tu_ne]) (fun i hi => by simp (disch := omega) only [tu_same, tu_eq, tu_ne]; exact hB i hi)
    refine ⟨B', ?_, fun i h1 h2 => ?_, fun a y u => ?_⟩
    · rw [← g1, e_54_20]
      simp (disch := first | omega | (simp (disch := omega) only [n_ti, Int32.reduceToInt] <;> omega)) only [h3, hx, n_add, nl_add, nr_add, n_mul, nl_mul, nr_mul, n_sub, nr_dec, n_div, nr_sub_1, nr_sub_2, nr_sub_3, nr_sub_4, nr_sub_7, nr_sub_10, nr_sub_11, nr_sub_20, nr_sub_48, nr_sub_97, nl_sub_3, nl_sub_4, nl_sub_12, nl_sub_24, nl_sub_32, nr_div_2, nr_div_4, z_lt, z_le, z_eq, z_cl, n_ti, Int.toNat_natCast, Int32.reduceToInt, Int32.reduceToNatClampNeg, zc_add, zc_sub, zc_add_1, zc_add_2, zc_add_3, zc_add_4, zc_add_8, zc_add_10, zc_add_12, zc_add_16, zc_add_20, zc_sub_1, zc_sub_2, zc_sub_4, zc_sub_10, zc_sub_20, zc_sub_48, zc_sub_97, zc_mul_4, t_ltZ, f_ltZ, t_leZ, f_leZ, t_eqZ, f_eqZ, t_ltN, f_ltN, t_leN, f_leN, t_eqN, f_eqN, ↓reduceIte, and_true, true_and, and_false, false_and, and_self, or_true, true_or, or_false, false_or, or_self, not_true_eq_false, not_false_eq_true, tu_same, tu_eq, tu_ne, b_V, b_I, b_J]
    · by_cases e : i = k
      · subst e
        rw [g3 133 i (by omega)]
        simp (disch := omega) only [tu_same, tu_eq, tu_ne]
      · rw [g2 i (by omega) h2]
        simp (disch := omega) only [tu_same, tu_eq, tu_ne]
    · rw [g3 a y (by omega)]
      simp (disch := omega) only [tu_same, tu_eq, tu_ne]
theorem m_54 {τ : tm_Tu} {J : Nat → Nat → Int64} {n : Nat} {s : Nat → Int} {B : Nat → Nat → Int32} (hn : n ≤ 1400) (h2 : B 131 2 = nI n) (hs : ∀ i, i < n → (B 132 i).toInt = s i ∧ -128 ≤ s i ∧ s i ≤ 127) : ∃ B', F_54 [.ref 131] (mk B J τ) = some (none, mk B' J τ) ∧ TxB B' s n ∧ (B' 131 4 = 0 ∧ B' 131 5 = -1) ∧ B' 131 7 = nI 0 ∧ B' 131 2 = 0 ∧ (∀ a y, ¬ (a = 131 ∧ 2 ≤ y ∧ y ≤ 7) → a ≠ 133 → B' a y = B a y) := by
  obtain ⟨B0, e0⟩ : ∃ x, x = tm_u (tm_u (tm_u B 131 4 0) 131 5 (-1)) 131 3 (nI n) := ⟨_, rfl⟩
  have h132 : ∀ i, B0 132 i = B 132 i := fun i => by rw [e0]; simp (disch := omega) only [tu_same, tu_eq, tu_ne]
  obtain ⟨B', g1, g2, g3⟩ := l_54 (τ := τ) (J := J) hn n 0 B0 (by omega) (by rw [e0]; simp (disch := omega) only [tu_same, tu_eq, tu_ne]) (fun i hi => by rw [h132, (hs i hi).1]; exact (hs i hi).2)
  refine ⟨tm_u (tm_u B' 131 2 0) 131 7 0, ?_, ⟨hn, ?_, fun i hi => ⟨?_, (hs i hi).2⟩⟩, ⟨?_, ?_⟩, ?_, ?_, fun a y u w => ?_⟩
  · have g1' : R_54 20 [(0, .ref 131), (1, .int 0)] [] (mk B0 J τ) = some (none, mk (tm_u (tm_u B' 131 2 0) 131 7 0) J τ) := g1
    rw [e_54, h2, ← e0]
    exact g1'
  · simp (disch := omega) only [tu_same, tu_eq, tu_ne]
    rw [g3 131 3 (by omega), e0]
    simp (disch := omega) only [tu_same, tu_eq, tu_ne]
  · simp (disch := omega) only [tu_same, tu_eq, tu_ne]
    rw [g2 i (by omega) hi, h132]
    exact (hs i hi).1
  · simp (disch := omega) only [tu_same, tu_eq, tu_ne]
    rw [g3 131 4 (by omega), e0]
    simp (disch := omega) only [tu_same, tu_eq, tu_ne]
  · simp (disch := omega) only [tu_same, tu_eq, tu_ne]
    rw [g3 131 5 (by omega), e0]
    simp (disch := omega) only [tu_same, tu_eq, tu_ne]
  · simp (disch := omega) only [tu_same, tu_eq, tu_ne]
    rfl
  · simp (disch := omega) only [tu_same, tu_eq, tu_ne]
  · simp (disch := omega) only [tu_same, tu_eq, tu_ne]
    rw [g3 a y (by omega), e0]
    simp (disch := omega) only [tu_same, tu_eq, tu_ne]
/-- book, by the model -/
theorem m_73 {τ : tm_Tu} {J : Nat → Nat → Int64} {n bk : Nat} {s : Nat → Int} {B : Nat → Nat → Int32} (hn : n ≤ 1400) (h2 : B 131 2 = nI n) (hs : ∀ i, i < n → (B 132 i).toInt = s i ∧ -128 ≤ s i ∧ s i ≤ 127) (hb : bk < 2) (h21 : B 131 21 = nI bk) (N0 : NmD) : ∃ B' J' r, F_73 [.ref 131] (mk B J τ) = some (some (.int r), mk B' J' τ) ∧ B' 131 2 = 0 ∧ jK J J' (1 - bk) ∧ (match pBook s n 12 0 N0 (tok s n 0) with
    | .inl f => r = -1 ∧ B' 131 4 = nI f.1 ∧ B' 131 5 = nI f.2 ∧ (∀ a y, ¬ (a = 131 ∧ (2 ≤ y ∧ y ≤ 9 ∨ y = 22)) → a ≠ 133 → ¬ inK (1 - bk) a y → B' a y = B a y)
    | .inr q => r = nI q.1 ∧ q.1 ≤ 12 ∧ B' 131 4 = 0 ∧ B' 131 5 = -1 ∧ B' 131 72 = 0 ∧ B' 131 32 = 0 ∧ B' 131 33 = 0 ∧ BkB B' (1 - bk) q.1 q.2.2 ∧ DOk q.1 q.2.2 ∧ NmB J' (1 - bk) q.1 q.2.1 ∧ (∀ a y, ¬ (a = 131 ∧ (2 ≤ y ∧ y ≤ 9 ∨ y = 21 ∨ y = 22 ∨ y = 32 ∨ y = 33 ∨ y = 72)) → a ≠ 133 → ¬ inK (1 - bk) a y → B' a y = B a y)) := by
  obtain ⟨b, eb⟩ : ∃ b, b = 1 - bk := ⟨_, rfl⟩
  rw [← eb]
  have hb1 : b < 2 := by omega
  obtain ⟨B1, g1, g2, g3, g4, g5, g6⟩ := m_54 (τ := τ) (J := J) (s := s) hn h2 hs
  have h21' : B1 131 21 = nI bk := (g6 131 21 (by omega) (by omega)).trans h21
  obtain ⟨B2, e2⟩ : ∃ x, x = tm_u (tm_u B1 131 22 (nI b)) 135 b 0 := ⟨_, rfl⟩
  have tx2 : TxB B2 s n := g2.tr (fun a k u => by rw [e2]; simp (disch := omega) only [tu_same, tu_eq, tu_ne])
  obtain ⟨B3, J3, p1, p2, p3, p4⟩ := s_60 (τ := τ) (J := J) (p := 0) tx2 (by omega) (by rw [e2]; simp (disch := omega) only [tu_same, tu_eq, tu_ne]; exact g4)
  have hS : MoS s n B3 J3 (tok s n 0) := ⟨tx2.tr (fun a k u => p3 a k (by omega)), p2, (tok_ok (Nat.zero_le n)).1, by rw [p3 131 4 (by omega), e2]; simp (disch := omega) only [tu_same, tu_eq, tu_ne]; exact g3.1, by rw [p3 131 5 (by omega), e2]; simp (disch := omega) only [tu_same, tu_eq, tu_ne]; exact g3.2⟩
  have hN : BkM B3 J3 b 0 N0 := ⟨by rw [p3 131 22 (by omega), e2]; simp (disch := omega) only [tu_same, tu_eq, tu_ne], by rw [p3 135 b (by omega), e2]; simp (disch := omega) only [tu_same, tu_eq, tu_ne]; rfl, fun j hj => by omega, fun j hj => by omega, fun j hj => by omega⟩
  obtain ⟨B4, J4, q1, q2, q3, q4⟩ := m_73l (τ := τ) (s := s) (n := n) hb1 12 0 B3 J3 (tok s n 0) N0 (by omega) hS hN
  have pre : F_73 [.ref 131] (mk B J τ) = R_73 49 [(0, .ref 131)] [] (mk B4 J4 τ) := by
    rw [e_73]
    simp (disch := first | omega | (simp (disch := omega) only [n_ti, Int32.reduceToInt] <;> omega)) only [g1, n_add, nl_add, nr_add, n_mul, nl_mul, nr_mul, n_sub, nr_dec, n_div, nr_sub_1, nr_sub_2, nr_sub_3, nr_sub_4, nr_sub_7, nr_sub_10, nr_sub_11, nr_sub_20, nr_sub_48, nr_sub_97, nl_sub_3, nl_sub_4, nl_sub_12, nl_sub_24, nl_sub_32, nr_div_2, nr_div_4, z_lt, z_le, z_eq, z_cl, n_ti, Int.toNat_natCast, Int32.reduceToInt, Int32.reduceToNatClampNeg, zc_add, zc_sub, zc_add_1, zc_add_2, zc_add_3, zc_add_4, zc_add_8, zc_add_10, zc_add_12, zc_add_16, zc_add_20, zc_sub_1, zc_sub_2, zc_sub_4, zc_sub_10, zc_sub_20, zc_sub_48, zc_sub_97, zc_mul_4, t_ltZ, f_ltZ, t_leZ, f_leZ, t_eqZ, f_eqZ, t_ltN, f_ltN, t_leN, f_leN, t_eqN, f_eqN, ↓reduceIte, and_true, true_and, and_false, false_and, and_self, or_true, true_or, or_false, false_or, or_self, not_true_eq_false, not_false_eq_true, tu_same, tu_eq, tu_ne, b_V, b_I, b_J]
    rw [← q1, e_73_4, h21']
    have e1 : (1 : Int32) - nI bk = nI b := by
      have : bk = 0 ∨ bk = 1 := by omega
      rcases this with e | e <;> subst e <;> subst eb <;> rfl
    rw [e1]
    simp (disch := first | omega | (simp (disch := omega) only [n_ti, Int32.reduceToInt] <;> omega)) only [← e2, p1, n_add, nl_add, nr_add, n_mul, nl_mul, nr_mul, n_sub, nr_dec, n_div, nr_sub_1, nr_sub_2, nr_sub_3, nr_sub_4, nr_sub_7, nr_sub_10, nr_sub_11, nr_sub_20, nr_sub_48, nr_sub_97, nl_sub_3, nl_sub_4, nl_sub_12, nl_sub_24, nl_sub_32, nr_div_2, nr_div_4, z_lt, z_le, z_eq, z_cl, n_ti, Int.toNat_natCast, Int32.reduceToInt, Int32.reduceToNatClampNeg, zc_add, zc_sub, zc_add_1, zc_add_2, zc_add_3, zc_add_4, zc_add_8, zc_add_10, zc_add_12, zc_add_16, zc_add_20, zc_sub_1, zc_sub_2, zc_sub_4, zc_sub_10, zc_sub_20, zc_sub_48, zc_sub_97, zc_mul_4, t_ltZ, f_ltZ, t_leZ, f_leZ, t_eqZ, f_eqZ, t_ltN, f_ltN, t_leN, f_leN, t_eqN, f_eqN, ↓reduceIte, and_true, true_and, and_false, false_and, and_self, or_true, true_or, or_false, false_or, or_self, not_true_eq_false, not_false_eq_true, tu_same, tu_eq, tu_ne, b_V, b_I, b_J]
  have ni : ∀ y, ¬ inK b 131 y := fun y w => by unfold inK at w; omega
  have h42 : B4 131 2 = 0 := by
    rw [q2 131 2 (by omega) (ni _), p3 131 2 (by omega), e2]
    simp (disch := omega) only [tu_same, tu_eq, tu_ne]
    exact g5
  have F4 : ∀ a y, ¬ (a = 131 ∧ (2 ≤ y ∧ y ≤ 9 ∨ y = 22)) → a ≠ 133 → ¬ inK b a y → B4 a y = B a y := fun a y u v w => by
    have : ¬ (a = 135 ∧ y = b) := fun e => w (Or.inr (Or.inr (Or.inr e)))
    rw [q2 a y (by omega) w, p3 a y (by omega), e2]
    simp (disch := omega) only [tu_same, tu_eq, tu_ne]
    exact g6 a y (by omega) v
  have G4 : jK J J4 b := fun a y u w => (q3 a y u w).trans (p4 a y u)
  cases hp : pBook s n 12 0 N0 (tok s n 0) with
  | inl f =>
    rw [hp] at q4
    have gb := m_bd (τ := τ) (J := J4) q4
    refine ⟨B4, J4, -1, ?_, h42, G4, rfl, q4.1, q4.2.1, F4⟩
    rw [pre, e_73_49]
    simp (disch := first | omega | (simp (disch := omega) only [n_ti, Int32.reduceToInt] <;> omega)) only [gb, e_73_53, n_add, nl_add, nr_add, n_mul, nl_mul, nr_mul, n_sub, nr_dec, n_div, nr_sub_1, nr_sub_2, nr_sub_3, nr_sub_4, nr_sub_7, nr_sub_10, nr_sub_11, nr_sub_20, nr_sub_48, nr_sub_97, nl_sub_3, nl_sub_4, nl_sub_12, nl_sub_24, nl_sub_32, nr_div_2, nr_div_4, z_lt, z_le, z_eq, z_cl, n_ti, Int.toNat_natCast, Int32.reduceToInt, Int32.reduceToNatClampNeg, zc_add, zc_sub, zc_add_1, zc_add_2, zc_add_3, zc_add_4, zc_add_8, zc_add_10, zc_add_12, zc_add_16, zc_add_20, zc_sub_1, zc_sub_2, zc_sub_4, zc_sub_10, zc_sub_20, zc_sub_48, zc_sub_97, zc_mul_4, t_ltZ, f_ltZ, t_leZ, f_leZ, t_eqZ, f_eqZ, t_ltN, f_ltN, t_leN, f_leN, t_eqN, f_eqN, ↓reduceIte, and_true, true_and, and_false, false_and, and_self, or_true, true_or, or_false, false_or, or_self, not_true_eq_false, not_false_eq_true, tu_same, tu_eq, tu_ne, b_V, b_I, b_J]
  | inr q =>
    rw [hp] at q4
    obtain ⟨x1, x2, y1, y2, y3, y4, y5⟩ := q4
    have gg := m_gd (τ := τ) (J := J4) x1
    refine ⟨tm_u (tm_u (tm_u (tm_u B4 131 21 (nI b)) 131 72 0) 131 32 0) 131 33 0, J4, nI q.1, ?_, by simp (disch := omega) only [h42, tu_same, tu_eq, tu_ne], G4, rfl, x2, by simp (disch := omega) only [tu_same, tu_eq, tu_ne]; exact x1.1, by simp (disch := omega) only [tu_same, tu_eq, tu_ne]; exact x1.2, by simp (disch := omega) only [tu_same, tu_eq, tu_ne], by simp (disch := omega) only [tu_same, tu_eq, tu_ne], by simp (disch := omega) only [tu_same, tu_eq, tu_ne], ⟨by simp (disch := omega) only [tu_same, tu_eq, tu_ne], by simp (disch := omega) only [tu_same, tu_eq, tu_ne]; exact y2, fun j hj => (y3 j hj).tr (fun a k u v => by simp (disch := omega) only [tu_same, tu_eq, tu_ne])⟩, y4, y5, fun a y u v w => ?_⟩
    · rw [pre, e_73_49]
      simp (disch := first | omega | (simp (disch := omega) only [n_ti, Int32.reduceToInt] <;> omega)) only [gg, e_73_53, y1, y2, n_add, nl_add, nr_add, n_mul, nl_mul, nr_mul, n_sub, nr_dec, n_div, nr_sub_1, nr_sub_2, nr_sub_3, nr_sub_4, nr_sub_7, nr_sub_10, nr_sub_11, nr_sub_20, nr_sub_48, nr_sub_97, nl_sub_3, nl_sub_4, nl_sub_12, nl_sub_24, nl_sub_32, nr_div_2, nr_div_4, z_lt, z_le, z_eq, z_cl, n_ti, Int.toNat_natCast, Int32.reduceToInt, Int32.reduceToNatClampNeg, zc_add, zc_sub, zc_add_1, zc_add_2, zc_add_3, zc_add_4, zc_add_8, zc_add_10, zc_add_12, zc_add_16, zc_add_20, zc_sub_1, zc_sub_2, zc_sub_4, zc_sub_10, zc_sub_20, zc_sub_48, zc_sub_97, zc_mul_4, t_ltZ, f_ltZ, t_leZ, f_leZ, t_eqZ, f_eqZ, t_ltN, f_ltN, t_leN, f_leN, t_eqN, f_eqN, ↓reduceIte, and_true, true_and, and_false, false_and, and_self, or_true, true_or, or_false, false_or, or_self, not_true_eq_false, not_false_eq_true, tu_same, tu_eq, tu_ne, b_V, b_I, b_J]
    · simp (disch := omega) only [tu_same, tu_eq, tu_ne]
      exact F4 a y (by omega) v w
