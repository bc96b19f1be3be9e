/-! JOINED: the model's best set and row; best, joined -/
theorem n_subZ {a b : Nat} (ha : a < 1000000) (hb : b < 1000000) : (nI a - nI b).toInt = (a : Int) - b := pk_sub_toInt (by omega) (by omega)
theorem sumW_1 (D : Nat → TD) : sumW 1 D = fun t => dW (D t) := funext fun t => if_pos rfl
theorem sumW_0 (D : Nat → TD) : sumW 0 D = fun t => dQ (D t) := funext fun t => if_neg (by omega)
set_option maxHeartbeats 2000000 in
theorem l_204a {B : Nat → Nat → Int32} {J : Nat → Nat → Int64} {τ : tm_Tu} {b n N f d : Nat} {D : Nat → TD} (hn : n ≤ 12) (hD : DOk n D) (hb : b < 2) (hB : BkB B b n D) (hC : CnB B (tbl n D (2 ^ n)) (2 ^ n)) (hN : N ≤ 200) (hf : f ≤ 3) (hd : d ≤ 3) : ∀ m k c, k + m = 2 ^ n → 1 ≤ k → c < 2 ^ n → R_204 41 [(0, .ref 131), (1, .int (nI N)), (2, .int (nI f)), (3, .int (nI d)), (4, .int (nI c)), (5, .int (nI k))] [] (mk B J τ) = R_204 41 [(0, .ref 131), (1, .int (nI N)), (2, .int (nI f)), (3, .int (nI d)), (4, .int (nI (bst n D N (4 * f + d) m k c))), (5, .int (nI (2 ^ n)))] [] (mk B J τ) := by
  have hp := pow_12 hn
  have hsh := shl_1 (t := n) (by omega)
  obtain ⟨h21, h135, -⟩ := id hB
  have bw : ∀ s, wsum (fun t => dW (D t)) s n ≤ 999 * 12 := fun s => Nat.le_trans (wsum_le _ 999 s n (fun t ht => (hD t ht).2.2.1)) (Nat.mul_le_mul_left _ hn)
  have bq : ∀ s, wsum (fun t => dQ (D t)) s n ≤ 8 * 12 := fun s => Nat.le_trans (wsum_le _ 8 s n (fun t ht => (hD t ht).2.1)) (Nat.mul_le_mul_left _ hn)
  have sW : ∀ s, s < 4096 → F_203 [.ref 131, .int (nI s), .int 1] (mk B J τ) = some (some (.int (nI (wsum (fun t => dW (D t)) s n))), mk B J τ) := fun s hs => by
    have := s_203 (J := J) (τ := τ) (s := s) (wb := 1) hn hD hb hB hs (by omega)
    rw [sumW_1] at this
    exact this
  have sQ : ∀ s, s < 4096 → F_203 [.ref 131, .int (nI s), .int 0] (mk B J τ) = some (some (.int (nI (wsum (fun t => dQ (D t)) s n))), mk B J τ) := fun s hs => by
    have := s_203 (J := J) (τ := τ) (s := s) (wb := 0) hn hD hb hB hs (by omega)
    rw [sumW_0] at this
    exact this
  intro m
  induction m with
  | zero =>
    intro k c hk _ _
    rw [show k = 2 ^ n by omega]
    rfl
  | succ m ih =>
    intro k c hk h1 hc
    have w1 := bw k
    have w2 := bw c
    have q1 := bq k
    have q2 := bq c
    have k1 := sW k (by omega)
    have k2 := sW c (by omega)
    have k3 := sQ k (by omega)
    have k4 := sQ c (by omega)
    have hcn := hC k (4 * f + d) (by omega) (by omega)
    rw [← Nat.add_assoc] at hcn
    unfold bst
    generalize wsum (fun t => dW (D t)) k n = wk at *
    generalize wsum (fun t => dW (D t)) c n = wc at *
    generalize wsum (fun t => dQ (D t)) k n = qk at *
    generalize wsum (fun t => dQ (D t)) c n = qc at *
    cases hb : tbl n D (2 ^ n) k (4 * f + d) with
    | false =>
      rw [hb, b2f] at hcn
      have e : (if false = true ∧ qk ≤ N ∧ (wc < wk ∨ wk = wc ∧ qk < qc) then k else c) = c := if_neg (fun h => by cases h.1)
      rw [e, ← ih (k + 1) c (by omega) (by omega) hc, e_204_41]
      simp (disch := first | omega | (simp (disch := omega) only [n_ti, Int32.reduceToInt] <;> omega)) only [h21, h135, hsh, e_200, e_204_68, hcn, e_204_134, n_add, nl_add, nr_add, n_mul, nl_mul, nr_mul, n_sub, nr_dec, n_div, nr_sub_1, nr_sub_2, nr_sub_3, nr_sub_4, nr_sub_7, nr_sub_10, nr_sub_11, nr_sub_20, nr_sub_48, nr_sub_97, nl_sub_3, nl_sub_4, nl_sub_12, nl_sub_24, nl_sub_32, nr_div_2, nr_div_4, z_lt, z_le, z_eq, z_cl, n_ti, Int.toNat_natCast, Int32.reduceToInt, Int32.reduceToNatClampNeg, zc_add, zc_sub, zc_add_1, zc_add_2, zc_add_3, zc_add_4, zc_add_8, zc_add_10, zc_add_12, zc_add_16, zc_add_20, zc_sub_1, zc_sub_2, zc_sub_4, zc_sub_10, zc_sub_20, zc_sub_48, zc_sub_97, zc_mul_4, t_ltZ, f_ltZ, t_leZ, f_leZ, t_eqZ, f_eqZ, t_ltN, f_ltN, t_leN, f_leN, t_eqN, f_eqN, ↓reduceIte, and_true, true_and, and_false, false_and, and_self, or_true, true_or, or_false, false_or, or_self, not_true_eq_false, not_false_eq_true, tu_same, tu_eq, tu_ne, b_V, b_I, b_J]
    | true =>
      rw [hb, b2t] at hcn
      by_cases d1 : qk ≤ N
      · by_cases d2 : wc < wk
        · have e : (if true = true ∧ qk ≤ N ∧ (wc < wk ∨ wk = wc ∧ qk < qc) then k else c) = k := if_pos ⟨rfl, d1, Or.inl d2⟩
          rw [e, ← ih (k + 1) k (by omega) (by omega) (by omega), e_204_41]
          simp (disch := first | omega | (simp (disch := omega) only [n_ti, Int32.reduceToInt] <;> omega)) only [h21, h135, hsh, e_200, e_204_68, hcn, k1, k2, k3, k4, e_204_79, e_204_93, e_204_100, n_subZ, e_204_130, e_204_134, n_add, nl_add, nr_add, n_mul, nl_mul, nr_mul, n_sub, nr_dec, n_div, nr_sub_1, nr_sub_2, nr_sub_3, nr_sub_4, nr_sub_7, nr_sub_10, nr_sub_11, nr_sub_20, nr_sub_48, nr_sub_97, nl_sub_3, nl_sub_4, nl_sub_12, nl_sub_24, nl_sub_32, nr_div_2, nr_div_4, z_lt, z_le, z_eq, z_cl, n_ti, Int.toNat_natCast, Int32.reduceToInt, Int32.reduceToNatClampNeg, zc_add, zc_sub, zc_add_1, zc_add_2, zc_add_3, zc_add_4, zc_add_8, zc_add_10, zc_add_12, zc_add_16, zc_add_20, zc_sub_1, zc_sub_2, zc_sub_4, zc_sub_10, zc_sub_20, zc_sub_48, zc_sub_97, zc_mul_4, t_ltZ, f_ltZ, t_leZ, f_leZ, t_eqZ, f_eqZ, t_ltN, f_ltN, t_leN, f_leN, t_eqN, f_eqN, ↓reduceIte, and_true, true_and, and_false, false_and, and_self, or_true, true_or, or_false, false_or, or_self, not_true_eq_false, not_false_eq_true, tu_same, tu_eq, tu_ne, b_V, b_I, b_J]
        · by_cases d3 : wk = wc
          · subst d3
            have ez : (nI wk - nI wk).toInt = 0 := by rw [n_subZ (by omega) (by omega)]; omega
            by_cases d4 : qk < qc
            · have e : (if true = true ∧ qk ≤ N ∧ (wk < wk ∨ wk = wk ∧ qk < qc) then k else c) = k := if_pos ⟨rfl, d1, Or.inr ⟨rfl, d4⟩⟩
              rw [e, ← ih (k + 1) k (by omega) (by omega) (by omega), e_204_41]
              simp (disch := first | omega | (simp (disch := omega) only [n_ti, Int32.reduceToInt] <;> omega)) only [h21, h135, hsh, e_200, e_204_68, hcn, k1, k2, k3, k4, e_204_79, e_204_93, e_204_100, ez, e_204_120, e_204_127, e_204_130, e_204_134, n_add, nl_add, nr_add, n_mul, nl_mul, nr_mul, n_sub, nr_dec, n_div, nr_sub_1, nr_sub_2, nr_sub_3, nr_sub_4, nr_sub_7, nr_sub_10, nr_sub_11, nr_sub_20, nr_sub_48, nr_sub_97, nl_sub_3, nl_sub_4, nl_sub_12, nl_sub_24, nl_sub_32, nr_div_2, nr_div_4, z_lt, z_le, z_eq, z_cl, n_ti, Int.toNat_natCast, Int32.reduceToInt, Int32.reduceToNatClampNeg, zc_add, zc_sub, zc_add_1, zc_add_2, zc_add_3, zc_add_4, zc_add_8, zc_add_10, zc_add_12, zc_add_16, zc_add_20, zc_sub_1, zc_sub_2, zc_sub_4, zc_sub_10, zc_sub_20, zc_sub_48, zc_sub_97, zc_mul_4, t_ltZ, f_ltZ, t_leZ, f_leZ, t_eqZ, f_eqZ, t_ltN, f_ltN, t_leN, f_leN, t_eqN, f_eqN, ↓reduceIte, and_true, true_and, and_false, false_and, and_self, or_true, true_or, or_false, false_or, or_self, not_true_eq_false, not_false_eq_true, tu_same, tu_eq, tu_ne, b_V, b_I, b_J]
            · have e : (if true = true ∧ qk ≤ N ∧ (wk < wk ∨ wk = wk ∧ qk < qc) then k else c) = c := if_neg (by omega)
              rw [e, ← ih (k + 1) c (by omega) (by omega) hc, e_204_41]
              simp (disch := first | omega | (simp (disch := omega) only [n_ti, Int32.reduceToInt] <;> omega)) only [h21, h135, hsh, e_200, e_204_68, hcn, k1, k2, k3, k4, e_204_79, e_204_93, e_204_100, ez, e_204_120, e_204_127, e_204_134, n_add, nl_add, nr_add, n_mul, nl_mul, nr_mul, n_sub, nr_dec, n_div, nr_sub_1, nr_sub_2, nr_sub_3, nr_sub_4, nr_sub_7, nr_sub_10, nr_sub_11, nr_sub_20, nr_sub_48, nr_sub_97, nl_sub_3, nl_sub_4, nl_sub_12, nl_sub_24, nl_sub_32, nr_div_2, nr_div_4, z_lt, z_le, z_eq, z_cl, n_ti, Int.toNat_natCast, Int32.reduceToInt, Int32.reduceToNatClampNeg, zc_add, zc_sub, zc_add_1, zc_add_2, zc_add_3, zc_add_4, zc_add_8, zc_add_10, zc_add_12, zc_add_16, zc_add_20, zc_sub_1, zc_sub_2, zc_sub_4, zc_sub_10, zc_sub_20, zc_sub_48, zc_sub_97, zc_mul_4, t_ltZ, f_ltZ, t_leZ, f_leZ, t_eqZ, f_eqZ, t_ltN, f_ltN, t_leN, f_leN, t_eqN, f_eqN, ↓reduceIte, and_true, true_and, and_false, false_and, and_self, or_true, true_or, or_false, false_or, or_self, not_true_eq_false, not_false_eq_true, tu_same, tu_eq, tu_ne, b_V, b_I, b_J]
          · have e : (if true = true ∧ qk ≤ N ∧ (wc < wk ∨ wk = wc ∧ qk < qc) then k else c) = c := if_neg (by omega)
            rw [e, ← ih (k + 1) c (by omega) (by omega) hc, e_204_41]
            simp (disch := first | omega | (simp (disch := omega) only [n_ti, Int32.reduceToInt] <;> omega)) only [h21, h135, hsh, e_200, e_204_68, hcn, k1, k2, k3, k4, e_204_79, e_204_93, e_204_100, n_subZ, e_204_134, n_add, nl_add, nr_add, n_mul, nl_mul, nr_mul, n_sub, nr_dec, n_div, nr_sub_1, nr_sub_2, nr_sub_3, nr_sub_4, nr_sub_7, nr_sub_10, nr_sub_11, nr_sub_20, nr_sub_48, nr_sub_97, nl_sub_3, nl_sub_4, nl_sub_12, nl_sub_24, nl_sub_32, nr_div_2, nr_div_4, z_lt, z_le, z_eq, z_cl, n_ti, Int.toNat_natCast, Int32.reduceToInt, Int32.reduceToNatClampNeg, zc_add, zc_sub, zc_add_1, zc_add_2, zc_add_3, zc_add_4, zc_add_8, zc_add_10, zc_add_12, zc_add_16, zc_add_20, zc_sub_1, zc_sub_2, zc_sub_4, zc_sub_10, zc_sub_20, zc_sub_48, zc_sub_97, zc_mul_4, t_ltZ, f_ltZ, t_leZ, f_leZ, t_eqZ, f_eqZ, t_ltN, f_ltN, t_leN, f_leN, t_eqN, f_eqN, ↓reduceIte, and_true, true_and, and_false, false_and, and_self, or_true, true_or, or_false, false_or, or_self, not_true_eq_false, not_false_eq_true, tu_same, tu_eq, tu_ne, b_V, b_I, b_J]
      · have e : (if true = true ∧ qk ≤ N ∧ (wc < wk ∨ wk = wc ∧ qk < qc) then k else c) = c := if_neg (by omega)
        rw [e, ← ih (k + 1) c (by omega) (by omega) hc, e_204_41]
        simp (disch := first | omega | (simp (disch := omega) only [n_ti, Int32.reduceToInt] <;> omega)) only [h21, h135, hsh, e_200, e_204_68, hcn, k1, k2, k3, k4, e_204_79, e_204_134, n_add, nl_add, nr_add, n_mul, nl_mul, nr_mul, n_sub, nr_dec, n_div, nr_sub_1, nr_sub_2, nr_sub_3, nr_sub_4, nr_sub_7, nr_sub_10, nr_sub_11, nr_sub_20, nr_sub_48, nr_sub_97, nl_sub_3, nl_sub_4, nl_sub_12, nl_sub_24, nl_sub_32, nr_div_2, nr_div_4, z_lt, z_le, z_eq, z_cl, n_ti, Int.toNat_natCast, Int32.reduceToInt, Int32.reduceToNatClampNeg, zc_add, zc_sub, zc_add_1, zc_add_2, zc_add_3, zc_add_4, zc_add_8, zc_add_10, zc_add_12, zc_add_16, zc_add_20, zc_sub_1, zc_sub_2, zc_sub_4, zc_sub_10, zc_sub_20, zc_sub_48, zc_sub_97, zc_mul_4, t_ltZ, f_ltZ, t_leZ, f_leZ, t_eqZ, f_eqZ, t_ltN, f_ltN, t_leN, f_leN, t_eqN, f_eqN, ↓reduceIte, and_true, true_and, and_false, false_and, and_self, or_true, true_or, or_false, false_or, or_self, not_true_eq_false, not_false_eq_true, tu_same, tu_eq, tu_ne, b_V, b_I, b_J]
set_option maxHeartbeats 2000000 in
theorem l_204b {J : Nat → Nat → Int64} {τ : tm_Tu} {b n : Nat} {D : Nat → TD} (hn : n ≤ 12) (hD : DOk n D) (hb : b < 2) : ∀ p rest f d len (B : Nat → Nat → Int32), pc n rest = p → rest < 2 ^ n → f ≤ 3 → d ≤ 3 → tbl n D (2 ^ n) rest (4 * f + d) = true → len + p ≤ 12 → BkB B b n D → CnB B (tbl n D (2 ^ n)) (2 ^ n) → B 131 70 = nI len → ∃ B', R_204 166 [(0, .ref 131), (5, .int (nI f)), (6, .int (nI d)), (7, .int (nI rest))] [] (mk B J τ) = some (some (.int 1), mk B' J τ) ∧ B' 131 70 = nI (len + p) ∧ (∀ i, i < p → B' 176 (len + i) = nI ((rowL n D p rest (4 * f + d)).getD i 0)) ∧ (∀ a y, ¬ (a = 131 ∧ y = 70) → ¬ (a = 176 ∧ len ≤ y) → B' a y = B a y) := by
  have hp := pow_12 hn
  intro p
  induction p with
  | zero =>
    intro rest f d len B h1 h2 hf hd h4 h5 hB hC h7
    have e := pc_0 h2 h1
    subst e
    refine ⟨B, ?_, h7, fun i hi => by omega, fun _ _ _ _ => rfl⟩
    rw [e_204_166]
    simp (disch := first | omega | (simp (disch := omega) only [n_ti, Int32.reduceToInt] <;> omega)) only [n_add, nl_add, nr_add, n_mul, nl_mul, nr_mul, n_sub, nr_dec, n_div, nr_sub_1, nr_sub_2, nr_sub_3, nr_sub_4, nr_sub_7, nr_sub_10, nr_sub_11, nr_sub_20, nr_sub_48, nr_sub_97, nl_sub_3, nl_sub_4, nl_sub_12, nl_sub_24, nl_sub_32, nr_div_2, nr_div_4, z_lt, z_le, z_eq, z_cl, n_ti, Int.toNat_natCast, Int32.reduceToInt, Int32.reduceToNatClampNeg, zc_add, zc_sub, zc_add_1, zc_add_2, zc_add_3, zc_add_4, zc_add_8, zc_add_10, zc_add_12, zc_add_16, zc_add_20, zc_sub_1, zc_sub_2, zc_sub_4, zc_sub_10, zc_sub_20, zc_sub_48, zc_sub_97, zc_mul_4, t_ltZ, f_ltZ, t_leZ, f_leZ, t_eqZ, f_eqZ, t_ltN, f_ltN, t_leN, f_leN, t_eqN, f_eqN, ↓reduceIte, and_true, true_and, and_false, false_and, and_self, or_true, true_or, or_false, false_or, or_self, not_true_eq_false, not_false_eq_true, tu_same, tu_eq, tu_ne, b_V, b_I, b_J]
  | succ p ih =>
    intro rest f d len B h1 h2 hf hd h4 h5 hB hC h7
    have h0 : rest ≠ 0 := fun e => by
      rw [e] at h1
      have : pc n 0 = 0 := wsum_0 _ n
      omega
    obtain ⟨f1, f2, f3⟩ := fway_P h0 h2 h4
    obtain ⟨b1, b2', b3⟩ := led_1 f2
    have hr : rowL n D (p + 1) rest (4 * f + d) = fway n D rest (4 * f + d) :: rowL n D p (rest ^^^ 2 ^ (fway n D rest (4 * f + d) / 2)) (nxt D (fway n D rest (4 * f + d)) (4 * f + d)) := rfl
    rw [hr]
    generalize fway n D rest (4 * f + d) = w at *
    have hlt := xor_lt b1
    have hpx := pc_x b1 (show w / 2 < n by omega)
    have hnx := nxt_lt hD (st := 4 * f + d) f1 (by omega)
    have hw2 : ∀ x, 2 * (x / 2) + x % 2 = x := fun x => by omega
    have hCr : CnB B (tbl n D (2 ^ n)) rest := fun s st u1 u2 => hC s st (by omega) u2
    have led : ∀ x, x < 2 * n → F_201 [.ref 131, .int (nI rest), .int (nI f), .int (nI d), .int (nI (x / 2)), .int (nI (x % 2))] (mk B J τ) = some (some (.int (b2 (ledP D (tbl n D (2 ^ n)) rest (4 * f + d) x))), mk B J τ) := fun x hx => by
      have := s_201 (J := J) (τ := τ) (t := x / 2) (mi := x % 2) (set := rest) (T := tbl n D (2 ^ n)) hn hD hb hB (by omega) (by omega) hf hd (by omega) hCr
      rw [hw2] at this
      exact this
    have step : ∀ x, R_204 174 [(0, .ref 131), (5, .int (nI f)), (6, .int (nI d)), (7, .int (nI rest)), (8, .int (nI x))] [] (mk B J τ) = R_204 174 [(0, .ref 131), (5, .int (nI f)), (6, .int (nI d)), (7, .int (nI rest)), (8, .int (nI x))] [] (mk B J τ) := fun _ => rfl
    have go : ∀ m x, x + m = w → R_204 174 [(0, .ref 131), (5, .int (nI f)), (6, .int (nI d)), (7, .int (nI rest)), (8, .int (nI x))] [] (mk B J τ) = R_204 174 [(0, .ref 131), (5, .int (nI f)), (6, .int (nI d)), (7, .int (nI rest)), (8, .int (nI w))] [] (mk B J τ) := by
      intro m
      induction m with
      | zero => intro x hx; rw [show x = w by omega]
      | succ m ih2 =>
        intro x hx
        have l := led x (by omega)
        rw [f3 x (by omega), b2f] at l
        rw [← ih2 (x + 1) (by omega), e_204_174]
        have em : x - x / 2 * 2 = x % 2 := by omega
        by_cases c : x % 2 = 1
        · rw [c] at l
          have l' : F_201 [.ref 131, .int (nI rest), .int (nI f), .int (nI d), .int (nI (x / 2)), .int 1] (mk B J τ) = some (some (.int 0), mk B J τ) := l
          simp (disch := first | omega | (simp (disch := omega) only [n_ti, Int32.reduceToInt] <;> omega)) only [em, e_204_198, l', e_204_201, n_add, nl_add, nr_add, n_mul, nl_mul, nr_mul, n_sub, nr_dec, n_div, nr_sub_1, nr_sub_2, nr_sub_3, nr_sub_4, nr_sub_7, nr_sub_10, nr_sub_11, nr_sub_20, nr_sub_48, nr_sub_97, nl_sub_3, nl_sub_4, nl_sub_12, nl_sub_24, nl_sub_32, nr_div_2, nr_div_4, z_lt, z_le, z_eq, z_cl, n_ti, Int.toNat_natCast, Int32.reduceToInt, Int32.reduceToNatClampNeg, zc_add, zc_sub, zc_add_1, zc_add_2, zc_add_3, zc_add_4, zc_add_8, zc_add_10, zc_add_12, zc_add_16, zc_add_20, zc_sub_1, zc_sub_2, zc_sub_4, zc_sub_10, zc_sub_20, zc_sub_48, zc_sub_97, zc_mul_4, t_ltZ, f_ltZ, t_leZ, f_leZ, t_eqZ, f_eqZ, t_ltN, f_ltN, t_leN, f_leN, t_eqN, f_eqN, ↓reduceIte, and_true, true_and, and_false, false_and, and_self, or_true, true_or, or_false, false_or, or_self, not_true_eq_false, not_false_eq_true, tu_same, tu_eq, tu_ne, b_V, b_I, b_J]
        · have c' : x % 2 = 0 := by omega
          rw [c'] at l
          have l' : F_201 [.ref 131, .int (nI rest), .int (nI f), .int (nI d), .int (nI (x / 2)), .int 0] (mk B J τ) = some (some (.int 0), mk B J τ) := l
          simp (disch := first | omega | (simp (disch := omega) only [n_ti, Int32.reduceToInt] <;> omega)) only [em, e_204_198, l', e_204_201, n_add, nl_add, nr_add, n_mul, nl_mul, nr_mul, n_sub, nr_dec, n_div, nr_sub_1, nr_sub_2, nr_sub_3, nr_sub_4, nr_sub_7, nr_sub_10, nr_sub_11, nr_sub_20, nr_sub_48, nr_sub_97, nl_sub_3, nl_sub_4, nl_sub_12, nl_sub_24, nl_sub_32, nr_div_2, nr_div_4, z_lt, z_le, z_eq, z_cl, n_ti, Int.toNat_natCast, Int32.reduceToInt, Int32.reduceToNatClampNeg, zc_add, zc_sub, zc_add_1, zc_add_2, zc_add_3, zc_add_4, zc_add_8, zc_add_10, zc_add_12, zc_add_16, zc_add_20, zc_sub_1, zc_sub_2, zc_sub_4, zc_sub_10, zc_sub_20, zc_sub_48, zc_sub_97, zc_mul_4, t_ltZ, f_ltZ, t_leZ, f_leZ, t_eqZ, f_eqZ, t_ltN, f_ltN, t_leN, f_leN, t_eqN, f_eqN, ↓reduceIte, and_true, true_and, and_false, false_and, and_self, or_true, true_or, or_false, false_or, or_self, not_true_eq_false, not_false_eq_true, tu_same, tu_eq, tu_ne, b_V, b_I, b_J]
    have hB1 : BkB (tm_u (tm_u B 176 len (nI w)) 131 70 (nI (len + 1))) b n D := hB.tr (fun a k u => by simp (disch := omega) only [tu_same, tu_eq, tu_ne])
    have hC1 : CnB (tm_u (tm_u B 176 len (nI w)) 131 70 (nI (len + 1))) (tbl n D (2 ^ n)) (2 ^ n) := fun s st u1 u2 => by simp (disch := omega) only [tu_same, tu_eq, tu_ne]; exact hC s st u1 u2
    have l := led w f1
    rw [f2, b2t] at l
    have s199 := s_199 (J := J) (τ := τ) (t := w / 2) (mi := w % 2) (f := f) hn hD hb hB1 (by omega) (by omega) hf
    rw [hw2] at s199
    have s95 := s_95 (J := J) (τ := τ) (w % 2) (by omega) (hD (w / 2) (by omega)) hb hB1.1 (show w / 2 < 12 by omega) (hB1.2.2 (w / 2) (by omega))
    have e5 : tuM (w % 2) (D (w / 2)) = tuw D w := rfl
    rw [e5] at s95
    have htu := tuw_le hD f1
    have hl := lfw_le hD f1
    have en : nxt D w (4 * f + d) = 4 * (if lfw D w = 0 then f else lfw D w) + (d + tuw D w) % 4 := by
      unfold nxt
      rw [show (4 * f + d) / 4 = f by omega, show (4 * f + d) % 4 = d by omega]
    have hf' : (if lfw D w = 0 then f else lfw D w) ≤ 3 := by
      by_cases c : lfw D w = 0
      · rw [if_pos c]; exact hf
      · rw [if_neg c]; exact hl
    generalize (if lfw D w = 0 then f else lfw D w) = f' at *
    have hsh := shl_1 (t := w / 2) (by omega)
    rw [en] at b3
    obtain ⟨B', g1, g2, g3, g4⟩ := ih (rest ^^^ 2 ^ (w / 2)) f' ((d + tuw D w) % 4) (len + 1) (tm_u (tm_u B 176 len (nI w)) 131 70 (nI (len + 1))) (by omega) (by omega) hf' (by omega) b3 (by omega) hB1 hC1 (by simp (disch := omega) only [tu_same, tu_eq, tu_ne])
    rw [← en] at g3
    refine ⟨B', ?_, ?_, fun i hi => ?_, fun a y u1 u2 => ?_⟩
    · have go' : R_204 174 [(0, .ref 131), (5, .int (nI f)), (6, .int (nI d)), (7, .int (nI rest)), (8, .int 0)] [] (mk B J τ) = R_204 174 [(0, .ref 131), (5, .int (nI f)), (6, .int (nI d)), (7, .int (nI rest)), (8, .int (nI w))] [] (mk B J τ) := go w 0 (by omega)
      have em : w - w / 2 * 2 = w % 2 := by omega
      have em2 : d + tuw D w - (d + tuw D w) / 4 * 4 = (d + tuw D w) % 4 := by omega
      have el2 : (d + tuw D w) / 4 * 4 ≤ d + tuw D w := by omega
      rw [e_204_166]
      simp (disch := first | omega | (simp (disch := omega) only [n_ti, Int32.reduceToInt] <;> omega)) only [go', n_add, nl_add, nr_add, n_mul, nl_mul, nr_mul, n_sub, nr_dec, n_div, nr_sub_1, nr_sub_2, nr_sub_3, nr_sub_4, nr_sub_7, nr_sub_10, nr_sub_11, nr_sub_20, nr_sub_48, nr_sub_97, nl_sub_3, nl_sub_4, nl_sub_12, nl_sub_24, nl_sub_32, nr_div_2, nr_div_4, z_lt, z_le, z_eq, z_cl, n_ti, Int.toNat_natCast, Int32.reduceToInt, Int32.reduceToNatClampNeg, zc_add, zc_sub, zc_add_1, zc_add_2, zc_add_3, zc_add_4, zc_add_8, zc_add_10, zc_add_12, zc_add_16, zc_add_20, zc_sub_1, zc_sub_2, zc_sub_4, zc_sub_10, zc_sub_20, zc_sub_48, zc_sub_97, zc_mul_4, t_ltZ, f_ltZ, t_leZ, f_leZ, t_eqZ, f_eqZ, t_ltN, f_ltN, t_leN, f_leN, t_eqN, f_eqN, ↓reduceIte, and_true, true_and, and_false, false_and, and_self, or_true, true_or, or_false, false_or, or_self, not_true_eq_false, not_false_eq_true, tu_same, tu_eq, tu_ne, b_V, b_I, b_J]
      rw [← g1, e_204_174]
      by_cases c : w % 2 = 1
      · rw [c] at l s199 s95
        have l' : F_201 [.ref 131, .int (nI rest), .int (nI f), .int (nI d), .int (nI (w / 2)), .int 1] (mk B J τ) = some (some (.int 1), mk B J τ) := l
        have s199' : F_199 [.ref 131, .int (nI (w / 2)), .int 1, .int (nI f)] (mk (tm_u (tm_u B 176 len (nI w)) 131 70 (nI (len + 1))) J τ) = some (some (.int (nI f')), mk (tm_u (tm_u B 176 len (nI w)) 131 70 (nI (len + 1))) J τ) := s199
        have s95' : F_95 [.ref 131, .int (nI (w / 2)), .int 1] (mk (tm_u (tm_u B 176 len (nI w)) 131 70 (nI (len + 1))) J τ) = some (some (.int (nI (tuw D w))), mk (tm_u (tm_u B 176 len (nI w)) 131 70 (nI (len + 1))) J τ) := s95
        simp (disch := first | omega | (simp (disch := omega) only [n_ti, Int32.reduceToInt] <;> omega)) only [em, e_204_198, l', e_204_201, h7, e_204_249, s199', e_204_254, e_204_276, s95', e_204_279, em2, hsh, i_xor, n_add, nl_add, nr_add, n_mul, nl_mul, nr_mul, n_sub, nr_dec, n_div, nr_sub_1, nr_sub_2, nr_sub_3, nr_sub_4, nr_sub_7, nr_sub_10, nr_sub_11, nr_sub_20, nr_sub_48, nr_sub_97, nl_sub_3, nl_sub_4, nl_sub_12, nl_sub_24, nl_sub_32, nr_div_2, nr_div_4, z_lt, z_le, z_eq, z_cl, n_ti, Int.toNat_natCast, Int32.reduceToInt, Int32.reduceToNatClampNeg, zc_add, zc_sub, zc_add_1, zc_add_2, zc_add_3, zc_add_4, zc_add_8, zc_add_10, zc_add_12, zc_add_16, zc_add_20, zc_sub_1, zc_sub_2, zc_sub_4, zc_sub_10, zc_sub_20, zc_sub_48, zc_sub_97, zc_mul_4, t_ltZ, f_ltZ, t_leZ, f_leZ, t_eqZ, f_eqZ, t_ltN, f_ltN, t_leN, f_leN, t_eqN, f_eqN, ↓reduceIte, and_true, true_and, and_false, false_and, and_self, or_true, true_or, or_false, false_or, or_self, not_true_eq_false, not_false_eq_true, tu_same, tu_eq, tu_ne, b_V, b_I, b_J]
      · have c' : w % 2 = 0 := by omega
        rw [c'] at l s199 s95
        have l' : F_201 [.ref 131, .int (nI rest), .int (nI f), .int (nI d), .int (nI (w / 2)), .int 0] (mk B J τ) = some (some (.int 1), mk B J τ) := l
        have s199' : F_199 [.ref 131, .int (nI (w / 2)), .int 0, .int (nI f)] (mk (tm_u (tm_u B 176 len (nI w)) 131 70 (nI (len + 1))) J τ) = some (some (.int (nI f')), mk (tm_u (tm_u B 176 len (nI w)) 131 70 (nI (len + 1))) J τ) := s199
        have s95' : F_95 [.ref 131, .int (nI (w / 2)), .int 0] (mk (tm_u (tm_u B 176 len (nI w)) 131 70 (nI (len + 1))) J τ) = some (some (.int (nI (tuw D w))), mk (tm_u (tm_u B 176 len (nI w)) 131 70 (nI (len + 1))) J τ) := s95
        simp (disch := first | omega | (simp (disch := omega) only [n_ti, Int32.reduceToInt] <;> omega)) only [em, e_204_198, l', e_204_201, h7, e_204_249, s199', e_204_254, e_204_276, s95', e_204_279, em2, hsh, i_xor, n_add, nl_add, nr_add, n_mul, nl_mul, nr_mul, n_sub, nr_dec, n_div, nr_sub_1, nr_sub_2, nr_sub_3, nr_sub_4, nr_sub_7, nr_sub_10, nr_sub_11, nr_sub_20, nr_sub_48, nr_sub_97, nl_sub_3, nl_sub_4, nl_sub_12, nl_sub_24, nl_sub_32, nr_div_2, nr_div_4, z_lt, z_le, z_eq, z_cl, n_ti, Int.toNat_natCast, Int32.reduceToInt, Int32.reduceToNatClampNeg, zc_add, zc_sub, zc_add_1, zc_add_2, zc_add_3, zc_add_4, zc_add_8, zc_add_10, zc_add_12, zc_add_16, zc_add_20, zc_sub_1, zc_sub_2, zc_sub_4, zc_sub_10, zc_sub_20, zc_sub_48, zc_sub_97, zc_mul_4, t_ltZ, f_ltZ, t_leZ, f_leZ, t_eqZ, f_eqZ, t_ltN, f_ltN, t_leN, f_leN, t_eqN, f_eqN, ↓reduceIte, and_true, true_and, and_false, false_and, and_self, or_true, true_or, or_false, false_or, or_self, not_true_eq_false, not_false_eq_true, tu_same, tu_eq, tu_ne, b_V, b_I, b_J]
    · rw [g2]; congr 1; omega
    · by_cases e : i = 0
      · subst e
        rw [g4 176 (len + 0) (by omega) (by omega)]
        simp (disch := omega) only [tu_same, tu_eq, tu_ne]
        rfl
      · obtain ⟨j, rfl⟩ : ∃ j, i = j + 1 := ⟨i - 1, by omega⟩
        rw [show len + (j + 1) = len + 1 + j by omega, g3 j (by omega)]
        rfl
    · rw [g4 a y u1 (by omega)]
      simp (disch := omega) only [tu_same, tu_eq, tu_ne]
