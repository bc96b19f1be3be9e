/-! TOKENS: the class's reader -/
theorem kd3 : kdm 3 = 2 := by decide +kernel
theorem sh3 : (tm_sh 3).2 = 1400 := by decide +kernel
def TxA (A : Nat → Nat → Int32) (s : Nat → Int) (n : Nat) : Prop := n ≤ 1400 ∧ A 4 2 = nI n ∧ ∀ k, k < n → (A 3 k).toInt = s k ∧ -128 ≤ s k ∧ s k ≤ 127
theorem TxA.tr {A A' : Nat → Nat → Int32} {s : Nat → Int} {n : Nat} (h : TxA A s n) (f : ∀ a k, a = 3 ∨ (a = 4 ∧ k = 2) → A' a k = A a k) : TxA A' s n := ⟨h.1, (f _ _ (by omega)).trans h.2.1, fun k hk => by rw [f 3 k (by omega)]; exact h.2.2 k hk⟩
def ClT (A : Nat → Nat → Int32) (J : Nat → Nat → Int64) (t : TK) : Prop := A 4 6 = nI (tQ t) ∧ A 4 7 = nI (tK t) ∧ (tK t ≠ 36 → A 4 3 = nI (tE t)) ∧ (tK t = 31 ∨ tK t = 32 → A 4 8 = nI (tV t)) ∧ (tK t < 23 ∨ tK t = 30 → J 4 9 = lN (en32 (tL t)))
theorem ClT.tr {A A' : Nat → Nat → Int32} {J J' : Nat → Nat → Int64} {t : TK} (h : ClT A J t) (f : ∀ k, k = 3 ∨ k = 6 ∨ k = 7 ∨ k = 8 → A' 4 k = A 4 k) (g : J' 4 9 = J 4 9) : ClT A' J' t := ⟨(f _ (by omega)).trans h.1, (f _ (by omega)).trans h.2.1, fun e => (f _ (by omega)).trans (h.2.2.1 e), fun e => (f _ (by omega)).trans (h.2.2.2.1 e), fun e => g.trans (h.2.2.2.2 e)⟩
def WLt (J : Nat → Nat → Int64) : Prop := ∀ k, k < 23 → J 6 k = lN (en32 (wrd k))
theorem by_n {x : Int32} {z : Int} (h : x.toInt = z) (h0 : 0 ≤ z) : x = nI z.toNat := by
  have := z_hi x
  rw [z_eq, n_ti (by omega), h]
  omega
theorem s_1 {I : Nat → Nat → Int32} {J : Nat → Nat → Int64} {τ : tm_Tu} (a c : Nat) (h1 : 97 ≤ c) (h2 : c ≤ 122) : F_1 [.long (lN a), .int (nI c)] (mk I J τ) = some (some (.long (lN (a * 32 + (c - 96)))), mk I J τ) := by
  have e1 : (nI c - 97) + 1 = nI (c - 96) := by
    rw [nr_sub_97 h1]
    show nI (c - 97) + nI 1 = _
    rw [n_add]
    congr 1
    omega
  have e2 : (32 : Int64) = lN 32 := rfl
  rw [e_1, e1, nI_l (by omega), e2, lN_mul, lN_add]
theorem l_21 {A : Nat → Nat → Int32} {J : Nat → Nat → Int64} {τ : tm_Tu} {l : List Nat} (hl : l.length ≤ 8) (hok : okL l) (h9 : J 4 9 = lN (en32 l)) (hW : WLt J) : ∀ m k, k + m = 23 → R_21 2 [(0, .ref 4), (1, .int (nI k))] [] (mk A J τ) = some (some (.int (nI (kowF l m k))), mk A J τ) := by
  intro m
  induction m with
  | zero =>
    intro k hk
    rw [e_21_2]
    simp (disch := first | omega | (simp (disch := omega) only [n_ti, Int32.reduceToInt] <;> omega)) only [n_add, nl_add, nr_add, n_mul, nl_mul, nr_mul, n_sub, nr_dec, n_div, nr_sub_1, nr_sub_2, nr_sub_3, nr_sub_4, nr_sub_7, nr_sub_10, nr_sub_11, nr_sub_20, nr_sub_48, nr_sub_97, nl_sub_3, nl_sub_4, nl_sub_12, nl_sub_24, nl_sub_32, nr_div_2, nr_div_4, z_lt, z_le, z_eq, z_cl, n_ti, Int.toNat_natCast, Int32.reduceToInt, Int32.reduceToNatClampNeg, zc_add, zc_sub, zc_add_1, zc_add_2, zc_add_3, zc_add_4, zc_add_8, zc_add_10, zc_add_12, zc_add_16, zc_add_20, zc_sub_1, zc_sub_2, zc_sub_4, zc_sub_10, zc_sub_20, zc_sub_48, zc_sub_97, zc_mul_4, t_ltZ, f_ltZ, t_leZ, f_leZ, t_eqZ, f_eqZ, t_ltN, f_ltN, t_leN, f_leN, t_eqN, f_eqN, ↓reduceIte, and_true, true_and, and_false, false_and, and_self, or_true, true_or, or_false, false_or, or_self, not_true_eq_false, not_false_eq_true, tu_same, tu_eq, tu_ne, b_V, b_I, b_J]
    rfl
  | succ m ih =>
    intro k hk
    obtain ⟨w1, w2⟩ := wrd_okL (show k < 23 by omega)
    have hk6 := hW k (by omega)
    unfold kowF
    rw [e_21_2]
    by_cases c : wrd k = l
    · rw [if_pos c]
      have z : (lg_cmp (lN (en32 (wrd k))) (lN (en32 l))).toInt = 0 := (lgz _ _).mpr ((nm_32 w1 hl w2 hok).mpr c)
      simp (disch := first | omega | (simp (disch := omega) only [n_ti, Int32.reduceToInt] <;> omega)) only [hk6, h9, z, n_add, nl_add, nr_add, n_mul, nl_mul, nr_mul, n_sub, nr_dec, n_div, nr_sub_1, nr_sub_2, nr_sub_3, nr_sub_4, nr_sub_7, nr_sub_10, nr_sub_11, nr_sub_20, nr_sub_48, nr_sub_97, nl_sub_3, nl_sub_4, nl_sub_12, nl_sub_24, nl_sub_32, nr_div_2, nr_div_4, z_lt, z_le, z_eq, z_cl, n_ti, Int.toNat_natCast, Int32.reduceToInt, Int32.reduceToNatClampNeg, zc_add, zc_sub, zc_add_1, zc_add_2, zc_add_3, zc_add_4, zc_add_8, zc_add_10, zc_add_12, zc_add_16, zc_add_20, zc_sub_1, zc_sub_2, zc_sub_4, zc_sub_10, zc_sub_20, zc_sub_48, zc_sub_97, zc_mul_4, t_ltZ, f_ltZ, t_leZ, f_leZ, t_eqZ, f_eqZ, t_ltN, f_ltN, t_leN, f_leN, t_eqN, f_eqN, ↓reduceIte, and_true, true_and, and_false, false_and, and_self, or_true, true_or, or_false, false_or, or_self, not_true_eq_false, not_false_eq_true, tu_same, tu_eq, tu_ne, b_V, b_I, b_J]
    · rw [if_neg c, ← ih (k + 1) (by omega)]
      have z : ¬ (lg_cmp (lN (en32 (wrd k))) (lN (en32 l))).toInt = 0 := fun e => c ((nm_32 w1 hl w2 hok).mp ((lgz _ _).mp e))
      simp (disch := first | omega | (simp (disch := omega) only [n_ti, Int32.reduceToInt] <;> omega)) only [hk6, h9, z, n_add, nl_add, nr_add, n_mul, nl_mul, nr_mul, n_sub, nr_dec, n_div, nr_sub_1, nr_sub_2, nr_sub_3, nr_sub_4, nr_sub_7, nr_sub_10, nr_sub_11, nr_sub_20, nr_sub_48, nr_sub_97, nl_sub_3, nl_sub_4, nl_sub_12, nl_sub_24, nl_sub_32, nr_div_2, nr_div_4, z_lt, z_le, z_eq, z_cl, n_ti, Int.toNat_natCast, Int32.reduceToInt, Int32.reduceToNatClampNeg, zc_add, zc_sub, zc_add_1, zc_add_2, zc_add_3, zc_add_4, zc_add_8, zc_add_10, zc_add_12, zc_add_16, zc_add_20, zc_sub_1, zc_sub_2, zc_sub_4, zc_sub_10, zc_sub_20, zc_sub_48, zc_sub_97, zc_mul_4, t_ltZ, f_ltZ, t_leZ, f_leZ, t_eqZ, f_eqZ, t_ltN, f_ltN, t_leN, f_leN, t_eqN, f_eqN, ↓reduceIte, and_true, true_and, and_false, false_and, and_self, or_true, true_or, or_false, false_or, or_self, not_true_eq_false, not_false_eq_true, tu_same, tu_eq, tu_ne, b_V, b_I, b_J]
theorem s_21 {A : Nat → Nat → Int32} {J : Nat → Nat → Int64} {τ : tm_Tu} {l : List Nat} (hl : l.length ≤ 8) (hok : okL l) (h9 : J 4 9 = lN (en32 l)) (hW : WLt J) : F_21 [.ref 4] (mk A J τ) = some (some (.int (nI (kow l))), mk A J τ) := by
  rw [e_21]
  exact l_21 hl hok h9 hW 23 0 (by omega)
theorem l_22 {τ : tm_Tu} (hτ : τ.2.2.2.2 = 3) {s : Nat → Int} {n q E : Nat} (hE : E ≤ n) (hL : ∀ i, q ≤ i → i < E → isL (s i) = true) (hN : E < n → isL (s E) = false) : ∀ m e (A : Nat → Nat → Int32) (J : Nat → Nat → Int64), e + m = E → q ≤ e → TxA A s n → A 4 3 = nI e → J 4 9 = lN (en32 (lets s q (e - q))) → ∃ A' J', R_22 5 [(0, .ref 4)] [] (mk A J τ) = R_22 64 [(0, .ref 4)] [] (mk A' J' τ) ∧ A' 4 3 = nI E ∧ J' 4 9 = lN (en32 (lets s q (E - q))) ∧ (∀ a y, ¬ (a = 4 ∧ y = 3) → A' a y = A a y) ∧ (∀ a y, ¬ (a = 4 ∧ y = 9) → J' a y = J a y) := by
  intro m
  induction m with
  | zero =>
    intro e A J he hq hT h3 h9
    have e' : e = E := by omega
    subst e'
    obtain ⟨t1, t2, t3⟩ := id hT
    refine ⟨A, J, ?_, h3, h9, fun _ _ _ => rfl, fun _ _ _ => rfl⟩
    rw [e_22_5]
    by_cases c : e < n
    · have hn := hN c
      obtain ⟨b1, b2, b3⟩ := t3 e c
      unfold isL at hn
      rw [decide_eq_false_iff_not] at hn
      have hz : (A 3 e).toInt < 97 ∨ 122 < (A 3 e).toInt := by omega
      simp (disch := first | omega | (simp (disch := omega) only [n_ti, Int32.reduceToInt] <;> omega)) only [t2, h3, hτ, kd3, sh3, s_20f hz, e_22_28, n_add, nl_add, nr_add, n_mul, nl_mul, nr_mul, n_sub, nr_dec, n_div, nr_sub_1, nr_sub_2, nr_sub_3, nr_sub_4, nr_sub_7, nr_sub_10, nr_sub_11, nr_sub_20, nr_sub_48, nr_sub_97, nl_sub_3, nl_sub_4, nl_sub_12, nl_sub_24, nl_sub_32, nr_div_2, nr_div_4, z_lt, z_le, z_eq, z_cl, n_ti, Int.toNat_natCast, Int32.reduceToInt, Int32.reduceToNatClampNeg, zc_add, zc_sub, zc_add_1, zc_add_2, zc_add_3, zc_add_4, zc_add_8, zc_add_10, zc_add_12, zc_add_16, zc_add_20, zc_sub_1, zc_sub_2, zc_sub_4, zc_sub_10, zc_sub_20, zc_sub_48, zc_sub_97, zc_mul_4, t_ltZ, f_ltZ, t_leZ, f_leZ, t_eqZ, f_eqZ, t_ltN, f_ltN, t_leN, f_leN, t_eqN, f_eqN, ↓reduceIte, and_true, true_and, and_false, false_and, and_self, or_true, true_or, or_false, false_or, or_self, not_true_eq_false, not_false_eq_true, tu_same, tu_eq, tu_ne, b_V, b_I, b_J]
    · simp (disch := first | omega | (simp (disch := omega) only [n_ti, Int32.reduceToInt] <;> omega)) only [t2, h3, n_add, nl_add, nr_add, n_mul, nl_mul, nr_mul, n_sub, nr_dec, n_div, nr_sub_1, nr_sub_2, nr_sub_3, nr_sub_4, nr_sub_7, nr_sub_10, nr_sub_11, nr_sub_20, nr_sub_48, nr_sub_97, nl_sub_3, nl_sub_4, nl_sub_12, nl_sub_24, nl_sub_32, nr_div_2, nr_div_4, z_lt, z_le, z_eq, z_cl, n_ti, Int.toNat_natCast, Int32.reduceToInt, Int32.reduceToNatClampNeg, zc_add, zc_sub, zc_add_1, zc_add_2, zc_add_3, zc_add_4, zc_add_8, zc_add_10, zc_add_12, zc_add_16, zc_add_20, zc_sub_1, zc_sub_2, zc_sub_4, zc_sub_10, zc_sub_20, zc_sub_48, zc_sub_97, zc_mul_4, t_ltZ, f_ltZ, t_leZ, f_leZ, t_eqZ, f_eqZ, t_ltN, f_ltN, t_leN, f_leN, t_eqN, f_eqN, ↓reduceIte, and_true, true_and, and_false, false_and, and_self, or_true, true_or, or_false, false_or, or_self, not_true_eq_false, not_false_eq_true, tu_same, tu_eq, tu_ne, b_V, b_I, b_J]
  | succ m ih =>
    intro e A J he hq hT h3 h9
    obtain ⟨t1, t2, t3⟩ := id hT
    have hl := hL e hq (by omega)
    obtain ⟨b1, b2, b3⟩ := t3 e (by omega)
    unfold isL at hl
    rw [decide_eq_true_iff] at hl
    have hb : A 3 e = nI (s e).toNat := by_n b1 (by omega)
    have s1 := s_1 (I := A) (J := J) (τ := τ) (en32 (lets s q (e - q))) (s e).toNat (by omega) (by omega)
    have hz1 : 97 ≤ (nI (s e).toNat).toInt := by rw [n_ti (by omega)]; omega
    have hz2 : (nI (s e).toNat).toInt ≤ 122 := by rw [n_ti (by omega)]; omega
    have el : en32 (lets s q (e + 1 - q)) = en32 (lets s q (e - q)) * 32 + ((s e).toNat - 96) := by
      rw [show e + 1 - q = (e - q) + 1 by omega]
      show en32 (lets s q (e - q) ++ [(s (q + (e - q))).toNat]) = _
      rw [en32_app, show q + (e - q) = e by omega]
    obtain ⟨A', J', g1, g2, g3, g4, g5⟩ := ih (e + 1) (tm_u A 4 3 (nI (e + 1))) (tm_u J 4 9 (lN (en32 (lets s q (e - q)) * 32 + ((s e).toNat - 96)))) (by omega) (by omega) (hT.tr (fun a k u => by simp (disch := omega) only [tu_same, tu_eq, tu_ne])) (by simp (disch := omega) only [tu_same, tu_eq, tu_ne]) (by simp (disch := omega) only [el, tu_same, tu_eq, tu_ne])
    refine ⟨A', J', ?_, g2, g3, fun a y h => (g4 a y h).trans (by simp (disch := omega) only [tu_same, tu_eq, tu_ne]), fun a y h => (g5 a y h).trans (by simp (disch := omega) only [tu_same, tu_eq, tu_ne])⟩
    rw [← g1, e_22_5]
    simp (disch := first | omega | (simp (disch := omega) only [n_ti, Int32.reduceToInt] <;> omega)) only [t2, h3, hτ, kd3, sh3, hb, s_20t hz1 hz2, e_22_28, h9, s1, e_22_48, n_add, nl_add, nr_add, n_mul, nl_mul, nr_mul, n_sub, nr_dec, n_div, nr_sub_1, nr_sub_2, nr_sub_3, nr_sub_4, nr_sub_7, nr_sub_10, nr_sub_11, nr_sub_20, nr_sub_48, nr_sub_97, nl_sub_3, nl_sub_4, nl_sub_12, nl_sub_24, nl_sub_32, nr_div_2, nr_div_4, z_lt, z_le, z_eq, z_cl, n_ti, Int.toNat_natCast, Int32.reduceToInt, Int32.reduceToNatClampNeg, zc_add, zc_sub, zc_add_1, zc_add_2, zc_add_3, zc_add_4, zc_add_8, zc_add_10, zc_add_12, zc_add_16, zc_add_20, zc_sub_1, zc_sub_2, zc_sub_4, zc_sub_10, zc_sub_20, zc_sub_48, zc_sub_97, zc_mul_4, t_ltZ, f_ltZ, t_leZ, f_leZ, t_eqZ, f_eqZ, t_ltN, f_ltN, t_leN, f_leN, t_eqN, f_eqN, ↓reduceIte, and_true, true_and, and_false, false_and, and_self, or_true, true_or, or_false, false_or, or_self, not_true_eq_false, not_false_eq_true, tu_same, tu_eq, tu_ne, b_V, b_I, b_J]
theorem l_24 {τ : tm_Tu} {J : Nat → Nat → Int64} (hτ : τ.2.2.2.2 = 3) {s : Nat → Int} {n q E : Nat} (hE : E ≤ n) (hL : ∀ i, q ≤ i → i < E → isD (s i) = true) (hN : E < n → isD (s E) = false) : ∀ m e (A : Nat → Nat → Int32), e + m = E → q ≤ e → TxA A s n → A 4 3 = nI e → A 4 8 = nI (numF s q (e - q)) → ∃ A', R_24 5 [(0, .ref 4)] [] (mk A J τ) = R_24 68 [(0, .ref 4)] [] (mk A' J τ) ∧ A' 4 3 = nI E ∧ A' 4 8 = nI (numF s q (E - q)) ∧ (∀ a y, ¬ (a = 4 ∧ (y = 3 ∨ y = 8)) → A' a y = A a y) := by
  intro m
  induction m with
  | zero =>
    intro e A he hq hT h3 h8
    have e' : e = E := by omega
    subst e'
    obtain ⟨t1, t2, t3⟩ := id hT
    refine ⟨A, ?_, h3, h8, fun _ _ _ => rfl⟩
    rw [e_24_5]
    by_cases c : e < n
    · have hn := hN c
      obtain ⟨b1, b2, b3⟩ := t3 e c
      unfold isD at hn
      rw [decide_eq_false_iff_not] at hn
      have s23 : F_23 [.int (A 3 e)] (mk A J τ) = some (some (.int 0), mk A J τ) := by
        by_cases c1 : (A 3 e).toInt < 48
        · simp (disch := first | omega | (simp (disch := omega) only [n_ti, Int32.reduceToInt] <;> omega)) only [e_23, e_23_16, e_23_17, n_add, nl_add, nr_add, n_mul, nl_mul, nr_mul, n_sub, nr_dec, n_div, nr_sub_1, nr_sub_2, nr_sub_3, nr_sub_4, nr_sub_7, nr_sub_10, nr_sub_11, nr_sub_20, nr_sub_48, nr_sub_97, nl_sub_3, nl_sub_4, nl_sub_12, nl_sub_24, nl_sub_32, nr_div_2, nr_div_4, z_lt, z_le, z_eq, z_cl, n_ti, Int.toNat_natCast, Int32.reduceToInt, Int32.reduceToNatClampNeg, zc_add, zc_sub, zc_add_1, zc_add_2, zc_add_3, zc_add_4, zc_add_8, zc_add_10, zc_add_12, zc_add_16, zc_add_20, zc_sub_1, zc_sub_2, zc_sub_4, zc_sub_10, zc_sub_20, zc_sub_48, zc_sub_97, zc_mul_4, t_ltZ, f_ltZ, t_leZ, f_leZ, t_eqZ, f_eqZ, t_ltN, f_ltN, t_leN, f_leN, t_eqN, f_eqN, ↓reduceIte, and_true, true_and, and_false, false_and, and_self, or_true, true_or, or_false, false_or, or_self, not_true_eq_false, not_false_eq_true, tu_same, tu_eq, tu_ne, b_V, b_I, b_J]
        · simp (disch := first | omega | (simp (disch := omega) only [n_ti, Int32.reduceToInt] <;> omega)) only [e_23, e_23_16, e_23_17, n_add, nl_add, nr_add, n_mul, nl_mul, nr_mul, n_sub, nr_dec, n_div, nr_sub_1, nr_sub_2, nr_sub_3, nr_sub_4, nr_sub_7, nr_sub_10, nr_sub_11, nr_sub_20, nr_sub_48, nr_sub_97, nl_sub_3, nl_sub_4, nl_sub_12, nl_sub_24, nl_sub_32, nr_div_2, nr_div_4, z_lt, z_le, z_eq, z_cl, n_ti, Int.toNat_natCast, Int32.reduceToInt, Int32.reduceToNatClampNeg, zc_add, zc_sub, zc_add_1, zc_add_2, zc_add_3, zc_add_4, zc_add_8, zc_add_10, zc_add_12, zc_add_16, zc_add_20, zc_sub_1, zc_sub_2, zc_sub_4, zc_sub_10, zc_sub_20, zc_sub_48, zc_sub_97, zc_mul_4, t_ltZ, f_ltZ, t_leZ, f_leZ, t_eqZ, f_eqZ, t_ltN, f_ltN, t_leN, f_leN, t_eqN, f_eqN, ↓reduceIte, and_true, true_and, and_false, false_and, and_self, or_true, true_or, or_false, false_or, or_self, not_true_eq_false, not_false_eq_true, tu_same, tu_eq, tu_ne, b_V, b_I, b_J]
      simp (disch := first | omega | (simp (disch := omega) only [n_ti, Int32.reduceToInt] <;> omega)) only [t2, h3, hτ, kd3, sh3, s23, e_24_28, n_add, nl_add, nr_add, n_mul, nl_mul, nr_mul, n_sub, nr_dec, n_div, nr_sub_1, nr_sub_2, nr_sub_3, nr_sub_4, nr_sub_7, nr_sub_10, nr_sub_11, nr_sub_20, nr_sub_48, nr_sub_97, nl_sub_3, nl_sub_4, nl_sub_12, nl_sub_24, nl_sub_32, nr_div_2, nr_div_4, z_lt, z_le, z_eq, z_cl, n_ti, Int.toNat_natCast, Int32.reduceToInt, Int32.reduceToNatClampNeg, zc_add, zc_sub, zc_add_1, zc_add_2, zc_add_3, zc_add_4, zc_add_8, zc_add_10, zc_add_12, zc_add_16, zc_add_20, zc_sub_1, zc_sub_2, zc_sub_4, zc_sub_10, zc_sub_20, zc_sub_48, zc_sub_97, zc_mul_4, t_ltZ, f_ltZ, t_leZ, f_leZ, t_eqZ, f_eqZ, t_ltN, f_ltN, t_leN, f_leN, t_eqN, f_eqN, ↓reduceIte, and_true, true_and, and_false, false_and, and_self, or_true, true_or, or_false, false_or, or_self, not_true_eq_false, not_false_eq_true, tu_same, tu_eq, tu_ne, b_V, b_I, b_J]
    · simp (disch := first | omega | (simp (disch := omega) only [n_ti, Int32.reduceToInt] <;> omega)) only [t2, h3, n_add, nl_add, nr_add, n_mul, nl_mul, nr_mul, n_sub, nr_dec, n_div, nr_sub_1, nr_sub_2, nr_sub_3, nr_sub_4, nr_sub_7, nr_sub_10, nr_sub_11, nr_sub_20, nr_sub_48, nr_sub_97, nl_sub_3, nl_sub_4, nl_sub_12, nl_sub_24, nl_sub_32, nr_div_2, nr_div_4, z_lt, z_le, z_eq, z_cl, n_ti, Int.toNat_natCast, Int32.reduceToInt, Int32.reduceToNatClampNeg, zc_add, zc_sub, zc_add_1, zc_add_2, zc_add_3, zc_add_4, zc_add_8, zc_add_10, zc_add_12, zc_add_16, zc_add_20, zc_sub_1, zc_sub_2, zc_sub_4, zc_sub_10, zc_sub_20, zc_sub_48, zc_sub_97, zc_mul_4, t_ltZ, f_ltZ, t_leZ, f_leZ, t_eqZ, f_eqZ, t_ltN, f_ltN, t_leN, f_leN, t_eqN, f_eqN, ↓reduceIte, and_true, true_and, and_false, false_and, and_self, or_true, true_or, or_false, false_or, or_self, not_true_eq_false, not_false_eq_true, tu_same, tu_eq, tu_ne, b_V, b_I, b_J]
  | succ m ih =>
    intro e A he hq hT h3 h8
    obtain ⟨t1, t2, t3⟩ := id hT
    have hl := hL e hq (by omega)
    obtain ⟨b1, b2, b3⟩ := t3 e (by omega)
    unfold isD at hl
    rw [decide_eq_true_iff] at hl
    have hb : A 3 e = nI (s e).toNat := by_n b1 (by omega)
    have s23 : F_23 [.int (A 3 e)] (mk A J τ) = some (some (.int 1), mk A J τ) := by simp (disch := first | omega | (simp (disch := omega) only [n_ti, Int32.reduceToInt] <;> omega)) only [e_23, e_23_17, n_add, nl_add, nr_add, n_mul, nl_mul, nr_mul, n_sub, nr_dec, n_div, nr_sub_1, nr_sub_2, nr_sub_3, nr_sub_4, nr_sub_7, nr_sub_10, nr_sub_11, nr_sub_20, nr_sub_48, nr_sub_97, nl_sub_3, nl_sub_4, nl_sub_12, nl_sub_24, nl_sub_32, nr_div_2, nr_div_4, z_lt, z_le, z_eq, z_cl, n_ti, Int.toNat_natCast, Int32.reduceToInt, Int32.reduceToNatClampNeg, zc_add, zc_sub, zc_add_1, zc_add_2, zc_add_3, zc_add_4, zc_add_8, zc_add_10, zc_add_12, zc_add_16, zc_add_20, zc_sub_1, zc_sub_2, zc_sub_4, zc_sub_10, zc_sub_20, zc_sub_48, zc_sub_97, zc_mul_4, t_ltZ, f_ltZ, t_leZ, f_leZ, t_eqZ, f_eqZ, t_ltN, f_ltN, t_leN, f_leN, t_eqN, f_eqN, ↓reduceIte, and_true, true_and, and_false, false_and, and_self, or_true, true_or, or_false, false_or, or_self, not_true_eq_false, not_false_eq_true, tu_same, tu_eq, tu_ne, b_V, b_I, b_J]
    rw [hb] at s23
    have el : numF s q (e + 1 - q) = numF s q (e - q) * 10 + ((s e).toNat - 48) := by
      rw [show e + 1 - q = (e - q) + 1 by omega]
      show numF s q (e - q) * 10 + ((s (q + (e - q))).toNat - 48) = _
      rw [show q + (e - q) = e by omega]
    obtain ⟨A', g1, g2, g3, g4⟩ := ih (e + 1) (tm_u (tm_u A 4 8 (nI (numF s q (e - q) * 10 + ((s e).toNat - 48)))) 4 3 (nI (e + 1))) (by omega) (by omega) (hT.tr (fun a k u => by simp (disch := omega) only [tu_same, tu_eq, tu_ne])) (by simp (disch := omega) only [tu_same, tu_eq, tu_ne]) (by simp (disch := omega) only [el, tu_same, tu_eq, tu_ne])
    refine ⟨A', ?_, g2, g3, fun a y h => (g4 a y h).trans (by simp (disch := omega) only [tu_same, tu_eq, tu_ne])⟩
    rw [← g1, e_24_5]
    simp (disch := first | omega | (simp (disch := omega) only [n_ti, Int32.reduceToInt] <;> omega)) only [t2, h3, hτ, kd3, sh3, hb, s23, e_24_28, h8, n_add, nl_add, nr_add, n_mul, nl_mul, nr_mul, n_sub, nr_dec, n_div, nr_sub_1, nr_sub_2, nr_sub_3, nr_sub_4, nr_sub_7, nr_sub_10, nr_sub_11, nr_sub_20, nr_sub_48, nr_sub_97, nl_sub_3, nl_sub_4, nl_sub_12, nl_sub_24, nl_sub_32, nr_div_2, nr_div_4, z_lt, z_le, z_eq, z_cl, n_ti, Int.toNat_natCast, Int32.reduceToInt, Int32.reduceToNatClampNeg, zc_add, zc_sub, zc_add_1, zc_add_2, zc_add_3, zc_add_4, zc_add_8, zc_add_10, zc_add_12, zc_add_16, zc_add_20, zc_sub_1, zc_sub_2, zc_sub_4, zc_sub_10, zc_sub_20, zc_sub_48, zc_sub_97, zc_mul_4, t_ltZ, f_ltZ, t_leZ, f_leZ, t_eqZ, f_eqZ, t_ltN, f_ltN, t_leN, f_leN, t_eqN, f_eqN, ↓reduceIte, and_true, true_and, and_false, false_and, and_self, or_true, true_or, or_false, false_or, or_self, not_true_eq_false, not_false_eq_true, tu_same, tu_eq, tu_ne, b_V, b_I, b_J]
theorem fI_F {z : Int} (h : isF z = true) : ¬ (fI z).toInt = -1 ∧ ¬ (fI z).toInt < 0 := by
  unfold isF at h
  rw [decide_eq_true_iff] at h
  rcases h with e | e | e | e <;> subst e <;> decide
theorem fI_N {z : Int} (h : isF z = false) : (fI z).toInt = -1 ∧ fI z = -1 := by
  unfold isF at h
  rw [decide_eq_false_iff_not] at h
  have e : fI z = -1 := by
    unfold fI
    rw [if_neg (by omega), if_neg (by omega), if_neg (by omega), if_neg (by omega)]
  rw [e]
  exact ⟨by decide, rfl⟩
theorem l_26 {τ : tm_Tu} {J : Nat → Nat → Int64} (hτ : τ.2.2.2.2 = 3) {s : Nat → Int} {n q E : Nat} (hE : E ≤ n) (hL : ∀ i, q ≤ i → i < E → isF (s i) = true) (hN : E < n → isF (s E) = false) : ∀ m e (A : Nat → Nat → Int32), e + m = E → q ≤ e → TxA A s n → A 4 3 = nI e → ∃ A', R_26 10 [(0, .ref 4)] [] (mk A J τ) = R_26 50 [(0, .ref 4)] [] (mk A' J τ) ∧ A' 4 3 = nI E ∧ (∀ a y, ¬ (a = 4 ∧ y = 3) → A' a y = A a y) := by
  intro m
  induction m with
  | zero =>
    intro e A he hq hT h3
    have e' : e = E := by omega
    subst e'
    obtain ⟨t1, t2, t3⟩ := id hT
    refine ⟨A, ?_, h3, fun _ _ _ => rfl⟩
    rw [e_26_10]
    by_cases c : e < n
    · have hn := hN c
      obtain ⟨b1, b2, b3⟩ := t3 e c
      have hf := (fI_N hn).2
      simp (disch := first | omega | (simp (disch := omega) only [n_ti, Int32.reduceToInt] <;> omega)) only [t2, h3, hτ, kd3, sh3, s_25, b1, hf, e_26_33, n_add, nl_add, nr_add, n_mul, nl_mul, nr_mul, n_sub, nr_dec, n_div, nr_sub_1, nr_sub_2, nr_sub_3, nr_sub_4, nr_sub_7, nr_sub_10, nr_sub_11, nr_sub_20, nr_sub_48, nr_sub_97, nl_sub_3, nl_sub_4, nl_sub_12, nl_sub_24, nl_sub_32, nr_div_2, nr_div_4, z_lt, z_le, z_eq, z_cl, n_ti, Int.toNat_natCast, Int32.reduceToInt, Int32.reduceToNatClampNeg, zc_add, zc_sub, zc_add_1, zc_add_2, zc_add_3, zc_add_4, zc_add_8, zc_add_10, zc_add_12, zc_add_16, zc_add_20, zc_sub_1, zc_sub_2, zc_sub_4, zc_sub_10, zc_sub_20, zc_sub_48, zc_sub_97, zc_mul_4, t_ltZ, f_ltZ, t_leZ, f_leZ, t_eqZ, f_eqZ, t_ltN, f_ltN, t_leN, f_leN, t_eqN, f_eqN, ↓reduceIte, and_true, true_and, and_false, false_and, and_self, or_true, true_or, or_false, false_or, or_self, not_true_eq_false, not_false_eq_true, tu_same, tu_eq, tu_ne, b_V, b_I, b_J]
    · simp (disch := first | omega | (simp (disch := omega) only [n_ti, Int32.reduceToInt] <;> omega)) only [t2, h3, n_add, nl_add, nr_add, n_mul, nl_mul, nr_mul, n_sub, nr_dec, n_div, nr_sub_1, nr_sub_2, nr_sub_3, nr_sub_4, nr_sub_7, nr_sub_10, nr_sub_11, nr_sub_20, nr_sub_48, nr_sub_97, nl_sub_3, nl_sub_4, nl_sub_12, nl_sub_24, nl_sub_32, nr_div_2, nr_div_4, z_lt, z_le, z_eq, z_cl, n_ti, Int.toNat_natCast, Int32.reduceToInt, Int32.reduceToNatClampNeg, zc_add, zc_sub, zc_add_1, zc_add_2, zc_add_3, zc_add_4, zc_add_8, zc_add_10, zc_add_12, zc_add_16, zc_add_20, zc_sub_1, zc_sub_2, zc_sub_4, zc_sub_10, zc_sub_20, zc_sub_48, zc_sub_97, zc_mul_4, t_ltZ, f_ltZ, t_leZ, f_leZ, t_eqZ, f_eqZ, t_ltN, f_ltN, t_leN, f_leN, t_eqN, f_eqN, ↓reduceIte, and_true, true_and, and_false, false_and, and_self, or_true, true_or, or_false, false_or, or_self, not_true_eq_false, not_false_eq_true, tu_same, tu_eq, tu_ne, b_V, b_I, b_J]
  | succ m ih =>
    intro e A he hq hT h3
    obtain ⟨t1, t2, t3⟩ := id hT
    obtain ⟨b1, b2, b3⟩ := t3 e (by omega)
    have hf := (fI_F (hL e hq (by omega))).1
    obtain ⟨A', g1, g2, g4⟩ := ih (e + 1) (tm_u A 4 3 (nI (e + 1))) (by omega) (by omega) (hT.tr (fun a k u => by simp (disch := omega) only [tu_same, tu_eq, tu_ne])) (by simp (disch := omega) only [tu_same, tu_eq, tu_ne])
    refine ⟨A', ?_, g2, fun a y h => (g4 a y h).trans (by simp (disch := omega) only [tu_same, tu_eq, tu_ne])⟩
    rw [← g1, e_26_10]
    simp (disch := first | omega | (simp (disch := omega) only [n_ti, Int32.reduceToInt] <;> omega)) only [t2, h3, hτ, kd3, sh3, s_25, b1, hf, e_26_33, n_add, nl_add, nr_add, n_mul, nl_mul, nr_mul, n_sub, nr_dec, n_div, nr_sub_1, nr_sub_2, nr_sub_3, nr_sub_4, nr_sub_7, nr_sub_10, nr_sub_11, nr_sub_20, nr_sub_48, nr_sub_97, nl_sub_3, nl_sub_4, nl_sub_12, nl_sub_24, nl_sub_32, nr_div_2, nr_div_4, z_lt, z_le, z_eq, z_cl, n_ti, Int.toNat_natCast, Int32.reduceToInt, Int32.reduceToNatClampNeg, zc_add, zc_sub, zc_add_1, zc_add_2, zc_add_3, zc_add_4, zc_add_8, zc_add_10, zc_add_12, zc_add_16, zc_add_20, zc_sub_1, zc_sub_2, zc_sub_4, zc_sub_10, zc_sub_20, zc_sub_48, zc_sub_97, zc_mul_4, t_ltZ, f_ltZ, t_leZ, f_leZ, t_eqZ, f_eqZ, t_ltN, f_ltN, t_leN, f_leN, t_eqN, f_eqN, ↓reduceIte, and_true, true_and, and_false, false_and, and_self, or_true, true_or, or_false, false_or, or_self, not_true_eq_false, not_false_eq_true, tu_same, tu_eq, tu_ne, b_V, b_I, b_J]
theorem l_28 {τ : tm_Tu} {J : Nat → Nat → Int64} (hτ : τ.2.2.2.2 = 3) {s : Nat → Int} {n E : Nat} (hE : E ≤ n) : ∀ m e (A : Nat → Nat → Int32), e + m = E → (∀ i, e ≤ i → i < E → isW (s i) = true) → (E < n → isW (s E) = false) → TxA A s n → A 4 3 = nI e → ∃ A', R_28 0 [(0, .ref 4)] [] (mk A J τ) = R_28 52 [(0, .ref 4)] [] (mk A' J τ) ∧ A' 4 3 = nI E ∧ (∀ a y, ¬ (a = 4 ∧ y = 3) → A' a y = A a y) := by
  intro m
  induction m with
  | zero =>
    intro e A he hL hN hT h3
    have e' : e = E := by omega
    subst e'
    obtain ⟨t1, t2, t3⟩ := id hT
    refine ⟨A, ?_, h3, fun _ _ _ => rfl⟩
    rw [e_28_0]
    by_cases c : e < n
    · have hn := hN c
      obtain ⟨b1, b2, b3⟩ := t3 e c
      unfold isW at hn
      rw [decide_eq_false_iff_not] at hn
      simp (disch := first | omega | (simp (disch := omega) only [n_ti, Int32.reduceToInt] <;> omega)) only [t2, h3, hτ, kd3, sh3, n_add, nl_add, nr_add, n_mul, nl_mul, nr_mul, n_sub, nr_dec, n_div, nr_sub_1, nr_sub_2, nr_sub_3, nr_sub_4, nr_sub_7, nr_sub_10, nr_sub_11, nr_sub_20, nr_sub_48, nr_sub_97, nl_sub_3, nl_sub_4, nl_sub_12, nl_sub_24, nl_sub_32, nr_div_2, nr_div_4, z_lt, z_le, z_eq, z_cl, n_ti, Int.toNat_natCast, Int32.reduceToInt, Int32.reduceToNatClampNeg, zc_add, zc_sub, zc_add_1, zc_add_2, zc_add_3, zc_add_4, zc_add_8, zc_add_10, zc_add_12, zc_add_16, zc_add_20, zc_sub_1, zc_sub_2, zc_sub_4, zc_sub_10, zc_sub_20, zc_sub_48, zc_sub_97, zc_mul_4, t_ltZ, f_ltZ, t_leZ, f_leZ, t_eqZ, f_eqZ, t_ltN, f_ltN, t_leN, f_leN, t_eqN, f_eqN, ↓reduceIte, and_true, true_and, and_false, false_and, and_self, or_true, true_or, or_false, false_or, or_self, not_true_eq_false, not_false_eq_true, tu_same, tu_eq, tu_ne, b_V, b_I, b_J]
    · simp (disch := first | omega | (simp (disch := omega) only [n_ti, Int32.reduceToInt] <;> omega)) only [t2, h3, n_add, nl_add, nr_add, n_mul, nl_mul, nr_mul, n_sub, nr_dec, n_div, nr_sub_1, nr_sub_2, nr_sub_3, nr_sub_4, nr_sub_7, nr_sub_10, nr_sub_11, nr_sub_20, nr_sub_48, nr_sub_97, nl_sub_3, nl_sub_4, nl_sub_12, nl_sub_24, nl_sub_32, nr_div_2, nr_div_4, z_lt, z_le, z_eq, z_cl, n_ti, Int.toNat_natCast, Int32.reduceToInt, Int32.reduceToNatClampNeg, zc_add, zc_sub, zc_add_1, zc_add_2, zc_add_3, zc_add_4, zc_add_8, zc_add_10, zc_add_12, zc_add_16, zc_add_20, zc_sub_1, zc_sub_2, zc_sub_4, zc_sub_10, zc_sub_20, zc_sub_48, zc_sub_97, zc_mul_4, t_ltZ, f_ltZ, t_leZ, f_leZ, t_eqZ, f_eqZ, t_ltN, f_ltN, t_leN, f_leN, t_eqN, f_eqN, ↓reduceIte, and_true, true_and, and_false, false_and, and_self, or_true, true_or, or_false, false_or, or_self, not_true_eq_false, not_false_eq_true, tu_same, tu_eq, tu_ne, b_V, b_I, b_J]
  | succ m ih =>
    intro e A he hL hN hT h3
    obtain ⟨t1, t2, t3⟩ := id hT
    obtain ⟨b1, b2, b3⟩ := t3 e (by omega)
    have hl := hL e (Nat.le_refl _) (by omega)
    unfold isW at hl
    rw [decide_eq_true_iff] at hl
    obtain ⟨A', g1, g2, g4⟩ := ih (e + 1) (tm_u A 4 3 (nI (e + 1))) (by omega) (fun i h1 h2 => hL i (by omega) h2) hN (hT.tr (fun a k u => by simp (disch := omega) only [tu_same, tu_eq, tu_ne])) (by simp (disch := omega) only [tu_same, tu_eq, tu_ne])
    refine ⟨A', ?_, g2, fun a y h => (g4 a y h).trans (by simp (disch := omega) only [tu_same, tu_eq, tu_ne])⟩
    rw [← g1, e_28_0]
    by_cases c1 : s e = 32
    · simp (disch := first | omega | (simp (disch := omega) only [n_ti, Int32.reduceToInt] <;> omega)) only [t2, h3, hτ, kd3, sh3, e_28_39, n_add, nl_add, nr_add, n_mul, nl_mul, nr_mul, n_sub, nr_dec, n_div, nr_sub_1, nr_sub_2, nr_sub_3, nr_sub_4, nr_sub_7, nr_sub_10, nr_sub_11, nr_sub_20, nr_sub_48, nr_sub_97, nl_sub_3, nl_sub_4, nl_sub_12, nl_sub_24, nl_sub_32, nr_div_2, nr_div_4, z_lt, z_le, z_eq, z_cl, n_ti, Int.toNat_natCast, Int32.reduceToInt, Int32.reduceToNatClampNeg, zc_add, zc_sub, zc_add_1, zc_add_2, zc_add_3, zc_add_4, zc_add_8, zc_add_10, zc_add_12, zc_add_16, zc_add_20, zc_sub_1, zc_sub_2, zc_sub_4, zc_sub_10, zc_sub_20, zc_sub_48, zc_sub_97, zc_mul_4, t_ltZ, f_ltZ, t_leZ, f_leZ, t_eqZ, f_eqZ, t_ltN, f_ltN, t_leN, f_leN, t_eqN, f_eqN, ↓reduceIte, and_true, true_and, and_false, false_and, and_self, or_true, true_or, or_false, false_or, or_self, not_true_eq_false, not_false_eq_true, tu_same, tu_eq, tu_ne, b_V, b_I, b_J]
    · have c2 : s e = 10 := by omega
      simp (disch := first | omega | (simp (disch := omega) only [n_ti, Int32.reduceToInt] <;> omega)) only [t2, h3, hτ, kd3, sh3, e_28_39, n_add, nl_add, nr_add, n_mul, nl_mul, nr_mul, n_sub, nr_dec, n_div, nr_sub_1, nr_sub_2, nr_sub_3, nr_sub_4, nr_sub_7, nr_sub_10, nr_sub_11, nr_sub_20, nr_sub_48, nr_sub_97, nl_sub_3, nl_sub_4, nl_sub_12, nl_sub_24, nl_sub_32, nr_div_2, nr_div_4, z_lt, z_le, z_eq, z_cl, n_ti, Int.toNat_natCast, Int32.reduceToInt, Int32.reduceToNatClampNeg, zc_add, zc_sub, zc_add_1, zc_add_2, zc_add_3, zc_add_4, zc_add_8, zc_add_10, zc_add_12, zc_add_16, zc_add_20, zc_sub_1, zc_sub_2, zc_sub_4, zc_sub_10, zc_sub_20, zc_sub_48, zc_sub_97, zc_mul_4, t_ltZ, f_ltZ, t_leZ, f_leZ, t_eqZ, f_eqZ, t_ltN, f_ltN, t_leN, f_leN, t_eqN, f_eqN, ↓reduceIte, and_true, true_and, and_false, false_and, and_self, or_true, true_or, or_false, false_or, or_self, not_true_eq_false, not_false_eq_true, tu_same, tu_eq, tu_ne, b_V, b_I, b_J]
theorem ite_e {α : Type} {c : Prop} {d : Decidable c} {a b : α} (h : ¬ c) : (if c then a else b) = b := if_neg h
set_option maxHeartbeats 2000000 in
theorem s_28 {τ : tm_Tu} (hτ : τ.2.2.2.2 = 3) {s : Nat → Int} {n p : Nat} {A : Nat → Nat → Int32} {J : Nat → Nat → Int64} (hT : TxA A s n) (hp : p ≤ n) (h3 : A 4 3 = nI p) (hW : WLt J) : ∃ A' J', F_28 [.ref 4] (mk A J τ) = some (none, mk A' J' τ) ∧ ClT A' J' (tok s n p) ∧ (∀ a y, ¬ (a = 4 ∧ (y = 3 ∨ y = 6 ∨ y = 7 ∨ y = 8)) → A' a y = A a y) ∧ (∀ a y, ¬ (a = 4 ∧ y = 9) → J' a y = J a y) := by
  obtain ⟨w1, w2, w3, w4⟩ := sc_P (fun k => isW (s k)) (n - p) p
  have ht : tok s n p = tkA s n (sc (fun k => isW (s k)) (n - p) p) := rfl
  rw [ht]
  generalize sc (fun k => isW (s k)) (n - p) p = q at *
  have hqn : q ≤ n := by omega
  obtain ⟨A1, g1, g2, g3⟩ := l_28 (J := J) hτ hqn (q - p) p A (by omega) w3 (fun h => w4 (by omega)) hT h3
  have st : F_28 [.ref 4] (mk A J τ) = R_28 52 [(0, .ref 4)] [] (mk A1 J τ) := by rw [← g1, e_28, e_28_0]
  have hT1 : TxA A1 s n := hT.tr (fun a k u => g3 a k (by omega))
  obtain ⟨t1, t2, t3⟩ := id hT1
  rw [st, e_28_52]
  unfold tkA
  by_cases c0 : n ≤ q
  · rw [if_pos c0]
    refine ⟨tm_u (tm_u A1 4 6 (nI q)) 4 7 35, J, ?_, ⟨by simp (disch := omega) only [tu_same, tu_eq, tu_ne], by simp (disch := omega) only [tu_same, tu_eq, tu_ne]; rfl, fun _ => ?_, fun h => ?_, fun h => ?_⟩, fun a y h => ?_, fun _ _ _ => rfl⟩
    · simp (disch := first | omega | (simp (disch := omega) only [n_ti, Int32.reduceToInt] <;> omega)) only [t2, g2, e_28_149, n_add, nl_add, nr_add, n_mul, nl_mul, nr_mul, n_sub, nr_dec, n_div, nr_sub_1, nr_sub_2, nr_sub_3, nr_sub_4, nr_sub_7, nr_sub_10, nr_sub_11, nr_sub_20, nr_sub_48, nr_sub_97, nl_sub_3, nl_sub_4, nl_sub_12, nl_sub_24, nl_sub_32, nr_div_2, nr_div_4, z_lt, z_le, z_eq, z_cl, n_ti, Int.toNat_natCast, Int32.reduceToInt, Int32.reduceToNatClampNeg, zc_add, zc_sub, zc_add_1, zc_add_2, zc_add_3, zc_add_4, zc_add_8, zc_add_10, zc_add_12, zc_add_16, zc_add_20, zc_sub_1, zc_sub_2, zc_sub_4, zc_sub_10, zc_sub_20, zc_sub_48, zc_sub_97, zc_mul_4, t_ltZ, f_ltZ, t_leZ, f_leZ, t_eqZ, f_eqZ, t_ltN, f_ltN, t_leN, f_leN, t_eqN, f_eqN, ↓reduceIte, and_true, true_and, and_false, false_and, and_self, or_true, true_or, or_false, false_or, or_self, not_true_eq_false, not_false_eq_true, tu_same, tu_eq, tu_ne, b_V, b_I, b_J]
    · simp (disch := omega) only [g2, tu_same, tu_eq, tu_ne]
      rw [show q = n by omega]
    · simp [tK] at h
    · simp [tK] at h
    · simp (disch := omega) only [tu_same, tu_eq, tu_ne]
      exact g3 a y (by omega)
  · rw [if_neg c0]
    obtain ⟨b1, b2, b3⟩ := t3 q (by omega)
    have hT2 : TxA (tm_u A1 4 6 (nI q)) s n := hT1.tr (fun a k u => by simp (disch := omega) only [tu_same, tu_eq, tu_ne])
    have a3 : (tm_u A1 4 6 (nI q)) 4 3 = nI q := by simp (disch := omega) only [g2, tu_same, tu_eq, tu_ne]
    cases hl : isL (s q) with
    | true =>
      rw [if_pos rfl]
      obtain ⟨v1, v2, v3, v4⟩ := sc_P (fun k => isL (s k)) (n - q) q
      generalize sc (fun k => isL (s k)) (n - q) q = E at *
      have hlt : 97 ≤ (A1 3 q).toInt ∧ (A1 3 q).toInt ≤ 122 := by
        unfold isL at hl
        rw [decide_eq_true_iff] at hl
        omega
      have hE : q < E := by
        by_cases c : E = q
        · have := v4 (by omega)
          rw [c, hl] at this
          cases this
        · omega
      obtain ⟨A2, J2, k1, k2, k3, k4, k5⟩ := l_22 hτ (s := s) (n := n) (q := q) (E := E) (by omega) v3 (fun h => v4 (by omega)) (E - q) q (tm_u A1 4 6 (nI q)) (tm_u J 4 9 0) (by omega) (Nat.le_refl _) hT2 a3 (by rw [Nat.sub_self]; simp (disch := omega) only [tu_same, tu_eq, tu_ne]; rfl)
      have a6 : A2 4 6 = nI q := by rw [k4 4 6 (by omega)]; simp (disch := omega) only [tu_same, tu_eq, tu_ne]
      have hW2 : WLt J2 := fun k hk => by rw [k5 6 k (by omega)]; simp (disch := omega) only [tu_same, tu_eq, tu_ne]; exact hW k hk
      have hok : okL (lets s q (E - q)) := lets_mem s q (E - q) (fun i hi => v3 (q + i) (by omega) (by omega))
      have hlen := lets_len s q (E - q)
      unfold tkW
      by_cases c8 : 8 < E - q
      · rw [if_pos c8]
        refine ⟨tm_u A2 4 7 36, J2, ?_, ⟨by simp (disch := omega) only [a6, tu_same, tu_eq, tu_ne], by simp (disch := omega) only [tu_same, tu_eq, tu_ne]; rfl, fun h => absurd rfl h, fun h => ?_, fun h => ?_⟩, fun a y h => ?_, fun a y h => ?_⟩
        · simp (disch := first | omega | (simp (disch := omega) only [n_ti, Int32.reduceToInt] <;> omega)) only [t2, g2, hτ, kd3, sh3, s_20t hlt.1 hlt.2, e_28_92, e_22, k1, e_22_64, k2, a6, e_22_88, e_28_99, e_28_149, n_add, nl_add, nr_add, n_mul, nl_mul, nr_mul, n_sub, nr_dec, n_div, nr_sub_1, nr_sub_2, nr_sub_3, nr_sub_4, nr_sub_7, nr_sub_10, nr_sub_11, nr_sub_20, nr_sub_48, nr_sub_97, nl_sub_3, nl_sub_4, nl_sub_12, nl_sub_24, nl_sub_32, nr_div_2, nr_div_4, z_lt, z_le, z_eq, z_cl, n_ti, Int.toNat_natCast, Int32.reduceToInt, Int32.reduceToNatClampNeg, zc_add, zc_sub, zc_add_1, zc_add_2, zc_add_3, zc_add_4, zc_add_8, zc_add_10, zc_add_12, zc_add_16, zc_add_20, zc_sub_1, zc_sub_2, zc_sub_4, zc_sub_10, zc_sub_20, zc_sub_48, zc_sub_97, zc_mul_4, t_ltZ, f_ltZ, t_leZ, f_leZ, t_eqZ, f_eqZ, t_ltN, f_ltN, t_leN, f_leN, t_eqN, f_eqN, ↓reduceIte, and_true, true_and, and_false, false_and, and_self, or_true, true_or, or_false, false_or, or_self, not_true_eq_false, not_false_eq_true, tu_same, tu_eq, tu_ne, b_V, b_I, b_J]
        · simp [tK] at h
        · simp [tK] at h
        · simp (disch := omega) only [tu_same, tu_eq, tu_ne]
          rw [k4 a y (by omega)]
          simp (disch := omega) only [tu_same, tu_eq, tu_ne]
          exact g3 a y (by omega)
        · rw [k5 a y h]
          simp (disch := omega) only [tu_same, tu_eq, tu_ne]
      · rw [if_neg c8]
        have s21 := s_21 (A := A2) (J := J2) (τ := τ) (l := lets s q (E - q)) (by omega) hok k3 hW2
        refine ⟨tm_u A2 4 7 (nI (kow (lets s q (E - q)))), J2, ?_, ⟨by simp (disch := omega) only [a6, tu_same, tu_eq, tu_ne], by simp (disch := omega) only [tu_same, tu_eq, tu_ne], fun _ => by simp (disch := omega) only [k2, tu_same, tu_eq, tu_ne], fun h => ?_, fun _ => k3⟩, fun a y h => ?_, fun a y h => ?_⟩
        · simp (disch := first | omega | (simp (disch := omega) only [n_ti, Int32.reduceToInt] <;> omega)) only [t2, g2, hτ, kd3, sh3, s_20t hlt.1 hlt.2, e_28_92, e_22, k1, e_22_64, k2, a6, s21, e_22_88, e_28_99, e_28_149, n_add, nl_add, nr_add, n_mul, nl_mul, nr_mul, n_sub, nr_dec, n_div, nr_sub_1, nr_sub_2, nr_sub_3, nr_sub_4, nr_sub_7, nr_sub_10, nr_sub_11, nr_sub_20, nr_sub_48, nr_sub_97, nl_sub_3, nl_sub_4, nl_sub_12, nl_sub_24, nl_sub_32, nr_div_2, nr_div_4, z_lt, z_le, z_eq, z_cl, n_ti, Int.toNat_natCast, Int32.reduceToInt, Int32.reduceToNatClampNeg, zc_add, zc_sub, zc_add_1, zc_add_2, zc_add_3, zc_add_4, zc_add_8, zc_add_10, zc_add_12, zc_add_16, zc_add_20, zc_sub_1, zc_sub_2, zc_sub_4, zc_sub_10, zc_sub_20, zc_sub_48, zc_sub_97, zc_mul_4, t_ltZ, f_ltZ, t_leZ, f_leZ, t_eqZ, f_eqZ, t_ltN, f_ltN, t_leN, f_leN, t_eqN, f_eqN, ↓reduceIte, and_true, true_and, and_false, false_and, and_self, or_true, true_or, or_false, false_or, or_self, not_true_eq_false, not_false_eq_true, tu_same, tu_eq, tu_ne, b_V, b_I, b_J]
        · change kow (lets s q (E - q)) = 31 ∨ kow (lets s q (E - q)) = 32 at h
          rcases kowF_P (lets s q (E - q)) 23 0 rfl with ⟨z1, z2⟩ | ⟨z1, z2, z3⟩
          · have : kow (lets s q (E - q)) = 30 := z1
            omega
          · have : kow (lets s q (E - q)) < 23 := z2
            omega
        · simp (disch := omega) only [tu_same, tu_eq, tu_ne]
          rw [k4 a y (by omega)]
          simp (disch := omega) only [tu_same, tu_eq, tu_ne]
          exact g3 a y (by omega)
        · rw [k5 a y h]
          simp (disch := omega) only [tu_same, tu_eq, tu_ne]
    | false =>
      rw [if_neg Bool.false_ne_true]
      have hlf : (A1 3 q).toInt < 97 ∨ 122 < (A1 3 q).toInt := by
        unfold isL at hl
        rw [decide_eq_false_iff_not] at hl
        omega
      cases hd : isD (s q) with
      | true =>
        rw [if_pos rfl]
        obtain ⟨v1, v2, v3, v4⟩ := sc_P (fun k => isD (s k)) (n - q) q
        generalize sc (fun k => isD (s k)) (n - q) q = E at *
        have hdt : 48 ≤ (A1 3 q).toInt ∧ (A1 3 q).toInt ≤ 57 := by
          unfold isD at hd
          rw [decide_eq_true_iff] at hd
          omega
        obtain ⟨hd1, hd2⟩ := hdt
        have s23 : F_23 [.int (A1 3 q)] (mk (tm_u A1 4 6 (nI q)) J τ) = some (some (.int 1), mk (tm_u A1 4 6 (nI q)) J τ) := by simp (disch := first | omega | (simp (disch := omega) only [n_ti, Int32.reduceToInt] <;> omega)) only [e_23, e_23_17, n_add, nl_add, nr_add, n_mul, nl_mul, nr_mul, n_sub, nr_dec, n_div, nr_sub_1, nr_sub_2, nr_sub_3, nr_sub_4, nr_sub_7, nr_sub_10, nr_sub_11, nr_sub_20, nr_sub_48, nr_sub_97, nl_sub_3, nl_sub_4, nl_sub_12, nl_sub_24, nl_sub_32, nr_div_2, nr_div_4, z_lt, z_le, z_eq, z_cl, n_ti, Int.toNat_natCast, Int32.reduceToInt, Int32.reduceToNatClampNeg, zc_add, zc_sub, zc_add_1, zc_add_2, zc_add_3, zc_add_4, zc_add_8, zc_add_10, zc_add_12, zc_add_16, zc_add_20, zc_sub_1, zc_sub_2, zc_sub_4, zc_sub_10, zc_sub_20, zc_sub_48, zc_sub_97, zc_mul_4, t_ltZ, f_ltZ, t_leZ, f_leZ, t_eqZ, f_eqZ, t_ltN, f_ltN, t_leN, f_leN, t_eqN, f_eqN, ↓reduceIte, and_true, true_and, and_false, false_and, and_self, or_true, true_or, or_false, false_or, or_self, not_true_eq_false, not_false_eq_true, tu_same, tu_eq, tu_ne, b_V, b_I, b_J]
        obtain ⟨A2, k1, k2, k3, k4⟩ := l_24 (J := J) hτ (s := s) (n := n) (q := q) (E := E) (by omega) v3 (fun h => v4 (by omega)) (E - q) q (tm_u (tm_u A1 4 6 (nI q)) 4 8 0) (by omega) (Nat.le_refl _) (hT2.tr (fun a k u => by simp (disch := omega) only [tu_same, tu_eq, tu_ne])) (by simp (disch := omega) only [a3, tu_same, tu_eq, tu_ne]) (by rw [Nat.sub_self]; simp (disch := omega) only [tu_same, tu_eq, tu_ne]; rfl)
        have a6 : A2 4 6 = nI q := by rw [k4 4 6 (by omega)]; simp (disch := omega) only [tu_same, tu_eq, tu_ne]
        have hT3 : TxA A2 s n := hT2.tr (fun a k u => by rw [k4 a k (by omega)]; simp (disch := omega) only [tu_same, tu_eq, tu_ne])
        obtain ⟨x1, x2, x3⟩ := id hT3
        have fin : ∀ kd : Int32, R_24 125 [] [.int kd, .ref 4] (mk A2 J τ) = some (none, mk (tm_u A2 4 7 kd) J τ) := fun kd => e_24_125 _ _ _ _
        unfold tkN
        by_cases cb : 3 < E - q ∨ (E < n ∧ isL (s E) = true)
        · rw [if_pos cb]
          refine ⟨tm_u A2 4 7 36, J, ?_, ⟨by simp (disch := omega) only [a6, tu_same, tu_eq, tu_ne], by simp (disch := omega) only [tu_same, tu_eq, tu_ne]; rfl, fun h => absurd rfl h, fun h => ?_, fun h => ?_⟩, fun a y h => ?_, fun _ _ _ => rfl⟩
          · by_cases cn : E < n
            · obtain ⟨y1, y2, y3⟩ := x3 E cn
              cases he : isL (s E) with
              | true =>
                have hz : 97 ≤ (A2 3 E).toInt ∧ (A2 3 E).toInt ≤ 122 := by
                  unfold isL at he
                  rw [decide_eq_true_iff] at he
                  omega
                by_cases c3 : 3 < E - q
                · simp (disch := first | omega | (simp (disch := omega) only [n_ti, Int32.reduceToInt] <;> omega)) only [t2, g2, hτ, kd3, sh3, s_20f hlf, e_28_92, s23, e_28_114, e_24, k1, e_24_68, x2, k2, s_20t hz.1 hz.2, e_24_91, e_24_99, a6, e_24_118, fin, e_28_121, e_28_149, n_add, nl_add, nr_add, n_mul, nl_mul, nr_mul, n_sub, nr_dec, n_div, nr_sub_1, nr_sub_2, nr_sub_3, nr_sub_4, nr_sub_7, nr_sub_10, nr_sub_11, nr_sub_20, nr_sub_48, nr_sub_97, nl_sub_3, nl_sub_4, nl_sub_12, nl_sub_24, nl_sub_32, nr_div_2, nr_div_4, z_lt, z_le, z_eq, z_cl, n_ti, Int.toNat_natCast, Int32.reduceToInt, Int32.reduceToNatClampNeg, zc_add, zc_sub, zc_add_1, zc_add_2, zc_add_3, zc_add_4, zc_add_8, zc_add_10, zc_add_12, zc_add_16, zc_add_20, zc_sub_1, zc_sub_2, zc_sub_4, zc_sub_10, zc_sub_20, zc_sub_48, zc_sub_97, zc_mul_4, t_ltZ, f_ltZ, t_leZ, f_leZ, t_eqZ, f_eqZ, t_ltN, f_ltN, t_leN, f_leN, t_eqN, f_eqN, ↓reduceIte, and_true, true_and, and_false, false_and, and_self, or_true, true_or, or_false, false_or, or_self, not_true_eq_false, not_false_eq_true, tu_same, tu_eq, tu_ne, b_V, b_I, b_J]
                · simp (disch := first | omega | (simp (disch := omega) only [n_ti, Int32.reduceToInt] <;> omega)) only [t2, g2, hτ, kd3, sh3, s_20f hlf, e_28_92, s23, e_28_114, e_24, k1, e_24_68, x2, k2, s_20t hz.1 hz.2, e_24_91, e_24_99, a6, e_24_118, fin, e_28_121, e_28_149, n_add, nl_add, nr_add, n_mul, nl_mul, nr_mul, n_sub, nr_dec, n_div, nr_sub_1, nr_sub_2, nr_sub_3, nr_sub_4, nr_sub_7, nr_sub_10, nr_sub_11, nr_sub_20, nr_sub_48, nr_sub_97, nl_sub_3, nl_sub_4, nl_sub_12, nl_sub_24, nl_sub_32, nr_div_2, nr_div_4, z_lt, z_le, z_eq, z_cl, n_ti, Int.toNat_natCast, Int32.reduceToInt, Int32.reduceToNatClampNeg, zc_add, zc_sub, zc_add_1, zc_add_2, zc_add_3, zc_add_4, zc_add_8, zc_add_10, zc_add_12, zc_add_16, zc_add_20, zc_sub_1, zc_sub_2, zc_sub_4, zc_sub_10, zc_sub_20, zc_sub_48, zc_sub_97, zc_mul_4, t_ltZ, f_ltZ, t_leZ, f_leZ, t_eqZ, f_eqZ, t_ltN, f_ltN, t_leN, f_leN, t_eqN, f_eqN, ↓reduceIte, and_true, true_and, and_false, false_and, and_self, or_true, true_or, or_false, false_or, or_self, not_true_eq_false, not_false_eq_true, tu_same, tu_eq, tu_ne, b_V, b_I, b_J]
              | false =>
                have c3 : 3 < E - q := by
                  rcases cb with c | c
                  · exact c
                  · rw [he] at c; cases c.2
                have hz : (A2 3 E).toInt < 97 ∨ 122 < (A2 3 E).toInt := by
                  unfold isL at he
                  rw [decide_eq_false_iff_not] at he
                  omega
                simp (disch := first | omega | (simp (disch := omega) only [n_ti, Int32.reduceToInt] <;> omega)) only [t2, g2, hτ, kd3, sh3, s_20f hlf, e_28_92, s23, e_28_114, e_24, k1, e_24_68, x2, k2, s_20f hz, e_24_91, e_24_98, e_24_99, a6, e_24_118, fin, e_28_121, e_28_149, n_add, nl_add, nr_add, n_mul, nl_mul, nr_mul, n_sub, nr_dec, n_div, nr_sub_1, nr_sub_2, nr_sub_3, nr_sub_4, nr_sub_7, nr_sub_10, nr_sub_11, nr_sub_20, nr_sub_48, nr_sub_97, nl_sub_3, nl_sub_4, nl_sub_12, nl_sub_24, nl_sub_32, nr_div_2, nr_div_4, z_lt, z_le, z_eq, z_cl, n_ti, Int.toNat_natCast, Int32.reduceToInt, Int32.reduceToNatClampNeg, zc_add, zc_sub, zc_add_1, zc_add_2, zc_add_3, zc_add_4, zc_add_8, zc_add_10, zc_add_12, zc_add_16, zc_add_20, zc_sub_1, zc_sub_2, zc_sub_4, zc_sub_10, zc_sub_20, zc_sub_48, zc_sub_97, zc_mul_4, t_ltZ, f_ltZ, t_leZ, f_leZ, t_eqZ, f_eqZ, t_ltN, f_ltN, t_leN, f_leN, t_eqN, f_eqN, ↓reduceIte, and_true, true_and, and_false, false_and, and_self, or_true, true_or, or_false, false_or, or_self, not_true_eq_false, not_false_eq_true, tu_same, tu_eq, tu_ne, b_V, b_I, b_J]
            · have c3 : 3 < E - q := by
                rcases cb with c | c
                · exact c
                · exact absurd c.1 cn
              simp (disch := first | omega | (simp (disch := omega) only [n_ti, Int32.reduceToInt] <;> omega)) only [t2, g2, hτ, kd3, sh3, s_20f hlf, e_28_92, s23, e_28_114, e_24, k1, e_24_68, x2, k2, e_24_98, e_24_99, a6, e_24_118, fin, e_28_121, e_28_149, n_add, nl_add, nr_add, n_mul, nl_mul, nr_mul, n_sub, nr_dec, n_div, nr_sub_1, nr_sub_2, nr_sub_3, nr_sub_4, nr_sub_7, nr_sub_10, nr_sub_11, nr_sub_20, nr_sub_48, nr_sub_97, nl_sub_3, nl_sub_4, nl_sub_12, nl_sub_24, nl_sub_32, nr_div_2, nr_div_4, z_lt, z_le, z_eq, z_cl, n_ti, Int.toNat_natCast, Int32.reduceToInt, Int32.reduceToNatClampNeg, zc_add, zc_sub, zc_add_1, zc_add_2, zc_add_3, zc_add_4, zc_add_8, zc_add_10, zc_add_12, zc_add_16, zc_add_20, zc_sub_1, zc_sub_2, zc_sub_4, zc_sub_10, zc_sub_20, zc_sub_48, zc_sub_97, zc_mul_4, t_ltZ, f_ltZ, t_leZ, f_leZ, t_eqZ, f_eqZ, t_ltN, f_ltN, t_leN, f_leN, t_eqN, f_eqN, ↓reduceIte, and_true, true_and, and_false, false_and, and_self, or_true, true_or, or_false, false_or, or_self, not_true_eq_false, not_false_eq_true, tu_same, tu_eq, tu_ne, b_V, b_I, b_J]
          · simp [tK] at h
          · simp [tK] at h
          · simp (disch := omega) only [tu_same, tu_eq, tu_ne]
            rw [k4 a y (by omega)]
            simp (disch := omega) only [tu_same, tu_eq, tu_ne]
            exact g3 a y (by omega)
        · rw [if_neg cb]
          have c3 : ¬ 3 < E - q := fun h => cb (Or.inl h)
          refine ⟨tm_u A2 4 7 31, J, ?_, ⟨by simp (disch := omega) only [a6, tu_same, tu_eq, tu_ne], by simp (disch := omega) only [tu_same, tu_eq, tu_ne]; rfl, fun _ => by simp (disch := omega) only [k2, tu_same, tu_eq, tu_ne], fun _ => by simp (disch := omega) only [k3, tu_same, tu_eq, tu_ne], fun h => ?_⟩, fun a y h => ?_, fun _ _ _ => rfl⟩
          · by_cases cn : E < n
            · obtain ⟨y1, y2, y3⟩ := x3 E cn
              have he : isL (s E) = false := by
                cases he : isL (s E) with
                | false => rfl
                | true => exact absurd (Or.inr ⟨cn, he⟩) cb
              have hz : (A2 3 E).toInt < 97 ∨ 122 < (A2 3 E).toInt := by
                unfold isL at he
                rw [decide_eq_false_iff_not] at he
                omega
              simp (disch := first | omega | (simp (disch := omega) only [n_ti, Int32.reduceToInt] <;> omega)) only [t2, g2, hτ, kd3, sh3, s_20f hlf, e_28_92, s23, e_28_114, e_24, k1, e_24_68, x2, k2, s_20f hz, e_24_91, e_24_98, e_24_99, a6, fin, e_28_121, e_28_149, n_add, nl_add, nr_add, n_mul, nl_mul, nr_mul, n_sub, nr_dec, n_div, nr_sub_1, nr_sub_2, nr_sub_3, nr_sub_4, nr_sub_7, nr_sub_10, nr_sub_11, nr_sub_20, nr_sub_48, nr_sub_97, nl_sub_3, nl_sub_4, nl_sub_12, nl_sub_24, nl_sub_32, nr_div_2, nr_div_4, z_lt, z_le, z_eq, z_cl, n_ti, Int.toNat_natCast, Int32.reduceToInt, Int32.reduceToNatClampNeg, zc_add, zc_sub, zc_add_1, zc_add_2, zc_add_3, zc_add_4, zc_add_8, zc_add_10, zc_add_12, zc_add_16, zc_add_20, zc_sub_1, zc_sub_2, zc_sub_4, zc_sub_10, zc_sub_20, zc_sub_48, zc_sub_97, zc_mul_4, t_ltZ, f_ltZ, t_leZ, f_leZ, t_eqZ, f_eqZ, t_ltN, f_ltN, t_leN, f_leN, t_eqN, f_eqN, ↓reduceIte, and_true, true_and, and_false, false_and, and_self, or_true, true_or, or_false, false_or, or_self, not_true_eq_false, not_false_eq_true, tu_same, tu_eq, tu_ne, b_V, b_I, b_J]
            · simp (disch := first | omega | (simp (disch := omega) only [n_ti, Int32.reduceToInt] <;> omega)) only [t2, g2, hτ, kd3, sh3, s_20f hlf, e_28_92, s23, e_28_114, e_24, k1, e_24_68, x2, k2, e_24_98, e_24_99, a6, fin, e_28_121, e_28_149, n_add, nl_add, nr_add, n_mul, nl_mul, nr_mul, n_sub, nr_dec, n_div, nr_sub_1, nr_sub_2, nr_sub_3, nr_sub_4, nr_sub_7, nr_sub_10, nr_sub_11, nr_sub_20, nr_sub_48, nr_sub_97, nl_sub_3, nl_sub_4, nl_sub_12, nl_sub_24, nl_sub_32, nr_div_2, nr_div_4, z_lt, z_le, z_eq, z_cl, n_ti, Int.toNat_natCast, Int32.reduceToInt, Int32.reduceToNatClampNeg, zc_add, zc_sub, zc_add_1, zc_add_2, zc_add_3, zc_add_4, zc_add_8, zc_add_10, zc_add_12, zc_add_16, zc_add_20, zc_sub_1, zc_sub_2, zc_sub_4, zc_sub_10, zc_sub_20, zc_sub_48, zc_sub_97, zc_mul_4, t_ltZ, f_ltZ, t_leZ, f_leZ, t_eqZ, f_eqZ, t_ltN, f_ltN, t_leN, f_leN, t_eqN, f_eqN, ↓reduceIte, and_true, true_and, and_false, false_and, and_self, or_true, true_or, or_false, false_or, or_self, not_true_eq_false, not_false_eq_true, tu_same, tu_eq, tu_ne, b_V, b_I, b_J]
          · simp [tK] at h
          · simp (disch := omega) only [tu_same, tu_eq, tu_ne]
            rw [k4 a y (by omega)]
            simp (disch := omega) only [tu_same, tu_eq, tu_ne]
            exact g3 a y (by omega)
      | false =>
        rw [if_neg Bool.false_ne_true]
        have s23 : F_23 [.int (A1 3 q)] (mk (tm_u A1 4 6 (nI q)) J τ) = some (some (.int 0), mk (tm_u A1 4 6 (nI q)) J τ) := by
          unfold isD at hd
          rw [decide_eq_false_iff_not] at hd
          by_cases c : (A1 3 q).toInt < 48
          · simp (disch := first | omega | (simp (disch := omega) only [n_ti, Int32.reduceToInt] <;> omega)) only [e_23, e_23_16, e_23_17, n_add, nl_add, nr_add, n_mul, nl_mul, nr_mul, n_sub, nr_dec, n_div, nr_sub_1, nr_sub_2, nr_sub_3, nr_sub_4, nr_sub_7, nr_sub_10, nr_sub_11, nr_sub_20, nr_sub_48, nr_sub_97, nl_sub_3, nl_sub_4, nl_sub_12, nl_sub_24, nl_sub_32, nr_div_2, nr_div_4, z_lt, z_le, z_eq, z_cl, n_ti, Int.toNat_natCast, Int32.reduceToInt, Int32.reduceToNatClampNeg, zc_add, zc_sub, zc_add_1, zc_add_2, zc_add_3, zc_add_4, zc_add_8, zc_add_10, zc_add_12, zc_add_16, zc_add_20, zc_sub_1, zc_sub_2, zc_sub_4, zc_sub_10, zc_sub_20, zc_sub_48, zc_sub_97, zc_mul_4, t_ltZ, f_ltZ, t_leZ, f_leZ, t_eqZ, f_eqZ, t_ltN, f_ltN, t_leN, f_leN, t_eqN, f_eqN, ↓reduceIte, and_true, true_and, and_false, false_and, and_self, or_true, true_or, or_false, false_or, or_self, not_true_eq_false, not_false_eq_true, tu_same, tu_eq, tu_ne, b_V, b_I, b_J]
          · simp (disch := first | omega | (simp (disch := omega) only [n_ti, Int32.reduceToInt] <;> omega)) only [e_23, e_23_16, e_23_17, n_add, nl_add, nr_add, n_mul, nl_mul, nr_mul, n_sub, nr_dec, n_div, nr_sub_1, nr_sub_2, nr_sub_3, nr_sub_4, nr_sub_7, nr_sub_10, nr_sub_11, nr_sub_20, nr_sub_48, nr_sub_97, nl_sub_3, nl_sub_4, nl_sub_12, nl_sub_24, nl_sub_32, nr_div_2, nr_div_4, z_lt, z_le, z_eq, z_cl, n_ti, Int.toNat_natCast, Int32.reduceToInt, Int32.reduceToNatClampNeg, zc_add, zc_sub, zc_add_1, zc_add_2, zc_add_3, zc_add_4, zc_add_8, zc_add_10, zc_add_12, zc_add_16, zc_add_20, zc_sub_1, zc_sub_2, zc_sub_4, zc_sub_10, zc_sub_20, zc_sub_48, zc_sub_97, zc_mul_4, t_ltZ, f_ltZ, t_leZ, f_leZ, t_eqZ, f_eqZ, t_ltN, f_ltN, t_leN, f_leN, t_eqN, f_eqN, ↓reduceIte, and_true, true_and, and_false, false_and, and_self, or_true, true_or, or_false, false_or, or_self, not_true_eq_false, not_false_eq_true, tu_same, tu_eq, tu_ne, b_V, b_I, b_J]
        by_cases cq : s q = 34
        · rw [if_pos cq]
          obtain ⟨v1, v2, v3, v4⟩ := sc_P (fun k => isF (s k)) (n - (q + 1)) (q + 1)
          generalize sc (fun k => isF (s k)) (n - (q + 1)) (q + 1) = E at *
          obtain ⟨A2, k1, k2, k4⟩ := l_26 (J := J) hτ (s := s) (n := n) (q := q + 1) (E := E) (by omega) v3 (fun h => v4 (by omega)) (E - (q + 1)) (q + 1) (tm_u (tm_u A1 4 6 (nI q)) 4 3 (nI (q + 1))) (by omega) (Nat.le_refl _) (hT2.tr (fun a k u => by simp (disch := omega) only [tu_same, tu_eq, tu_ne])) (by simp (disch := omega) only [tu_same, tu_eq, tu_ne])
          have a6 : A2 4 6 = nI q := by rw [k4 4 6 (by omega)]; simp (disch := omega) only [tu_same, tu_eq, tu_ne]
          have hT3 : TxA A2 s n := hT2.tr (fun a k u => by rw [k4 a k (by omega)]; simp (disch := omega) only [tu_same, tu_eq, tu_ne])
          obtain ⟨x1, x2, x3⟩ := id hT3
          obtain ⟨m, hm⟩ : ∃ m, m = E - (q + 1) := ⟨_, rfl⟩
          have em : E - q - 1 = m := by omega
          have em4 : m - m / 4 * 4 = m % 4 := by omega
          have hmn : m ≤ 1400 := by omega
          have hv0 : ∀ (B : Nat → Nat → Int32), B 4 8 = nI m → R_26 110 [(0, .ref 4), (1, .int 0)] [] (mk B J τ) = some (none, mk (tm_u B 4 7 36) J τ) := by
            intro B h8
            rw [e_26_110]
            by_cases d1 : m < 4
            · simp (disch := first | omega | (simp (disch := omega) only [n_ti, Int32.reduceToInt] <;> omega)) only [h8, e_26_140, e_26_141, e_26_156, e_26_158, n_add, nl_add, nr_add, n_mul, nl_mul, nr_mul, n_sub, nr_dec, n_div, nr_sub_1, nr_sub_2, nr_sub_3, nr_sub_4, nr_sub_7, nr_sub_10, nr_sub_11, nr_sub_20, nr_sub_48, nr_sub_97, nl_sub_3, nl_sub_4, nl_sub_12, nl_sub_24, nl_sub_32, nr_div_2, nr_div_4, z_lt, z_le, z_eq, z_cl, n_ti, Int.toNat_natCast, Int32.reduceToInt, Int32.reduceToNatClampNeg, zc_add, zc_sub, zc_add_1, zc_add_2, zc_add_3, zc_add_4, zc_add_8, zc_add_10, zc_add_12, zc_add_16, zc_add_20, zc_sub_1, zc_sub_2, zc_sub_4, zc_sub_10, zc_sub_20, zc_sub_48, zc_sub_97, zc_mul_4, t_ltZ, f_ltZ, t_leZ, f_leZ, t_eqZ, f_eqZ, t_ltN, f_ltN, t_leN, f_leN, t_eqN, f_eqN, ↓reduceIte, and_true, true_and, and_false, false_and, and_self, or_true, true_or, or_false, false_or, or_self, not_true_eq_false, not_false_eq_true, tu_same, tu_eq, tu_ne, b_V, b_I, b_J]
            · by_cases d2 : 32 < m
              · simp (disch := first | omega | (simp (disch := omega) only [n_ti, Int32.reduceToInt] <;> omega)) only [h8, e_26_140, e_26_141, e_26_156, e_26_158, n_add, nl_add, nr_add, n_mul, nl_mul, nr_mul, n_sub, nr_dec, n_div, nr_sub_1, nr_sub_2, nr_sub_3, nr_sub_4, nr_sub_7, nr_sub_10, nr_sub_11, nr_sub_20, nr_sub_48, nr_sub_97, nl_sub_3, nl_sub_4, nl_sub_12, nl_sub_24, nl_sub_32, nr_div_2, nr_div_4, z_lt, z_le, z_eq, z_cl, n_ti, Int.toNat_natCast, Int32.reduceToInt, Int32.reduceToNatClampNeg, zc_add, zc_sub, zc_add_1, zc_add_2, zc_add_3, zc_add_4, zc_add_8, zc_add_10, zc_add_12, zc_add_16, zc_add_20, zc_sub_1, zc_sub_2, zc_sub_4, zc_sub_10, zc_sub_20, zc_sub_48, zc_sub_97, zc_mul_4, t_ltZ, f_ltZ, t_leZ, f_leZ, t_eqZ, f_eqZ, t_ltN, f_ltN, t_leN, f_leN, t_eqN, f_eqN, ↓reduceIte, and_true, true_and, and_false, false_and, and_self, or_true, true_or, or_false, false_or, or_self, not_true_eq_false, not_false_eq_true, tu_same, tu_eq, tu_ne, b_V, b_I, b_J]
              · by_cases d3 : m % 4 = 0
                · simp (disch := first | omega | (simp (disch := omega) only [n_ti, Int32.reduceToInt] <;> omega)) only [h8, em4, e_26_140, e_26_141, e_26_156, e_26_158, n_add, nl_add, nr_add, n_mul, nl_mul, nr_mul, n_sub, nr_dec, n_div, nr_sub_1, nr_sub_2, nr_sub_3, nr_sub_4, nr_sub_7, nr_sub_10, nr_sub_11, nr_sub_20, nr_sub_48, nr_sub_97, nl_sub_3, nl_sub_4, nl_sub_12, nl_sub_24, nl_sub_32, nr_div_2, nr_div_4, z_lt, z_le, z_eq, z_cl, n_ti, Int.toNat_natCast, Int32.reduceToInt, Int32.reduceToNatClampNeg, zc_add, zc_sub, zc_add_1, zc_add_2, zc_add_3, zc_add_4, zc_add_8, zc_add_10, zc_add_12, zc_add_16, zc_add_20, zc_sub_1, zc_sub_2, zc_sub_4, zc_sub_10, zc_sub_20, zc_sub_48, zc_sub_97, zc_mul_4, t_ltZ, f_ltZ, t_leZ, f_leZ, t_eqZ, f_eqZ, t_ltN, f_ltN, t_leN, f_leN, t_eqN, f_eqN, ↓reduceIte, and_true, true_and, and_false, false_and, and_self, or_true, true_or, or_false, false_or, or_self, not_true_eq_false, not_false_eq_true, tu_same, tu_eq, tu_ne, b_V, b_I, b_J]
                · simp (disch := first | omega | (simp (disch := omega) only [n_ti, Int32.reduceToInt] <;> omega)) only [h8, em4, e_26_140, e_26_141, e_26_156, e_26_158, n_add, nl_add, nr_add, n_mul, nl_mul, nr_mul, n_sub, nr_dec, n_div, nr_sub_1, nr_sub_2, nr_sub_3, nr_sub_4, nr_sub_7, nr_sub_10, nr_sub_11, nr_sub_20, nr_sub_48, nr_sub_97, nl_sub_3, nl_sub_4, nl_sub_12, nl_sub_24, nl_sub_32, nr_div_2, nr_div_4, z_lt, z_le, z_eq, z_cl, n_ti, Int.toNat_natCast, Int32.reduceToInt, Int32.reduceToNatClampNeg, zc_add, zc_sub, zc_add_1, zc_add_2, zc_add_3, zc_add_4, zc_add_8, zc_add_10, zc_add_12, zc_add_16, zc_add_20, zc_sub_1, zc_sub_2, zc_sub_4, zc_sub_10, zc_sub_20, zc_sub_48, zc_sub_97, zc_mul_4, t_ltZ, f_ltZ, t_leZ, f_leZ, t_eqZ, f_eqZ, t_ltN, f_ltN, t_leN, f_leN, t_eqN, f_eqN, ↓reduceIte, and_true, true_and, and_false, false_and, and_self, or_true, true_or, or_false, false_or, or_self, not_true_eq_false, not_false_eq_true, tu_same, tu_eq, tu_ne, b_V, b_I, b_J]
          have hv1 : ∀ (B : Nat → Nat → Int32), B 4 8 = nI m → 4 ≤ m ∧ m ≤ 32 ∧ m % 4 = 0 → R_26 110 [(0, .ref 4), (1, .int 1)] [] (mk B J τ) = some (none, mk (tm_u B 4 7 32) J τ) := by
            intro B h8 hf
            rw [e_26_110]
            simp (disch := first | omega | (simp (disch := omega) only [n_ti, Int32.reduceToInt] <;> omega)) only [h8, em4, e_26_140, e_26_141, e_26_156, e_26_158, n_add, nl_add, nr_add, n_mul, nl_mul, nr_mul, n_sub, nr_dec, n_div, nr_sub_1, nr_sub_2, nr_sub_3, nr_sub_4, nr_sub_7, nr_sub_10, nr_sub_11, nr_sub_20, nr_sub_48, nr_sub_97, nl_sub_3, nl_sub_4, nl_sub_12, nl_sub_24, nl_sub_32, nr_div_2, nr_div_4, z_lt, z_le, z_eq, z_cl, n_ti, Int.toNat_natCast, Int32.reduceToInt, Int32.reduceToNatClampNeg, zc_add, zc_sub, zc_add_1, zc_add_2, zc_add_3, zc_add_4, zc_add_8, zc_add_10, zc_add_12, zc_add_16, zc_add_20, zc_sub_1, zc_sub_2, zc_sub_4, zc_sub_10, zc_sub_20, zc_sub_48, zc_sub_97, zc_mul_4, t_ltZ, f_ltZ, t_leZ, f_leZ, t_eqZ, f_eqZ, t_ltN, f_ltN, t_leN, f_leN, t_eqN, f_eqN, ↓reduceIte, and_true, true_and, and_false, false_and, and_self, or_true, true_or, or_false, false_or, or_self, not_true_eq_false, not_false_eq_true, tu_same, tu_eq, tu_ne, b_V, b_I, b_J]
          have hv2 : ∀ (B : Nat → Nat → Int32), B 4 8 = nI m → ¬ (4 ≤ m ∧ m ≤ 32 ∧ m % 4 = 0) → R_26 110 [(0, .ref 4), (1, .int 1)] [] (mk B J τ) = some (none, mk (tm_u B 4 7 36) J τ) := by
            intro B h8 hf
            rw [e_26_110]
            by_cases d1 : m < 4
            · simp (disch := first | omega | (simp (disch := omega) only [n_ti, Int32.reduceToInt] <;> omega)) only [h8, e_26_140, e_26_141, e_26_156, e_26_158, n_add, nl_add, nr_add, n_mul, nl_mul, nr_mul, n_sub, nr_dec, n_div, nr_sub_1, nr_sub_2, nr_sub_3, nr_sub_4, nr_sub_7, nr_sub_10, nr_sub_11, nr_sub_20, nr_sub_48, nr_sub_97, nl_sub_3, nl_sub_4, nl_sub_12, nl_sub_24, nl_sub_32, nr_div_2, nr_div_4, z_lt, z_le, z_eq, z_cl, n_ti, Int.toNat_natCast, Int32.reduceToInt, Int32.reduceToNatClampNeg, zc_add, zc_sub, zc_add_1, zc_add_2, zc_add_3, zc_add_4, zc_add_8, zc_add_10, zc_add_12, zc_add_16, zc_add_20, zc_sub_1, zc_sub_2, zc_sub_4, zc_sub_10, zc_sub_20, zc_sub_48, zc_sub_97, zc_mul_4, t_ltZ, f_ltZ, t_leZ, f_leZ, t_eqZ, f_eqZ, t_ltN, f_ltN, t_leN, f_leN, t_eqN, f_eqN, ↓reduceIte, and_true, true_and, and_false, false_and, and_self, or_true, true_or, or_false, false_or, or_self, not_true_eq_false, not_false_eq_true, tu_same, tu_eq, tu_ne, b_V, b_I, b_J]
            · by_cases d2 : 32 < m
              · simp (disch := first | omega | (simp (disch := omega) only [n_ti, Int32.reduceToInt] <;> omega)) only [h8, e_26_140, e_26_141, e_26_156, e_26_158, n_add, nl_add, nr_add, n_mul, nl_mul, nr_mul, n_sub, nr_dec, n_div, nr_sub_1, nr_sub_2, nr_sub_3, nr_sub_4, nr_sub_7, nr_sub_10, nr_sub_11, nr_sub_20, nr_sub_48, nr_sub_97, nl_sub_3, nl_sub_4, nl_sub_12, nl_sub_24, nl_sub_32, nr_div_2, nr_div_4, z_lt, z_le, z_eq, z_cl, n_ti, Int.toNat_natCast, Int32.reduceToInt, Int32.reduceToNatClampNeg, zc_add, zc_sub, zc_add_1, zc_add_2, zc_add_3, zc_add_4, zc_add_8, zc_add_10, zc_add_12, zc_add_16, zc_add_20, zc_sub_1, zc_sub_2, zc_sub_4, zc_sub_10, zc_sub_20, zc_sub_48, zc_sub_97, zc_mul_4, t_ltZ, f_ltZ, t_leZ, f_leZ, t_eqZ, f_eqZ, t_ltN, f_ltN, t_leN, f_leN, t_eqN, f_eqN, ↓reduceIte, and_true, true_and, and_false, false_and, and_self, or_true, true_or, or_false, false_or, or_self, not_true_eq_false, not_false_eq_true, tu_same, tu_eq, tu_ne, b_V, b_I, b_J]
              · simp (disch := first | omega | (simp (disch := omega) only [n_ti, Int32.reduceToInt] <;> omega)) only [h8, em4, e_26_140, e_26_141, e_26_156, e_26_158, n_add, nl_add, nr_add, n_mul, nl_mul, nr_mul, n_sub, nr_dec, n_div, nr_sub_1, nr_sub_2, nr_sub_3, nr_sub_4, nr_sub_7, nr_sub_10, nr_sub_11, nr_sub_20, nr_sub_48, nr_sub_97, nl_sub_3, nl_sub_4, nl_sub_12, nl_sub_24, nl_sub_32, nr_div_2, nr_div_4, z_lt, z_le, z_eq, z_cl, n_ti, Int.toNat_natCast, Int32.reduceToInt, Int32.reduceToNatClampNeg, zc_add, zc_sub, zc_add_1, zc_add_2, zc_add_3, zc_add_4, zc_add_8, zc_add_10, zc_add_12, zc_add_16, zc_add_20, zc_sub_1, zc_sub_2, zc_sub_4, zc_sub_10, zc_sub_20, zc_sub_48, zc_sub_97, zc_mul_4, t_ltZ, f_ltZ, t_leZ, f_leZ, t_eqZ, f_eqZ, t_ltN, f_ltN, t_leN, f_leN, t_eqN, f_eqN, ↓reduceIte, and_true, true_and, and_false, false_and, and_self, or_true, true_or, or_false, false_or, or_self, not_true_eq_false, not_false_eq_true, tu_same, tu_eq, tu_ne, b_V, b_I, b_J]
          unfold tkS
          rw [← hm]
          have h34 : (A1 3 q).toInt = 34 := by omega
          by_cases cc : E < n ∧ s E = 34
          · obtain ⟨cn, c34⟩ := cc
            obtain ⟨y1, y2, y3⟩ := x3 E cn
            have hE34 : (A2 3 E).toInt = 34 := by omega
            by_cases cf : 4 ≤ m ∧ m ≤ 32 ∧ m % 4 = 0
            · rw [if_pos (show (E < n ∧ s E = 34) ∧ 4 ≤ m ∧ m ≤ 32 ∧ m % 4 = 0 from ⟨⟨cn, c34⟩, cf⟩)]
              have r1 := hv1 (tm_u (tm_u A2 4 8 (nI m)) 4 3 (nI (E + 1))) (by simp (disch := omega) only [tu_same, tu_eq, tu_ne]) cf
              refine ⟨tm_u (tm_u (tm_u A2 4 8 (nI m)) 4 3 (nI (E + 1))) 4 7 32, J, ?_, ⟨by simp (disch := omega) only [a6, tu_same, tu_eq, tu_ne], by simp (disch := omega) only [tu_same, tu_eq, tu_ne]; rfl, fun _ => by simp (disch := omega) only [tu_same, tu_eq, tu_ne], fun _ => by simp (disch := omega) only [tu_same, tu_eq, tu_ne], fun h => ?_⟩, fun a y h => ?_, fun _ _ _ => rfl⟩
              · simp (disch := first | omega | (simp (disch := omega) only [n_ti, Int32.reduceToInt] <;> omega)) only [t2, g2, hτ, kd3, sh3, s_20f hlf, e_28_92, s23, e_28_114, e_26, k1, e_26_50, x2, k2, a6, em, e_26_95, r1, e_28_142, e_28_149, n_add, nl_add, nr_add, n_mul, nl_mul, nr_mul, n_sub, nr_dec, n_div, nr_sub_1, nr_sub_2, nr_sub_3, nr_sub_4, nr_sub_7, nr_sub_10, nr_sub_11, nr_sub_20, nr_sub_48, nr_sub_97, nl_sub_3, nl_sub_4, nl_sub_12, nl_sub_24, nl_sub_32, nr_div_2, nr_div_4, z_lt, z_le, z_eq, z_cl, n_ti, Int.toNat_natCast, Int32.reduceToInt, Int32.reduceToNatClampNeg, zc_add, zc_sub, zc_add_1, zc_add_2, zc_add_3, zc_add_4, zc_add_8, zc_add_10, zc_add_12, zc_add_16, zc_add_20, zc_sub_1, zc_sub_2, zc_sub_4, zc_sub_10, zc_sub_20, zc_sub_48, zc_sub_97, zc_mul_4, t_ltZ, f_ltZ, t_leZ, f_leZ, t_eqZ, f_eqZ, t_ltN, f_ltN, t_leN, f_leN, t_eqN, f_eqN, ↓reduceIte, and_true, true_and, and_false, false_and, and_self, or_true, true_or, or_false, false_or, or_self, not_true_eq_false, not_false_eq_true, tu_same, tu_eq, tu_ne, b_V, b_I, b_J]
              · simp [tK] at h
              · simp (disch := omega) only [tu_same, tu_eq, tu_ne]
                rw [k4 a y (by omega)]
                simp (disch := omega) only [tu_same, tu_eq, tu_ne]
                exact g3 a y (by omega)
            · rw [if_neg (show ¬ ((E < n ∧ s E = 34) ∧ 4 ≤ m ∧ m ≤ 32 ∧ m % 4 = 0) from fun h => cf h.2)]
              have r1 := hv2 (tm_u (tm_u A2 4 8 (nI m)) 4 3 (nI (E + 1))) (by simp (disch := omega) only [tu_same, tu_eq, tu_ne]) cf
              refine ⟨tm_u (tm_u (tm_u A2 4 8 (nI m)) 4 3 (nI (E + 1))) 4 7 36, J, ?_, ⟨by simp (disch := omega) only [a6, tu_same, tu_eq, tu_ne], by simp (disch := omega) only [tu_same, tu_eq, tu_ne]; rfl, fun h => absurd rfl h, fun h => ?_, fun h => ?_⟩, fun a y h => ?_, fun _ _ _ => rfl⟩
              · simp (disch := first | omega | (simp (disch := omega) only [n_ti, Int32.reduceToInt] <;> omega)) only [t2, g2, hτ, kd3, sh3, s_20f hlf, e_28_92, s23, e_28_114, e_26, k1, e_26_50, x2, k2, a6, em, e_26_95, r1, e_28_142, e_28_149, n_add, nl_add, nr_add, n_mul, nl_mul, nr_mul, n_sub, nr_dec, n_div, nr_sub_1, nr_sub_2, nr_sub_3, nr_sub_4, nr_sub_7, nr_sub_10, nr_sub_11, nr_sub_20, nr_sub_48, nr_sub_97, nl_sub_3, nl_sub_4, nl_sub_12, nl_sub_24, nl_sub_32, nr_div_2, nr_div_4, z_lt, z_le, z_eq, z_cl, n_ti, Int.toNat_natCast, Int32.reduceToInt, Int32.reduceToNatClampNeg, zc_add, zc_sub, zc_add_1, zc_add_2, zc_add_3, zc_add_4, zc_add_8, zc_add_10, zc_add_12, zc_add_16, zc_add_20, zc_sub_1, zc_sub_2, zc_sub_4, zc_sub_10, zc_sub_20, zc_sub_48, zc_sub_97, zc_mul_4, t_ltZ, f_ltZ, t_leZ, f_leZ, t_eqZ, f_eqZ, t_ltN, f_ltN, t_leN, f_leN, t_eqN, f_eqN, ↓reduceIte, and_true, true_and, and_false, false_and, and_self, or_true, true_or, or_false, false_or, or_self, not_true_eq_false, not_false_eq_true, tu_same, tu_eq, tu_ne, b_V, b_I, b_J]
              · simp [tK] at h
              · simp [tK] at h
              · simp (disch := omega) only [tu_same, tu_eq, tu_ne]
                rw [k4 a y (by omega)]
                simp (disch := omega) only [tu_same, tu_eq, tu_ne]
                exact g3 a y (by omega)
          · rw [if_neg (show ¬ ((E < n ∧ s E = 34) ∧ 4 ≤ m ∧ m ≤ 32 ∧ m % 4 = 0) from fun h => cc h.1)]
            have r1 := hv0 (tm_u A2 4 8 (nI m)) (by simp (disch := omega) only [tu_same, tu_eq, tu_ne])
            refine ⟨tm_u (tm_u A2 4 8 (nI m)) 4 7 36, J, ?_, ⟨by simp (disch := omega) only [a6, tu_same, tu_eq, tu_ne], by simp (disch := omega) only [tu_same, tu_eq, tu_ne]; rfl, fun h => absurd rfl h, fun h => ?_, fun h => ?_⟩, fun a y h => ?_, fun _ _ _ => rfl⟩
            · by_cases cn : E < n
              · obtain ⟨y1, y2, y3⟩ := x3 E cn
                simp (disch := first | omega | (simp (disch := omega) only [n_ti, Int32.reduceToInt] <;> omega)) only [t2, g2, hτ, kd3, sh3, s_20f hlf, e_28_92, s23, e_28_114, e_26, k1, e_26_50, x2, k2, a6, em, e_26_94, e_26_95, r1, e_28_142, e_28_149, n_add, nl_add, nr_add, n_mul, nl_mul, nr_mul, n_sub, nr_dec, n_div, nr_sub_1, nr_sub_2, nr_sub_3, nr_sub_4, nr_sub_7, nr_sub_10, nr_sub_11, nr_sub_20, nr_sub_48, nr_sub_97, nl_sub_3, nl_sub_4, nl_sub_12, nl_sub_24, nl_sub_32, nr_div_2, nr_div_4, z_lt, z_le, z_eq, z_cl, n_ti, Int.toNat_natCast, Int32.reduceToInt, Int32.reduceToNatClampNeg, zc_add, zc_sub, zc_add_1, zc_add_2, zc_add_3, zc_add_4, zc_add_8, zc_add_10, zc_add_12, zc_add_16, zc_add_20, zc_sub_1, zc_sub_2, zc_sub_4, zc_sub_10, zc_sub_20, zc_sub_48, zc_sub_97, zc_mul_4, t_ltZ, f_ltZ, t_leZ, f_leZ, t_eqZ, f_eqZ, t_ltN, f_ltN, t_leN, f_leN, t_eqN, f_eqN, ↓reduceIte, and_true, true_and, and_false, false_and, and_self, or_true, true_or, or_false, false_or, or_self, not_true_eq_false, not_false_eq_true, tu_same, tu_eq, tu_ne, b_V, b_I, b_J]
              · simp (disch := first | omega | (simp (disch := omega) only [n_ti, Int32.reduceToInt] <;> omega)) only [t2, g2, hτ, kd3, sh3, s_20f hlf, e_28_92, s23, e_28_114, e_26, k1, e_26_50, x2, k2, a6, em, e_26_94, e_26_95, r1, e_28_142, e_28_149, n_add, nl_add, nr_add, n_mul, nl_mul, nr_mul, n_sub, nr_dec, n_div, nr_sub_1, nr_sub_2, nr_sub_3, nr_sub_4, nr_sub_7, nr_sub_10, nr_sub_11, nr_sub_20, nr_sub_48, nr_sub_97, nl_sub_3, nl_sub_4, nl_sub_12, nl_sub_24, nl_sub_32, nr_div_2, nr_div_4, z_lt, z_le, z_eq, z_cl, n_ti, Int.toNat_natCast, Int32.reduceToInt, Int32.reduceToNatClampNeg, zc_add, zc_sub, zc_add_1, zc_add_2, zc_add_3, zc_add_4, zc_add_8, zc_add_10, zc_add_12, zc_add_16, zc_add_20, zc_sub_1, zc_sub_2, zc_sub_4, zc_sub_10, zc_sub_20, zc_sub_48, zc_sub_97, zc_mul_4, t_ltZ, f_ltZ, t_leZ, f_leZ, t_eqZ, f_eqZ, t_ltN, f_ltN, t_leN, f_leN, t_eqN, f_eqN, ↓reduceIte, and_true, true_and, and_false, false_and, and_self, or_true, true_or, or_false, false_or, or_self, not_true_eq_false, not_false_eq_true, tu_same, tu_eq, tu_ne, b_V, b_I, b_J]
            · simp [tK] at h
            · simp [tK] at h
            · simp (disch := omega) only [tu_same, tu_eq, tu_ne]
              rw [k4 a y (by omega)]
              simp (disch := omega) only [tu_same, tu_eq, tu_ne]
              exact g3 a y (by omega)
        · rw [if_neg cq]
          unfold tkM
          by_cases c1 : s q = 58
          · rw [if_pos c1]
            refine ⟨tm_u (tm_u (tm_u A1 4 6 (nI q)) 4 7 33) 4 3 (nI (q + 1)), J, ?_, ⟨by simp (disch := omega) only [tu_same, tu_eq, tu_ne], by simp (disch := omega) only [tu_same, tu_eq, tu_ne]; rfl, fun _ => by simp (disch := omega) only [tu_same, tu_eq, tu_ne], fun h => ?_, fun h => ?_⟩, fun a y h => ?_, fun _ _ _ => rfl⟩
            · simp (disch := first | omega | (simp (disch := omega) only [n_ti, Int32.reduceToInt] <;> omega)) only [t2, g2, hτ, kd3, sh3, s_20f hlf, e_28_92, s23, e_28_114, e_27, e_27_60, e_28_149, n_add, nl_add, nr_add, n_mul, nl_mul, nr_mul, n_sub, nr_dec, n_div, nr_sub_1, nr_sub_2, nr_sub_3, nr_sub_4, nr_sub_7, nr_sub_10, nr_sub_11, nr_sub_20, nr_sub_48, nr_sub_97, nl_sub_3, nl_sub_4, nl_sub_12, nl_sub_24, nl_sub_32, nr_div_2, nr_div_4, z_lt, z_le, z_eq, z_cl, n_ti, Int.toNat_natCast, Int32.reduceToInt, Int32.reduceToNatClampNeg, zc_add, zc_sub, zc_add_1, zc_add_2, zc_add_3, zc_add_4, zc_add_8, zc_add_10, zc_add_12, zc_add_16, zc_add_20, zc_sub_1, zc_sub_2, zc_sub_4, zc_sub_10, zc_sub_20, zc_sub_48, zc_sub_97, zc_mul_4, t_ltZ, f_ltZ, t_leZ, f_leZ, t_eqZ, f_eqZ, t_ltN, f_ltN, t_leN, f_leN, t_eqN, f_eqN, ↓reduceIte, and_true, true_and, and_false, false_and, and_self, or_true, true_or, or_false, false_or, or_self, not_true_eq_false, not_false_eq_true, tu_same, tu_eq, tu_ne, b_V, b_I, b_J]
            · simp [tK] at h
            · simp [tK] at h
            · simp (disch := omega) only [tu_same, tu_eq, tu_ne]
              exact g3 a y (by omega)
          · rw [if_neg c1]
            by_cases c2 : s q = 59
            · rw [if_pos c2]
              refine ⟨tm_u (tm_u (tm_u A1 4 6 (nI q)) 4 7 34) 4 3 (nI (q + 1)), J, ?_, ⟨by simp (disch := omega) only [tu_same, tu_eq, tu_ne], by simp (disch := omega) only [tu_same, tu_eq, tu_ne]; rfl, fun _ => by simp (disch := omega) only [tu_same, tu_eq, tu_ne], fun h => ?_, fun h => ?_⟩, fun a y h => ?_, fun _ _ _ => rfl⟩
              · simp (disch := first | omega | (simp (disch := omega) only [n_ti, Int32.reduceToInt] <;> omega)) only [t2, g2, hτ, kd3, sh3, s_20f hlf, e_28_92, s23, e_28_114, e_27, e_27_60, e_28_149, n_add, nl_add, nr_add, n_mul, nl_mul, nr_mul, n_sub, nr_dec, n_div, nr_sub_1, nr_sub_2, nr_sub_3, nr_sub_4, nr_sub_7, nr_sub_10, nr_sub_11, nr_sub_20, nr_sub_48, nr_sub_97, nl_sub_3, nl_sub_4, nl_sub_12, nl_sub_24, nl_sub_32, nr_div_2, nr_div_4, z_lt, z_le, z_eq, z_cl, n_ti, Int.toNat_natCast, Int32.reduceToInt, Int32.reduceToNatClampNeg, zc_add, zc_sub, zc_add_1, zc_add_2, zc_add_3, zc_add_4, zc_add_8, zc_add_10, zc_add_12, zc_add_16, zc_add_20, zc_sub_1, zc_sub_2, zc_sub_4, zc_sub_10, zc_sub_20, zc_sub_48, zc_sub_97, zc_mul_4, t_ltZ, f_ltZ, t_leZ, f_leZ, t_eqZ, f_eqZ, t_ltN, f_ltN, t_leN, f_leN, t_eqN, f_eqN, ↓reduceIte, and_true, true_and, and_false, false_and, and_self, or_true, true_or, or_false, false_or, or_self, not_true_eq_false, not_false_eq_true, tu_same, tu_eq, tu_ne, b_V, b_I, b_J]
              · simp [tK] at h
              · simp [tK] at h
              · simp (disch := omega) only [tu_same, tu_eq, tu_ne]
                exact g3 a y (by omega)
            · rw [if_neg c2]
              refine ⟨tm_u (tm_u (tm_u A1 4 6 (nI q)) 4 7 36) 4 3 (nI (q + 1)), J, ?_, ⟨by simp (disch := omega) only [tu_same, tu_eq, tu_ne], by simp (disch := omega) only [tu_same, tu_eq, tu_ne]; rfl, fun h => absurd rfl h, fun h => ?_, fun h => ?_⟩, fun a y h => ?_, fun _ _ _ => rfl⟩
              · simp (disch := first | omega | (simp (disch := omega) only [n_ti, Int32.reduceToInt] <;> omega)) only [t2, g2, hτ, kd3, sh3, s_20f hlf, e_28_92, s23, e_28_114, e_27, e_27_60, e_28_149, n_add, nl_add, nr_add, n_mul, nl_mul, nr_mul, n_sub, nr_dec, n_div, nr_sub_1, nr_sub_2, nr_sub_3, nr_sub_4, nr_sub_7, nr_sub_10, nr_sub_11, nr_sub_20, nr_sub_48, nr_sub_97, nl_sub_3, nl_sub_4, nl_sub_12, nl_sub_24, nl_sub_32, nr_div_2, nr_div_4, z_lt, z_le, z_eq, z_cl, n_ti, Int.toNat_natCast, Int32.reduceToInt, Int32.reduceToNatClampNeg, zc_add, zc_sub, zc_add_1, zc_add_2, zc_add_3, zc_add_4, zc_add_8, zc_add_10, zc_add_12, zc_add_16, zc_add_20, zc_sub_1, zc_sub_2, zc_sub_4, zc_sub_10, zc_sub_20, zc_sub_48, zc_sub_97, zc_mul_4, t_ltZ, f_ltZ, t_leZ, f_leZ, t_eqZ, f_eqZ, t_ltN, f_ltN, t_leN, f_leN, t_eqN, f_eqN, ↓reduceIte, and_true, true_and, and_false, false_and, and_self, or_true, true_or, or_false, false_or, or_self, not_true_eq_false, not_false_eq_true, tu_same, tu_eq, tu_ne, b_V, b_I, b_J]
              · simp [tK] at h
              · simp [tK] at h
              · simp (disch := omega) only [tu_same, tu_eq, tu_ne]
                exact g3 a y (by omega)
