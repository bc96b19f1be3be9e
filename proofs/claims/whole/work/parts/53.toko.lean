/-! TOKENS: the model's reader, on -/
def mn3 (m : Nat) : Nat := if m ≤ 3 then m else 3
theorem m_dg {τ : tm_Tu} {J : Nat → Nat → Int64} {s : Nat → Int} {n q E : Nat} (hE : E ≤ n) : ∀ m e (B : Nat → Nat → Int32), e + m = E → q ≤ e → (∀ i, e ≤ i → i < E → isD (s i) = true) → (E < n → isD (s E) = false) → TxB B s n → B 131 6 = nI q → B 131 7 = nI e → B 131 9 = nI (numF s q (mn3 (e - q))) → ∃ B', R_60 259 [(0, .ref 131)] [] (mk B J τ) = R_60 270 [(0, .ref 131)] [.int 0] (mk B' J τ) ∧ B' 131 7 = nI E ∧ B' 131 9 = nI (numF s q (mn3 (E - q))) ∧ (∀ a y, ¬ (a = 131 ∧ (y = 7 ∨ y = 9)) → B' a y = B a y) := by
  intro m
  induction m with
  | zero =>
    intro e B he hq hL hN hT h6 h7 h9
    have e' : e = E := by omega
    subst e'
    obtain ⟨t1, t2, t3⟩ := id hT
    refine ⟨B, ?_, h7, h9, fun _ _ _ => rfl⟩
    rw [e_60_259]
    by_cases c : e < n
    · obtain ⟨b1, b2, b3⟩ := t3 e c
      have s55 := s_55 (J := J) (τ := τ) hT c
      have s58 := s_58N (I := B) (J := J) (τ := τ) b2 b3 (hN c)
      simp (disch := first | omega | (simp (disch := omega) only [n_ti, Int32.reduceToInt] <;> omega)) only [h7, s55, e_60_267, s58, n_add, nl_add, nr_add, n_mul, nl_mul, nr_mul, n_sub, nr_dec, n_div, nr_sub_1, nr_sub_2, nr_sub_3, nr_sub_4, nr_sub_7, nr_sub_10, nr_sub_11, nr_sub_20, nr_sub_48, nr_sub_97, nl_sub_3, nl_sub_4, nl_sub_12, nl_sub_24, nl_sub_32, nr_div_2, nr_div_4, z_lt, z_le, z_eq, z_cl, n_ti, Int.toNat_natCast, Int32.reduceToInt, Int32.reduceToNatClampNeg, zc_add, zc_sub, zc_add_1, zc_add_2, zc_add_3, zc_add_4, zc_add_8, zc_add_10, zc_add_12, zc_add_16, zc_add_20, zc_sub_1, zc_sub_2, zc_sub_4, zc_sub_10, zc_sub_20, zc_sub_48, zc_sub_97, zc_mul_4, t_ltZ, f_ltZ, t_leZ, f_leZ, t_eqZ, f_eqZ, t_ltN, f_ltN, t_leN, f_leN, t_eqN, f_eqN, ↓reduceIte, and_true, true_and, and_false, false_and, and_self, or_true, true_or, or_false, false_or, or_self, not_true_eq_false, not_false_eq_true, tu_same, tu_eq, tu_ne, b_V, b_I, b_J]
    · have s55 := s_55o (J := J) (τ := τ) hT (show n ≤ e by omega) (by omega)
      simp (disch := first | omega | (simp (disch := omega) only [n_ti, Int32.reduceToInt] <;> omega)) only [h7, s55, e_60_267, s_58_0, n_add, nl_add, nr_add, n_mul, nl_mul, nr_mul, n_sub, nr_dec, n_div, nr_sub_1, nr_sub_2, nr_sub_3, nr_sub_4, nr_sub_7, nr_sub_10, nr_sub_11, nr_sub_20, nr_sub_48, nr_sub_97, nl_sub_3, nl_sub_4, nl_sub_12, nl_sub_24, nl_sub_32, nr_div_2, nr_div_4, z_lt, z_le, z_eq, z_cl, n_ti, Int.toNat_natCast, Int32.reduceToInt, Int32.reduceToNatClampNeg, zc_add, zc_sub, zc_add_1, zc_add_2, zc_add_3, zc_add_4, zc_add_8, zc_add_10, zc_add_12, zc_add_16, zc_add_20, zc_sub_1, zc_sub_2, zc_sub_4, zc_sub_10, zc_sub_20, zc_sub_48, zc_sub_97, zc_mul_4, t_ltZ, f_ltZ, t_leZ, f_leZ, t_eqZ, f_eqZ, t_ltN, f_ltN, t_leN, f_leN, t_eqN, f_eqN, ↓reduceIte, and_true, true_and, and_false, false_and, and_self, or_true, true_or, or_false, false_or, or_self, not_true_eq_false, not_false_eq_true, tu_same, tu_eq, tu_ne, b_V, b_I, b_J]
  | succ m ih =>
    intro e B he hq hL hN hT h6 h7 h9
    obtain ⟨t1, t2, t3⟩ := id hT
    obtain ⟨b1, b2, b3⟩ := t3 e (by omega)
    have hd := hL e (Nat.le_refl _) (by omega)
    have hdd := dDt _ hd
    have hu := ub_e b2 b3
    have s55 := s_55 (J := J) (τ := τ) hT (show e < n by omega)
    have s58 := s_58D (I := B) (J := J) (τ := τ) b2 b3 hd
    by_cases c3 : e - q < 3
    · have em : mn3 (e - q) = e - q := if_pos (by omega)
      have em1 : mn3 (e + 1 - q) = (e - q) + 1 := by unfold mn3; rw [if_pos (by omega)]; omega
      have el : numF s q (mn3 (e + 1 - q)) = 10 * numF s q (e - q) + ubt (s e) - 48 := by
        rw [em1]
        show numF s q (e - q) * 10 + ((s (q + (e - q))).toNat - 48) = _
        rw [show q + (e - q) = e by omega]
        omega
      rw [em] at h9
      obtain ⟨B', g1, g2, g3, g4⟩ := ih (e + 1) (tm_u (tm_u B 131 9 (nI (10 * numF s q (e - q) + ubt (s e) - 48))) 131 7 (nI (e + 1))) (by omega) (by omega) (fun i h1 h2 => hL i (by omega) h2) hN (hT.tr (fun a k u => by simp (disch := omega) only [tu_same, tu_eq, tu_ne])) (by simp (disch := omega) only [h6, tu_same, tu_eq, tu_ne]) (by simp (disch := omega) only [tu_same, tu_eq, tu_ne]) (by simp (disch := omega) only [el, tu_same, tu_eq, tu_ne])
      refine ⟨B', ?_, g2, g3, fun a y h => (g4 a y h).trans (by simp (disch := omega) only [tu_same, tu_eq, tu_ne])⟩
      rw [← g1, e_60_259]
      simp (disch := first | omega | (simp (disch := omega) only [n_ti, Int32.reduceToInt] <;> omega)) only [h7, s55, e_60_267, s58, e_60_270, h6, h9, e_60_302, e_60_309, n_add, nl_add, nr_add, n_mul, nl_mul, nr_mul, n_sub, nr_dec, n_div, nr_sub_1, nr_sub_2, nr_sub_3, nr_sub_4, nr_sub_7, nr_sub_10, nr_sub_11, nr_sub_20, nr_sub_48, nr_sub_97, nl_sub_3, nl_sub_4, nl_sub_12, nl_sub_24, nl_sub_32, nr_div_2, nr_div_4, z_lt, z_le, z_eq, z_cl, n_ti, Int.toNat_natCast, Int32.reduceToInt, Int32.reduceToNatClampNeg, zc_add, zc_sub, zc_add_1, zc_add_2, zc_add_3, zc_add_4, zc_add_8, zc_add_10, zc_add_12, zc_add_16, zc_add_20, zc_sub_1, zc_sub_2, zc_sub_4, zc_sub_10, zc_sub_20, zc_sub_48, zc_sub_97, zc_mul_4, t_ltZ, f_ltZ, t_leZ, f_leZ, t_eqZ, f_eqZ, t_ltN, f_ltN, t_leN, f_leN, t_eqN, f_eqN, ↓reduceIte, and_true, true_and, and_false, false_and, and_self, or_true, true_or, or_false, false_or, or_self, not_true_eq_false, not_false_eq_true, tu_same, tu_eq, tu_ne, b_V, b_I, b_J]
    · have em : mn3 (e + 1 - q) = mn3 (e - q) := by
        unfold mn3
        by_cases c4 : e - q ≤ 3
        · rw [if_pos c4, if_neg (by omega)]; omega
        · rw [if_neg c4, if_neg (by omega)]
      obtain ⟨B', g1, g2, g3, g4⟩ := ih (e + 1) (tm_u B 131 7 (nI (e + 1))) (by omega) (by omega) (fun i h1 h2 => hL i (by omega) h2) hN (hT.tr (fun a k u => by simp (disch := omega) only [tu_same, tu_eq, tu_ne])) (by simp (disch := omega) only [h6, tu_same, tu_eq, tu_ne]) (by simp (disch := omega) only [tu_same, tu_eq, tu_ne]) (by simp (disch := omega) only [h9, em, tu_same, tu_eq, tu_ne])
      refine ⟨B', ?_, g2, g3, fun a y h => (g4 a y h).trans (by simp (disch := omega) only [tu_same, tu_eq, tu_ne])⟩
      rw [← g1, e_60_259]
      simp (disch := first | omega | (simp (disch := omega) only [n_ti, Int32.reduceToInt] <;> omega)) only [h7, s55, e_60_267, s58, e_60_270, h6, e_60_309, n_add, nl_add, nr_add, n_mul, nl_mul, nr_mul, n_sub, nr_dec, n_div, nr_sub_1, nr_sub_2, nr_sub_3, nr_sub_4, nr_sub_7, nr_sub_10, nr_sub_11, nr_sub_20, nr_sub_48, nr_sub_97, nl_sub_3, nl_sub_4, nl_sub_12, nl_sub_24, nl_sub_32, nr_div_2, nr_div_4, z_lt, z_le, z_eq, z_cl, n_ti, Int.toNat_natCast, Int32.reduceToInt, Int32.reduceToNatClampNeg, zc_add, zc_sub, zc_add_1, zc_add_2, zc_add_3, zc_add_4, zc_add_8, zc_add_10, zc_add_12, zc_add_16, zc_add_20, zc_sub_1, zc_sub_2, zc_sub_4, zc_sub_10, zc_sub_20, zc_sub_48, zc_sub_97, zc_mul_4, t_ltZ, f_ltZ, t_leZ, f_leZ, t_eqZ, f_eqZ, t_ltN, f_ltN, t_leN, f_leN, t_eqN, f_eqN, ↓reduceIte, and_true, true_and, and_false, false_and, and_self, or_true, true_or, or_false, false_or, or_self, not_true_eq_false, not_false_eq_true, tu_same, tu_eq, tu_ne, b_V, b_I, b_J]
theorem isF_ub {z : Int} (h1 : -128 ≤ z) (h2 : z ≤ 127) : isF ((nI (ubt z)).toInt) = isF z := by
  have e := ub_e h1 h2
  rw [n_ti (by omega)]
  rcases e with ⟨e1, e2⟩ | ⟨e1, e2⟩
  · rw [e2]
  · unfold isF
    rw [decide_eq_decide]
    omega
theorem m_sg {τ : tm_Tu} {J : Nat → Nat → Int64} {s : Nat → Int} {n E : Nat} (hE : E ≤ n) : ∀ m e (B : Nat → Nat → Int32), e + m = E → (∀ i, e ≤ i → i < E → isF (s i) = true) → (E < n → isF (s E) = false) → TxB B s n → B 131 7 = nI e → ∃ B', R_60 367 [(0, .ref 131)] [] (mk B J τ) = R_60 405 [(0, .ref 131)] [] (mk B' J τ) ∧ B' 131 7 = nI E ∧ (∀ a y, ¬ (a = 131 ∧ y = 7) → B' a y = B a y) := by
  intro m
  induction m with
  | zero =>
    intro e B he hL hN hT h7
    have e' : e = E := by omega
    subst e'
    obtain ⟨t1, t2, t3⟩ := id hT
    refine ⟨B, ?_, h7, fun _ _ _ => rfl⟩
    rw [e_60_367]
    by_cases c : e < n
    · obtain ⟨b1, b2, b3⟩ := t3 e c
      have s55 := s_55 (J := J) (τ := τ) hT c
      have hf := (fI_N (by rw [isF_ub b2 b3]; exact hN c : isF ((nI (ubt (s e))).toInt) = false)).2
      rw [h7, s55, b_I, e_60_375, s_59, hf, b_I, e_60_378]
      simp (disch := first | omega | (simp (disch := omega) only [n_ti, Int32.reduceToInt] <;> omega)) only [n_add, nl_add, nr_add, n_mul, nl_mul, nr_mul, n_sub, nr_dec, n_div, nr_sub_1, nr_sub_2, nr_sub_3, nr_sub_4, nr_sub_7, nr_sub_10, nr_sub_11, nr_sub_20, nr_sub_48, nr_sub_97, nl_sub_3, nl_sub_4, nl_sub_12, nl_sub_24, nl_sub_32, nr_div_2, nr_div_4, z_lt, z_le, z_eq, z_cl, n_ti, Int.toNat_natCast, Int32.reduceToInt, Int32.reduceToNatClampNeg, zc_add, zc_sub, zc_add_1, zc_add_2, zc_add_3, zc_add_4, zc_add_8, zc_add_10, zc_add_12, zc_add_16, zc_add_20, zc_sub_1, zc_sub_2, zc_sub_4, zc_sub_10, zc_sub_20, zc_sub_48, zc_sub_97, zc_mul_4, t_ltZ, f_ltZ, t_leZ, f_leZ, t_eqZ, f_eqZ, t_ltN, f_ltN, t_leN, f_leN, t_eqN, f_eqN, ↓reduceIte, and_true, true_and, and_false, false_and, and_self, or_true, true_or, or_false, false_or, or_self, not_true_eq_false, not_false_eq_true, tu_same, tu_eq, tu_ne, b_V, b_I, b_J]
    · have s55 := s_55o (J := J) (τ := τ) hT (show n ≤ e by omega) (by omega)
      have hf : fI (0 : Int32).toInt = -1 := by decide
      rw [h7, s55, b_I, e_60_375, s_59, hf, b_I, e_60_378]
      simp (disch := first | omega | (simp (disch := omega) only [n_ti, Int32.reduceToInt] <;> omega)) only [n_add, nl_add, nr_add, n_mul, nl_mul, nr_mul, n_sub, nr_dec, n_div, nr_sub_1, nr_sub_2, nr_sub_3, nr_sub_4, nr_sub_7, nr_sub_10, nr_sub_11, nr_sub_20, nr_sub_48, nr_sub_97, nl_sub_3, nl_sub_4, nl_sub_12, nl_sub_24, nl_sub_32, nr_div_2, nr_div_4, z_lt, z_le, z_eq, z_cl, n_ti, Int.toNat_natCast, Int32.reduceToInt, Int32.reduceToNatClampNeg, zc_add, zc_sub, zc_add_1, zc_add_2, zc_add_3, zc_add_4, zc_add_8, zc_add_10, zc_add_12, zc_add_16, zc_add_20, zc_sub_1, zc_sub_2, zc_sub_4, zc_sub_10, zc_sub_20, zc_sub_48, zc_sub_97, zc_mul_4, t_ltZ, f_ltZ, t_leZ, f_leZ, t_eqZ, f_eqZ, t_ltN, f_ltN, t_leN, f_leN, t_eqN, f_eqN, ↓reduceIte, and_true, true_and, and_false, false_and, and_self, or_true, true_or, or_false, false_or, or_self, not_true_eq_false, not_false_eq_true, tu_same, tu_eq, tu_ne, b_V, b_I, b_J]
  | succ m ih =>
    intro e B he hL hN hT h7
    obtain ⟨t1, t2, t3⟩ := id hT
    obtain ⟨b1, b2, b3⟩ := t3 e (by omega)
    have s55 := s_55 (J := J) (τ := τ) hT (show e < n by omega)
    have hf := (fI_F (by rw [isF_ub b2 b3]; exact hL e (Nat.le_refl _) (by omega) : isF ((nI (ubt (s e))).toInt) = true)).2
    obtain ⟨B', g1, g2, g4⟩ := ih (e + 1) (tm_u B 131 7 (nI (e + 1))) (by omega) (fun i h1 h2 => hL i (by omega) h2) hN (hT.tr (fun a k u => by simp (disch := omega) only [tu_same, tu_eq, tu_ne])) (by simp (disch := omega) only [tu_same, tu_eq, tu_ne])
    refine ⟨B', ?_, g2, fun a y h => (g4 a y h).trans (by simp (disch := omega) only [tu_same, tu_eq, tu_ne])⟩
    rw [← g1, e_60_367, h7, s55, b_I, e_60_375, s_59, b_I, e_60_378]
    generalize fI (nI (ubt (s e))).toInt = x at *
    simp (disch := first | omega | (simp (disch := omega) only [n_ti, Int32.reduceToInt] <;> omega)) only [t2, h7, n_add, nl_add, nr_add, n_mul, nl_mul, nr_mul, n_sub, nr_dec, n_div, nr_sub_1, nr_sub_2, nr_sub_3, nr_sub_4, nr_sub_7, nr_sub_10, nr_sub_11, nr_sub_20, nr_sub_48, nr_sub_97, nl_sub_3, nl_sub_4, nl_sub_12, nl_sub_24, nl_sub_32, nr_div_2, nr_div_4, z_lt, z_le, z_eq, z_cl, n_ti, Int.toNat_natCast, Int32.reduceToInt, Int32.reduceToNatClampNeg, zc_add, zc_sub, zc_add_1, zc_add_2, zc_add_3, zc_add_4, zc_add_8, zc_add_10, zc_add_12, zc_add_16, zc_add_20, zc_sub_1, zc_sub_2, zc_sub_4, zc_sub_10, zc_sub_20, zc_sub_48, zc_sub_97, zc_mul_4, t_ltZ, f_ltZ, t_leZ, f_leZ, t_eqZ, f_eqZ, t_ltN, f_ltN, t_leN, f_leN, t_eqN, f_eqN, ↓reduceIte, and_true, true_and, and_false, false_and, and_self, or_true, true_or, or_false, false_or, or_self, not_true_eq_false, not_false_eq_true, tu_same, tu_eq, tu_ne, b_V, b_I, b_J]
set_option maxHeartbeats 2000000 in
theorem s_60 {τ : tm_Tu} {s : Nat → Int} {n p : Nat} {B : Nat → Nat → Int32} {J : Nat → Nat → Int64} (hT : TxB B s n) (hp : p ≤ n) (h7 : B 131 7 = nI p) : ∃ B' J', F_60 [.ref 131] (mk B J τ) = some (none, mk B' J' τ) ∧ MoT s n B' J' (tok s n p) ∧ (∀ a y, ¬ (a = 131 ∧ 6 ≤ y ∧ y ≤ 9) → B' a y = B a y) ∧ (∀ a y, ¬ (a = 131 ∧ y = 10) → J' a y = J a y) := by
  obtain ⟨w1, w2, w3, w4⟩ := sc_P (fun k => isW (s k)) (n - p) p
  have ht : tok s n p = tkA s n (sc (fun k => isW (s k)) (n - p) p) := rfl
  rw [ht]
  generalize sc (fun k => isW (s k)) (n - p) p = q at *
  have hqn : q ≤ n := by omega
  obtain ⟨B1, g1, g2, g3⟩ := m_ws (J := J) (τ := τ) hqn (q - p) p (tm_u B 131 6 (nI p)) (by omega) w3 (fun h => w4 (by omega)) (hT.tr (fun a k u => by simp (disch := omega) only [tu_same, tu_eq, tu_ne])) (by simp (disch := omega) only [tu_same, tu_eq, tu_ne])
  have st : F_60 [.ref 131] (mk B J τ) = R_60 58 [(0, .ref 131)] [] (mk B1 J τ) := by rw [← g1, e_60, h7]
  have fB : ∀ a y, ¬ (a = 131 ∧ y = 6) → B1 a y = B a y := fun a y h => by
    rw [g3 a y h]
    simp (disch := omega) only [tu_same, tu_eq, tu_ne]
  have hT1 : TxB B1 s n := hT.tr (fun a k u => fB a k (by omega))
  obtain ⟨t1, t2, t3⟩ := id hT1
  rw [st, e_60_58]
  unfold tkA
  by_cases c0 : n ≤ q
  · rw [if_pos c0]
    have s55 := s_55o (J := J) (τ := τ) hT1 c0 (by omega)
    have eq : q = n := by omega
    refine ⟨tm_u (tm_u (tm_u (tm_u B1 131 7 (nI (q + 1))) 131 8 0) 131 6 (nI n)) 131 7 (nI n), J, ?_, ⟨by simp (disch := omega) only [tu_same, tu_eq, tu_ne]; rw [eq], fun _ => by simp (disch := omega) only [tu_same, tu_eq, tu_ne], fun h => ?_, fun h => ?_, fun h => ?_, fun h => ?_, fun h => ?_, fun h => ?_, fun h => by simp (disch := omega) only [tu_same, tu_eq, tu_ne], fun h => ?_⟩, fun a y h => ?_, fun _ _ _ => rfl⟩
    · simp (disch := first | omega | (simp (disch := omega) only [n_ti, Int32.reduceToInt] <;> omega)) only [g2, s55, e_60_66, t2, e_60_491, n_add, nl_add, nr_add, n_mul, nl_mul, nr_mul, n_sub, nr_dec, n_div, nr_sub_1, nr_sub_2, nr_sub_3, nr_sub_4, nr_sub_7, nr_sub_10, nr_sub_11, nr_sub_20, nr_sub_48, nr_sub_97, nl_sub_3, nl_sub_4, nl_sub_12, nl_sub_24, nl_sub_32, nr_div_2, nr_div_4, z_lt, z_le, z_eq, z_cl, n_ti, Int.toNat_natCast, Int32.reduceToInt, Int32.reduceToNatClampNeg, zc_add, zc_sub, zc_add_1, zc_add_2, zc_add_3, zc_add_4, zc_add_8, zc_add_10, zc_add_12, zc_add_16, zc_add_20, zc_sub_1, zc_sub_2, zc_sub_4, zc_sub_10, zc_sub_20, zc_sub_48, zc_sub_97, zc_mul_4, t_ltZ, f_ltZ, t_leZ, f_leZ, t_eqZ, f_eqZ, t_ltN, f_ltN, t_leN, f_leN, t_eqN, f_eqN, ↓reduceIte, and_true, true_and, and_false, false_and, and_self, or_true, true_or, or_false, false_or, or_self, not_true_eq_false, not_false_eq_true, tu_same, tu_eq, tu_ne, b_V, b_I, b_J]
    all_goals first | (simp [tK] at h; done) | skip
    · simp (disch := omega) only [tu_same, tu_eq, tu_ne]
      exact fB a y (by omega)
  · rw [if_neg c0]
    obtain ⟨b1, bb, b3⟩ := t3 q (by omega)
    have hu := ub_e bb b3
    have s55 := s_55 (J := J) (τ := τ) hT1 (show q < n by omega)
    have hT2 : TxB (tm_u B1 131 7 (nI (q + 1))) s n := hT1.tr (fun a k u => by simp (disch := omega) only [tu_same, tu_eq, tu_ne])
    cases hl : isL (s q) with
    | true =>
      rw [if_pos rfl]
      obtain ⟨v1, v2, v3, v4⟩ := sc_P (fun k => isL (s k)) (n - q) q
      generalize sc (fun k => isL (s k)) (n - q) q = E at *
      have hE : q < E := by
        by_cases c : E = q
        · have := v4 (by omega)
          rw [c, hl] at this
          cases this
        · omega
      have s56 := s_56L (I := tm_u B1 131 7 (nI (q + 1))) (J := J) (τ := τ) bb b3 hl
      obtain ⟨B2, k1, k2, k4⟩ := m_wd (J := J) (τ := τ) (s := s) (n := n) (E := E) (by omega) (E - (q + 1)) (q + 1) (tm_u B1 131 7 (nI (q + 1))) (by omega) (fun i h1 h2 => v3 i (by omega) h2) (fun h => v4 (by omega)) hT2 (by simp (disch := omega) only [tu_same, tu_eq, tu_ne])
      have b6 : B2 131 6 = nI q := by rw [k4 131 6 (by omega)]; simp (disch := omega) only [g2, tu_same, tu_eq, tu_ne]
      have hT3 : TxB B2 s n := hT2.tr (fun a k u => k4 a k (by omega))
      rw [b6] at k1
      have hok : okL (lets s q (E - q)) := lets_mem s q (E - q) (fun i hi => v3 (q + i) (by omega) (by omega))
      have hlen := lets_len s q (E - q)
      unfold tkW
      by_cases c8 : 8 < E - q
      · rw [if_pos c8]
        have long : ∃ J', R_60 156 [(0, .ref 131), (2, .int (nI q))] [] (mk B2 (tm_u J 131 10 0) τ) = R_60 199 [(0, .ref 131)] [] (mk B2 J' τ) ∧ (∀ a y, ¬ (a = 131 ∧ y = 10) → J' a y = J a y) := by
          have key : ∀ m e (J0 : Nat → Nat → Int64), e + m = q + 8 → q ≤ e → ∃ J', R_60 156 [(0, .ref 131), (2, .int (nI e))] [] (mk B2 J0 τ) = R_60 199 [(0, .ref 131)] [] (mk B2 J' τ) ∧ (∀ a y, ¬ (a = 131 ∧ y = 10) → J' a y = J0 a y) := by
            intro m
            induction m with
            | zero =>
              intro e J0 he hq
              refine ⟨J0, ?_, fun _ _ _ => rfl⟩
              rw [e_60_156]
              simp (disch := first | omega | (simp (disch := omega) only [n_ti, Int32.reduceToInt] <;> omega)) only [k2, b6, n_add, nl_add, nr_add, n_mul, nl_mul, nr_mul, n_sub, nr_dec, n_div, nr_sub_1, nr_sub_2, nr_sub_3, nr_sub_4, nr_sub_7, nr_sub_10, nr_sub_11, nr_sub_20, nr_sub_48, nr_sub_97, nl_sub_3, nl_sub_4, nl_sub_12, nl_sub_24, nl_sub_32, nr_div_2, nr_div_4, z_lt, z_le, z_eq, z_cl, n_ti, Int.toNat_natCast, Int32.reduceToInt, Int32.reduceToNatClampNeg, zc_add, zc_sub, zc_add_1, zc_add_2, zc_add_3, zc_add_4, zc_add_8, zc_add_10, zc_add_12, zc_add_16, zc_add_20, zc_sub_1, zc_sub_2, zc_sub_4, zc_sub_10, zc_sub_20, zc_sub_48, zc_sub_97, zc_mul_4, t_ltZ, f_ltZ, t_leZ, f_leZ, t_eqZ, f_eqZ, t_ltN, f_ltN, t_leN, f_leN, t_eqN, f_eqN, ↓reduceIte, and_true, true_and, and_false, false_and, and_self, or_true, true_or, or_false, false_or, or_self, not_true_eq_false, not_false_eq_true, tu_same, tu_eq, tu_ne, b_V, b_I, b_J]
            | succ m ih =>
              intro e J0 he hq
              have s55' := s_55 (J := J0) (τ := τ) hT3 (show e < n by omega)
              obtain ⟨J', z1, z2⟩ := ih (e + 1) (tm_u J0 131 10 (J0 131 10 <<< ((8 : Int32).toInt64 &&& 63) ||| (nI (ubt (s e))).toInt64)) (by omega) (by omega)
              refine ⟨J', ?_, fun a y h => (z2 a y h).trans (by simp (disch := omega) only [tu_same, tu_eq, tu_ne])⟩
              rw [← z1, e_60_156]
              simp (disch := first | omega | (simp (disch := omega) only [n_ti, Int32.reduceToInt] <;> omega)) only [k2, b6, s55', e_60_188, n_add, nl_add, nr_add, n_mul, nl_mul, nr_mul, n_sub, nr_dec, n_div, nr_sub_1, nr_sub_2, nr_sub_3, nr_sub_4, nr_sub_7, nr_sub_10, nr_sub_11, nr_sub_20, nr_sub_48, nr_sub_97, nl_sub_3, nl_sub_4, nl_sub_12, nl_sub_24, nl_sub_32, nr_div_2, nr_div_4, z_lt, z_le, z_eq, z_cl, n_ti, Int.toNat_natCast, Int32.reduceToInt, Int32.reduceToNatClampNeg, zc_add, zc_sub, zc_add_1, zc_add_2, zc_add_3, zc_add_4, zc_add_8, zc_add_10, zc_add_12, zc_add_16, zc_add_20, zc_sub_1, zc_sub_2, zc_sub_4, zc_sub_10, zc_sub_20, zc_sub_48, zc_sub_97, zc_mul_4, t_ltZ, f_ltZ, t_leZ, f_leZ, t_eqZ, f_eqZ, t_ltN, f_ltN, t_leN, f_leN, t_eqN, f_eqN, ↓reduceIte, and_true, true_and, and_false, false_and, and_self, or_true, true_or, or_false, false_or, or_self, not_true_eq_false, not_false_eq_true, tu_same, tu_eq, tu_ne, b_V, b_I, b_J]
          obtain ⟨J', z1, z2⟩ := key 8 q (tm_u J 131 10 0) (by omega) (Nat.le_refl _)
          exact ⟨J', z1, fun a y h => (z2 a y h).trans (by simp (disch := omega) only [tu_same, tu_eq, tu_ne])⟩
        obtain ⟨J', z1, z2⟩ := long
        refine ⟨tm_u B2 131 8 1, J', ?_, ⟨by simp (disch := omega) only [b6, tu_same, tu_eq, tu_ne], fun h => absurd rfl h, fun h => ?_, fun h => ?_, fun h => ?_, fun h => ?_, fun h => ?_, fun h => ?_, fun h => ?_, fun h => by simp (disch := omega) only [tu_same, tu_eq, tu_ne]⟩, fun a y h => ?_, z2⟩
        · simp (disch := first | omega | (simp (disch := omega) only [n_ti, Int32.reduceToInt] <;> omega)) only [g2, s55, e_60_66, t2, s56, e_60_116, k1, z1, e_60_199, k2, b6, e_60_233, e_60_491, n_add, nl_add, nr_add, n_mul, nl_mul, nr_mul, n_sub, nr_dec, n_div, nr_sub_1, nr_sub_2, nr_sub_3, nr_sub_4, nr_sub_7, nr_sub_10, nr_sub_11, nr_sub_20, nr_sub_48, nr_sub_97, nl_sub_3, nl_sub_4, nl_sub_12, nl_sub_24, nl_sub_32, nr_div_2, nr_div_4, z_lt, z_le, z_eq, z_cl, n_ti, Int.toNat_natCast, Int32.reduceToInt, Int32.reduceToNatClampNeg, zc_add, zc_sub, zc_add_1, zc_add_2, zc_add_3, zc_add_4, zc_add_8, zc_add_10, zc_add_12, zc_add_16, zc_add_20, zc_sub_1, zc_sub_2, zc_sub_4, zc_sub_10, zc_sub_20, zc_sub_48, zc_sub_97, zc_mul_4, t_ltZ, f_ltZ, t_leZ, f_leZ, t_eqZ, f_eqZ, t_ltN, f_ltN, t_leN, f_leN, t_eqN, f_eqN, ↓reduceIte, and_true, true_and, and_false, false_and, and_self, or_true, true_or, or_false, false_or, or_self, not_true_eq_false, not_false_eq_true, tu_same, tu_eq, tu_ne, b_V, b_I, b_J]
        all_goals first | (simp [tK] at h; done) | skip
        · simp (disch := omega) only [tu_same, tu_eq, tu_ne]
          rw [k4 a y (by omega)]
          simp (disch := omega) only [tu_same, tu_eq, tu_ne]
          exact fB a y (by omega)
      · rw [if_neg c8]
        obtain ⟨J', z1, z2, z3⟩ := m_nm (τ := τ) (B := B2) (s := s) (n := n) (q := q) (E := E) (by omega) v3 (by omega) hT3 b6 k2 (E - q) q (tm_u J 131 10 0) (by omega) (Nat.le_refl _) (by rw [Nat.sub_self]; simp (disch := omega) only [tu_same, tu_eq, tu_ne]; rfl)
        have s57 := s_57 (I := B2) (J := J') (τ := τ) (show (lets s q (E - q)).length ≤ 8 by omega) hok
        rcases kowF_P (lets s q (E - q)) 23 0 rfl with ⟨y1, y2⟩ | ⟨-, y2, y3, -⟩
        · have hk : kow (lets s q (E - q)) = 30 := y1
          rw [hk] at s57 ⊢
          refine ⟨tm_u B2 131 8 2, J', ?_, ⟨by simp (disch := omega) only [b6, tu_same, tu_eq, tu_ne], fun _ => by simp (disch := omega) only [k2, tu_same, tu_eq, tu_ne], fun h => ?_, fun h => ⟨by simp (disch := omega) only [tu_same, tu_eq, tu_ne], z2⟩, fun h => ?_, fun h => ?_, fun h => ?_, fun h => ?_, fun h => ?_, fun h => ?_⟩, fun a y h => ?_, fun a y h => (z3 a y h).trans (by simp (disch := omega) only [tu_same, tu_eq, tu_ne])⟩
          · have s57' : F_57 [.long (lN (en256 (lets s q (E - q))))] (mk B2 J' τ) = some (some (.int 0), mk B2 J' τ) := s57
            simp (disch := first | omega | (simp (disch := omega) only [n_ti, Int32.reduceToInt] <;> omega)) only [g2, s55, e_60_66, t2, s56, e_60_116, k1, z1, e_60_199, k2, b6, z2, s57', e_60_225, e_60_233, e_60_491, n_add, nl_add, nr_add, n_mul, nl_mul, nr_mul, n_sub, nr_dec, n_div, nr_sub_1, nr_sub_2, nr_sub_3, nr_sub_4, nr_sub_7, nr_sub_10, nr_sub_11, nr_sub_20, nr_sub_48, nr_sub_97, nl_sub_3, nl_sub_4, nl_sub_12, nl_sub_24, nl_sub_32, nr_div_2, nr_div_4, z_lt, z_le, z_eq, z_cl, n_ti, Int.toNat_natCast, Int32.reduceToInt, Int32.reduceToNatClampNeg, zc_add, zc_sub, zc_add_1, zc_add_2, zc_add_3, zc_add_4, zc_add_8, zc_add_10, zc_add_12, zc_add_16, zc_add_20, zc_sub_1, zc_sub_2, zc_sub_4, zc_sub_10, zc_sub_20, zc_sub_48, zc_sub_97, zc_mul_4, t_ltZ, f_ltZ, t_leZ, f_leZ, t_eqZ, f_eqZ, t_ltN, f_ltN, t_leN, f_leN, t_eqN, f_eqN, ↓reduceIte, and_true, true_and, and_false, false_and, and_self, or_true, true_or, or_false, false_or, or_self, not_true_eq_false, not_false_eq_true, tu_same, tu_eq, tu_ne, b_V, b_I, b_J]
          all_goals first | (simp [tK] at h; done) | skip
          · simp (disch := omega) only [tu_same, tu_eq, tu_ne]
            rw [k4 a y (by omega)]
            simp (disch := omega) only [tu_same, tu_eq, tu_ne]
            exact fB a y (by omega)
        · have hk : kow (lets s q (E - q)) = kowF (lets s q (E - q)) 23 0 := rfl
          rw [hk] at s57 ⊢
          generalize kowF (lets s q (E - q)) 23 0 = K at *
          have hb : b2 (decide (K < 23)) = 1 := by simp [y2, b2]
          rw [hb] at s57
          refine ⟨tm_u B2 131 8 3, J', ?_, ⟨by simp (disch := omega) only [b6, tu_same, tu_eq, tu_ne], fun _ => by simp (disch := omega) only [k2, tu_same, tu_eq, tu_ne], fun h => ⟨by simp (disch := omega) only [tu_same, tu_eq, tu_ne], ?_⟩, fun h => ?_, fun h => ?_, fun h => ?_, fun h => ?_, fun h => ?_, fun h => ?_, fun h => ?_⟩, fun a y h => ?_, fun a y h => (z3 a y h).trans (by simp (disch := omega) only [tu_same, tu_eq, tu_ne])⟩
          · simp (disch := first | omega | (simp (disch := omega) only [n_ti, Int32.reduceToInt] <;> omega)) only [g2, s55, e_60_66, t2, s56, e_60_116, k1, z1, e_60_199, k2, b6, z2, s57, e_60_225, e_60_233, e_60_491, n_add, nl_add, nr_add, n_mul, nl_mul, nr_mul, n_sub, nr_dec, n_div, nr_sub_1, nr_sub_2, nr_sub_3, nr_sub_4, nr_sub_7, nr_sub_10, nr_sub_11, nr_sub_20, nr_sub_48, nr_sub_97, nl_sub_3, nl_sub_4, nl_sub_12, nl_sub_24, nl_sub_32, nr_div_2, nr_div_4, z_lt, z_le, z_eq, z_cl, n_ti, Int.toNat_natCast, Int32.reduceToInt, Int32.reduceToNatClampNeg, zc_add, zc_sub, zc_add_1, zc_add_2, zc_add_3, zc_add_4, zc_add_8, zc_add_10, zc_add_12, zc_add_16, zc_add_20, zc_sub_1, zc_sub_2, zc_sub_4, zc_sub_10, zc_sub_20, zc_sub_48, zc_sub_97, zc_mul_4, t_ltZ, f_ltZ, t_leZ, f_leZ, t_eqZ, f_eqZ, t_ltN, f_ltN, t_leN, f_leN, t_eqN, f_eqN, ↓reduceIte, and_true, true_and, and_false, false_and, and_self, or_true, true_or, or_false, false_or, or_self, not_true_eq_false, not_false_eq_true, tu_same, tu_eq, tu_ne, b_V, b_I, b_J]
          · show J' 131 10 = lN (en256 (wrd K))
            rw [y3]; exact z2
          all_goals first | (change K = _ at h; omega) | skip
          · simp (disch := omega) only [tu_same, tu_eq, tu_ne]
            rw [k4 a y (by omega)]
            simp (disch := omega) only [tu_same, tu_eq, tu_ne]
            exact fB a y (by omega)
    | false =>
      rw [if_neg Bool.false_ne_true]
      have s56 := s_56N (I := tm_u B1 131 7 (nI (q + 1))) (J := J) (τ := τ) bb b3 hl
      cases hd : isD (s q) with
      | true =>
        rw [if_pos rfl]
        obtain ⟨v1, v2, v3, v4⟩ := sc_P (fun k => isD (s k)) (n - q) q
        generalize sc (fun k => isD (s k)) (n - q) q = E at *
        have s58 := s_58D (I := tm_u B1 131 7 (nI (q + 1))) (J := J) (τ := τ) bb b3 hd
        obtain ⟨B2, k1, k2, k3, k4⟩ := m_dg (J := J) (τ := τ) (s := s) (n := n) (q := q) (E := E) (by omega) (E - q) q (tm_u (tm_u (tm_u B1 131 7 (nI (q + 1))) 131 9 0) 131 7 (nI q)) (by omega) (Nat.le_refl _) v3 (fun h => v4 (by omega)) (hT2.tr (fun a k u => by simp (disch := omega) only [tu_same, tu_eq, tu_ne])) (by simp (disch := omega) only [g2, tu_same, tu_eq, tu_ne]) (by simp (disch := omega) only [tu_same, tu_eq, tu_ne]) (by rw [Nat.sub_self]; simp (disch := omega) only [tu_same, tu_eq, tu_ne]; rfl)
        have b6 : B2 131 6 = nI q := by rw [k4 131 6 (by omega)]; simp (disch := omega) only [g2, tu_same, tu_eq, tu_ne]
        have hT3 : TxB B2 s n := hT2.tr (fun a k u => by rw [k4 a k (by omega)]; simp (disch := omega) only [tu_same, tu_eq, tu_ne])
        have fB2 : ∀ a y, ¬ (a = 131 ∧ 6 ≤ y ∧ y ≤ 9) → B2 a y = B a y := fun a y h => by
          rw [k4 a y (by omega)]
          simp (disch := omega) only [tu_same, tu_eq, tu_ne]
          exact fB a y (by omega)
        unfold tkN
        by_cases cb : 3 < E - q ∨ (E < n ∧ isL (s E) = true)
        · rw [if_pos cb]
          refine ⟨tm_u B2 131 8 1, J, ?_, ⟨by simp (disch := omega) only [b6, tu_same, tu_eq, tu_ne], fun h => absurd rfl h, fun h => ?_, fun h => ?_, fun h => ?_, fun h => ?_, fun h => ?_, fun h => ?_, fun h => ?_, fun h => by simp (disch := omega) only [tu_same, tu_eq, tu_ne]⟩, fun a y h => ?_, fun _ _ _ => rfl⟩
          · by_cases c3 : 3 < E - q
            · simp (disch := first | omega | (simp (disch := omega) only [n_ti, Int32.reduceToInt] <;> omega)) only [g2, s55, e_60_66, t2, s56, e_60_116, s58, e_60_243, k1, e_60_270, k2, b6, e_60_350, e_60_355, e_60_491, n_add, nl_add, nr_add, n_mul, nl_mul, nr_mul, n_sub, nr_dec, n_div, nr_sub_1, nr_sub_2, nr_sub_3, nr_sub_4, nr_sub_7, nr_sub_10, nr_sub_11, nr_sub_20, nr_sub_48, nr_sub_97, nl_sub_3, nl_sub_4, nl_sub_12, nl_sub_24, nl_sub_32, nr_div_2, nr_div_4, z_lt, z_le, z_eq, z_cl, n_ti, Int.toNat_natCast, Int32.reduceToInt, Int32.reduceToNatClampNeg, zc_add, zc_sub, zc_add_1, zc_add_2, zc_add_3, zc_add_4, zc_add_8, zc_add_10, zc_add_12, zc_add_16, zc_add_20, zc_sub_1, zc_sub_2, zc_sub_4, zc_sub_10, zc_sub_20, zc_sub_48, zc_sub_97, zc_mul_4, t_ltZ, f_ltZ, t_leZ, f_leZ, t_eqZ, f_eqZ, t_ltN, f_ltN, t_leN, f_leN, t_eqN, f_eqN, ↓reduceIte, and_true, true_and, and_false, false_and, and_self, or_true, true_or, or_false, false_or, or_self, not_true_eq_false, not_false_eq_true, tu_same, tu_eq, tu_ne, b_V, b_I, b_J]
            · have cn : E < n ∧ isL (s E) = true := by
                rcases cb with c | c
                · exact absurd c c3
                · exact c
              obtain ⟨y1, y2, y3⟩ := hT3.2.2 E cn.1
              have s55' := s_55 (J := J) (τ := τ) hT3 cn.1
              have s56' := s_56L (I := B2) (J := J) (τ := τ) y2 y3 cn.2
              simp (disch := first | omega | (simp (disch := omega) only [n_ti, Int32.reduceToInt] <;> omega)) only [g2, s55, e_60_66, t2, s56, e_60_116, s58, e_60_243, k1, e_60_270, k2, b6, s55', e_60_344, s56', e_60_347, e_60_350, e_60_355, e_60_491, n_add, nl_add, nr_add, n_mul, nl_mul, nr_mul, n_sub, nr_dec, n_div, nr_sub_1, nr_sub_2, nr_sub_3, nr_sub_4, nr_sub_7, nr_sub_10, nr_sub_11, nr_sub_20, nr_sub_48, nr_sub_97, nl_sub_3, nl_sub_4, nl_sub_12, nl_sub_24, nl_sub_32, nr_div_2, nr_div_4, z_lt, z_le, z_eq, z_cl, n_ti, Int.toNat_natCast, Int32.reduceToInt, Int32.reduceToNatClampNeg, zc_add, zc_sub, zc_add_1, zc_add_2, zc_add_3, zc_add_4, zc_add_8, zc_add_10, zc_add_12, zc_add_16, zc_add_20, zc_sub_1, zc_sub_2, zc_sub_4, zc_sub_10, zc_sub_20, zc_sub_48, zc_sub_97, zc_mul_4, t_ltZ, f_ltZ, t_leZ, f_leZ, t_eqZ, f_eqZ, t_ltN, f_ltN, t_leN, f_leN, t_eqN, f_eqN, ↓reduceIte, and_true, true_and, and_false, false_and, and_self, or_true, true_or, or_false, false_or, or_self, not_true_eq_false, not_false_eq_true, tu_same, tu_eq, tu_ne, b_V, b_I, b_J]
          all_goals first | (simp [tK] at h; done) | skip
          · simp (disch := omega) only [tu_same, tu_eq, tu_ne]
            exact fB2 a y h
        · rw [if_neg cb]
          have c3 : ¬ 3 < E - q := fun h => cb (Or.inl h)
          have em : mn3 (E - q) = E - q := if_pos (by omega)
          rw [em] at k3
          refine ⟨tm_u B2 131 8 4, J, ?_, ⟨by simp (disch := omega) only [b6, tu_same, tu_eq, tu_ne], fun _ => by simp (disch := omega) only [k2, tu_same, tu_eq, tu_ne], fun h => ?_, fun h => ?_, fun h => ⟨by simp (disch := omega) only [tu_same, tu_eq, tu_ne], by simp (disch := omega) only [k3, tu_same, tu_eq, tu_ne]⟩, fun h => ?_, fun h => ?_, fun h => ?_, fun h => ?_, fun h => ?_⟩, fun a y h => ?_, fun _ _ _ => rfl⟩
          · by_cases cn : E < n
            · obtain ⟨y1, y2, y3⟩ := hT3.2.2 E cn
              have he : isL (s E) = false := by
                cases he : isL (s E) with
                | false => rfl
                | true => exact absurd (Or.inr ⟨cn, he⟩) cb
              have s55' := s_55 (J := J) (τ := τ) hT3 cn
              have s56' := s_56N (I := B2) (J := J) (τ := τ) y2 y3 he
              simp (disch := first | omega | (simp (disch := omega) only [n_ti, Int32.reduceToInt] <;> omega)) only [g2, s55, e_60_66, t2, s56, e_60_116, s58, e_60_243, k1, e_60_270, k2, b6, s55', e_60_344, s56', e_60_347, e_60_355, e_60_491, n_add, nl_add, nr_add, n_mul, nl_mul, nr_mul, n_sub, nr_dec, n_div, nr_sub_1, nr_sub_2, nr_sub_3, nr_sub_4, nr_sub_7, nr_sub_10, nr_sub_11, nr_sub_20, nr_sub_48, nr_sub_97, nl_sub_3, nl_sub_4, nl_sub_12, nl_sub_24, nl_sub_32, nr_div_2, nr_div_4, z_lt, z_le, z_eq, z_cl, n_ti, Int.toNat_natCast, Int32.reduceToInt, Int32.reduceToNatClampNeg, zc_add, zc_sub, zc_add_1, zc_add_2, zc_add_3, zc_add_4, zc_add_8, zc_add_10, zc_add_12, zc_add_16, zc_add_20, zc_sub_1, zc_sub_2, zc_sub_4, zc_sub_10, zc_sub_20, zc_sub_48, zc_sub_97, zc_mul_4, t_ltZ, f_ltZ, t_leZ, f_leZ, t_eqZ, f_eqZ, t_ltN, f_ltN, t_leN, f_leN, t_eqN, f_eqN, ↓reduceIte, and_true, true_and, and_false, false_and, and_self, or_true, true_or, or_false, false_or, or_self, not_true_eq_false, not_false_eq_true, tu_same, tu_eq, tu_ne, b_V, b_I, b_J]
            · have s55' := s_55o (J := J) (τ := τ) hT3 (show n ≤ E by omega) (by omega)
              simp (disch := first | omega | (simp (disch := omega) only [n_ti, Int32.reduceToInt] <;> omega)) only [g2, s55, e_60_66, t2, s56, e_60_116, s58, e_60_243, k1, e_60_270, k2, b6, s55', e_60_344, s_56_0, e_60_347, e_60_355, e_60_491, n_add, nl_add, nr_add, n_mul, nl_mul, nr_mul, n_sub, nr_dec, n_div, nr_sub_1, nr_sub_2, nr_sub_3, nr_sub_4, nr_sub_7, nr_sub_10, nr_sub_11, nr_sub_20, nr_sub_48, nr_sub_97, nl_sub_3, nl_sub_4, nl_sub_12, nl_sub_24, nl_sub_32, nr_div_2, nr_div_4, z_lt, z_le, z_eq, z_cl, n_ti, Int.toNat_natCast, Int32.reduceToInt, Int32.reduceToNatClampNeg, zc_add, zc_sub, zc_add_1, zc_add_2, zc_add_3, zc_add_4, zc_add_8, zc_add_10, zc_add_12, zc_add_16, zc_add_20, zc_sub_1, zc_sub_2, zc_sub_4, zc_sub_10, zc_sub_20, zc_sub_48, zc_sub_97, zc_mul_4, t_ltZ, f_ltZ, t_leZ, f_leZ, t_eqZ, f_eqZ, t_ltN, f_ltN, t_leN, f_leN, t_eqN, f_eqN, ↓reduceIte, and_true, true_and, and_false, false_and, and_self, or_true, true_or, or_false, false_or, or_self, not_true_eq_false, not_false_eq_true, tu_same, tu_eq, tu_ne, b_V, b_I, b_J]
          all_goals first | (simp [tK] at h; done) | skip
          · simp (disch := omega) only [tu_same, tu_eq, tu_ne]
            exact fB2 a y h
      | false =>
        rw [if_neg Bool.false_ne_true]
        have s58 := s_58N (I := tm_u B1 131 7 (nI (q + 1))) (J := J) (τ := τ) bb b3 hd
        by_cases cq : s q = 34
        · rw [if_pos cq]
          obtain ⟨v1, v2, v3, v4⟩ := sc_P (fun k => isF (s k)) (n - (q + 1)) (q + 1)
          generalize sc (fun k => isF (s k)) (n - (q + 1)) (q + 1) = E at *
          obtain ⟨B2, k1, k2, k4⟩ := m_sg (J := J) (τ := τ) (s := s) (n := n) (E := E) (by omega) (E - (q + 1)) (q + 1) (tm_u B1 131 7 (nI (q + 1))) (by omega) v3 (fun h => v4 (by omega)) hT2 (by simp (disch := omega) only [tu_same, tu_eq, tu_ne])
          have b6 : B2 131 6 = nI q := by rw [k4 131 6 (by omega)]; simp (disch := omega) only [g2, tu_same, tu_eq, tu_ne]
          have hT3 : TxB B2 s n := hT2.tr (fun a k u => k4 a k (by omega))
          have fB2 : ∀ a y, ¬ (a = 131 ∧ 6 ≤ y ∧ y ≤ 9) → B2 a y = B a y := fun a y h => by
            rw [k4 a y (by omega)]
            simp (disch := omega) only [tu_same, tu_eq, tu_ne]
            exact fB a y (by omega)
          have hq34 : ubt (s q) = 34 := by omega
          obtain ⟨m, hm⟩ : ∃ m, m = E - (q + 1) := ⟨_, rfl⟩
          have em : E - q - 1 = m := by omega
          have em4 : m - m / 4 * 4 = m % 4 := by omega
          have hmn : m ≤ 1400 := by omega
          rw [hq34] at s55 s56 s58
          unfold tkS
          rw [← hm]
          by_cases cc : (E < n ∧ s E = 34) ∧ 4 ≤ m ∧ m ≤ 32 ∧ m % 4 = 0
          · rw [if_pos cc]
            obtain ⟨⟨cn, c34⟩, cf1, cf2, cf3⟩ := cc
            obtain ⟨y1, y2, y3⟩ := hT3.2.2 E cn
            have hE34 : ubt (s E) = 34 := by rw [c34]; rfl
            have s55' := s_55 (J := J) (τ := τ) hT3 cn
            rw [hE34] at s55'
            refine ⟨tm_u (tm_u B2 131 8 5) 131 7 (nI (E + 1)), J, ?_, ⟨by simp (disch := omega) only [b6, tu_same, tu_eq, tu_ne], fun _ => by simp (disch := omega) only [tu_same, tu_eq, tu_ne], fun h => ?_, fun h => ?_, fun h => ?_, fun h => by simp (disch := omega) only [tu_same, tu_eq, tu_ne], fun h => ?_, fun h => ?_, fun h => ?_, fun h => ?_⟩, fun a y h => ?_, fun _ _ _ => rfl⟩
            · simp (disch := first | omega | (simp (disch := omega) only [n_ti, Int32.reduceToInt] <;> omega)) only [g2, s55, e_60_66, t2, s56, e_60_116, s58, e_60_243, k1, e_60_405, k2, b6, em, s55', e_60_426, em4, e_60_453, e_60_491, n_add, nl_add, nr_add, n_mul, nl_mul, nr_mul, n_sub, nr_dec, n_div, nr_sub_1, nr_sub_2, nr_sub_3, nr_sub_4, nr_sub_7, nr_sub_10, nr_sub_11, nr_sub_20, nr_sub_48, nr_sub_97, nl_sub_3, nl_sub_4, nl_sub_12, nl_sub_24, nl_sub_32, nr_div_2, nr_div_4, z_lt, z_le, z_eq, z_cl, n_ti, Int.toNat_natCast, Int32.reduceToInt, Int32.reduceToNatClampNeg, zc_add, zc_sub, zc_add_1, zc_add_2, zc_add_3, zc_add_4, zc_add_8, zc_add_10, zc_add_12, zc_add_16, zc_add_20, zc_sub_1, zc_sub_2, zc_sub_4, zc_sub_10, zc_sub_20, zc_sub_48, zc_sub_97, zc_mul_4, t_ltZ, f_ltZ, t_leZ, f_leZ, t_eqZ, f_eqZ, t_ltN, f_ltN, t_leN, f_leN, t_eqN, f_eqN, ↓reduceIte, and_true, true_and, and_false, false_and, and_self, or_true, true_or, or_false, false_or, or_self, not_true_eq_false, not_false_eq_true, tu_same, tu_eq, tu_ne, b_V, b_I, b_J]
            all_goals first | (simp [tK] at h; done) | skip
            · simp (disch := omega) only [tu_same, tu_eq, tu_ne]
              exact fB2 a y h
          · rw [if_neg cc]
            have fin : R_60 405 [(0, .ref 131)] [] (mk B2 J τ) = R_60 452 [(0, .ref 131)] [.ref 131] (mk B2 J τ) := by
              rw [e_60_405]
              by_cases cn : E < n
              · obtain ⟨y1, y2, y3⟩ := hT3.2.2 E cn
                have hu' := ub_e y2 y3
                have s55' := s_55 (J := J) (τ := τ) hT3 cn
                by_cases c34 : s E = 34
                · by_cases d1 : m < 4
                  · simp (disch := first | omega | (simp (disch := omega) only [n_ti, Int32.reduceToInt] <;> omega)) only [k2, b6, em, s55', e_60_426, n_add, nl_add, nr_add, n_mul, nl_mul, nr_mul, n_sub, nr_dec, n_div, nr_sub_1, nr_sub_2, nr_sub_3, nr_sub_4, nr_sub_7, nr_sub_10, nr_sub_11, nr_sub_20, nr_sub_48, nr_sub_97, nl_sub_3, nl_sub_4, nl_sub_12, nl_sub_24, nl_sub_32, nr_div_2, nr_div_4, z_lt, z_le, z_eq, z_cl, n_ti, Int.toNat_natCast, Int32.reduceToInt, Int32.reduceToNatClampNeg, zc_add, zc_sub, zc_add_1, zc_add_2, zc_add_3, zc_add_4, zc_add_8, zc_add_10, zc_add_12, zc_add_16, zc_add_20, zc_sub_1, zc_sub_2, zc_sub_4, zc_sub_10, zc_sub_20, zc_sub_48, zc_sub_97, zc_mul_4, t_ltZ, f_ltZ, t_leZ, f_leZ, t_eqZ, f_eqZ, t_ltN, f_ltN, t_leN, f_leN, t_eqN, f_eqN, ↓reduceIte, and_true, true_and, and_false, false_and, and_self, or_true, true_or, or_false, false_or, or_self, not_true_eq_false, not_false_eq_true, tu_same, tu_eq, tu_ne, b_V, b_I, b_J]
                  · by_cases d2 : 32 < m
                    · simp (disch := first | omega | (simp (disch := omega) only [n_ti, Int32.reduceToInt] <;> omega)) only [k2, b6, em, s55', e_60_426, n_add, nl_add, nr_add, n_mul, nl_mul, nr_mul, n_sub, nr_dec, n_div, nr_sub_1, nr_sub_2, nr_sub_3, nr_sub_4, nr_sub_7, nr_sub_10, nr_sub_11, nr_sub_20, nr_sub_48, nr_sub_97, nl_sub_3, nl_sub_4, nl_sub_12, nl_sub_24, nl_sub_32, nr_div_2, nr_div_4, z_lt, z_le, z_eq, z_cl, n_ti, Int.toNat_natCast, Int32.reduceToInt, Int32.reduceToNatClampNeg, zc_add, zc_sub, zc_add_1, zc_add_2, zc_add_3, zc_add_4, zc_add_8, zc_add_10, zc_add_12, zc_add_16, zc_add_20, zc_sub_1, zc_sub_2, zc_sub_4, zc_sub_10, zc_sub_20, zc_sub_48, zc_sub_97, zc_mul_4, t_ltZ, f_ltZ, t_leZ, f_leZ, t_eqZ, f_eqZ, t_ltN, f_ltN, t_leN, f_leN, t_eqN, f_eqN, ↓reduceIte, and_true, true_and, and_false, false_and, and_self, or_true, true_or, or_false, false_or, or_self, not_true_eq_false, not_false_eq_true, tu_same, tu_eq, tu_ne, b_V, b_I, b_J]
                    · simp (disch := first | omega | (simp (disch := omega) only [n_ti, Int32.reduceToInt] <;> omega)) only [k2, b6, em, s55', e_60_426, em4, n_add, nl_add, nr_add, n_mul, nl_mul, nr_mul, n_sub, nr_dec, n_div, nr_sub_1, nr_sub_2, nr_sub_3, nr_sub_4, nr_sub_7, nr_sub_10, nr_sub_11, nr_sub_20, nr_sub_48, nr_sub_97, nl_sub_3, nl_sub_4, nl_sub_12, nl_sub_24, nl_sub_32, nr_div_2, nr_div_4, z_lt, z_le, z_eq, z_cl, n_ti, Int.toNat_natCast, Int32.reduceToInt, Int32.reduceToNatClampNeg, zc_add, zc_sub, zc_add_1, zc_add_2, zc_add_3, zc_add_4, zc_add_8, zc_add_10, zc_add_12, zc_add_16, zc_add_20, zc_sub_1, zc_sub_2, zc_sub_4, zc_sub_10, zc_sub_20, zc_sub_48, zc_sub_97, zc_mul_4, t_ltZ, f_ltZ, t_leZ, f_leZ, t_eqZ, f_eqZ, t_ltN, f_ltN, t_leN, f_leN, t_eqN, f_eqN, ↓reduceIte, and_true, true_and, and_false, false_and, and_self, or_true, true_or, or_false, false_or, or_self, not_true_eq_false, not_false_eq_true, tu_same, tu_eq, tu_ne, b_V, b_I, b_J]
                · simp (disch := first | omega | (simp (disch := omega) only [n_ti, Int32.reduceToInt] <;> omega)) only [k2, b6, em, s55', e_60_426, n_add, nl_add, nr_add, n_mul, nl_mul, nr_mul, n_sub, nr_dec, n_div, nr_sub_1, nr_sub_2, nr_sub_3, nr_sub_4, nr_sub_7, nr_sub_10, nr_sub_11, nr_sub_20, nr_sub_48, nr_sub_97, nl_sub_3, nl_sub_4, nl_sub_12, nl_sub_24, nl_sub_32, nr_div_2, nr_div_4, z_lt, z_le, z_eq, z_cl, n_ti, Int.toNat_natCast, Int32.reduceToInt, Int32.reduceToNatClampNeg, zc_add, zc_sub, zc_add_1, zc_add_2, zc_add_3, zc_add_4, zc_add_8, zc_add_10, zc_add_12, zc_add_16, zc_add_20, zc_sub_1, zc_sub_2, zc_sub_4, zc_sub_10, zc_sub_20, zc_sub_48, zc_sub_97, zc_mul_4, t_ltZ, f_ltZ, t_leZ, f_leZ, t_eqZ, f_eqZ, t_ltN, f_ltN, t_leN, f_leN, t_eqN, f_eqN, ↓reduceIte, and_true, true_and, and_false, false_and, and_self, or_true, true_or, or_false, false_or, or_self, not_true_eq_false, not_false_eq_true, tu_same, tu_eq, tu_ne, b_V, b_I, b_J]
              · have s55' := s_55o (J := J) (τ := τ) hT3 (show n ≤ E by omega) (by omega)
                simp (disch := first | omega | (simp (disch := omega) only [n_ti, Int32.reduceToInt] <;> omega)) only [k2, b6, em, s55', e_60_426, n_add, nl_add, nr_add, n_mul, nl_mul, nr_mul, n_sub, nr_dec, n_div, nr_sub_1, nr_sub_2, nr_sub_3, nr_sub_4, nr_sub_7, nr_sub_10, nr_sub_11, nr_sub_20, nr_sub_48, nr_sub_97, nl_sub_3, nl_sub_4, nl_sub_12, nl_sub_24, nl_sub_32, nr_div_2, nr_div_4, z_lt, z_le, z_eq, z_cl, n_ti, Int.toNat_natCast, Int32.reduceToInt, Int32.reduceToNatClampNeg, zc_add, zc_sub, zc_add_1, zc_add_2, zc_add_3, zc_add_4, zc_add_8, zc_add_10, zc_add_12, zc_add_16, zc_add_20, zc_sub_1, zc_sub_2, zc_sub_4, zc_sub_10, zc_sub_20, zc_sub_48, zc_sub_97, zc_mul_4, t_ltZ, f_ltZ, t_leZ, f_leZ, t_eqZ, f_eqZ, t_ltN, f_ltN, t_leN, f_leN, t_eqN, f_eqN, ↓reduceIte, and_true, true_and, and_false, false_and, and_self, or_true, true_or, or_false, false_or, or_self, not_true_eq_false, not_false_eq_true, tu_same, tu_eq, tu_ne, b_V, b_I, b_J]
            refine ⟨tm_u (tm_u B2 131 8 1) 131 7 (nI (E + 1)), J, ?_, ⟨by simp (disch := omega) only [b6, tu_same, tu_eq, tu_ne], fun h => absurd rfl h, fun h => ?_, fun h => ?_, fun h => ?_, fun h => ?_, fun h => ?_, fun h => ?_, fun h => ?_, fun h => by simp (disch := omega) only [tu_same, tu_eq, tu_ne]⟩, fun a y h => ?_, fun _ _ _ => rfl⟩
            · simp (disch := first | omega | (simp (disch := omega) only [n_ti, Int32.reduceToInt] <;> omega)) only [g2, s55, e_60_66, t2, s56, e_60_116, s58, e_60_243, k1, fin, e_60_452, e_60_453, k2, e_60_491, n_add, nl_add, nr_add, n_mul, nl_mul, nr_mul, n_sub, nr_dec, n_div, nr_sub_1, nr_sub_2, nr_sub_3, nr_sub_4, nr_sub_7, nr_sub_10, nr_sub_11, nr_sub_20, nr_sub_48, nr_sub_97, nl_sub_3, nl_sub_4, nl_sub_12, nl_sub_24, nl_sub_32, nr_div_2, nr_div_4, z_lt, z_le, z_eq, z_cl, n_ti, Int.toNat_natCast, Int32.reduceToInt, Int32.reduceToNatClampNeg, zc_add, zc_sub, zc_add_1, zc_add_2, zc_add_3, zc_add_4, zc_add_8, zc_add_10, zc_add_12, zc_add_16, zc_add_20, zc_sub_1, zc_sub_2, zc_sub_4, zc_sub_10, zc_sub_20, zc_sub_48, zc_sub_97, zc_mul_4, t_ltZ, f_ltZ, t_leZ, f_leZ, t_eqZ, f_eqZ, t_ltN, f_ltN, t_leN, f_leN, t_eqN, f_eqN, ↓reduceIte, and_true, true_and, and_false, false_and, and_self, or_true, true_or, or_false, false_or, or_self, not_true_eq_false, not_false_eq_true, tu_same, tu_eq, tu_ne, b_V, b_I, b_J]
            all_goals first | (simp [tK] at h; done) | skip
            · simp (disch := omega) only [tu_same, tu_eq, tu_ne]
              exact fB2 a y h
        · rw [if_neg cq]
          unfold tkM
          by_cases c1 : s q = 58
          · rw [if_pos c1]
            refine ⟨tm_u (tm_u B1 131 7 (nI (q + 1))) 131 8 6, J, ?_, ⟨by simp (disch := omega) only [g2, tu_same, tu_eq, tu_ne], fun _ => by simp (disch := omega) only [tu_same, tu_eq, tu_ne], fun h => ?_, fun h => ?_, fun h => ?_, fun h => ?_, fun h => ⟨by simp (disch := omega) only [tu_same, tu_eq, tu_ne], c1, show q < n by omega⟩, fun h => ?_, fun h => ?_, fun h => ?_⟩, fun a y h => ?_, fun _ _ _ => rfl⟩
            · simp (disch := first | omega | (simp (disch := omega) only [n_ti, Int32.reduceToInt] <;> omega)) only [g2, s55, e_60_66, t2, s56, e_60_116, s58, e_60_243, e_60_482, e_60_488, e_60_491, n_add, nl_add, nr_add, n_mul, nl_mul, nr_mul, n_sub, nr_dec, n_div, nr_sub_1, nr_sub_2, nr_sub_3, nr_sub_4, nr_sub_7, nr_sub_10, nr_sub_11, nr_sub_20, nr_sub_48, nr_sub_97, nl_sub_3, nl_sub_4, nl_sub_12, nl_sub_24, nl_sub_32, nr_div_2, nr_div_4, z_lt, z_le, z_eq, z_cl, n_ti, Int.toNat_natCast, Int32.reduceToInt, Int32.reduceToNatClampNeg, zc_add, zc_sub, zc_add_1, zc_add_2, zc_add_3, zc_add_4, zc_add_8, zc_add_10, zc_add_12, zc_add_16, zc_add_20, zc_sub_1, zc_sub_2, zc_sub_4, zc_sub_10, zc_sub_20, zc_sub_48, zc_sub_97, zc_mul_4, t_ltZ, f_ltZ, t_leZ, f_leZ, t_eqZ, f_eqZ, t_ltN, f_ltN, t_leN, f_leN, t_eqN, f_eqN, ↓reduceIte, and_true, true_and, and_false, false_and, and_self, or_true, true_or, or_false, false_or, or_self, not_true_eq_false, not_false_eq_true, tu_same, tu_eq, tu_ne, b_V, b_I, b_J]
            all_goals first | (simp [tK] at h; done) | skip
            · simp (disch := omega) only [tu_same, tu_eq, tu_ne]
              exact fB a y (by omega)
          · rw [if_neg c1]
            by_cases c2 : s q = 59
            · rw [if_pos c2]
              refine ⟨tm_u (tm_u B1 131 7 (nI (q + 1))) 131 8 6, J, ?_, ⟨by simp (disch := omega) only [g2, tu_same, tu_eq, tu_ne], fun _ => by simp (disch := omega) only [tu_same, tu_eq, tu_ne], fun h => ?_, fun h => ?_, fun h => ?_, fun h => ?_, fun h => ?_, fun h => ⟨by simp (disch := omega) only [tu_same, tu_eq, tu_ne], c2, show q < n by omega⟩, fun h => ?_, fun h => ?_⟩, fun a y h => ?_, fun _ _ _ => rfl⟩
              · simp (disch := first | omega | (simp (disch := omega) only [n_ti, Int32.reduceToInt] <;> omega)) only [g2, s55, e_60_66, t2, s56, e_60_116, s58, e_60_243, e_60_482, e_60_488, e_60_491, n_add, nl_add, nr_add, n_mul, nl_mul, nr_mul, n_sub, nr_dec, n_div, nr_sub_1, nr_sub_2, nr_sub_3, nr_sub_4, nr_sub_7, nr_sub_10, nr_sub_11, nr_sub_20, nr_sub_48, nr_sub_97, nl_sub_3, nl_sub_4, nl_sub_12, nl_sub_24, nl_sub_32, nr_div_2, nr_div_4, z_lt, z_le, z_eq, z_cl, n_ti, Int.toNat_natCast, Int32.reduceToInt, Int32.reduceToNatClampNeg, zc_add, zc_sub, zc_add_1, zc_add_2, zc_add_3, zc_add_4, zc_add_8, zc_add_10, zc_add_12, zc_add_16, zc_add_20, zc_sub_1, zc_sub_2, zc_sub_4, zc_sub_10, zc_sub_20, zc_sub_48, zc_sub_97, zc_mul_4, t_ltZ, f_ltZ, t_leZ, f_leZ, t_eqZ, f_eqZ, t_ltN, f_ltN, t_leN, f_leN, t_eqN, f_eqN, ↓reduceIte, and_true, true_and, and_false, false_and, and_self, or_true, true_or, or_false, false_or, or_self, not_true_eq_false, not_false_eq_true, tu_same, tu_eq, tu_ne, b_V, b_I, b_J]
              all_goals first | (simp [tK] at h; done) | skip
              · simp (disch := omega) only [tu_same, tu_eq, tu_ne]
                exact fB a y (by omega)
            · rw [if_neg c2]
              refine ⟨tm_u (tm_u B1 131 7 (nI (q + 1))) 131 8 1, J, ?_, ⟨by simp (disch := omega) only [g2, tu_same, tu_eq, tu_ne], fun h => absurd rfl h, fun h => ?_, fun h => ?_, fun h => ?_, fun h => ?_, fun h => ?_, fun h => ?_, fun h => ?_, fun h => by simp (disch := omega) only [tu_same, tu_eq, tu_ne]⟩, fun a y h => ?_, fun _ _ _ => rfl⟩
              · simp (disch := first | omega | (simp (disch := omega) only [n_ti, Int32.reduceToInt] <;> omega)) only [g2, s55, e_60_66, t2, s56, e_60_116, s58, e_60_243, e_60_488, e_60_491, n_add, nl_add, nr_add, n_mul, nl_mul, nr_mul, n_sub, nr_dec, n_div, nr_sub_1, nr_sub_2, nr_sub_3, nr_sub_4, nr_sub_7, nr_sub_10, nr_sub_11, nr_sub_20, nr_sub_48, nr_sub_97, nl_sub_3, nl_sub_4, nl_sub_12, nl_sub_24, nl_sub_32, nr_div_2, nr_div_4, z_lt, z_le, z_eq, z_cl, n_ti, Int.toNat_natCast, Int32.reduceToInt, Int32.reduceToNatClampNeg, zc_add, zc_sub, zc_add_1, zc_add_2, zc_add_3, zc_add_4, zc_add_8, zc_add_10, zc_add_12, zc_add_16, zc_add_20, zc_sub_1, zc_sub_2, zc_sub_4, zc_sub_10, zc_sub_20, zc_sub_48, zc_sub_97, zc_mul_4, t_ltZ, f_ltZ, t_leZ, f_leZ, t_eqZ, f_eqZ, t_ltN, f_ltN, t_leN, f_leN, t_eqN, f_eqN, ↓reduceIte, and_true, true_and, and_false, false_and, and_self, or_true, true_or, or_false, false_or, or_self, not_true_eq_false, not_false_eq_true, tu_same, tu_eq, tu_ne, b_V, b_I, b_J]
              all_goals first | (simp [tK] at h; done) | skip
              · simp (disch := omega) only [tu_same, tu_eq, tu_ne]
                exact fB a y (by omega)
