/-! reading: what the model's reader offers -/
def MoS (s : Nat → Int) (n : Nat) (B : Nat → Nat → Int32) (J : Nat → Nat → Int64) (t : TK) : Prop := TxB B s n ∧ MoT s n B J t ∧ TokOk s n t ∧ B 131 4 = 0 ∧ B 131 5 = -1
def BadB (B : Nat → Nat → Int32) (f : Nat × Nat) : Prop := B 131 4 = nI f.1 ∧ B 131 5 = nI f.2 ∧ 1 ≤ f.1 ∧ f.1 ≤ 5 ∧ ∃ q, q ≤ 1400 ∧ B 131 6 = nI q
def moF (B B' : Nat → Nat → Int32) (J J' : Nat → Nat → Int64) : Prop := (∀ a y, ¬ (a = 131 ∧ 4 ≤ y ∧ y ≤ 9) → B' a y = B a y) ∧ (∀ a y, ¬ (a = 131 ∧ y = 10) → J' a y = J a y)
theorem MoS.tr {s : Nat → Int} {n : Nat} {B B' : Nat → Nat → Int32} {J J' : Nat → Nat → Int64} {t : TK} (h : MoS s n B J t) (f : ∀ a k, a = 133 ∨ (a = 131 ∧ 3 ≤ k ∧ k ≤ 9) → B' a k = B a k) (g : J' 131 10 = J 131 10) : MoS s n B' J' t := ⟨h.1.tr (fun a k u => f a k (by omega)), h.2.1.tr (fun k u v => f 131 k (by omega)) g, h.2.2.1, (f 131 4 (by omega)).trans h.2.2.2.1, (f 131 5 (by omega)).trans h.2.2.2.2⟩
theorem m_next {τ : tm_Tu} {s : Nat → Int} {n : Nat} {B : Nat → Nat → Int32} {J : Nat → Nat → Int64} {t : TK} (h : MoS s n B J t) (hk : tK t ≠ 36) : ∃ B' J', F_60 [.ref 131] (mk B J τ) = some (none, mk B' J' τ) ∧ MoS s n B' J' (nx s n t) ∧ (∀ a y, ¬ (a = 131 ∧ 6 ≤ y ∧ y ≤ 9) → B' a y = B a y) ∧ (∀ a y, ¬ (a = 131 ∧ y = 10) → J' a y = J a y) := by
  obtain ⟨h1, h2, h3, h4⟩ := h
  have he := h3.2.1 hk
  obtain ⟨B', J', g1, g2, g3, g4⟩ := s_60 (τ := τ) (J := J) h1 he (h2.2.1 hk)
  exact ⟨B', J', g1, ⟨h1.tr (fun a k u => g3 a k (by omega)), g2, (tok_ok he).1, (g3 131 4 (by omega)).trans h4.1, (g3 131 5 (by omega)).trans h4.2⟩, g3, g4⟩
theorem m_gd {τ : tm_Tu} {B : Nat → Nat → Int32} {J : Nat → Nat → Int64} (h' : B 131 4 = 0 ∧ B 131 5 = -1) : F_61 [.ref 131] (mk B J τ) = some (some (.int 1), mk B J τ) := by
  have h := h'.1
  rw [e_61]
  simp (disch := first | omega | (simp (disch := omega) only [n_ti, Int32.reduceToInt] <;> omega)) only [h, e_61_12, n_add, nl_add, nr_add, n_mul, nl_mul, nr_mul, n_sub, nr_dec, n_div, nr_sub_1, nr_sub_2, nr_sub_3, nr_sub_4, nr_sub_7, nr_sub_10, nr_sub_11, nr_sub_20, nr_sub_48, nr_sub_97, nl_sub_3, nl_sub_4, nl_sub_12, nl_sub_24, nl_sub_32, nr_div_2, nr_div_4, z_lt, z_le, z_eq, z_cl, n_ti, Int.toNat_natCast, Int32.reduceToInt, Int32.reduceToNatClampNeg, zc_add, zc_sub, zc_add_1, zc_add_2, zc_add_3, zc_add_4, zc_add_8, zc_add_10, zc_add_12, zc_add_16, zc_add_20, zc_sub_1, zc_sub_2, zc_sub_4, zc_sub_10, zc_sub_20, zc_sub_48, zc_sub_97, zc_mul_4, t_ltZ, f_ltZ, t_leZ, f_leZ, t_eqZ, f_eqZ, t_ltN, f_ltN, t_leN, f_leN, t_eqN, f_eqN, ↓reduceIte, and_true, true_and, and_false, false_and, and_self, or_true, true_or, or_false, false_or, or_self, not_true_eq_false, not_false_eq_true, tu_same, tu_eq, tu_ne, b_V, b_I, b_J]
theorem m_bd {τ : tm_Tu} {B : Nat → Nat → Int32} {J : Nat → Nat → Int64} {f : Nat × Nat} (h : BadB B f) : F_61 [.ref 131] (mk B J τ) = some (some (.int 0), mk B J τ) := by
  obtain ⟨h1, h2, h3, h4, -⟩ := h
  rw [e_61]
  simp (disch := first | omega | (simp (disch := omega) only [n_ti, Int32.reduceToInt] <;> omega)) only [h1, e_61_12, n_add, nl_add, nr_add, n_mul, nl_mul, nr_mul, n_sub, nr_dec, n_div, nr_sub_1, nr_sub_2, nr_sub_3, nr_sub_4, nr_sub_7, nr_sub_10, nr_sub_11, nr_sub_20, nr_sub_48, nr_sub_97, nl_sub_3, nl_sub_4, nl_sub_12, nl_sub_24, nl_sub_32, nr_div_2, nr_div_4, z_lt, z_le, z_eq, z_cl, n_ti, Int.toNat_natCast, Int32.reduceToInt, Int32.reduceToNatClampNeg, zc_add, zc_sub, zc_add_1, zc_add_2, zc_add_3, zc_add_4, zc_add_8, zc_add_10, zc_add_12, zc_add_16, zc_add_20, zc_sub_1, zc_sub_2, zc_sub_4, zc_sub_10, zc_sub_20, zc_sub_48, zc_sub_97, zc_mul_4, t_ltZ, f_ltZ, t_leZ, f_leZ, t_eqZ, f_eqZ, t_ltN, f_ltN, t_leN, f_leN, t_eqN, f_eqN, ↓reduceIte, and_true, true_and, and_false, false_and, and_self, or_true, true_or, or_false, false_or, or_self, not_true_eq_false, not_false_eq_true, tu_same, tu_eq, tu_ne, b_V, b_I, b_J]
theorem m_fail {τ : tm_Tu} {B : Nat → Nat → Int32} {J : Nat → Nat → Int64} {x y : Int32} (h' : B 131 4 = 0 ∧ B 131 5 = -1) : F_63 [.ref 131, .int x, .int y] (mk B J τ) = some (none, mk (tm_u (tm_u B 131 4 x) 131 5 y) J τ) := by
  have h := h'.1
  rw [e_63]
  simp (disch := first | omega | (simp (disch := omega) only [n_ti, Int32.reduceToInt] <;> omega)) only [h, n_add, nl_add, nr_add, n_mul, nl_mul, nr_mul, n_sub, nr_dec, n_div, nr_sub_1, nr_sub_2, nr_sub_3, nr_sub_4, nr_sub_7, nr_sub_10, nr_sub_11, nr_sub_20, nr_sub_48, nr_sub_97, nl_sub_3, nl_sub_4, nl_sub_12, nl_sub_24, nl_sub_32, nr_div_2, nr_div_4, z_lt, z_le, z_eq, z_cl, n_ti, Int.toNat_natCast, Int32.reduceToInt, Int32.reduceToNatClampNeg, zc_add, zc_sub, zc_add_1, zc_add_2, zc_add_3, zc_add_4, zc_add_8, zc_add_10, zc_add_12, zc_add_16, zc_add_20, zc_sub_1, zc_sub_2, zc_sub_4, zc_sub_10, zc_sub_20, zc_sub_48, zc_sub_97, zc_mul_4, t_ltZ, f_ltZ, t_leZ, f_leZ, t_eqZ, f_eqZ, t_ltN, f_ltN, t_leN, f_leN, t_eqN, f_eqN, ↓reduceIte, and_true, true_and, and_false, false_and, and_self, or_true, true_or, or_false, false_or, or_self, not_true_eq_false, not_false_eq_true, tu_same, tu_eq, tu_ne, b_V, b_I, b_J]
theorem flt_b (t : TK) (why : Nat) (h1 : 1 ≤ why) (h2 : why ≤ 5) : 1 ≤ (flt t why).1 ∧ (flt t why).1 ≤ 5 := by
  show 1 ≤ (if tK t = 36 then 1 else why) ∧ (if tK t = 36 then 1 else why) ≤ 5
  by_cases c : tK t = 36
  · rw [if_pos c]; omega
  · rw [if_neg c]; omega
theorem MoS.p {s : Nat → Int} {n : Nat} {B : Nat → Nat → Int32} {J : Nat → Nat → Int64} {t : TK} (h : MoS s n B J t) : ∃ q, q ≤ 1400 ∧ B 131 6 = nI q := ⟨tQ t, by have := h.2.2.1.1; have := h.1.1; omega, h.2.1.1⟩
theorem BadB.of {s : Nat → Int} {n : Nat} {B : Nat → Nat → Int32} {J : Nat → Nat → Int64} {t : TK} (h : MoS s n B J t) (why : Nat) (h1 : 1 ≤ why) (h2 : why ≤ 5) : BadB (tm_u (tm_u B 131 4 (nI (flt t why).1)) 131 5 (nI (flt t why).2)) (flt t why) := ⟨by simp (disch := omega) only [tu_same, tu_eq, tu_ne], by simp (disch := omega) only [tu_same, tu_eq, tu_ne], (flt_b t why h1 h2).1, (flt_b t why h1 h2).2, by obtain ⟨q, q1, q2⟩ := h.p; exact ⟨q, q1, by simp (disch := omega) only [q2, tu_same, tu_eq, tu_ne]⟩⟩
theorem m_wrong {τ : tm_Tu} {s : Nat → Int} {n : Nat} {B : Nat → Nat → Int32} {J : Nat → Nat → Int64} {t : TK} (h : MoS s n B J t) : F_64 [.ref 131] (mk B J τ) = some (none, mk (tm_u (tm_u B 131 4 (nI (flt t 2).1)) 131 5 (nI (flt t 2).2)) J τ) := by
  obtain ⟨h1, ⟨a1, a2, a3, a4, a5, a6, a7, a8, a9, a10⟩, h3, h4⟩ := h
  have hK := h3.2.2.2.1
  unfold flt
  rw [e_64]
  by_cases c : tK t = 36
  · rw [if_pos c]
    have b8 := a10 c
    simp (disch := first | omega | (simp (disch := omega) only [n_ti, Int32.reduceToInt] <;> omega)) only [b8, e_64_14, a1, m_fail h4, e_64_21, n_add, nl_add, nr_add, n_mul, nl_mul, nr_mul, n_sub, nr_dec, n_div, nr_sub_1, nr_sub_2, nr_sub_3, nr_sub_4, nr_sub_7, nr_sub_10, nr_sub_11, nr_sub_20, nr_sub_48, nr_sub_97, nl_sub_3, nl_sub_4, nl_sub_12, nl_sub_24, nl_sub_32, nr_div_2, nr_div_4, z_lt, z_le, z_eq, z_cl, n_ti, Int.toNat_natCast, Int32.reduceToInt, Int32.reduceToNatClampNeg, zc_add, zc_sub, zc_add_1, zc_add_2, zc_add_3, zc_add_4, zc_add_8, zc_add_10, zc_add_12, zc_add_16, zc_add_20, zc_sub_1, zc_sub_2, zc_sub_4, zc_sub_10, zc_sub_20, zc_sub_48, zc_sub_97, zc_mul_4, t_ltZ, f_ltZ, t_leZ, f_leZ, t_eqZ, f_eqZ, t_ltN, f_ltN, t_leN, f_leN, t_eqN, f_eqN, ↓reduceIte, and_true, true_and, and_false, false_and, and_self, or_true, true_or, or_false, false_or, or_self, not_true_eq_false, not_false_eq_true, tu_same, tu_eq, tu_ne, b_V, b_I, b_J]
    rfl
  · rw [if_neg c]
    have b8 : ¬ (B 131 8).toInt = 1 := by
      by_cases d1 : tK t < 23
      · rw [(a3 d1).1]; decide
      · by_cases d2 : tK t = 30
        · rw [(a4 d2).1]; decide
        · by_cases d3 : tK t = 31
          · rw [(a5 d3).1]; decide
          · by_cases d4 : tK t = 32
            · rw [a6 d4]; decide
            · by_cases d5 : tK t = 33
              · rw [(a7 d5).1]; decide
              · by_cases d6 : tK t = 34
                · rw [(a8 d6).1]; decide
                · rw [a9 (by omega)]; decide
    simp (disch := first | omega | (simp (disch := omega) only [n_ti, Int32.reduceToInt] <;> omega)) only [b8, e_64_14, a1, m_fail h4, e_64_21, n_add, nl_add, nr_add, n_mul, nl_mul, nr_mul, n_sub, nr_dec, n_div, nr_sub_1, nr_sub_2, nr_sub_3, nr_sub_4, nr_sub_7, nr_sub_10, nr_sub_11, nr_sub_20, nr_sub_48, nr_sub_97, nl_sub_3, nl_sub_4, nl_sub_12, nl_sub_24, nl_sub_32, nr_div_2, nr_div_4, z_lt, z_le, z_eq, z_cl, n_ti, Int.toNat_natCast, Int32.reduceToInt, Int32.reduceToNatClampNeg, zc_add, zc_sub, zc_add_1, zc_add_2, zc_add_3, zc_add_4, zc_add_8, zc_add_10, zc_add_12, zc_add_16, zc_add_20, zc_sub_1, zc_sub_2, zc_sub_4, zc_sub_10, zc_sub_20, zc_sub_48, zc_sub_97, zc_mul_4, t_ltZ, f_ltZ, t_leZ, f_leZ, t_eqZ, f_eqZ, t_ltN, f_ltN, t_leN, f_leN, t_eqN, f_eqN, ↓reduceIte, and_true, true_and, and_false, false_and, and_self, or_true, true_or, or_false, false_or, or_self, not_true_eq_false, not_false_eq_true, tu_same, tu_eq, tu_ne, b_V, b_I, b_J]
    rfl
theorem wrd_i : ∀ a b : Fin 23, wrd a.val = wrd b.val → a.val = b.val := by decide +kernel
theorem tok_8 {s : Nat → Int} {n : Nat} {B : Nat → Nat → Int32} {J : Nat → Nat → Int64} {t : TK} (h : MoS s n B J t) (hk : ¬ tK t < 23) : ¬ (B 131 8).toInt = 3 := by
  obtain ⟨h1, ⟨a1, a2, a3, a4, a5, a6, a7, a8, a9, a10⟩, h3, h4⟩ := h
  have hK := h3.2.2.2.1
  by_cases d2 : tK t = 30
  · rw [(a4 d2).1]; decide
  · by_cases d3 : tK t = 31
    · rw [(a5 d3).1]; decide
    · by_cases d4 : tK t = 32
      · rw [a6 d4]; decide
      · by_cases d5 : tK t = 33
        · rw [(a7 d5).1]; decide
        · by_cases d6 : tK t = 34
          · rw [(a8 d6).1]; decide
          · by_cases d7 : tK t = 35
            · rw [a9 d7]; decide
            · rw [a10 (by omega)]; decide
theorem m_isW {τ : tm_Tu} {s : Nat → Int} {n w : Nat} {B : Nat → Nat → Int32} {J : Nat → Nat → Int64} {t : TK} (h : MoS s n B J t) (hw : w < 23) : F_62 [.ref 131, .long (lN (en256 (wrd w)))] (mk B J τ) = some (some (.int (b2 (decide (tK t = w)))), mk B J τ) := by
  rw [e_62]
  by_cases c : tK t < 23
  · obtain ⟨b8, b10⟩ := h.2.1.2.2.1 c
    obtain ⟨u1, u2⟩ := wrd_okL c
    obtain ⟨v1, v2⟩ := wrd_okL hw
    by_cases d : tK t = w
    · have z : (lg_cmp (lN (en256 (wrd (tK t)))) (lN (en256 (wrd w)))).toInt = 0 := by rw [lgz, d]
      have e : b2 (decide (tK t = w)) = 1 := by simp [d, b2]
      rw [e]
      simp (disch := first | omega | (simp (disch := omega) only [n_ti, Int32.reduceToInt] <;> omega)) only [b8, b10, z, e_62_22, n_add, nl_add, nr_add, n_mul, nl_mul, nr_mul, n_sub, nr_dec, n_div, nr_sub_1, nr_sub_2, nr_sub_3, nr_sub_4, nr_sub_7, nr_sub_10, nr_sub_11, nr_sub_20, nr_sub_48, nr_sub_97, nl_sub_3, nl_sub_4, nl_sub_12, nl_sub_24, nl_sub_32, nr_div_2, nr_div_4, z_lt, z_le, z_eq, z_cl, n_ti, Int.toNat_natCast, Int32.reduceToInt, Int32.reduceToNatClampNeg, zc_add, zc_sub, zc_add_1, zc_add_2, zc_add_3, zc_add_4, zc_add_8, zc_add_10, zc_add_12, zc_add_16, zc_add_20, zc_sub_1, zc_sub_2, zc_sub_4, zc_sub_10, zc_sub_20, zc_sub_48, zc_sub_97, zc_mul_4, t_ltZ, f_ltZ, t_leZ, f_leZ, t_eqZ, f_eqZ, t_ltN, f_ltN, t_leN, f_leN, t_eqN, f_eqN, ↓reduceIte, and_true, true_and, and_false, false_and, and_self, or_true, true_or, or_false, false_or, or_self, not_true_eq_false, not_false_eq_true, tu_same, tu_eq, tu_ne, b_V, b_I, b_J]
    · have z : ¬ (lg_cmp (lN (en256 (wrd (tK t)))) (lN (en256 (wrd w)))).toInt = 0 := fun e => by
        rw [lgz, nm_256 u1 v1 u2 v2] at e
        exact d (wrd_i ⟨_, c⟩ ⟨_, hw⟩ e)
      have e : b2 (decide (tK t = w)) = 0 := by simp [d, b2]
      rw [e]
      simp (disch := first | omega | (simp (disch := omega) only [n_ti, Int32.reduceToInt] <;> omega)) only [b8, b10, z, e_62_21, e_62_22, n_add, nl_add, nr_add, n_mul, nl_mul, nr_mul, n_sub, nr_dec, n_div, nr_sub_1, nr_sub_2, nr_sub_3, nr_sub_4, nr_sub_7, nr_sub_10, nr_sub_11, nr_sub_20, nr_sub_48, nr_sub_97, nl_sub_3, nl_sub_4, nl_sub_12, nl_sub_24, nl_sub_32, nr_div_2, nr_div_4, z_lt, z_le, z_eq, z_cl, n_ti, Int.toNat_natCast, Int32.reduceToInt, Int32.reduceToNatClampNeg, zc_add, zc_sub, zc_add_1, zc_add_2, zc_add_3, zc_add_4, zc_add_8, zc_add_10, zc_add_12, zc_add_16, zc_add_20, zc_sub_1, zc_sub_2, zc_sub_4, zc_sub_10, zc_sub_20, zc_sub_48, zc_sub_97, zc_mul_4, t_ltZ, f_ltZ, t_leZ, f_leZ, t_eqZ, f_eqZ, t_ltN, f_ltN, t_leN, f_leN, t_eqN, f_eqN, ↓reduceIte, and_true, true_and, and_false, false_and, and_self, or_true, true_or, or_false, false_or, or_self, not_true_eq_false, not_false_eq_true, tu_same, tu_eq, tu_ne, b_V, b_I, b_J]
  · have b8 := tok_8 h c
    have e : b2 (decide (tK t = w)) = 0 := by
      have : ¬ tK t = w := by omega
      simp [this, b2]
    rw [e]
    simp (disch := first | omega | (simp (disch := omega) only [n_ti, Int32.reduceToInt] <;> omega)) only [b8, e_62_21, e_62_22, n_add, nl_add, nr_add, n_mul, nl_mul, nr_mul, n_sub, nr_dec, n_div, nr_sub_1, nr_sub_2, nr_sub_3, nr_sub_4, nr_sub_7, nr_sub_10, nr_sub_11, nr_sub_20, nr_sub_48, nr_sub_97, nl_sub_3, nl_sub_4, nl_sub_12, nl_sub_24, nl_sub_32, nr_div_2, nr_div_4, z_lt, z_le, z_eq, z_cl, n_ti, Int.toNat_natCast, Int32.reduceToInt, Int32.reduceToNatClampNeg, zc_add, zc_sub, zc_add_1, zc_add_2, zc_add_3, zc_add_4, zc_add_8, zc_add_10, zc_add_12, zc_add_16, zc_add_20, zc_sub_1, zc_sub_2, zc_sub_4, zc_sub_10, zc_sub_20, zc_sub_48, zc_sub_97, zc_mul_4, t_ltZ, f_ltZ, t_leZ, f_leZ, t_eqZ, f_eqZ, t_ltN, f_ltN, t_leN, f_leN, t_eqN, f_eqN, ↓reduceIte, and_true, true_and, and_false, false_and, and_self, or_true, true_or, or_false, false_or, or_self, not_true_eq_false, not_false_eq_true, tu_same, tu_eq, tu_ne, b_V, b_I, b_J]
theorem m_is {τ : tm_Tu} {s : Nat → Int} {n c : Nat} {B : Nat → Nat → Int32} {J : Nat → Nat → Int64} {t : TK} (h : MoS s n B J t) (hc : c = 58 ∨ c = 59) : F_68 [.ref 131, .int (nI c)] (mk B J τ) = some (some (.int (b2 (decide (tK t = c - 25)))), mk B J τ) := by
  obtain ⟨h1, ⟨a1, a2, a3, a4, a5, a6, a7, a8, a9, a10⟩, h3, h4⟩ := id h
  have hK := h3.2.2.2.1
  rw [e_68]
  by_cases d5 : tK t = 33 ∨ tK t = 34
  · have hx : B 131 8 = 6 ∧ s (tQ t) = (tK t + 25 : Nat) ∧ tQ t < n := by
      rcases d5 with d | d
      · rw [d]; exact a7 d
      · rw [d]; exact a8 d
    obtain ⟨x1, x2, x3⟩ := hx
    have s55 := s_55 (J := J) (τ := τ) h1 x3
    have hu : ubt (s (tQ t)) = tK t + 25 := by rw [x2]; unfold ubt; omega
    rw [hu] at s55
    by_cases d : tK t = c - 25
    · have e : b2 (decide (tK t = c - 25)) = 1 := by simp [d, b2]
      rw [e]
      simp (disch := first | omega | (simp (disch := omega) only [n_ti, Int32.reduceToInt] <;> omega)) only [x1, a1, s55, e_68_17, e_68_26, n_add, nl_add, nr_add, n_mul, nl_mul, nr_mul, n_sub, nr_dec, n_div, nr_sub_1, nr_sub_2, nr_sub_3, nr_sub_4, nr_sub_7, nr_sub_10, nr_sub_11, nr_sub_20, nr_sub_48, nr_sub_97, nl_sub_3, nl_sub_4, nl_sub_12, nl_sub_24, nl_sub_32, nr_div_2, nr_div_4, z_lt, z_le, z_eq, z_cl, n_ti, Int.toNat_natCast, Int32.reduceToInt, Int32.reduceToNatClampNeg, zc_add, zc_sub, zc_add_1, zc_add_2, zc_add_3, zc_add_4, zc_add_8, zc_add_10, zc_add_12, zc_add_16, zc_add_20, zc_sub_1, zc_sub_2, zc_sub_4, zc_sub_10, zc_sub_20, zc_sub_48, zc_sub_97, zc_mul_4, t_ltZ, f_ltZ, t_leZ, f_leZ, t_eqZ, f_eqZ, t_ltN, f_ltN, t_leN, f_leN, t_eqN, f_eqN, ↓reduceIte, and_true, true_and, and_false, false_and, and_self, or_true, true_or, or_false, false_or, or_self, not_true_eq_false, not_false_eq_true, tu_same, tu_eq, tu_ne, b_V, b_I, b_J]
    · have e : b2 (decide (tK t = c - 25)) = 0 := by simp [d, b2]
      rw [e]
      simp (disch := first | omega | (simp (disch := omega) only [n_ti, Int32.reduceToInt] <;> omega)) only [x1, a1, s55, e_68_17, e_68_25, e_68_26, n_add, nl_add, nr_add, n_mul, nl_mul, nr_mul, n_sub, nr_dec, n_div, nr_sub_1, nr_sub_2, nr_sub_3, nr_sub_4, nr_sub_7, nr_sub_10, nr_sub_11, nr_sub_20, nr_sub_48, nr_sub_97, nl_sub_3, nl_sub_4, nl_sub_12, nl_sub_24, nl_sub_32, nr_div_2, nr_div_4, z_lt, z_le, z_eq, z_cl, n_ti, Int.toNat_natCast, Int32.reduceToInt, Int32.reduceToNatClampNeg, zc_add, zc_sub, zc_add_1, zc_add_2, zc_add_3, zc_add_4, zc_add_8, zc_add_10, zc_add_12, zc_add_16, zc_add_20, zc_sub_1, zc_sub_2, zc_sub_4, zc_sub_10, zc_sub_20, zc_sub_48, zc_sub_97, zc_mul_4, t_ltZ, f_ltZ, t_leZ, f_leZ, t_eqZ, f_eqZ, t_ltN, f_ltN, t_leN, f_leN, t_eqN, f_eqN, ↓reduceIte, and_true, true_and, and_false, false_and, and_self, or_true, true_or, or_false, false_or, or_self, not_true_eq_false, not_false_eq_true, tu_same, tu_eq, tu_ne, b_V, b_I, b_J]
  · have b8 : ¬ (B 131 8).toInt = 6 := by
      by_cases d1 : tK t < 23
      · rw [(a3 d1).1]; decide
      · by_cases d2 : tK t = 30
        · rw [(a4 d2).1]; decide
        · by_cases d3 : tK t = 31
          · rw [(a5 d3).1]; decide
          · by_cases d4 : tK t = 32
            · rw [a6 d4]; decide
            · by_cases d7 : tK t = 35
              · rw [a9 d7]; decide
              · rw [a10 (by omega)]; decide
    have e : b2 (decide (tK t = c - 25)) = 0 := by
      have : ¬ tK t = c - 25 := by omega
      simp [this, b2]
    rw [e]
    simp (disch := first | omega | (simp (disch := omega) only [n_ti, Int32.reduceToInt] <;> omega)) only [b8, e_68_25, e_68_26, n_add, nl_add, nr_add, n_mul, nl_mul, nr_mul, n_sub, nr_dec, n_div, nr_sub_1, nr_sub_2, nr_sub_3, nr_sub_4, nr_sub_7, nr_sub_10, nr_sub_11, nr_sub_20, nr_sub_48, nr_sub_97, nl_sub_3, nl_sub_4, nl_sub_12, nl_sub_24, nl_sub_32, nr_div_2, nr_div_4, z_lt, z_le, z_eq, z_cl, n_ti, Int.toNat_natCast, Int32.reduceToInt, Int32.reduceToNatClampNeg, zc_add, zc_sub, zc_add_1, zc_add_2, zc_add_3, zc_add_4, zc_add_8, zc_add_10, zc_add_12, zc_add_16, zc_add_20, zc_sub_1, zc_sub_2, zc_sub_4, zc_sub_10, zc_sub_20, zc_sub_48, zc_sub_97, zc_mul_4, t_ltZ, f_ltZ, t_leZ, f_leZ, t_eqZ, f_eqZ, t_ltN, f_ltN, t_leN, f_leN, t_eqN, f_eqN, ↓reduceIte, and_true, true_and, and_false, false_and, and_self, or_true, true_or, or_false, false_or, or_self, not_true_eq_false, not_false_eq_true, tu_same, tu_eq, tu_ne, b_V, b_I, b_J]
theorem m_must0 {τ : tm_Tu} {B : Nat → Nat → Int32} {J : Nat → Nat → Int64} {f : Nat × Nat} {x : Int32} (h : BadB B f) : F_66 [.ref 131, .int x] (mk B J τ) = some (none, mk B J τ) := by
  rw [e_66, m_bd h]
  simp (disch := first | omega | (simp (disch := omega) only [n_ti, Int32.reduceToInt] <;> omega)) only [e_66_4, n_add, nl_add, nr_add, n_mul, nl_mul, nr_mul, n_sub, nr_dec, n_div, nr_sub_1, nr_sub_2, nr_sub_3, nr_sub_4, nr_sub_7, nr_sub_10, nr_sub_11, nr_sub_20, nr_sub_48, nr_sub_97, nl_sub_3, nl_sub_4, nl_sub_12, nl_sub_24, nl_sub_32, nr_div_2, nr_div_4, z_lt, z_le, z_eq, z_cl, n_ti, Int.toNat_natCast, Int32.reduceToInt, Int32.reduceToNatClampNeg, zc_add, zc_sub, zc_add_1, zc_add_2, zc_add_3, zc_add_4, zc_add_8, zc_add_10, zc_add_12, zc_add_16, zc_add_20, zc_sub_1, zc_sub_2, zc_sub_4, zc_sub_10, zc_sub_20, zc_sub_48, zc_sub_97, zc_mul_4, t_ltZ, f_ltZ, t_leZ, f_leZ, t_eqZ, f_eqZ, t_ltN, f_ltN, t_leN, f_leN, t_eqN, f_eqN, ↓reduceIte, and_true, true_and, and_false, false_and, and_self, or_true, true_or, or_false, false_or, or_self, not_true_eq_false, not_false_eq_true, tu_same, tu_eq, tu_ne, b_V, b_I, b_J]
theorem m_must1 {τ : tm_Tu} {s : Nat → Int} {n : Nat} {B : Nat → Nat → Int32} {J : Nat → Nat → Int64} {t : TK} (h : MoS s n B J t) (hk : tK t ≠ 36) : ∃ B' J', F_66 [.ref 131, .int 1] (mk B J τ) = some (none, mk B' J' τ) ∧ MoS s n B' J' (nx s n t) ∧ moF B B' J J' := by
  obtain ⟨B', J', g1, g2, g3, g4⟩ := m_next (τ := τ) h hk
  refine ⟨B', J', ?_, g2, fun a y u => g3 a y (by omega), g4⟩
  rw [e_66, m_gd h.2.2.2]
  simp (disch := first | omega | (simp (disch := omega) only [n_ti, Int32.reduceToInt] <;> omega)) only [e_66_4, g1, e_66_16, e_66_23, n_add, nl_add, nr_add, n_mul, nl_mul, nr_mul, n_sub, nr_dec, n_div, nr_sub_1, nr_sub_2, nr_sub_3, nr_sub_4, nr_sub_7, nr_sub_10, nr_sub_11, nr_sub_20, nr_sub_48, nr_sub_97, nl_sub_3, nl_sub_4, nl_sub_12, nl_sub_24, nl_sub_32, nr_div_2, nr_div_4, z_lt, z_le, z_eq, z_cl, n_ti, Int.toNat_natCast, Int32.reduceToInt, Int32.reduceToNatClampNeg, zc_add, zc_sub, zc_add_1, zc_add_2, zc_add_3, zc_add_4, zc_add_8, zc_add_10, zc_add_12, zc_add_16, zc_add_20, zc_sub_1, zc_sub_2, zc_sub_4, zc_sub_10, zc_sub_20, zc_sub_48, zc_sub_97, zc_mul_4, t_ltZ, f_ltZ, t_leZ, f_leZ, t_eqZ, f_eqZ, t_ltN, f_ltN, t_leN, f_leN, t_eqN, f_eqN, ↓reduceIte, and_true, true_and, and_false, false_and, and_self, or_true, true_or, or_false, false_or, or_self, not_true_eq_false, not_false_eq_true, tu_same, tu_eq, tu_ne, b_V, b_I, b_J]
theorem m_mustN {τ : tm_Tu} {s : Nat → Int} {n : Nat} {B : Nat → Nat → Int32} {J : Nat → Nat → Int64} {t : TK} (h : MoS s n B J t) : F_66 [.ref 131, .int 0] (mk B J τ) = some (none, mk (tm_u (tm_u B 131 4 (nI (flt t 2).1)) 131 5 (nI (flt t 2).2)) J τ) := by
  have w := m_wrong (τ := τ) h
  rw [e_66, m_gd h.2.2.2]
  simp (disch := first | omega | (simp (disch := omega) only [n_ti, Int32.reduceToInt] <;> omega)) only [e_66_4, w, e_66_23, n_add, nl_add, nr_add, n_mul, nl_mul, nr_mul, n_sub, nr_dec, n_div, nr_sub_1, nr_sub_2, nr_sub_3, nr_sub_4, nr_sub_7, nr_sub_10, nr_sub_11, nr_sub_20, nr_sub_48, nr_sub_97, nl_sub_3, nl_sub_4, nl_sub_12, nl_sub_24, nl_sub_32, nr_div_2, nr_div_4, z_lt, z_le, z_eq, z_cl, n_ti, Int.toNat_natCast, Int32.reduceToInt, Int32.reduceToNatClampNeg, zc_add, zc_sub, zc_add_1, zc_add_2, zc_add_3, zc_add_4, zc_add_8, zc_add_10, zc_add_12, zc_add_16, zc_add_20, zc_sub_1, zc_sub_2, zc_sub_4, zc_sub_10, zc_sub_20, zc_sub_48, zc_sub_97, zc_mul_4, t_ltZ, f_ltZ, t_leZ, f_leZ, t_eqZ, f_eqZ, t_ltN, f_ltN, t_leN, f_leN, t_eqN, f_eqN, ↓reduceIte, and_true, true_and, and_false, false_and, and_self, or_true, true_or, or_false, false_or, or_self, not_true_eq_false, not_false_eq_true, tu_same, tu_eq, tu_ne, b_V, b_I, b_J]
theorem m_num0 {τ : tm_Tu} {B : Nat → Nat → Int32} {J : Nat → Nat → Int64} {f : Nat × Nat} {x y : Int32} (h : BadB B f) : F_67 [.ref 131, .int x, .int y] (mk B J τ) = some (some (.int x), mk B J τ) := by
  rw [e_67, m_bd h]
  simp (disch := first | omega | (simp (disch := omega) only [n_ti, Int32.reduceToInt] <;> omega)) only [e_67_4, n_add, nl_add, nr_add, n_mul, nl_mul, nr_mul, n_sub, nr_dec, n_div, nr_sub_1, nr_sub_2, nr_sub_3, nr_sub_4, nr_sub_7, nr_sub_10, nr_sub_11, nr_sub_20, nr_sub_48, nr_sub_97, nl_sub_3, nl_sub_4, nl_sub_12, nl_sub_24, nl_sub_32, nr_div_2, nr_div_4, z_lt, z_le, z_eq, z_cl, n_ti, Int.toNat_natCast, Int32.reduceToInt, Int32.reduceToNatClampNeg, zc_add, zc_sub, zc_add_1, zc_add_2, zc_add_3, zc_add_4, zc_add_8, zc_add_10, zc_add_12, zc_add_16, zc_add_20, zc_sub_1, zc_sub_2, zc_sub_4, zc_sub_10, zc_sub_20, zc_sub_48, zc_sub_97, zc_mul_4, t_ltZ, f_ltZ, t_leZ, f_leZ, t_eqZ, f_eqZ, t_ltN, f_ltN, t_leN, f_leN, t_eqN, f_eqN, ↓reduceIte, and_true, true_and, and_false, false_and, and_self, or_true, true_or, or_false, false_or, or_self, not_true_eq_false, not_false_eq_true, tu_same, tu_eq, tu_ne, b_V, b_I, b_J]
theorem m_num {τ : tm_Tu} {s : Nat → Int} {n lo hi : Nat} {B : Nat → Nat → Int32} {J : Nat → Nat → Int64} {t : TK} (h : MoS s n B J t) (h1 : lo < 100000) (h2 : hi < 100000) : (∃ f, nf t lo hi = some f ∧ BadB (tm_u (tm_u B 131 4 (nI f.1)) 131 5 (nI f.2)) f ∧ F_67 [.ref 131, .int (nI lo), .int (nI hi)] (mk B J τ) = some (some (.int (nI lo)), mk (tm_u (tm_u B 131 4 (nI f.1)) 131 5 (nI f.2)) J τ)) ∨ (nf t lo hi = none ∧ ∃ B' J', F_67 [.ref 131, .int (nI lo), .int (nI hi)] (mk B J τ) = some (some (.int (nI (tV t))), mk B' J' τ) ∧ MoS s n B' J' (nx s n t) ∧ moF B B' J J') := by
  have hg := m_gd (τ := τ) (J := J) h.2.2.2
  have w := m_wrong (τ := τ) h
  have h4 := h.2.2.2
  obtain ⟨x1, ⟨a1, a2, a3, a4, a5, a6, a7, a8, a9, a10⟩, h3, -⟩ := id h
  have hK := h3.2.2.2.1
  by_cases c : tK t = 31
  · obtain ⟨b8, b9⟩ := a5 c
    have hv := h3.2.2.2.2.1 c
    by_cases d : tV t < lo ∨ hi < tV t
    · have e : nf t lo hi = some (flt t 4) := by unfold nf; rw [if_pos c, if_pos d]
      have e4 : (flt t 4) = (4, tQ t) := by unfold flt; rw [if_neg (by omega)]
      have bad := BadB.of h 4 (by omega) (by omega)
      have hbd := m_bd (τ := τ) (J := J) bad
      refine Or.inl ⟨_, e, bad, ?_⟩
      have fl : F_63 [.ref 131, .int 4, .int (nI (tQ t))] (mk B J τ) = some (none, mk (tm_u (tm_u B 131 4 (nI (flt t 4).1)) 131 5 (nI (flt t 4).2)) J τ) := by
        rw [m_fail h4, e4]
        rfl
      rw [e_67]
      by_cases d1 : tV t < lo
      · simp (disch := first | omega | (simp (disch := omega) only [n_ti, Int32.reduceToInt] <;> omega)) only [hg, e_67_4, b8, e_67_21, e_67_25, b9, e_67_44, a1, fl, e_67_53, hbd, e_67_62, e_67_69, e_67_73, e_67_81, n_add, nl_add, nr_add, n_mul, nl_mul, nr_mul, n_sub, nr_dec, n_div, nr_sub_1, nr_sub_2, nr_sub_3, nr_sub_4, nr_sub_7, nr_sub_10, nr_sub_11, nr_sub_20, nr_sub_48, nr_sub_97, nl_sub_3, nl_sub_4, nl_sub_12, nl_sub_24, nl_sub_32, nr_div_2, nr_div_4, z_lt, z_le, z_eq, z_cl, n_ti, Int.toNat_natCast, Int32.reduceToInt, Int32.reduceToNatClampNeg, zc_add, zc_sub, zc_add_1, zc_add_2, zc_add_3, zc_add_4, zc_add_8, zc_add_10, zc_add_12, zc_add_16, zc_add_20, zc_sub_1, zc_sub_2, zc_sub_4, zc_sub_10, zc_sub_20, zc_sub_48, zc_sub_97, zc_mul_4, t_ltZ, f_ltZ, t_leZ, f_leZ, t_eqZ, f_eqZ, t_ltN, f_ltN, t_leN, f_leN, t_eqN, f_eqN, ↓reduceIte, and_true, true_and, and_false, false_and, and_self, or_true, true_or, or_false, false_or, or_self, not_true_eq_false, not_false_eq_true, tu_same, tu_eq, tu_ne, b_V, b_I, b_J]
      · simp (disch := first | omega | (simp (disch := omega) only [n_ti, Int32.reduceToInt] <;> omega)) only [hg, e_67_4, b8, e_67_21, e_67_25, b9, e_67_44, a1, fl, e_67_53, hbd, e_67_62, e_67_69, e_67_73, e_67_81, n_add, nl_add, nr_add, n_mul, nl_mul, nr_mul, n_sub, nr_dec, n_div, nr_sub_1, nr_sub_2, nr_sub_3, nr_sub_4, nr_sub_7, nr_sub_10, nr_sub_11, nr_sub_20, nr_sub_48, nr_sub_97, nl_sub_3, nl_sub_4, nl_sub_12, nl_sub_24, nl_sub_32, nr_div_2, nr_div_4, z_lt, z_le, z_eq, z_cl, n_ti, Int.toNat_natCast, Int32.reduceToInt, Int32.reduceToNatClampNeg, zc_add, zc_sub, zc_add_1, zc_add_2, zc_add_3, zc_add_4, zc_add_8, zc_add_10, zc_add_12, zc_add_16, zc_add_20, zc_sub_1, zc_sub_2, zc_sub_4, zc_sub_10, zc_sub_20, zc_sub_48, zc_sub_97, zc_mul_4, t_ltZ, f_ltZ, t_leZ, f_leZ, t_eqZ, f_eqZ, t_ltN, f_ltN, t_leN, f_leN, t_eqN, f_eqN, ↓reduceIte, and_true, true_and, and_false, false_and, and_self, or_true, true_or, or_false, false_or, or_self, not_true_eq_false, not_false_eq_true, tu_same, tu_eq, tu_ne, b_V, b_I, b_J]
    · have e : nf t lo hi = none := by unfold nf; rw [if_pos c, if_neg d]
      obtain ⟨B', J', g1, g2, g3, g4⟩ := m_next (τ := τ) h (by omega)
      have hg' := m_gd (τ := τ) (J := J') g2.2.2.2
      refine Or.inr ⟨e, B', J', ?_, g2, fun a y u => g3 a y (by omega), g4⟩
      rw [e_67]
      simp (disch := first | omega | (simp (disch := omega) only [n_ti, Int32.reduceToInt] <;> omega)) only [hg, e_67_4, b8, e_67_21, e_67_25, b9, e_67_53, e_67_62, g1, e_67_69, hg', e_67_73, e_67_81, n_add, nl_add, nr_add, n_mul, nl_mul, nr_mul, n_sub, nr_dec, n_div, nr_sub_1, nr_sub_2, nr_sub_3, nr_sub_4, nr_sub_7, nr_sub_10, nr_sub_11, nr_sub_20, nr_sub_48, nr_sub_97, nl_sub_3, nl_sub_4, nl_sub_12, nl_sub_24, nl_sub_32, nr_div_2, nr_div_4, z_lt, z_le, z_eq, z_cl, n_ti, Int.toNat_natCast, Int32.reduceToInt, Int32.reduceToNatClampNeg, zc_add, zc_sub, zc_add_1, zc_add_2, zc_add_3, zc_add_4, zc_add_8, zc_add_10, zc_add_12, zc_add_16, zc_add_20, zc_sub_1, zc_sub_2, zc_sub_4, zc_sub_10, zc_sub_20, zc_sub_48, zc_sub_97, zc_mul_4, t_ltZ, f_ltZ, t_leZ, f_leZ, t_eqZ, f_eqZ, t_ltN, f_ltN, t_leN, f_leN, t_eqN, f_eqN, ↓reduceIte, and_true, true_and, and_false, false_and, and_self, or_true, true_or, or_false, false_or, or_self, not_true_eq_false, not_false_eq_true, tu_same, tu_eq, tu_ne, b_V, b_I, b_J]
  · have e : nf t lo hi = some (flt t 2) := by unfold nf; rw [if_neg c]
    have bad := BadB.of h 2 (by omega) (by omega)
    have hbd := m_bd (τ := τ) (J := J) bad
    have b8 : ¬ (B 131 8).toInt = 4 := by
      by_cases d1 : tK t < 23
      · rw [(a3 d1).1]; decide
      · by_cases d2 : tK t = 30
        · rw [(a4 d2).1]; decide
        · by_cases d4 : tK t = 32
          · rw [a6 d4]; decide
          · by_cases d5 : tK t = 33
            · rw [(a7 d5).1]; decide
            · by_cases d6 : tK t = 34
              · rw [(a8 d6).1]; decide
              · by_cases d7 : tK t = 35
                · rw [a9 d7]; decide
                · rw [a10 (by omega)]; decide
    refine Or.inl ⟨_, e, bad, ?_⟩
    rw [e_67]
    simp (disch := first | omega | (simp (disch := omega) only [n_ti, Int32.reduceToInt] <;> omega)) only [hg, e_67_4, b8, w, e_67_21, hbd, e_67_25, e_67_53, e_67_62, e_67_69, e_67_73, e_67_81, n_add, nl_add, nr_add, n_mul, nl_mul, nr_mul, n_sub, nr_dec, n_div, nr_sub_1, nr_sub_2, nr_sub_3, nr_sub_4, nr_sub_7, nr_sub_10, nr_sub_11, nr_sub_20, nr_sub_48, nr_sub_97, nl_sub_3, nl_sub_4, nl_sub_12, nl_sub_24, nl_sub_32, nr_div_2, nr_div_4, z_lt, z_le, z_eq, z_cl, n_ti, Int.toNat_natCast, Int32.reduceToInt, Int32.reduceToNatClampNeg, zc_add, zc_sub, zc_add_1, zc_add_2, zc_add_3, zc_add_4, zc_add_8, zc_add_10, zc_add_12, zc_add_16, zc_add_20, zc_sub_1, zc_sub_2, zc_sub_4, zc_sub_10, zc_sub_20, zc_sub_48, zc_sub_97, zc_mul_4, t_ltZ, f_ltZ, t_leZ, f_leZ, t_eqZ, f_eqZ, t_ltN, f_ltN, t_leN, f_leN, t_eqN, f_eqN, ↓reduceIte, and_true, true_and, and_false, false_and, and_self, or_true, true_or, or_false, false_or, or_self, not_true_eq_false, not_false_eq_true, tu_same, tu_eq, tu_ne, b_V, b_I, b_J]
theorem m_if0 {τ : tm_Tu} {B : Nat → Nat → Int32} {J : Nat → Nat → Int64} {f : Nat × Nat} {x : Int64} (h : BadB B f) : F_69 [.ref 131, .long x] (mk B J τ) = some (some (.int 0), mk B J τ) := by
  rw [e_69, m_bd h]
  simp (disch := first | omega | (simp (disch := omega) only [n_ti, Int32.reduceToInt] <;> omega)) only [e_69_4, e_69_15, n_add, nl_add, nr_add, n_mul, nl_mul, nr_mul, n_sub, nr_dec, n_div, nr_sub_1, nr_sub_2, nr_sub_3, nr_sub_4, nr_sub_7, nr_sub_10, nr_sub_11, nr_sub_20, nr_sub_48, nr_sub_97, nl_sub_3, nl_sub_4, nl_sub_12, nl_sub_24, nl_sub_32, nr_div_2, nr_div_4, z_lt, z_le, z_eq, z_cl, n_ti, Int.toNat_natCast, Int32.reduceToInt, Int32.reduceToNatClampNeg, zc_add, zc_sub, zc_add_1, zc_add_2, zc_add_3, zc_add_4, zc_add_8, zc_add_10, zc_add_12, zc_add_16, zc_add_20, zc_sub_1, zc_sub_2, zc_sub_4, zc_sub_10, zc_sub_20, zc_sub_48, zc_sub_97, zc_mul_4, t_ltZ, f_ltZ, t_leZ, f_leZ, t_eqZ, f_eqZ, t_ltN, f_ltN, t_leN, f_leN, t_eqN, f_eqN, ↓reduceIte, and_true, true_and, and_false, false_and, and_self, or_true, true_or, or_false, false_or, or_self, not_true_eq_false, not_false_eq_true, tu_same, tu_eq, tu_ne, b_V, b_I, b_J]
theorem m_if {τ : tm_Tu} {s : Nat → Int} {n w : Nat} {B : Nat → Nat → Int32} {J : Nat → Nat → Int64} {t : TK} (h : MoS s n B J t) (hw : w < 23) : (tK t = w ∧ ∃ B' J', F_69 [.ref 131, .long (lN (en256 (wrd w)))] (mk B J τ) = some (some (.int 1), mk B' J' τ) ∧ MoS s n B' J' (nx s n t) ∧ moF B B' J J') ∨ (tK t ≠ w ∧ F_69 [.ref 131, .long (lN (en256 (wrd w)))] (mk B J τ) = some (some (.int 0), mk B J τ)) := by
  have hg := m_gd (τ := τ) (J := J) h.2.2.2
  have iw := m_isW (τ := τ) h hw
  by_cases c : tK t = w
  · obtain ⟨B', J', g1, g2, g3, g4⟩ := m_next (τ := τ) h (by omega)
    have e : b2 (decide (tK t = w)) = 1 := by simp [c, b2]
    rw [e] at iw
    refine Or.inl ⟨c, B', J', ?_, g2, fun a y u => g3 a y (by omega), g4⟩
    rw [e_69]
    simp (disch := first | omega | (simp (disch := omega) only [n_ti, Int32.reduceToInt] <;> omega)) only [hg, e_69_4, iw, e_69_12, g1, e_69_21, n_add, nl_add, nr_add, n_mul, nl_mul, nr_mul, n_sub, nr_dec, n_div, nr_sub_1, nr_sub_2, nr_sub_3, nr_sub_4, nr_sub_7, nr_sub_10, nr_sub_11, nr_sub_20, nr_sub_48, nr_sub_97, nl_sub_3, nl_sub_4, nl_sub_12, nl_sub_24, nl_sub_32, nr_div_2, nr_div_4, z_lt, z_le, z_eq, z_cl, n_ti, Int.toNat_natCast, Int32.reduceToInt, Int32.reduceToNatClampNeg, zc_add, zc_sub, zc_add_1, zc_add_2, zc_add_3, zc_add_4, zc_add_8, zc_add_10, zc_add_12, zc_add_16, zc_add_20, zc_sub_1, zc_sub_2, zc_sub_4, zc_sub_10, zc_sub_20, zc_sub_48, zc_sub_97, zc_mul_4, t_ltZ, f_ltZ, t_leZ, f_leZ, t_eqZ, f_eqZ, t_ltN, f_ltN, t_leN, f_leN, t_eqN, f_eqN, ↓reduceIte, and_true, true_and, and_false, false_and, and_self, or_true, true_or, or_false, false_or, or_self, not_true_eq_false, not_false_eq_true, tu_same, tu_eq, tu_ne, b_V, b_I, b_J]
  · have e : b2 (decide (tK t = w)) = 0 := by simp [c, b2]
    rw [e] at iw
    refine Or.inr ⟨c, ?_⟩
    rw [e_69]
    simp (disch := first | omega | (simp (disch := omega) only [n_ti, Int32.reduceToInt] <;> omega)) only [hg, e_69_4, iw, e_69_12, e_69_15, n_add, nl_add, nr_add, n_mul, nl_mul, nr_mul, n_sub, nr_dec, n_div, nr_sub_1, nr_sub_2, nr_sub_3, nr_sub_4, nr_sub_7, nr_sub_10, nr_sub_11, nr_sub_20, nr_sub_48, nr_sub_97, nl_sub_3, nl_sub_4, nl_sub_12, nl_sub_24, nl_sub_32, nr_div_2, nr_div_4, z_lt, z_le, z_eq, z_cl, n_ti, Int.toNat_natCast, Int32.reduceToInt, Int32.reduceToNatClampNeg, zc_add, zc_sub, zc_add_1, zc_add_2, zc_add_3, zc_add_4, zc_add_8, zc_add_10, zc_add_12, zc_add_16, zc_add_20, zc_sub_1, zc_sub_2, zc_sub_4, zc_sub_10, zc_sub_20, zc_sub_48, zc_sub_97, zc_mul_4, t_ltZ, f_ltZ, t_leZ, f_leZ, t_eqZ, f_eqZ, t_ltN, f_ltN, t_leN, f_leN, t_eqN, f_eqN, ↓reduceIte, and_true, true_and, and_false, false_and, and_self, or_true, true_or, or_false, false_or, or_self, not_true_eq_false, not_false_eq_true, tu_same, tu_eq, tu_ne, b_V, b_I, b_J]
