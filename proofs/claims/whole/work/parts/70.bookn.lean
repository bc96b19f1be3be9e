/-! reading: the BOOK's loop (model) -/
theorem tok_80 {s : Nat → Int} {n : Nat} {B : Nat → Nat → Int32} {J : Nat → Nat → Int64} {t : TK} (h : MoS s n B J t) (hk : ¬ tK t = 35) : ¬ (B 131 8).toInt = 0 := by
  obtain ⟨h1, ⟨a1, a2, a3, a4, a5, a6, a7, a8, a9, a10⟩, h3, h4⟩ := h
  have hK := h3.2.2.2.1
  by_cases d2 : tK t < 23
  · rw [(a3 d2).1]; decide
  · by_cases d3 : tK t = 31
    · rw [(a5 d3).1]; decide
    · by_cases d4 : tK t = 32
      · rw [a6 d4]; decide
      · by_cases d5 : tK t = 33
        · rw [(a7 d5).1]; decide
        · by_cases d6 : tK t = 34
          · rw [(a8 d6).1]; decide
          · by_cases d7 : tK t = 30
            · rw [(a4 d7).1]; decide
            · rw [a10 (by omega)]; decide
theorem b_73 {τ : tm_Tu} {B : Nat → Nat → Int32} {J : Nat → Nat → Int64} {f : Nat × Nat} (h : BadB B f) : R_73 28 [(0, .ref 131)] [] (mk B J τ) = R_73 49 [(0, .ref 131)] [] (mk B J τ) := by
  have g := m_bd (τ := τ) (J := J) h
  rw [e_73_28]
  simp (disch := first | omega | (simp (disch := omega) only [n_ti, Int32.reduceToInt] <;> omega)) only [g, e_73_32, n_add, nl_add, nr_add, n_mul, nl_mul, nr_mul, n_sub, nr_dec, n_div, nr_sub_1, nr_sub_2, nr_sub_3, nr_sub_4, nr_sub_7, nr_sub_10, nr_sub_11, nr_sub_20, nr_sub_48, nr_sub_97, nl_sub_3, nl_sub_4, nl_sub_12, nl_sub_24, nl_sub_32, nr_div_2, nr_div_4, z_lt, z_le, z_eq, z_cl, n_ti, Int.toNat_natCast, Int32.reduceToInt, Int32.reduceToNatClampNeg, zc_add, zc_sub, zc_add_1, zc_add_2, zc_add_3, zc_add_4, zc_add_8, zc_add_10, zc_add_12, zc_add_16, zc_add_20, zc_sub_1, zc_sub_2, zc_sub_4, zc_sub_10, zc_sub_20, zc_sub_48, zc_sub_97, zc_mul_4, t_ltZ, f_ltZ, t_leZ, f_leZ, t_eqZ, f_eqZ, t_ltN, f_ltN, t_leN, f_leN, t_eqN, f_eqN, ↓reduceIte, and_true, true_and, and_false, false_and, and_self, or_true, true_or, or_false, false_or, or_self, not_true_eq_false, not_false_eq_true, tu_same, tu_eq, tu_ne, b_V, b_I, b_J]
def PoM (B B' : Nat → Nat → Int32) (J J' : Nat → Nat → Int64) (b : Nat) (r : Sum (Nat × Nat) (Nat × NmD)) : Prop := fK B B' b ∧ jK J J' b ∧ (match r with
    | .inl f => BadB B' f
    | .inr q => (B' 131 4 = 0 ∧ B' 131 5 = -1) ∧ q.1 ≤ 12 ∧ BkM B' J' b q.1 q.2)
set_option maxHeartbeats 2000000 in
theorem m_73l {τ : tm_Tu} {s : Nat → Int} {n b : Nat} (hb : b < 2) : ∀ f k (B : Nat → Nat → Int32) (J : Nat → Nat → Int64) (t : TK) (N : NmD), k + f = 12 → MoS s n B J t → BkM B J b k N → ∃ B' J', R_73 28 [(0, .ref 131)] [] (mk B J τ) = R_73 49 [(0, .ref 131)] [] (mk B' J' τ) ∧ PoM B B' J J' b (pBook s n f k N t) := by
  have fin : ∀ k (B : Nat → Nat → Int32) (J : Nat → Nat → Int64) (t : TK) (N : NmD), k ≤ 12 → (tK t ≠ 0 ∨ k = 12) → MoS s n B J t → BkM B J b k N → ∃ B' J', R_73 28 [(0, .ref 131)] [] (mk B J τ) = R_73 49 [(0, .ref 131)] [] (mk B' J' τ) ∧ PoM B B' J J' b (if tK t = 35 then .inr (k, N) else .inl (flt t 2)) := by
    intro k B J t N hk h0 h hN
    have hg := m_gd (τ := τ) (J := J) h.2.2.2
    by_cases c : tK t = 35
    · rw [if_pos c]
      have b8 := h.2.1.2.2.2.2.2.2.2.2.1 c
      refine ⟨B, J, ?_, fun _ _ _ _ => rfl, fun _ _ _ _ => rfl, h.2.2.2, hk, hN⟩
      rw [e_73_28]
      simp (disch := first | omega | (simp (disch := omega) only [n_ti, Int32.reduceToInt] <;> omega)) only [hg, e_73_32, b8, n_add, nl_add, nr_add, n_mul, nl_mul, nr_mul, n_sub, nr_dec, n_div, nr_sub_1, nr_sub_2, nr_sub_3, nr_sub_4, nr_sub_7, nr_sub_10, nr_sub_11, nr_sub_20, nr_sub_48, nr_sub_97, nl_sub_3, nl_sub_4, nl_sub_12, nl_sub_24, nl_sub_32, nr_div_2, nr_div_4, z_lt, z_le, z_eq, z_cl, n_ti, Int.toNat_natCast, Int32.reduceToInt, Int32.reduceToNatClampNeg, zc_add, zc_sub, zc_add_1, zc_add_2, zc_add_3, zc_add_4, zc_add_8, zc_add_10, zc_add_12, zc_add_16, zc_add_20, zc_sub_1, zc_sub_2, zc_sub_4, zc_sub_10, zc_sub_20, zc_sub_48, zc_sub_97, zc_mul_4, t_ltZ, f_ltZ, t_leZ, f_leZ, t_eqZ, f_eqZ, t_ltN, f_ltN, t_leN, f_leN, t_eqN, f_eqN, ↓reduceIte, and_true, true_and, and_false, false_and, and_self, or_true, true_or, or_false, false_or, or_self, not_true_eq_false, not_false_eq_true, tu_same, tu_eq, tu_ne, b_V, b_I, b_J]
    · rw [if_neg c]
      have b8 := tok_80 h c
      have wr := m_wrong (τ := τ) h
      have bad := BadB.of h 2 (by omega) (by omega)
      have gb := m_bd (τ := τ) (J := J) bad
      have fin := b_73 (τ := τ) (J := J) bad
      obtain ⟨h22, h135, -, -, -⟩ := hN
      have s72 : F_72 [.ref 131] (mk B J τ) = some (none, mk (tm_u (tm_u B 131 4 (nI (flt t 2).1)) 131 5 (nI (flt t 2).2)) J τ) := by
        rw [e_72]
        by_cases d : tK t = 0
        · have i0 : F_62 [.ref 131, .long 500135715691] (mk B J τ) = some (some (.int 1), mk B J τ) := by rw [wc_0]; exact is_t h (by omega) d
          have ek : k = 12 := by omega
          subst ek
          simp (disch := first | omega | (simp (disch := omega) only [n_ti, Int32.reduceToInt] <;> omega)) only [i0, e_72_7, h22, h135, e_72_24, wr, e_72_28, gb, e_72_32, n_add, nl_add, nr_add, n_mul, nl_mul, nr_mul, n_sub, nr_dec, n_div, nr_sub_1, nr_sub_2, nr_sub_3, nr_sub_4, nr_sub_7, nr_sub_10, nr_sub_11, nr_sub_20, nr_sub_48, nr_sub_97, nl_sub_3, nl_sub_4, nl_sub_12, nl_sub_24, nl_sub_32, nr_div_2, nr_div_4, z_lt, z_le, z_eq, z_cl, n_ti, Int.toNat_natCast, Int32.reduceToInt, Int32.reduceToNatClampNeg, zc_add, zc_sub, zc_add_1, zc_add_2, zc_add_3, zc_add_4, zc_add_8, zc_add_10, zc_add_12, zc_add_16, zc_add_20, zc_sub_1, zc_sub_2, zc_sub_4, zc_sub_10, zc_sub_20, zc_sub_48, zc_sub_97, zc_mul_4, t_ltZ, f_ltZ, t_leZ, f_leZ, t_eqZ, f_eqZ, t_ltN, f_ltN, t_leN, f_leN, t_eqN, f_eqN, ↓reduceIte, and_true, true_and, and_false, false_and, and_self, or_true, true_or, or_false, false_or, or_self, not_true_eq_false, not_false_eq_true, tu_same, tu_eq, tu_ne, b_V, b_I, b_J]
        · have i0 : F_62 [.ref 131, .long 500135715691] (mk B J τ) = some (some (.int 0), mk B J τ) := by rw [wc_0]; exact is_f h (by omega) d
          simp (disch := first | omega | (simp (disch := omega) only [n_ti, Int32.reduceToInt] <;> omega)) only [i0, e_72_7, e_72_24, wr, e_72_28, gb, e_72_32, n_add, nl_add, nr_add, n_mul, nl_mul, nr_mul, n_sub, nr_dec, n_div, nr_sub_1, nr_sub_2, nr_sub_3, nr_sub_4, nr_sub_7, nr_sub_10, nr_sub_11, nr_sub_20, nr_sub_48, nr_sub_97, nl_sub_3, nl_sub_4, nl_sub_12, nl_sub_24, nl_sub_32, nr_div_2, nr_div_4, z_lt, z_le, z_eq, z_cl, n_ti, Int.toNat_natCast, Int32.reduceToInt, Int32.reduceToNatClampNeg, zc_add, zc_sub, zc_add_1, zc_add_2, zc_add_3, zc_add_4, zc_add_8, zc_add_10, zc_add_12, zc_add_16, zc_add_20, zc_sub_1, zc_sub_2, zc_sub_4, zc_sub_10, zc_sub_20, zc_sub_48, zc_sub_97, zc_mul_4, t_ltZ, f_ltZ, t_leZ, f_leZ, t_eqZ, f_eqZ, t_ltN, f_ltN, t_leN, f_leN, t_eqN, f_eqN, ↓reduceIte, and_true, true_and, and_false, false_and, and_self, or_true, true_or, or_false, false_or, or_self, not_true_eq_false, not_false_eq_true, tu_same, tu_eq, tu_ne, b_V, b_I, b_J]
      refine ⟨tm_u (tm_u B 131 4 (nI (flt t 2).1)) 131 5 (nI (flt t 2).2), J, ?_, fun a y u w => by simp (disch := omega) only [tu_same, tu_eq, tu_ne], fun _ _ _ _ => rfl, bad⟩
      rw [← fin, e_73_28]
      simp (disch := first | omega | (simp (disch := omega) only [n_ti, Int32.reduceToInt] <;> omega)) only [hg, e_73_32, b8, s72, e_73_46, n_add, nl_add, nr_add, n_mul, nl_mul, nr_mul, n_sub, nr_dec, n_div, nr_sub_1, nr_sub_2, nr_sub_3, nr_sub_4, nr_sub_7, nr_sub_10, nr_sub_11, nr_sub_20, nr_sub_48, nr_sub_97, nl_sub_3, nl_sub_4, nl_sub_12, nl_sub_24, nl_sub_32, nr_div_2, nr_div_4, z_lt, z_le, z_eq, z_cl, n_ti, Int.toNat_natCast, Int32.reduceToInt, Int32.reduceToNatClampNeg, zc_add, zc_sub, zc_add_1, zc_add_2, zc_add_3, zc_add_4, zc_add_8, zc_add_10, zc_add_12, zc_add_16, zc_add_20, zc_sub_1, zc_sub_2, zc_sub_4, zc_sub_10, zc_sub_20, zc_sub_48, zc_sub_97, zc_mul_4, t_ltZ, f_ltZ, t_leZ, f_leZ, t_eqZ, f_eqZ, t_ltN, f_ltN, t_leN, f_leN, t_eqN, f_eqN, ↓reduceIte, and_true, true_and, and_false, false_and, and_self, or_true, true_or, or_false, false_or, or_self, not_true_eq_false, not_false_eq_true, tu_same, tu_eq, tu_ne, b_V, b_I, b_J]
  intro f
  induction f with
  | zero =>
    intro k B J t N hk h hN
    exact fin k B J t N (by omega) (by omega) h hN
  | succ f ih =>
    intro k B J t N hk h hN
    by_cases c : tK t = 0
    · have hg := m_gd (τ := τ) (J := J) h.2.2.2
      have b8 := tok_80 h (show ¬ tK t = 35 by omega)
      have ep : pBook s n (f + 1) k N t = (match pHead s n k N.1 t with
        | .inl e => .inl e
        | .inr q => (match pParts s n 1400 q.1.2 q.2 with
          | .inl e => .inl e
          | .inr q2 => pBook s n f (k + 1) (updN N.1 k q.1.1, updN N.2 k q2.1) q2.2)) := if_pos c
      obtain ⟨B1, J1, g1, g2, g3, g4⟩ := m_72 (τ := τ) h c hb (show k < 12 by omega) hN
      have st : R_73 28 [(0, .ref 131)] [] (mk B J τ) = R_73 28 [(0, .ref 131)] [] (mk B1 J1 τ) := by
        rw [e_73_28]
        simp (disch := first | omega | (simp (disch := omega) only [n_ti, Int32.reduceToInt] <;> omega)) only [hg, e_73_32, b8, g1, e_73_46, n_add, nl_add, nr_add, n_mul, nl_mul, nr_mul, n_sub, nr_dec, n_div, nr_sub_1, nr_sub_2, nr_sub_3, nr_sub_4, nr_sub_7, nr_sub_10, nr_sub_11, nr_sub_20, nr_sub_48, nr_sub_97, nl_sub_3, nl_sub_4, nl_sub_12, nl_sub_24, nl_sub_32, nr_div_2, nr_div_4, z_lt, z_le, z_eq, z_cl, n_ti, Int.toNat_natCast, Int32.reduceToInt, Int32.reduceToNatClampNeg, zc_add, zc_sub, zc_add_1, zc_add_2, zc_add_3, zc_add_4, zc_add_8, zc_add_10, zc_add_12, zc_add_16, zc_add_20, zc_sub_1, zc_sub_2, zc_sub_4, zc_sub_10, zc_sub_20, zc_sub_48, zc_sub_97, zc_mul_4, t_ltZ, f_ltZ, t_leZ, f_leZ, t_eqZ, f_eqZ, t_ltN, f_ltN, t_leN, f_leN, t_eqN, f_eqN, ↓reduceIte, and_true, true_and, and_false, false_and, and_self, or_true, true_or, or_false, false_or, or_self, not_true_eq_false, not_false_eq_true, tu_same, tu_eq, tu_ne, b_V, b_I, b_J]
      rcases g4 with ⟨e, w1, w2⟩ | ⟨q, q2, w1, w2, w3, w4⟩
      · have ee : pBook s n (f + 1) k N t = .inl e := by
          rw [ep]
          rcases w1 with w | ⟨q, w, w'⟩
          · rw [w]
          · rw [w]
            simp only [w']
        rw [ee]
        exact ⟨B1, J1, st.trans (b_73 w2), g2, g3, w2⟩
      · have ee : pBook s n (f + 1) k N t = pBook s n f (k + 1) (updN N.1 k q.1.1, updN N.2 k q2.1) q2.2 := by
          rw [ep, w1]
          simp only [w2]
        obtain ⟨B2, J2, x1, x2, x3, x4⟩ := ih (k + 1) B1 J1 q2.2 (updN N.1 k q.1.1, updN N.2 k q2.1) (by omega) w3 w4
        rw [ee]
        exact ⟨B2, J2, st.trans x1, g2.then x2, g3.then x3, x4⟩
    · have ep : pBook s n (f + 1) k N t = (if tK t = 35 then .inr (k, N) else .inl (flt t 2)) := if_neg c
      rw [ep]
      exact fin k B J t N (by omega) (Or.inl c) h hN
