/-! run: a BEAT (model): steps, feet, breaking off, going on -/
def FtB (B : Nat → Nat → Int32) (b : Nat) (S : PS) : Prop := ∀ p, p < 6 → pW (S p) = 1 → ∀ i, i < 4 → B 164 (800 * p + 4 * b + i) = nI (pX (S p) / 4 ^ i % 4)
theorem FtB.tr {B B' : Nat → Nat → Int32} {b : Nat} {S : PS} (h : FtB B b S) (f : ∀ k, B' 164 k = B 164 k) : FtB B' b S := fun p hp hw i hi => (f _).trans (h p hp hw i hi)
theorem run_dg (x : Nat) (h : x = 1 ∨ x = 2) : ∀ i, i < 4 → (4 * x + 64 * mir x) / 4 ^ i % 4 = (if i = 1 then x else if i = 3 then 3 - x else 0) := by
  intro i hi
  have : i = 0 ∨ i = 1 ∨ i = 2 ∨ i = 3 := by omega
  rcases h with e | e <;> subst e <;> rcases this with c | c | c | c <;> subst c <;> decide
set_option maxHeartbeats 1000000 in
theorem m_155 {J : Nat → Nat → Int64} {τ : tm_Tu} {n b bk : Nat} {D : Nat → TD} {S : PS} (hS : SOk n D b S) (hn : n ≤ 12) (hD : DOk n D) (hbk : bk < 2) (hb : b < 200) : ∀ m j (B : Nat → Nat → Int32), j + m = 6 → PsB B b S → BkB B bk n D → B 131 59 = nI b → ∃ B', R_155 2 [(0, .ref 131), (1, .int (nI j))] [] (mk B J τ) = some (none, mk B' J τ) ∧ (∀ p, j ≤ p → p < 6 → pW (S p) = 1 → ∀ i, i < 4 → B' 164 (800 * p + 4 * b + i) = nI (pX (stS D b (S p)) / 4 ^ i % 4)) ∧ (∀ a k, a ≠ 164 → B' a k = B a k) ∧ (∀ p k, p < 6 → k < 800 → (pW (S p) ≠ 1 ∨ p < j ∨ ¬ (4 * b ≤ k ∧ k < 4 * b + 4)) → B' 164 (800 * p + k) = B 164 (800 * p + k)) := by
  intro m
  induction m with
  | zero =>
    intro j B hj h hB h59
    refine ⟨B, ?_, fun p u v => by omega, fun _ _ _ => rfl, fun _ _ _ _ _ => rfl⟩
    rw [e_155_2]
    simp (disch := first | omega | (simp (disch := omega) only [n_ti, Int32.reduceToInt] <;> omega)) only [n_add, nl_add, nr_add, n_mul, nl_mul, nr_mul, n_sub, nr_dec, n_div, nr_sub_1, nr_sub_2, nr_sub_3, nr_sub_4, nr_sub_7, nr_sub_10, nr_sub_11, nr_sub_20, nr_sub_48, nr_sub_97, nl_sub_3, nl_sub_4, nl_sub_12, nl_sub_24, nl_sub_32, nr_div_2, nr_div_4, z_lt, z_le, z_eq, z_cl, n_ti, Int.toNat_natCast, Int32.reduceToInt, Int32.reduceToNatClampNeg, zc_add, zc_sub, zc_add_1, zc_add_2, zc_add_3, zc_add_4, zc_add_8, zc_add_10, zc_add_12, zc_add_16, zc_add_20, zc_sub_1, zc_sub_2, zc_sub_4, zc_sub_10, zc_sub_20, zc_sub_48, zc_sub_97, zc_mul_4, t_ltZ, f_ltZ, t_leZ, f_leZ, t_eqZ, f_eqZ, t_ltN, f_ltN, t_leN, f_leN, t_eqN, f_eqN, ↓reduceIte, and_true, true_and, and_false, false_and, and_self, or_true, true_or, or_false, false_or, or_self, not_true_eq_false, not_false_eq_true, tu_same, tu_eq, tu_ne, b_V, b_I, b_J]
  | succ m ih =>
    intro j B hj h hB h59
    have hp : j < 6 := by omega
    obtain ⟨h0, h1, h3, h4⟩ := h j hp
    obtain ⟨w1, w2, w3, w4, w5, w6, -⟩ := hS j hp
    by_cases c : pW (S j) = 1
    case neg =>
      obtain ⟨B', g1, g2, g3, g4⟩ := ih (j + 1) B (by omega) h hB h59
      refine ⟨B', ?_, fun p u v w i hi => ?_, g3, fun p k u v w => ?_⟩
      · rw [← g1, e_155_2]
        simp (disch := first | omega | (simp (disch := omega) only [n_ti, Int32.reduceToInt] <;> omega)) only [h0, e_155_132, n_add, nl_add, nr_add, n_mul, nl_mul, nr_mul, n_sub, nr_dec, n_div, nr_sub_1, nr_sub_2, nr_sub_3, nr_sub_4, nr_sub_7, nr_sub_10, nr_sub_11, nr_sub_20, nr_sub_48, nr_sub_97, nl_sub_3, nl_sub_4, nl_sub_12, nl_sub_24, nl_sub_32, nr_div_2, nr_div_4, z_lt, z_le, z_eq, z_cl, n_ti, Int.toNat_natCast, Int32.reduceToInt, Int32.reduceToNatClampNeg, zc_add, zc_sub, zc_add_1, zc_add_2, zc_add_3, zc_add_4, zc_add_8, zc_add_10, zc_add_12, zc_add_16, zc_add_20, zc_sub_1, zc_sub_2, zc_sub_4, zc_sub_10, zc_sub_20, zc_sub_48, zc_sub_97, zc_mul_4, t_ltZ, f_ltZ, t_leZ, f_leZ, t_eqZ, f_eqZ, t_ltN, f_ltN, t_leN, f_leN, t_eqN, f_eqN, ↓reduceIte, and_true, true_and, and_false, false_and, and_self, or_true, true_or, or_false, false_or, or_self, not_true_eq_false, not_false_eq_true, tu_same, tu_eq, tu_ne, b_V, b_I, b_J]
      · have : p ≠ j := fun e => c (e ▸ w)
        exact g2 p (by omega) v w i hi
      · by_cases e : p = j
        · subst e; exact g4 p k u v (Or.inl c)
        · exact g4 p k u v (by omega)
    obtain ⟨h15, h16⟩ := h1 c
    rw [c] at h0
    -- the four ticks
    have tick : ∀ q i (B : Nat → Nat → Int32), i + q = 4 → PsB B b S → BkB B bk n D → B 131 59 = nI b → ∃ B', R_155 39 [(0, .ref 131), (1, .int (nI j)), (2, .int (nI (fs1 (S j)))), (3, .int (nI i))] [] (mk B J τ) = R_155 132 [(0, .ref 131), (1, .int (nI j))] [] (mk B' J τ) ∧ (∀ i', i ≤ i' → i' < 4 → B' 164 (800 * j + 4 * b + i') = nI (pX (stS D b (S j)) / 4 ^ i' % 4)) ∧ (∀ a k, ¬ (a = 164 ∧ 800 * j + 4 * b + i ≤ k ∧ k < 800 * j + 4 * b + 4) → B' a k = B a k) := by
      intro q
      induction q with
      | zero =>
        intro i B hi h hB h59
        refine ⟨B, ?_, fun i' u v => by omega, fun _ _ _ => rfl⟩
        rw [e_155_39]
        simp (disch := first | omega | (simp (disch := omega) only [n_ti, Int32.reduceToInt] <;> omega)) only [n_add, nl_add, nr_add, n_mul, nl_mul, nr_mul, n_sub, nr_dec, n_div, nr_sub_1, nr_sub_2, nr_sub_3, nr_sub_4, nr_sub_7, nr_sub_10, nr_sub_11, nr_sub_20, nr_sub_48, nr_sub_97, nl_sub_3, nl_sub_4, nl_sub_12, nl_sub_24, nl_sub_32, nr_div_2, nr_div_4, z_lt, z_le, z_eq, z_cl, n_ti, Int.toNat_natCast, Int32.reduceToInt, Int32.reduceToNatClampNeg, zc_add, zc_sub, zc_add_1, zc_add_2, zc_add_3, zc_add_4, zc_add_8, zc_add_10, zc_add_12, zc_add_16, zc_add_20, zc_sub_1, zc_sub_2, zc_sub_4, zc_sub_10, zc_sub_20, zc_sub_48, zc_sub_97, zc_mul_4, t_ltZ, f_ltZ, t_leZ, f_leZ, t_eqZ, f_eqZ, t_ltN, f_ltN, t_leN, f_leN, t_eqN, f_eqN, ↓reduceIte, and_true, true_and, and_false, false_and, and_self, or_true, true_or, or_false, false_or, or_self, not_true_eq_false, not_false_eq_true, tu_same, tu_eq, tu_ne, b_V, b_I, b_J]
      | succ q ihq =>
        intro i B hi h hB h59
        have h3' := (h j hp).2.2.1
        have h4' := (h j hp).2.2.2
        obtain ⟨V, eV⟩ : ∃ z, z = pX (stS D b (S j)) / 4 ^ i % 4 := ⟨_, rfl⟩
        obtain ⟨B', g1, g2, g3⟩ := ihq (i + 1) (tm_u B 164 (800 * j + 4 * b + i) (nI V)) (by omega) (h.tr (fun a k u => by simp (disch := omega) only [tu_same, tu_eq, tu_ne])) (hB.tr (fun a k u => by simp (disch := omega) only [tu_same, tu_eq, tu_ne])) (by simp (disch := omega) only [h59, tu_same, tu_eq, tu_ne])
        refine ⟨B', ?_, fun i' u v => ?_, fun a k u => by rw [g3 a k (by omega)]; simp (disch := omega) only [tu_same, tu_eq, tu_ne]⟩
        · rw [← g1, e_155_39]
          by_cases d : pT (S j) = 0
          · have ex : pX (stS D b (S j)) = 4 * fs1 (S j) + 64 * mir (fs1 (S j)) := by unfold stS; rw [if_pos c, if_pos d]
            have eV2 : V = (if i = 1 then fs1 (S j) else if i = 3 then 3 - fs1 (S j) else 0) := by rw [eV, ex]; exact run_dg _ (fs1_c _) i (by omega)
            have f2 : fs1 (S j) ≤ 2 := by rcases fs1_c (S j) with e | e <;> omega
            rw [tI_z d] at h3'
            by_cases i1 : i = 1
            · rw [if_pos i1] at eV2
              subst i1
              rw [eV2]
              simp (disch := first | omega | (simp (disch := omega) only [n_ti, Int32.reduceToInt] <;> omega)) only [h3', e_155_103, h59, n_add, nl_add, nr_add, n_mul, nl_mul, nr_mul, n_sub, nr_dec, n_div, nr_sub_1, nr_sub_2, nr_sub_3, nr_sub_4, nr_sub_7, nr_sub_10, nr_sub_11, nr_sub_20, nr_sub_48, nr_sub_97, nl_sub_3, nl_sub_4, nl_sub_12, nl_sub_24, nl_sub_32, nr_div_2, nr_div_4, z_lt, z_le, z_eq, z_cl, n_ti, Int.toNat_natCast, Int32.reduceToInt, Int32.reduceToNatClampNeg, zc_add, zc_sub, zc_add_1, zc_add_2, zc_add_3, zc_add_4, zc_add_8, zc_add_10, zc_add_12, zc_add_16, zc_add_20, zc_sub_1, zc_sub_2, zc_sub_4, zc_sub_10, zc_sub_20, zc_sub_48, zc_sub_97, zc_mul_4, t_ltZ, f_ltZ, t_leZ, f_leZ, t_eqZ, f_eqZ, t_ltN, f_ltN, t_leN, f_leN, t_eqN, f_eqN, ↓reduceIte, and_true, true_and, and_false, false_and, and_self, or_true, true_or, or_false, false_or, or_self, not_true_eq_false, not_false_eq_true, tu_same, tu_eq, tu_ne, b_V, b_I, b_J]
            · rw [if_neg i1] at eV2
              by_cases i3 : i = 3
              · rw [if_pos i3] at eV2
                subst i3
                rw [eV2]
                simp (disch := first | omega | (simp (disch := omega) only [n_ti, Int32.reduceToInt] <;> omega)) only [h3', e_155_103, h59, n_add, nl_add, nr_add, n_mul, nl_mul, nr_mul, n_sub, nr_dec, n_div, nr_sub_1, nr_sub_2, nr_sub_3, nr_sub_4, nr_sub_7, nr_sub_10, nr_sub_11, nr_sub_20, nr_sub_48, nr_sub_97, nl_sub_3, nl_sub_4, nl_sub_12, nl_sub_24, nl_sub_32, nr_div_2, nr_div_4, z_lt, z_le, z_eq, z_cl, n_ti, Int.toNat_natCast, Int32.reduceToInt, Int32.reduceToNatClampNeg, zc_add, zc_sub, zc_add_1, zc_add_2, zc_add_3, zc_add_4, zc_add_8, zc_add_10, zc_add_12, zc_add_16, zc_add_20, zc_sub_1, zc_sub_2, zc_sub_4, zc_sub_10, zc_sub_20, zc_sub_48, zc_sub_97, zc_mul_4, t_ltZ, f_ltZ, t_leZ, f_leZ, t_eqZ, f_eqZ, t_ltN, f_ltN, t_leN, f_leN, t_eqN, f_eqN, ↓reduceIte, and_true, true_and, and_false, false_and, and_self, or_true, true_or, or_false, false_or, or_self, not_true_eq_false, not_false_eq_true, tu_same, tu_eq, tu_ne, b_V, b_I, b_J]
              · rw [if_neg i3] at eV2
                rw [eV2]
                simp (disch := first | omega | (simp (disch := omega) only [n_ti, Int32.reduceToInt] <;> omega)) only [h3', e_155_103, h59, n_add, nl_add, nr_add, n_mul, nl_mul, nr_mul, n_sub, nr_dec, n_div, nr_sub_1, nr_sub_2, nr_sub_3, nr_sub_4, nr_sub_7, nr_sub_10, nr_sub_11, nr_sub_20, nr_sub_48, nr_sub_97, nl_sub_3, nl_sub_4, nl_sub_12, nl_sub_24, nl_sub_32, nr_div_2, nr_div_4, z_lt, z_le, z_eq, z_cl, n_ti, Int.toNat_natCast, Int32.reduceToInt, Int32.reduceToNatClampNeg, zc_add, zc_sub, zc_add_1, zc_add_2, zc_add_3, zc_add_4, zc_add_8, zc_add_10, zc_add_12, zc_add_16, zc_add_20, zc_sub_1, zc_sub_2, zc_sub_4, zc_sub_10, zc_sub_20, zc_sub_48, zc_sub_97, zc_mul_4, t_ltZ, f_ltZ, t_leZ, f_leZ, t_eqZ, f_eqZ, t_ltN, f_ltN, t_leN, f_leN, t_eqN, f_eqN, ↓reduceIte, and_true, true_and, and_false, false_and, and_self, or_true, true_or, or_false, false_or, or_self, not_true_eq_false, not_false_eq_true, tu_same, tu_eq, tu_ne, b_V, b_I, b_J]
                rfl
          · have ex : pX (stS D b (S j)) = xx D b (S j) 4 := by unfold stS; rw [if_pos c, if_neg d]
            have eV2 : V = dv D b (S j) i := by rw [eV, ex]; exact xx_dg (hS j hp) hD d i (by omega)
            rw [tI_s d] at h3'
            obtain ⟨z1, z2, z3⟩ := h4' d
            obtain ⟨u1, u2, u3⟩ := w6 d
            have hx : pT (S j) - 1 < n := by omega
            have s98 := s_98 (J := J) (τ := τ) (pM (S j)) (4 * (b - pG (S j)) + i) w5 (hD _ hx) hbk hB.1 (show pT (S j) - 1 < 12 by omega) (hB.2.2 _ hx) (dv_le (hS j hp) hD d (by omega)).2
            have s98' : F_98 [.ref 131, .int (nI (pT (S j) - 1)), .int (nI (pM (S j))), .int (nI (4 * (b - pG (S j)) + i))] (mk B J τ) = some (some (.int (nI V)), mk B J τ) := by rw [eV2]; exact s98
            simp (disch := first | omega | (simp (disch := omega) only [n_ti, Int32.reduceToInt] <;> omega)) only [h3', z1, z3, s98', e_155_79, e_155_103, h59, n_add, nl_add, nr_add, n_mul, nl_mul, nr_mul, n_sub, nr_dec, n_div, nr_sub_1, nr_sub_2, nr_sub_3, nr_sub_4, nr_sub_7, nr_sub_10, nr_sub_11, nr_sub_20, nr_sub_48, nr_sub_97, nl_sub_3, nl_sub_4, nl_sub_12, nl_sub_24, nl_sub_32, nr_div_2, nr_div_4, z_lt, z_le, z_eq, z_cl, n_ti, Int.toNat_natCast, Int32.reduceToInt, Int32.reduceToNatClampNeg, zc_add, zc_sub, zc_add_1, zc_add_2, zc_add_3, zc_add_4, zc_add_8, zc_add_10, zc_add_12, zc_add_16, zc_add_20, zc_sub_1, zc_sub_2, zc_sub_4, zc_sub_10, zc_sub_20, zc_sub_48, zc_sub_97, zc_mul_4, t_ltZ, f_ltZ, t_leZ, f_leZ, t_eqZ, f_eqZ, t_ltN, f_ltN, t_leN, f_leN, t_eqN, f_eqN, ↓reduceIte, and_true, true_and, and_false, false_and, and_self, or_true, true_or, or_false, false_or, or_self, not_true_eq_false, not_false_eq_true, tu_same, tu_eq, tu_ne, b_V, b_I, b_J]
        · by_cases e : i' = i
          · subst e
            rw [g3 _ _ (by omega), ← eV]
            simp (disch := omega) only [tu_same, tu_eq, tu_ne]
          · exact g2 i' (by omega) v
    obtain ⟨B1, t1, t2, t3⟩ := tick 4 0 B (by omega) h hB h59
    obtain ⟨B', g1, g2, g3, g4⟩ := ih (j + 1) B1 (by omega) (h.tr (fun a k u => t3 a k (by omega))) (hB.tr (fun a k u => t3 a k (by omega))) ((t3 _ _ (by omega)).trans h59)
    refine ⟨B', ?_, fun p u v w i hi => ?_, fun a k u => (g3 a k u).trans (t3 a k (by omega)), fun p k u v w => ?_⟩
    · have st : R_155 2 [(0, .ref 131), (1, .int (nI j))] [] (mk B J τ) = R_155 39 [(0, .ref 131), (1, .int (nI j)), (2, .int (nI (fs1 (S j)))), (3, .int (nI 0))] [] (mk B J τ) := by
        rw [e_155_2]
        unfold fs1
        by_cases f : pF (S j) = 1
        · rw [if_pos f]
          rw [f] at h15
          simp (disch := first | omega | (simp (disch := omega) only [n_ti, Int32.reduceToInt] <;> omega)) only [h0, h15, e_155_36, n_add, nl_add, nr_add, n_mul, nl_mul, nr_mul, n_sub, nr_dec, n_div, nr_sub_1, nr_sub_2, nr_sub_3, nr_sub_4, nr_sub_7, nr_sub_10, nr_sub_11, nr_sub_20, nr_sub_48, nr_sub_97, nl_sub_3, nl_sub_4, nl_sub_12, nl_sub_24, nl_sub_32, nr_div_2, nr_div_4, z_lt, z_le, z_eq, z_cl, n_ti, Int.toNat_natCast, Int32.reduceToInt, Int32.reduceToNatClampNeg, zc_add, zc_sub, zc_add_1, zc_add_2, zc_add_3, zc_add_4, zc_add_8, zc_add_10, zc_add_12, zc_add_16, zc_add_20, zc_sub_1, zc_sub_2, zc_sub_4, zc_sub_10, zc_sub_20, zc_sub_48, zc_sub_97, zc_mul_4, t_ltZ, f_ltZ, t_leZ, f_leZ, t_eqZ, f_eqZ, t_ltN, f_ltN, t_leN, f_leN, t_eqN, f_eqN, ↓reduceIte, and_true, true_and, and_false, false_and, and_self, or_true, true_or, or_false, false_or, or_self, not_true_eq_false, not_false_eq_true, tu_same, tu_eq, tu_ne, b_V, b_I, b_J]
          rfl
        · rw [if_neg f]
          simp (disch := first | omega | (simp (disch := omega) only [n_ti, Int32.reduceToInt] <;> omega)) only [h0, h15, e_155_36, n_add, nl_add, nr_add, n_mul, nl_mul, nr_mul, n_sub, nr_dec, n_div, nr_sub_1, nr_sub_2, nr_sub_3, nr_sub_4, nr_sub_7, nr_sub_10, nr_sub_11, nr_sub_20, nr_sub_48, nr_sub_97, nl_sub_3, nl_sub_4, nl_sub_12, nl_sub_24, nl_sub_32, nr_div_2, nr_div_4, z_lt, z_le, z_eq, z_cl, n_ti, Int.toNat_natCast, Int32.reduceToInt, Int32.reduceToNatClampNeg, zc_add, zc_sub, zc_add_1, zc_add_2, zc_add_3, zc_add_4, zc_add_8, zc_add_10, zc_add_12, zc_add_16, zc_add_20, zc_sub_1, zc_sub_2, zc_sub_4, zc_sub_10, zc_sub_20, zc_sub_48, zc_sub_97, zc_mul_4, t_ltZ, f_ltZ, t_leZ, f_leZ, t_eqZ, f_eqZ, t_ltN, f_ltN, t_leN, f_leN, t_eqN, f_eqN, ↓reduceIte, and_true, true_and, and_false, false_and, and_self, or_true, true_or, or_false, false_or, or_self, not_true_eq_false, not_false_eq_true, tu_same, tu_eq, tu_ne, b_V, b_I, b_J]
          rfl
      rw [st, t1, ← g1, e_155_132]
      simp (disch := first | omega | (simp (disch := omega) only [n_ti, Int32.reduceToInt] <;> omega)) only [n_add, nl_add, nr_add, n_mul, nl_mul, nr_mul, n_sub, nr_dec, n_div, nr_sub_1, nr_sub_2, nr_sub_3, nr_sub_4, nr_sub_7, nr_sub_10, nr_sub_11, nr_sub_20, nr_sub_48, nr_sub_97, nl_sub_3, nl_sub_4, nl_sub_12, nl_sub_24, nl_sub_32, nr_div_2, nr_div_4, z_lt, z_le, z_eq, z_cl, n_ti, Int.toNat_natCast, Int32.reduceToInt, Int32.reduceToNatClampNeg, zc_add, zc_sub, zc_add_1, zc_add_2, zc_add_3, zc_add_4, zc_add_8, zc_add_10, zc_add_12, zc_add_16, zc_add_20, zc_sub_1, zc_sub_2, zc_sub_4, zc_sub_10, zc_sub_20, zc_sub_48, zc_sub_97, zc_mul_4, t_ltZ, f_ltZ, t_leZ, f_leZ, t_eqZ, f_eqZ, t_ltN, f_ltN, t_leN, f_leN, t_eqN, f_eqN, ↓reduceIte, and_true, true_and, and_false, false_and, and_self, or_true, true_or, or_false, false_or, or_self, not_true_eq_false, not_false_eq_true, tu_same, tu_eq, tu_ne, b_V, b_I, b_J]
    · by_cases e : p = j
      · subst e
        rw [show 800 * p + 4 * b + i = 800 * p + (4 * b + i) by omega, g4 p (4 * b + i) v (by omega) (Or.inr (Or.inl (by omega))), show 800 * p + (4 * b + i) = 800 * p + 4 * b + i by omega]
        exact t2 i (by omega) hi
      · exact g2 p (by omega) v w i hi
    · by_cases e : p = j
      · subst e
        rw [g4 p k u v (Or.inr (Or.inl (by omega))), t3 _ _ (by omega)]
      · rw [g4 p k u v (by omega), t3 _ _ (by omega)]
set_option maxHeartbeats 1000000 in
theorem m_157 {J : Nat → Nat → Int64} {τ : tm_Tu} {n b mo : Nat} {D : Nat → TD} {S : PS} (hS : SOk n D b S) (hmo : mo ≤ 3) (hb : b < 200) : ∀ m j (B : Nat → Nat → Int32) (l : ML) (acc : Bool), j + m = 6 → (∀ p, p < 6 → B 151 p = nI (pW (S p))) → FtB B b S → MsB B l → l.1 < 90000 + j → B 131 59 = nI b → B 159 b = nI mo → ∃ B', R_157 4 [(0, .ref 131), (1, .int (b2 acc)), (2, .int (nI j))] [] (mk B J τ) = some (some (.int (b2 (acc || anyF (htP mo S) m j))), mk B' J τ) ∧ MsB B' (feF mo b S m j l) ∧ (∀ a k, ¬ (a = 131 ∧ k = 60) → ¬ (165 ≤ a ∧ a ≤ 167) → B' a k = B a k) := by
  intro m
  induction m with
  | zero =>
    intro j B l acc hj hW hF hM hl h59 h159
    refine ⟨B, ?_, hM, fun _ _ _ _ => rfl⟩
    have e : (acc || anyF (htP mo S) 0 j) = acc := by cases acc <;> rfl
    rw [e, e_157_4]
    cases acc
    · rw [b2f]
      simp (disch := first | omega | (simp (disch := omega) only [n_ti, Int32.reduceToInt] <;> omega)) only [n_add, nl_add, nr_add, n_mul, nl_mul, nr_mul, n_sub, nr_dec, n_div, nr_sub_1, nr_sub_2, nr_sub_3, nr_sub_4, nr_sub_7, nr_sub_10, nr_sub_11, nr_sub_20, nr_sub_48, nr_sub_97, nl_sub_3, nl_sub_4, nl_sub_12, nl_sub_24, nl_sub_32, nr_div_2, nr_div_4, z_lt, z_le, z_eq, z_cl, n_ti, Int.toNat_natCast, Int32.reduceToInt, Int32.reduceToNatClampNeg, zc_add, zc_sub, zc_add_1, zc_add_2, zc_add_3, zc_add_4, zc_add_8, zc_add_10, zc_add_12, zc_add_16, zc_add_20, zc_sub_1, zc_sub_2, zc_sub_4, zc_sub_10, zc_sub_20, zc_sub_48, zc_sub_97, zc_mul_4, t_ltZ, f_ltZ, t_leZ, f_leZ, t_eqZ, f_eqZ, t_ltN, f_ltN, t_leN, f_leN, t_eqN, f_eqN, ↓reduceIte, and_true, true_and, and_false, false_and, and_self, or_true, true_or, or_false, false_or, or_self, not_true_eq_false, not_false_eq_true, tu_same, tu_eq, tu_ne, b_V, b_I, b_J]
    · rw [b2t]
      simp (disch := first | omega | (simp (disch := omega) only [n_ti, Int32.reduceToInt] <;> omega)) only [n_add, nl_add, nr_add, n_mul, nl_mul, nr_mul, n_sub, nr_dec, n_div, nr_sub_1, nr_sub_2, nr_sub_3, nr_sub_4, nr_sub_7, nr_sub_10, nr_sub_11, nr_sub_20, nr_sub_48, nr_sub_97, nl_sub_3, nl_sub_4, nl_sub_12, nl_sub_24, nl_sub_32, nr_div_2, nr_div_4, z_lt, z_le, z_eq, z_cl, n_ti, Int.toNat_natCast, Int32.reduceToInt, Int32.reduceToNatClampNeg, zc_add, zc_sub, zc_add_1, zc_add_2, zc_add_3, zc_add_4, zc_add_8, zc_add_10, zc_add_12, zc_add_16, zc_add_20, zc_sub_1, zc_sub_2, zc_sub_4, zc_sub_10, zc_sub_20, zc_sub_48, zc_sub_97, zc_mul_4, t_ltZ, f_ltZ, t_leZ, f_leZ, t_eqZ, f_eqZ, t_ltN, f_ltN, t_leN, f_leN, t_eqN, f_eqN, ↓reduceIte, and_true, true_and, and_false, false_and, and_self, or_true, true_or, or_false, false_or, or_self, not_true_eq_false, not_false_eq_true, tu_same, tu_eq, tu_ne, b_V, b_I, b_J]
  | succ m ih =>
    intro j B l acc hj hW hF hM hl h59 h159
    have hp : j < 6 := by omega
    have w1 := (hS j hp).1
    have h0 := hW j hp
    have hacc : b2 acc = 0 ∨ b2 acc = 1 := by
      cases acc
      · exact Or.inl rfl
      · exact Or.inr rfl
    have tick : ∀ q i (is : Bool), i + q = 4 → R_157 15 [(0, .ref 131), (1, .int (b2 acc)), (2, .int (nI j)), (3, .int (b2 is)), (4, .int (nI i))] [] (mk B J τ) = R_157 15 [(0, .ref 131), (1, .int (b2 acc)), (2, .int (nI j)), (3, .int (b2 (is || (decide (pW (S j) = 1) && anyF (hiQ mo (S j)) q i)))), (4, .int (nI 4))] [] (mk B J τ) := by
      intro q
      induction q with
      | zero =>
        intro i is hi
        have : i = 4 := by omega
        subst this
        have e : (is || (decide (pW (S j) = 1) && anyF (hiQ mo (S j)) 0 4)) = is := by
          show (is || (decide (pW (S j) = 1) && false)) = is
          cases is <;> simp
        rw [e]
      | succ q ihq =>
        intro i is hi
        cases is with
        | true =>
          have e : ∀ x : Bool, (true || x) = true := fun x => rfl
          have z := ihq (i + 1) true (by omega)
          rw [e] at z ⊢
          rw [← z, e_157_15, b2t]
          simp (disch := first | omega | (simp (disch := omega) only [n_ti, Int32.reduceToInt] <;> omega)) only [e_157_75, e_157_80, n_add, nl_add, nr_add, n_mul, nl_mul, nr_mul, n_sub, nr_dec, n_div, nr_sub_1, nr_sub_2, nr_sub_3, nr_sub_4, nr_sub_7, nr_sub_10, nr_sub_11, nr_sub_20, nr_sub_48, nr_sub_97, nl_sub_3, nl_sub_4, nl_sub_12, nl_sub_24, nl_sub_32, nr_div_2, nr_div_4, z_lt, z_le, z_eq, z_cl, n_ti, Int.toNat_natCast, Int32.reduceToInt, Int32.reduceToNatClampNeg, zc_add, zc_sub, zc_add_1, zc_add_2, zc_add_3, zc_add_4, zc_add_8, zc_add_10, zc_add_12, zc_add_16, zc_add_20, zc_sub_1, zc_sub_2, zc_sub_4, zc_sub_10, zc_sub_20, zc_sub_48, zc_sub_97, zc_mul_4, t_ltZ, f_ltZ, t_leZ, f_leZ, t_eqZ, f_eqZ, t_ltN, f_ltN, t_leN, f_leN, t_eqN, f_eqN, ↓reduceIte, and_true, true_and, and_false, false_and, and_self, or_true, true_or, or_false, false_or, or_self, not_true_eq_false, not_false_eq_true, tu_same, tu_eq, tu_ne, b_V, b_I, b_J]
        | false =>
          rw [Bool.false_or]
          by_cases c : pW (S j) = 1
          · have h0' := h0
            rw [c] at h0'
            have f := hF j hp c i (by omega)
            have h8 : pX (S j) / 4 ^ i % 4 < 4 := Nat.mod_lt _ (by omega)
            have s105 := s_105 (I := B) (J := J) (τ := τ) (x := nI mo) (t := i) (by omega)
            rw [n_ti (show mo < 2147483648 by omega)] at s105
            rw [decide_eq_true c, Bool.true_and]
            by_cases d : pX (S j) / 4 ^ i % 4 = 0
            · have e : anyF (hiQ mo (S j)) (q + 1) i = anyF (hiQ mo (S j)) q (i + 1) := anyF_0 (and_f1 (decide_eq_false (fun u => u d)))
              have z := ihq (i + 1) false (by omega)
              rw [Bool.false_or, decide_eq_true c, Bool.true_and] at z
              rw [d] at f
              rw [e, ← z, e_157_15, b2f]
              simp (disch := first | omega | (simp (disch := omega) only [n_ti, Int32.reduceToInt] <;> omega)) only [h0', h59, f, e_157_79, e_157_80, n_add, nl_add, nr_add, n_mul, nl_mul, nr_mul, n_sub, nr_dec, n_div, nr_sub_1, nr_sub_2, nr_sub_3, nr_sub_4, nr_sub_7, nr_sub_10, nr_sub_11, nr_sub_20, nr_sub_48, nr_sub_97, nl_sub_3, nl_sub_4, nl_sub_12, nl_sub_24, nl_sub_32, nr_div_2, nr_div_4, z_lt, z_le, z_eq, z_cl, n_ti, Int.toNat_natCast, Int32.reduceToInt, Int32.reduceToNatClampNeg, zc_add, zc_sub, zc_add_1, zc_add_2, zc_add_3, zc_add_4, zc_add_8, zc_add_10, zc_add_12, zc_add_16, zc_add_20, zc_sub_1, zc_sub_2, zc_sub_4, zc_sub_10, zc_sub_20, zc_sub_48, zc_sub_97, zc_mul_4, t_ltZ, f_ltZ, t_leZ, f_leZ, t_eqZ, f_eqZ, t_ltN, f_ltN, t_leN, f_leN, t_eqN, f_eqN, ↓reduceIte, and_true, true_and, and_false, false_and, and_self, or_true, true_or, or_false, false_or, or_self, not_true_eq_false, not_false_eq_true, tu_same, tu_eq, tu_ne, b_V, b_I, b_J]
            · cases hpz : pasZ (mo : Int) i with
              | true =>
                have e : anyF (hiQ mo (S j)) (q + 1) i = true := anyF_1 (and_t (decide_eq_true d) hpz)
                have z := ihq (i + 1) true (by omega)
                have e3 : ∀ x : Bool, (true || x) = true := fun x => rfl
                rw [e3] at z
                rw [hpz, b2t] at s105
                rw [e, ← z, e_157_15, b2f, b2t]
                simp (disch := first | omega | (simp (disch := omega) only [n_ti, Int32.reduceToInt] <;> omega)) only [h0', h59, f, h159, s105, e_157_72, e_157_75, e_157_80, n_add, nl_add, nr_add, n_mul, nl_mul, nr_mul, n_sub, nr_dec, n_div, nr_sub_1, nr_sub_2, nr_sub_3, nr_sub_4, nr_sub_7, nr_sub_10, nr_sub_11, nr_sub_20, nr_sub_48, nr_sub_97, nl_sub_3, nl_sub_4, nl_sub_12, nl_sub_24, nl_sub_32, nr_div_2, nr_div_4, z_lt, z_le, z_eq, z_cl, n_ti, Int.toNat_natCast, Int32.reduceToInt, Int32.reduceToNatClampNeg, zc_add, zc_sub, zc_add_1, zc_add_2, zc_add_3, zc_add_4, zc_add_8, zc_add_10, zc_add_12, zc_add_16, zc_add_20, zc_sub_1, zc_sub_2, zc_sub_4, zc_sub_10, zc_sub_20, zc_sub_48, zc_sub_97, zc_mul_4, t_ltZ, f_ltZ, t_leZ, f_leZ, t_eqZ, f_eqZ, t_ltN, f_ltN, t_leN, f_leN, t_eqN, f_eqN, ↓reduceIte, and_true, true_and, and_false, false_and, and_self, or_true, true_or, or_false, false_or, or_self, not_true_eq_false, not_false_eq_true, tu_same, tu_eq, tu_ne, b_V, b_I, b_J]
              | false =>
                have e : anyF (hiQ mo (S j)) (q + 1) i = anyF (hiQ mo (S j)) q (i + 1) := anyF_0 (and_f2 hpz)
                have z := ihq (i + 1) false (by omega)
                rw [Bool.false_or, decide_eq_true c, Bool.true_and] at z
                rw [hpz, b2f] at s105
                rw [e, ← z, e_157_15, b2f]
                simp (disch := first | omega | (simp (disch := omega) only [n_ti, Int32.reduceToInt] <;> omega)) only [h0', h59, f, h159, s105, e_157_72, e_157_79, e_157_80, n_add, nl_add, nr_add, n_mul, nl_mul, nr_mul, n_sub, nr_dec, n_div, nr_sub_1, nr_sub_2, nr_sub_3, nr_sub_4, nr_sub_7, nr_sub_10, nr_sub_11, nr_sub_20, nr_sub_48, nr_sub_97, nl_sub_3, nl_sub_4, nl_sub_12, nl_sub_24, nl_sub_32, nr_div_2, nr_div_4, z_lt, z_le, z_eq, z_cl, n_ti, Int.toNat_natCast, Int32.reduceToInt, Int32.reduceToNatClampNeg, zc_add, zc_sub, zc_add_1, zc_add_2, zc_add_3, zc_add_4, zc_add_8, zc_add_10, zc_add_12, zc_add_16, zc_add_20, zc_sub_1, zc_sub_2, zc_sub_4, zc_sub_10, zc_sub_20, zc_sub_48, zc_sub_97, zc_mul_4, t_ltZ, f_ltZ, t_leZ, f_leZ, t_eqZ, f_eqZ, t_ltN, f_ltN, t_leN, f_leN, t_eqN, f_eqN, ↓reduceIte, and_true, true_and, and_false, false_and, and_self, or_true, true_or, or_false, false_or, or_self, not_true_eq_false, not_false_eq_true, tu_same, tu_eq, tu_ne, b_V, b_I, b_J]
          · have z := ihq (i + 1) false (by omega)
            rw [Bool.false_or, decide_eq_false c, Bool.false_and] at z
            rw [decide_eq_false c, Bool.false_and, ← z, e_157_15, b2f]
            simp (disch := first | omega | (simp (disch := omega) only [n_ti, Int32.reduceToInt] <;> omega)) only [h0, e_157_79, e_157_80, n_add, nl_add, nr_add, n_mul, nl_mul, nr_mul, n_sub, nr_dec, n_div, nr_sub_1, nr_sub_2, nr_sub_3, nr_sub_4, nr_sub_7, nr_sub_10, nr_sub_11, nr_sub_20, nr_sub_48, nr_sub_97, nl_sub_3, nl_sub_4, nl_sub_12, nl_sub_24, nl_sub_32, nr_div_2, nr_div_4, z_lt, z_le, z_eq, z_cl, n_ti, Int.toNat_natCast, Int32.reduceToInt, Int32.reduceToNatClampNeg, zc_add, zc_sub, zc_add_1, zc_add_2, zc_add_3, zc_add_4, zc_add_8, zc_add_10, zc_add_12, zc_add_16, zc_add_20, zc_sub_1, zc_sub_2, zc_sub_4, zc_sub_10, zc_sub_20, zc_sub_48, zc_sub_97, zc_mul_4, t_ltZ, f_ltZ, t_leZ, f_leZ, t_eqZ, f_eqZ, t_ltN, f_ltN, t_leN, f_leN, t_eqN, f_eqN, ↓reduceIte, and_true, true_and, and_false, false_and, and_self, or_true, true_or, or_false, false_or, or_self, not_true_eq_false, not_false_eq_true, tu_same, tu_eq, tu_ne, b_V, b_I, b_J]
    have t0 := tick 4 0 false (by omega)
    rw [Bool.false_or] at t0
    have t0' : R_157 15 [(0, .ref 131), (1, .int (b2 acc)), (2, .int (nI j)), (3, .int 0), (4, .int 0)] [] (mk B J τ) = R_157 15 [(0, .ref 131), (1, .int (b2 acc)), (2, .int (nI j)), (3, .int (b2 (htP mo S j))), (4, .int (nI 4))] [] (mk B J τ) := t0
    have pre : R_157 4 [(0, .ref 131), (1, .int (b2 acc)), (2, .int (nI j))] [] (mk B J τ) = R_157 15 [(0, .ref 131), (1, .int (b2 acc)), (2, .int (nI j)), (3, .int (b2 (htP mo S j))), (4, .int (nI 4))] [] (mk B J τ) := by
      rw [← t0', e_157_4]
      simp (disch := first | omega | (simp (disch := omega) only [n_ti, Int32.reduceToInt] <;> omega)) only [n_add, nl_add, nr_add, n_mul, nl_mul, nr_mul, n_sub, nr_dec, n_div, nr_sub_1, nr_sub_2, nr_sub_3, nr_sub_4, nr_sub_7, nr_sub_10, nr_sub_11, nr_sub_20, nr_sub_48, nr_sub_97, nl_sub_3, nl_sub_4, nl_sub_12, nl_sub_24, nl_sub_32, nr_div_2, nr_div_4, z_lt, z_le, z_eq, z_cl, n_ti, Int.toNat_natCast, Int32.reduceToInt, Int32.reduceToNatClampNeg, zc_add, zc_sub, zc_add_1, zc_add_2, zc_add_3, zc_add_4, zc_add_8, zc_add_10, zc_add_12, zc_add_16, zc_add_20, zc_sub_1, zc_sub_2, zc_sub_4, zc_sub_10, zc_sub_20, zc_sub_48, zc_sub_97, zc_mul_4, t_ltZ, f_ltZ, t_leZ, f_leZ, t_eqZ, f_eqZ, t_ltN, f_ltN, t_leN, f_leN, t_eqN, f_eqN, ↓reduceIte, and_true, true_and, and_false, false_and, and_self, or_true, true_or, or_false, false_or, or_self, not_true_eq_false, not_false_eq_true, tu_same, tu_eq, tu_ne, b_V, b_I, b_J]
    cases hh : htP mo S j with
    | false =>
      rw [hh, b2f] at pre
      obtain ⟨B', g1, g2, g3⟩ := ih (j + 1) B l acc (by omega) hW hF hM (by omega) h59 h159
      refine ⟨B', ?_, ?_, g3⟩
      · rw [pre, anyF_0 hh, ← g1, e_157_15]
        rcases hacc with e | e <;> rw [e] <;> simp (disch := first | omega | (simp (disch := omega) only [n_ti, Int32.reduceToInt] <;> omega)) only [e_157_98, e_157_106, e_157_111, n_add, nl_add, nr_add, n_mul, nl_mul, nr_mul, n_sub, nr_dec, n_div, nr_sub_1, nr_sub_2, nr_sub_3, nr_sub_4, nr_sub_7, nr_sub_10, nr_sub_11, nr_sub_20, nr_sub_48, nr_sub_97, nl_sub_3, nl_sub_4, nl_sub_12, nl_sub_24, nl_sub_32, nr_div_2, nr_div_4, z_lt, z_le, z_eq, z_cl, n_ti, Int.toNat_natCast, Int32.reduceToInt, Int32.reduceToNatClampNeg, zc_add, zc_sub, zc_add_1, zc_add_2, zc_add_3, zc_add_4, zc_add_8, zc_add_10, zc_add_12, zc_add_16, zc_add_20, zc_sub_1, zc_sub_2, zc_sub_4, zc_sub_10, zc_sub_20, zc_sub_48, zc_sub_97, zc_mul_4, t_ltZ, f_ltZ, t_leZ, f_leZ, t_eqZ, f_eqZ, t_ltN, f_ltN, t_leN, f_leN, t_eqN, f_eqN, ↓reduceIte, and_true, true_and, and_false, false_and, and_self, or_true, true_or, or_false, false_or, or_self, not_true_eq_false, not_false_eq_true, tu_same, tu_eq, tu_ne, b_V, b_I, b_J]
      · show MsB B' (feF mo b S m (j + 1) (if htP mo S j = true then adM l (b, 9, j) else l))
        rw [hh, if_neg Bool.false_ne_true]
        exact g2
    | true =>
      rw [hh, b2t] at pre
      obtain ⟨B1, p1, p2, p3⟩ := m_150 (J := J) (τ := τ) hM (by omega) h59 9 j
      have p1' : F_150 [.ref 131, .int 9, .int (nI j)] (mk B J τ) = some (none, mk B1 J τ) := p1
      obtain ⟨B', g1, g2, g3⟩ := ih (j + 1) B1 (adM l (b, 9, j)) true (by omega) (fun p hp => (p3 _ _ (by omega) (by omega)).trans (hW p hp)) (hF.tr (fun k => p3 _ _ (by omega) (by omega))) p2 (by show l.1 + 1 < _; omega) ((p3 _ _ (by omega) (by omega)).trans h59) ((p3 _ _ (by omega) (by omega)).trans h159)
      refine ⟨B', ?_, ?_, fun a k u v => (g3 a k u v).trans (p3 a k u v)⟩
      · have e : (acc || anyF (htP mo S) (m + 1) j) = (true || anyF (htP mo S) m (j + 1)) := by rw [anyF_1 hh]; cases acc <;> rfl
        rw [pre, e, ← g1, b2t, e_157_15]
        rcases hacc with e | e <;> rw [e] <;> simp (disch := first | omega | (simp (disch := omega) only [n_ti, Int32.reduceToInt] <;> omega)) only [p1', e_157_98, e_157_106, e_157_111, n_add, nl_add, nr_add, n_mul, nl_mul, nr_mul, n_sub, nr_dec, n_div, nr_sub_1, nr_sub_2, nr_sub_3, nr_sub_4, nr_sub_7, nr_sub_10, nr_sub_11, nr_sub_20, nr_sub_48, nr_sub_97, nl_sub_3, nl_sub_4, nl_sub_12, nl_sub_24, nl_sub_32, nr_div_2, nr_div_4, z_lt, z_le, z_eq, z_cl, n_ti, Int.toNat_natCast, Int32.reduceToInt, Int32.reduceToNatClampNeg, zc_add, zc_sub, zc_add_1, zc_add_2, zc_add_3, zc_add_4, zc_add_8, zc_add_10, zc_add_12, zc_add_16, zc_add_20, zc_sub_1, zc_sub_2, zc_sub_4, zc_sub_10, zc_sub_20, zc_sub_48, zc_sub_97, zc_mul_4, t_ltZ, f_ltZ, t_leZ, f_leZ, t_eqZ, f_eqZ, t_ltN, f_ltN, t_leN, f_leN, t_eqN, f_eqN, ↓reduceIte, and_true, true_and, and_false, false_and, and_self, or_true, true_or, or_false, false_or, or_self, not_true_eq_false, not_false_eq_true, tu_same, tu_eq, tu_ne, b_V, b_I, b_J]
      · show MsB B' (feF mo b S m (j + 1) (if htP mo S j = true then adM l (b, 9, j) else l))
        rw [hh, if_pos rfl]
        exact g2
theorem m_158 {J : Nat → Nat → Int64} {τ : tm_Tu} {n b : Nat} {D : Nat → TD} {S : PS} (hS : SOk n D b S) (T : PS) (hT : ∀ p, pW (T p) = pW (S p) ∧ pD (T p) = pD (S p)) : ∀ m j (B : Nat → Nat → Int32), j + m = 6 → (∀ p, p < j → JmB B (b + 1) p (bkS (T p))) → (∀ p, j ≤ p → p < 6 → JmB B b p (S p)) → ∃ B', R_158 2 [(0, .ref 131), (1, .int (nI j))] [] (mk B J τ) = some (none, mk (tm_u B' 131 66 (B' 131 34)) J τ) ∧ PsB B' (b + 1) (fun p => bkS (T p)) ∧ (∀ a k, a ≠ 152 → a ≠ 154 → B' a k = B a k) := by
  intro m
  induction m with
  | zero =>
    intro j B hj h1 h2
    refine ⟨B, ?_, fun p hp => h1 p (by omega), fun _ _ _ _ => rfl⟩
    rw [e_158_2]
    simp (disch := first | omega | (simp (disch := omega) only [n_ti, Int32.reduceToInt] <;> omega)) only [n_add, nl_add, nr_add, n_mul, nl_mul, nr_mul, n_sub, nr_dec, n_div, nr_sub_1, nr_sub_2, nr_sub_3, nr_sub_4, nr_sub_7, nr_sub_10, nr_sub_11, nr_sub_20, nr_sub_48, nr_sub_97, nl_sub_3, nl_sub_4, nl_sub_12, nl_sub_24, nl_sub_32, nr_div_2, nr_div_4, z_lt, z_le, z_eq, z_cl, n_ti, Int.toNat_natCast, Int32.reduceToInt, Int32.reduceToNatClampNeg, zc_add, zc_sub, zc_add_1, zc_add_2, zc_add_3, zc_add_4, zc_add_8, zc_add_10, zc_add_12, zc_add_16, zc_add_20, zc_sub_1, zc_sub_2, zc_sub_4, zc_sub_10, zc_sub_20, zc_sub_48, zc_sub_97, zc_mul_4, t_ltZ, f_ltZ, t_leZ, f_leZ, t_eqZ, f_eqZ, t_ltN, f_ltN, t_leN, f_leN, t_eqN, f_eqN, ↓reduceIte, and_true, true_and, and_false, false_and, and_self, or_true, true_or, or_false, false_or, or_self, not_true_eq_false, not_false_eq_true, tu_same, tu_eq, tu_ne, b_V, b_I, b_J]
  | succ m ih =>
    intro j B hj h1 h2
    have hp : j < 6 := by omega
    obtain ⟨y0, y1, y3, y4⟩ := h2 j (Nat.le_refl _) hp
    obtain ⟨u1, u2⟩ := hT j
    have w1 := (hS j hp).1
    by_cases c : pW (S j) = 1
    · have y0' := y0
      rw [c] at y0'
      obtain ⟨B', g1, g2, g3⟩ := ih (j + 1) (tm_u (tm_u B 154 j (-1)) 152 j 0) (by omega) (fun p hp' => by
        by_cases e : p = j
        · subst e
          refine ⟨?_, fun v => ⟨?_, ?_⟩, ?_, fun v => absurd rfl v⟩
          · simp (disch := omega) only [tu_same, tu_eq, tu_ne]; show B 151 p = nI (pW (T p)); rw [u1]; exact y0
          · simp (disch := omega) only [tu_same, tu_eq, tu_ne]; rfl
          · simp (disch := omega) only [tu_same, tu_eq, tu_ne]; show B 153 p = nI (pD (T p)); rw [u2]; exact (y1 c).2
          · simp (disch := omega) only [tu_same, tu_eq, tu_ne]; rfl
        · exact (h1 p (by omega)).tr (fun a v => by simp (disch := omega) only [tu_same, tu_eq, tu_ne])) (fun p hp' hp6 => (h2 p (by omega) hp6).tr (fun a v => by simp (disch := omega) only [tu_same, tu_eq, tu_ne]))
      refine ⟨B', ?_, g2, fun a k v w => by rw [g3 a k v w]; simp (disch := omega) only [tu_same, tu_eq, tu_ne]⟩
      rw [← g1, e_158_2]
      simp (disch := first | omega | (simp (disch := omega) only [n_ti, Int32.reduceToInt] <;> omega)) only [y0', e_158_32, n_add, nl_add, nr_add, n_mul, nl_mul, nr_mul, n_sub, nr_dec, n_div, nr_sub_1, nr_sub_2, nr_sub_3, nr_sub_4, nr_sub_7, nr_sub_10, nr_sub_11, nr_sub_20, nr_sub_48, nr_sub_97, nl_sub_3, nl_sub_4, nl_sub_12, nl_sub_24, nl_sub_32, nr_div_2, nr_div_4, z_lt, z_le, z_eq, z_cl, n_ti, Int.toNat_natCast, Int32.reduceToInt, Int32.reduceToNatClampNeg, zc_add, zc_sub, zc_add_1, zc_add_2, zc_add_3, zc_add_4, zc_add_8, zc_add_10, zc_add_12, zc_add_16, zc_add_20, zc_sub_1, zc_sub_2, zc_sub_4, zc_sub_10, zc_sub_20, zc_sub_48, zc_sub_97, zc_mul_4, t_ltZ, f_ltZ, t_leZ, f_leZ, t_eqZ, f_eqZ, t_ltN, f_ltN, t_leN, f_leN, t_eqN, f_eqN, ↓reduceIte, and_true, true_and, and_false, false_and, and_self, or_true, true_or, or_false, false_or, or_self, not_true_eq_false, not_false_eq_true, tu_same, tu_eq, tu_ne, b_V, b_I, b_J]
    · obtain ⟨B', g1, g2, g3⟩ := ih (j + 1) (tm_u B 154 j (-1)) (by omega) (fun p hp' => by
        by_cases e : p = j
        · subst e
          refine ⟨?_, fun v => ?_, ?_, fun v => absurd rfl v⟩
          · simp (disch := omega) only [tu_same, tu_eq, tu_ne]; show B 151 p = nI (pW (T p)); rw [u1]; exact y0
          · have : pW (T p) = 1 := v
            rw [u1] at this
            exact absurd this c
          · simp (disch := omega) only [tu_same, tu_eq, tu_ne]; rfl
        · exact (h1 p (by omega)).tr (fun a v => by simp (disch := omega) only [tu_same, tu_eq, tu_ne])) (fun p hp' hp6 => (h2 p (by omega) hp6).tr (fun a v => by simp (disch := omega) only [tu_same, tu_eq, tu_ne]))
      refine ⟨B', ?_, g2, fun a k v w => by rw [g3 a k v w]; simp (disch := omega) only [tu_same, tu_eq, tu_ne]⟩
      rw [← g1, e_158_2]
      simp (disch := first | omega | (simp (disch := omega) only [n_ti, Int32.reduceToInt] <;> omega)) only [y0, e_158_32, n_add, nl_add, nr_add, n_mul, nl_mul, nr_mul, n_sub, nr_dec, n_div, nr_sub_1, nr_sub_2, nr_sub_3, nr_sub_4, nr_sub_7, nr_sub_10, nr_sub_11, nr_sub_20, nr_sub_48, nr_sub_97, nl_sub_3, nl_sub_4, nl_sub_12, nl_sub_24, nl_sub_32, nr_div_2, nr_div_4, z_lt, z_le, z_eq, z_cl, n_ti, Int.toNat_natCast, Int32.reduceToInt, Int32.reduceToNatClampNeg, zc_add, zc_sub, zc_add_1, zc_add_2, zc_add_3, zc_add_4, zc_add_8, zc_add_10, zc_add_12, zc_add_16, zc_add_20, zc_sub_1, zc_sub_2, zc_sub_4, zc_sub_10, zc_sub_20, zc_sub_48, zc_sub_97, zc_mul_4, t_ltZ, f_ltZ, t_leZ, f_leZ, t_eqZ, f_eqZ, t_ltN, f_ltN, t_leN, f_leN, t_eqN, f_eqN, ↓reduceIte, and_true, true_and, and_false, false_and, and_self, or_true, true_or, or_false, false_or, or_self, not_true_eq_false, not_false_eq_true, tu_same, tu_eq, tu_ne, b_V, b_I, b_J]
