/-! reading: all parts of a trick (model) -/
theorem m_parts {τ : tm_Tu} {s : Nat → Int} {n m : Nat} (hm : m < 24) : ∀ f (D : TD) (t : TK) (B : Nat → Nat → Int32) (J : Nat → Nat → Int64) (x : Int32), n - tQ t < f → MoS s n B J t → TrB B m D → TDok D → Fl x D → ∃ B' J', R_71 4 [(0, .ref 131), (1, .int (nI m)), (2, .int x), (3, .int 1)] [] (mk B J τ) = some (none, mk B' J' τ) ∧ (∀ a y, ¬ (a = 131 ∧ 4 ≤ y ∧ y ≤ 9) → ¬ inB m a y → B' a y = B a y) ∧ (∀ a y, ¬ (a = 131 ∧ y = 10) → J' a y = J a y) ∧ ((∃ e, pParts s n f D t = .inl e ∧ BadB B' e) ∨ (∃ D' t', pParts s n f D t = (if tK t' = 34 then .inr (D', nx s n t') else .inl (flt t' 2)) ∧ MoS s n B' J' t' ∧ TrB B' m D' ∧ TDok D')) := by
  intro f
  induction f with
  | zero => intro D t B J x h; omega
  | succ f ih =>
    intro D t B J x hf h hB hD hx
    by_cases k : tK t = 3 ∨ (5 ≤ tK t ∧ tK t ≤ 9)
    · obtain ⟨B1, J1, x1, g1, g2, g3⟩ := m_step (τ := τ) h hm hB hD hx k
      have ep : pParts s n (f + 1) D t = (match pStep s n D t with
        | .inl e => .inl e
        | .inr q => pParts s n f q.1 q.2) := if_neg (by omega)
      cases hs : pStep s n D t with
      | inl e =>
        rw [hs] at g2 ep
        obtain ⟨u1, u2, u3⟩ := g2
        refine ⟨B1, J1, ?_, u1, u2, Or.inl ⟨e, ep, u3⟩⟩
        rw [g1]
        exact m_71b u3
      | inr q =>
        rw [hs] at g2 ep
        obtain ⟨u1, u2, u3, u4⟩ := g2
        obtain ⟨v1, v2, v3⟩ := pStep_ok hD h.2.2.1 q hs
        have hq := v2.1
        obtain ⟨B2, J2, w1, w2, w3, w4⟩ := ih q.1 q.2 B1 J1 x1 (by omega) u3 u4 v1 (g3 q hs)
        refine ⟨B2, J2, g1.trans w1, fun a y c d => (w2 a y c d).trans (u1 a y c d), fun a y c => (w3 a y c).trans (u2 a y c), ?_⟩
        rw [ep]
        exact w4
    · have pre := m_71p (τ := τ) h hm hB hD hx (by omega) (by omega) (by omega) (by omega)
      have hK := h.2.2.1.2.2.2.1
      have j3 : F_69 [.ref 131, .long 427121668979] (mk B J τ) = some (some (.int 0), mk B J τ) := by rw [wc_3]; exact if_f h (by omega) (by omega)
      have j5 : F_69 [.ref 131, .long 7300710] (mk B J τ) = some (some (.int 0), mk B J τ) := by rw [wc_5]; exact if_f h (by omega) (by omega)
      have j6 : F_69 [.ref 131, .long 1953854062] (mk B J τ) = some (some (.int 0), mk B J τ) := by rw [wc_6]; exact if_f h (by omega) (by omega)
      have j7 : F_69 [.ref 131, .long 1718775661] (mk B J τ) = some (some (.int 0), mk B J τ) := by rw [wc_7]; exact if_f h (by omega) (by omega)
      have j8 : F_69 [.ref 131, .long 112568465714791] (mk B J τ) = some (some (.int 0), mk B J τ) := by rw [wc_8]; exact if_f h (by omega) (by omega)
      have j9 : F_69 [.ref 131, .long 418431069797] (mk B J τ) = some (some (.int 0), mk B J τ) := by rw [wc_9]; exact if_f h (by omega) (by omega)
      refine ⟨B, J, ?_, fun _ _ _ _ => rfl, fun _ _ _ => rfl, Or.inr ⟨D, t, ?_, h, hB, hD⟩⟩
      · rw [pre, e_71_106]
        simp (disch := first | omega | (simp (disch := omega) only [n_ti, Int32.reduceToInt] <;> omega)) only [j3, j5, j6, j7, j8, j9, e_71_117, e_71_136, e_71_202, e_71_229, e_71_316, e_71_341, e_71_356, n_add, nl_add, nr_add, n_mul, nl_mul, nr_mul, n_sub, nr_dec, n_div, nr_sub_1, nr_sub_2, nr_sub_3, nr_sub_4, nr_sub_7, nr_sub_10, nr_sub_11, nr_sub_20, nr_sub_48, nr_sub_97, nl_sub_3, nl_sub_4, nl_sub_12, nl_sub_24, nl_sub_32, nr_div_2, nr_div_4, z_lt, z_le, z_eq, z_cl, n_ti, Int.toNat_natCast, Int32.reduceToInt, Int32.reduceToNatClampNeg, zc_add, zc_sub, zc_add_1, zc_add_2, zc_add_3, zc_add_4, zc_add_8, zc_add_10, zc_add_12, zc_add_16, zc_add_20, zc_sub_1, zc_sub_2, zc_sub_4, zc_sub_10, zc_sub_20, zc_sub_48, zc_sub_97, zc_mul_4, t_ltZ, f_ltZ, t_leZ, f_leZ, t_eqZ, f_eqZ, t_ltN, f_ltN, t_leN, f_leN, t_eqN, f_eqN, ↓reduceIte, and_true, true_and, and_false, false_and, and_self, or_true, true_or, or_false, false_or, or_self, not_true_eq_false, not_false_eq_true, tu_same, tu_eq, tu_ne, b_V, b_I, b_J]
        rw [e_71_4]
        simp (disch := first | omega | (simp (disch := omega) only [n_ti, Int32.reduceToInt] <;> omega)) only [e_71_359, n_add, nl_add, nr_add, n_mul, nl_mul, nr_mul, n_sub, nr_dec, n_div, nr_sub_1, nr_sub_2, nr_sub_3, nr_sub_4, nr_sub_7, nr_sub_10, nr_sub_11, nr_sub_20, nr_sub_48, nr_sub_97, nl_sub_3, nl_sub_4, nl_sub_12, nl_sub_24, nl_sub_32, nr_div_2, nr_div_4, z_lt, z_le, z_eq, z_cl, n_ti, Int.toNat_natCast, Int32.reduceToInt, Int32.reduceToNatClampNeg, zc_add, zc_sub, zc_add_1, zc_add_2, zc_add_3, zc_add_4, zc_add_8, zc_add_10, zc_add_12, zc_add_16, zc_add_20, zc_sub_1, zc_sub_2, zc_sub_4, zc_sub_10, zc_sub_20, zc_sub_48, zc_sub_97, zc_mul_4, t_ltZ, f_ltZ, t_leZ, f_leZ, t_eqZ, f_eqZ, t_ltN, f_ltN, t_leN, f_leN, t_eqN, f_eqN, ↓reduceIte, and_true, true_and, and_false, false_and, and_self, or_true, true_or, or_false, false_or, or_self, not_true_eq_false, not_false_eq_true, tu_same, tu_eq, tu_ne, b_V, b_I, b_J]
      · have es : pStep s n D t = .inl (flt t 2) := by
          unfold pStep
          rw [if_neg (by omega), if_neg (by omega), if_neg (by omega), if_neg (by omega), if_neg (by omega)]
        unfold pParts
        rw [es]
