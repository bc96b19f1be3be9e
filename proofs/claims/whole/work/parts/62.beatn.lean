/-! reading: the beats of a mode (model) -/
theorem m_70 {τ : tm_Tu} {s : Nat → Int} {n m md : Nat} {B : Nat → Nat → Int32} {J : Nat → Nat → Int64} {t : TK} {D : TD} (h : MoS s n B J t) (hm : m < 24) (hB : TrB B m D) (hD : TDok D) (hmd : 1 ≤ md ∧ md ≤ 3) : ∃ B' J', F_70 [.ref 131, .int (nI m), .int (nI md)] (mk B J τ) = some (none, mk B' J' τ) ∧ PoB s n B B' J J' m (pMod1 s n md D t) := by
  have hD' := hD
  obtain ⟨o1, o2, -, -, -, -, o7, -⟩ := hD
  have q4 := hB.1
  have a1 := h.2.1.1
  unfold pMod1
  rw [e_70]
  rcases m_num (τ := τ) (lo := 0) (hi := dQ D - 1) h (by omega) (by omega) with ⟨f, hn, bad, num⟩ | ⟨hn, B1, J1, num, g2, g3⟩
  · rw [hn]
    have num' : F_67 [.ref 131, .int 0, .int (nI (dQ D - 1))] (mk B J τ) = some (some (.int 0), mk (tm_u (tm_u B 131 4 (nI f.1)) 131 5 (nI f.2)) J τ) := num
    have gb := m_bd (τ := τ) (J := J) bad
    refine ⟨_, J, ?_, fun a y u v => ?_, fun _ _ _ => rfl, bad⟩
    · simp (disch := first | omega | (simp (disch := omega) only [n_ti, Int32.reduceToInt] <;> omega)) only [q4, num', e_70_18, gb, e_70_24, e_70_48, e_70_52, n_add, nl_add, nr_add, n_mul, nl_mul, nr_mul, n_sub, nr_dec, n_div, nr_sub_1, nr_sub_2, nr_sub_3, nr_sub_4, nr_sub_7, nr_sub_10, nr_sub_11, nr_sub_20, nr_sub_48, nr_sub_97, nl_sub_3, nl_sub_4, nl_sub_12, nl_sub_24, nl_sub_32, nr_div_2, nr_div_4, z_lt, z_le, z_eq, z_cl, n_ti, Int.toNat_natCast, Int32.reduceToInt, Int32.reduceToNatClampNeg, zc_add, zc_sub, zc_add_1, zc_add_2, zc_add_3, zc_add_4, zc_add_8, zc_add_10, zc_add_12, zc_add_16, zc_add_20, zc_sub_1, zc_sub_2, zc_sub_4, zc_sub_10, zc_sub_20, zc_sub_48, zc_sub_97, zc_mul_4, t_ltZ, f_ltZ, t_leZ, f_leZ, t_eqZ, f_eqZ, t_ltN, f_ltN, t_leN, f_leN, t_eqN, f_eqN, ↓reduceIte, and_true, true_and, and_false, false_and, and_self, or_true, true_or, or_false, false_or, or_self, not_true_eq_false, not_false_eq_true, tu_same, tu_eq, tu_ne, b_V, b_I, b_J]
    · simp (disch := omega) only [tu_same, tu_eq, tu_ne]
  · rw [hn]
    obtain ⟨n1, n2, n3⟩ := nf_none hn
    have num' : F_67 [.ref 131, .int 0, .int (nI (dQ D - 1))] (mk B J τ) = some (some (.int (nI (tV t))), mk B1 J1 τ) := num
    have hB1 := hB.mo g3
    have hg := m_gd (τ := τ) (J := J1) g2.2.2.2
    have hm8 := hB1.2.2.2.2.2.2.2 (tV t) (by omega)
    have hd := o7 (tV t) (by omega)
    show ∃ B' J', _ ∧ PoB s n B B' J J' m (if dM D (tV t) = 0 then _ else _)
    by_cases c0 : dM D (tV t) = 0
    · rw [if_pos c0]
      have hv : (B1 142 (8 * m + tV t)).toInt = -1 := by
        rcases hm8 with e | e
        · rw [e.2]; rfl
        · omega
      have hB2 := trb_M (md := md) (j := tV t) hB1 (by omega) hmd.1
      have hS2 : MoS s n (tm_u B1 142 (8 * m + tV t) (nI md)) J1 (nx s n t) := g2.tr (fun a y u => by simp (disch := omega) only [tu_same, tu_eq, tu_ne]) rfl
      unfold pMod2
      rcases m_if (τ := τ) (w := 4) hS2 (by omega) with ⟨k4, B3, J3, i1, i2, i3⟩ | ⟨k4, i1⟩
      · rw [if_pos k4]
        rw [← wc_4] at i1
        have hB3 := hB2.mo i3
        have q3 : B3 137 m = nI (dQ D) := hB3.1
        have a3 := i2.2.1.1
        have eq : dQ (sM D (mset (dM D) (tV t) (tV t) md)) = dQ D := rfl
        rw [eq]
        rcases m_num (τ := τ) (lo := tV t) (hi := dQ D - 1) i2 (by omega) (by omega) with ⟨f, hn2, bad, num2⟩ | ⟨hn2, B4, J4, num2, j2, j3⟩
        · rw [hn2]
          have lb := l_70b (τ := τ) (J := J3) (m := m) (md := md) (p := tQ (nx s n (nx s n t))) (hi := tV t) (j := tV t + 1) bad
          refine ⟨_, J3, ?_, fun a y u v => ?_, fun a y u => ?_, bad⟩
          · rw [← lb]
            simp (disch := first | omega | (simp (disch := omega) only [n_ti, Int32.reduceToInt] <;> omega)) only [q4, num', e_70_18, hg, e_70_24, hv, e_70_48, e_70_52, i1, e_70_76, q3, num2, e_70_99, a3, n_add, nl_add, nr_add, n_mul, nl_mul, nr_mul, n_sub, nr_dec, n_div, nr_sub_1, nr_sub_2, nr_sub_3, nr_sub_4, nr_sub_7, nr_sub_10, nr_sub_11, nr_sub_20, nr_sub_48, nr_sub_97, nl_sub_3, nl_sub_4, nl_sub_12, nl_sub_24, nl_sub_32, nr_div_2, nr_div_4, z_lt, z_le, z_eq, z_cl, n_ti, Int.toNat_natCast, Int32.reduceToInt, Int32.reduceToNatClampNeg, zc_add, zc_sub, zc_add_1, zc_add_2, zc_add_3, zc_add_4, zc_add_8, zc_add_10, zc_add_12, zc_add_16, zc_add_20, zc_sub_1, zc_sub_2, zc_sub_4, zc_sub_10, zc_sub_20, zc_sub_48, zc_sub_97, zc_mul_4, t_ltZ, f_ltZ, t_leZ, f_leZ, t_eqZ, f_eqZ, t_ltN, f_ltN, t_leN, f_leN, t_eqN, f_eqN, ↓reduceIte, and_true, true_and, and_false, false_and, and_self, or_true, true_or, or_false, false_or, or_self, not_true_eq_false, not_false_eq_true, tu_same, tu_eq, tu_ne, b_V, b_I, b_J]
          · simp (disch := omega) only [tu_same, tu_eq, tu_ne]
            rw [i3.1 a y u]
            have : ¬ (a = 142 ∧ 8 * m ≤ y ∧ y < 8 * m + 8) := fun e => v (Or.inr (Or.inr e))
            simp (disch := omega) only [tu_same, tu_eq, tu_ne]
            exact g3.1 a y u
          · rw [i3.2 a y u, g3.2 a y u]
        · rw [hn2]
          obtain ⟨u1, u2, u3⟩ := nf_none hn2
          have hB4 := hB3.mo j3
          obtain ⟨B5, p1, p2, p3, p4⟩ := l_70 (τ := τ) (s := s) (n := n) (m := m) (hi := tV (nx s n (nx s n t))) (md := md) (p := tQ (nx s n (nx s n t))) (J := J4) (t := nx s n (nx s n (nx s n t))) hm (by omega) hmd (tV (nx s n (nx s n t)) - tV t) (tV t + 1) (sM D (mset (dM D) (tV t) (tV t) md)) B4 (by omega) (TDok_M hD' hmd.2).2.2.2.2.2.2.1 j2 hB4
          refine ⟨B5, J4, ?_, fun a y u v => ?_, fun a y u => ?_, ?_⟩
          · rw [← p1]
            simp (disch := first | omega | (simp (disch := omega) only [n_ti, Int32.reduceToInt] <;> omega)) only [q4, num', e_70_18, hg, e_70_24, hv, e_70_48, e_70_52, i1, e_70_76, q3, num2, e_70_99, a3, n_add, nl_add, nr_add, n_mul, nl_mul, nr_mul, n_sub, nr_dec, n_div, nr_sub_1, nr_sub_2, nr_sub_3, nr_sub_4, nr_sub_7, nr_sub_10, nr_sub_11, nr_sub_20, nr_sub_48, nr_sub_97, nl_sub_3, nl_sub_4, nl_sub_12, nl_sub_24, nl_sub_32, nr_div_2, nr_div_4, z_lt, z_le, z_eq, z_cl, n_ti, Int.toNat_natCast, Int32.reduceToInt, Int32.reduceToNatClampNeg, zc_add, zc_sub, zc_add_1, zc_add_2, zc_add_3, zc_add_4, zc_add_8, zc_add_10, zc_add_12, zc_add_16, zc_add_20, zc_sub_1, zc_sub_2, zc_sub_4, zc_sub_10, zc_sub_20, zc_sub_48, zc_sub_97, zc_mul_4, t_ltZ, f_ltZ, t_leZ, f_leZ, t_eqZ, f_eqZ, t_ltN, f_ltN, t_leN, f_leN, t_eqN, f_eqN, ↓reduceIte, and_true, true_and, and_false, false_and, and_self, or_true, true_or, or_false, false_or, or_self, not_true_eq_false, not_false_eq_true, tu_same, tu_eq, tu_ne, b_V, b_I, b_J]
          · have : ¬ (a = 142 ∧ 8 * m ≤ y ∧ y < 8 * m + 8) := fun e => v (Or.inr (Or.inr e))
            rw [p2 a y (by omega) this, j3.1 a y u, i3.1 a y u]
            simp (disch := omega) only [tu_same, tu_eq, tu_ne]
            exact g3.1 a y u
          · rw [j3.2 a y u, i3.2 a y u, g3.2 a y u]
          · have e5 : flt (nx s n (nx s n t)) 5 = (5, tQ (nx s n (nx s n t))) := by
              unfold flt
              rw [if_neg (by omega)]
            have hgo : match (if mfree (dM (sM D (mset (dM D) (tV t) (tV t) md))) (tV t + 1) (tV (nx s n (nx s n t)) - tV t) = true then (Sum.inr (sM (sM D (mset (dM D) (tV t) (tV t) md)) (mset (dM (sM D (mset (dM D) (tV t) (tV t) md))) (tV t + 1) (tV (nx s n (nx s n t))) md), nx s n (nx s n (nx s n t))) : PR) else .inl (flt (nx s n (nx s n t)) 5)) with
                | .inl f => BadB B5 f
                | .inr q => MoS s n B5 J4 q.2 ∧ TrB B5 m q.1 := by
              cases hmf : mfree (dM (sM D (mset (dM D) (tV t) (tV t) md))) (tV t + 1) (tV (nx s n (nx s n t)) - tV t) with
              | true => rw [if_pos rfl]; exact p3 hmf
              | false => rw [if_neg Bool.false_ne_true, e5]; exact p4 hmf
            exact hgo
      · rw [if_neg k4]
        rw [← wc_4] at i1
        refine ⟨_, J1, ?_, fun a y u v => ?_, g3.2, hS2, hB2⟩
        · simp (disch := first | omega | (simp (disch := omega) only [n_ti, Int32.reduceToInt] <;> omega)) only [q4, num', e_70_18, hg, e_70_24, hv, e_70_48, e_70_52, i1, e_70_76, n_add, nl_add, nr_add, n_mul, nl_mul, nr_mul, n_sub, nr_dec, n_div, nr_sub_1, nr_sub_2, nr_sub_3, nr_sub_4, nr_sub_7, nr_sub_10, nr_sub_11, nr_sub_20, nr_sub_48, nr_sub_97, nl_sub_3, nl_sub_4, nl_sub_12, nl_sub_24, nl_sub_32, nr_div_2, nr_div_4, z_lt, z_le, z_eq, z_cl, n_ti, Int.toNat_natCast, Int32.reduceToInt, Int32.reduceToNatClampNeg, zc_add, zc_sub, zc_add_1, zc_add_2, zc_add_3, zc_add_4, zc_add_8, zc_add_10, zc_add_12, zc_add_16, zc_add_20, zc_sub_1, zc_sub_2, zc_sub_4, zc_sub_10, zc_sub_20, zc_sub_48, zc_sub_97, zc_mul_4, t_ltZ, f_ltZ, t_leZ, f_leZ, t_eqZ, f_eqZ, t_ltN, f_ltN, t_leN, f_leN, t_eqN, f_eqN, ↓reduceIte, and_true, true_and, and_false, false_and, and_self, or_true, true_or, or_false, false_or, or_self, not_true_eq_false, not_false_eq_true, tu_same, tu_eq, tu_ne, b_V, b_I, b_J]
        · have : ¬ (a = 142 ∧ 8 * m ≤ y ∧ y < 8 * m + 8) := fun e => v (Or.inr (Or.inr e))
          simp (disch := omega) only [tu_same, tu_eq, tu_ne]
          exact g3.1 a y u
    · rw [if_neg c0]
      have hv : B1 142 (8 * m + tV t) = nI (dM D (tV t)) := by
        rcases hm8 with e | e
        · exact absurd e.1 c0
        · exact e.2
      have e5 : flt t 5 = (5, tQ t) := by
        unfold flt
        rw [if_neg (by omega)]
      have fl : F_63 [.ref 131, .int 5, .int (nI (tQ t))] (mk B1 J1 τ) = _ := m_fail (τ := τ) (J := J1) (x := 5) (y := nI (tQ t)) g2.2.2.2
      have bad : BadB (tm_u (tm_u B1 131 4 5) 131 5 (nI (tQ t))) (5, tQ t) := ⟨by simp (disch := omega) only [tu_same, tu_eq, tu_ne]; rfl, by simp (disch := omega) only [tu_same, tu_eq, tu_ne], by omega, by omega, by obtain ⟨q, q1, q2⟩ := g2.p; exact ⟨q, q1, by simp (disch := omega) only [q2, tu_same, tu_eq, tu_ne]⟩⟩
      have gb := m_bd (τ := τ) (J := J1) bad
      rw [e5]
      refine ⟨tm_u (tm_u B1 131 4 5) 131 5 (nI (tQ t)), J1, ?_, fun a y u v => ?_, g3.2, bad⟩
      · simp (disch := first | omega | (simp (disch := omega) only [n_ti, Int32.reduceToInt] <;> omega)) only [q4, a1, num', e_70_18, hg, e_70_24, hv, fl, e_70_48, gb, e_70_52, n_add, nl_add, nr_add, n_mul, nl_mul, nr_mul, n_sub, nr_dec, n_div, nr_sub_1, nr_sub_2, nr_sub_3, nr_sub_4, nr_sub_7, nr_sub_10, nr_sub_11, nr_sub_20, nr_sub_48, nr_sub_97, nl_sub_3, nl_sub_4, nl_sub_12, nl_sub_24, nl_sub_32, nr_div_2, nr_div_4, z_lt, z_le, z_eq, z_cl, n_ti, Int.toNat_natCast, Int32.reduceToInt, Int32.reduceToNatClampNeg, zc_add, zc_sub, zc_add_1, zc_add_2, zc_add_3, zc_add_4, zc_add_8, zc_add_10, zc_add_12, zc_add_16, zc_add_20, zc_sub_1, zc_sub_2, zc_sub_4, zc_sub_10, zc_sub_20, zc_sub_48, zc_sub_97, zc_mul_4, t_ltZ, f_ltZ, t_leZ, f_leZ, t_eqZ, f_eqZ, t_ltN, f_ltN, t_leN, f_leN, t_eqN, f_eqN, ↓reduceIte, and_true, true_and, and_false, false_and, and_self, or_true, true_or, or_false, false_or, or_self, not_true_eq_false, not_false_eq_true, tu_same, tu_eq, tu_ne, b_V, b_I, b_J]
      · simp (disch := omega) only [tu_same, tu_eq, tu_ne]
        exact g3.1 a y u
