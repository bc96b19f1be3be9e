/-! routine: an act (model) -/
theorem y_339 {τ : tm_Tu} {s : Nat → Int} {n i v w : Nat} {B0 B : Nat → Nat → Int32} {J0 J : Nat → Nat → Int64} {t : TK} (hi : i < 120) (h : MoS s n B J t) (hf : fA B0 B i) (hj : ∀ a y, ¬ (a = 131 ∧ y = 10) → J a y = J0 a y) (h147 : B 147 i = nI v) (h148 : B 148 i = nI (ac w)) (h150 : B 150 i = 0) : ∃ B' J', R_80 319 [(0, .ref 131), (1, .int (nI i))] [] (mk B J τ) = R_80 369 [(0, .ref 131)] [] (mk B' J' τ) ∧ PoAc s n B0 B' J0 J' i v (if tK t = 21 then .inr ((w, 0, 0), nx s n t) else if tK t = 22 then .inr ((w, 1, 0), nx s n t) else .inl (flt t 2)) := by
  by_cases c1 : tK t = 21
  · rw [if_pos c1]
    have h' : MoS s n (tm_u B 149 i 0) J t := h.tr (fun a y u => by simp (disch := omega) only [tu_same, tu_eq, tu_ne]) rfl
    have i1 : F_62 [.ref 131, .long 1818584692] (mk B J τ) = some (some (.int 1), mk B J τ) := by rw [wc_21]; exact is_t h (by omega) c1
    have i2 : F_62 [.ref 131, .long 1818584692] (mk (tm_u B 149 i 0) J τ) = some (some (.int 1), mk (tm_u B 149 i 0) J τ) := by rw [wc_21]; exact is_t h' (by omega) c1
    obtain ⟨B3, J3, q1, q2, q3⟩ := m_must1 (τ := τ) h' (by omega)
    refine ⟨B3, J3, ?_, (hf.u 149 0 (by omega)).mo q3, fun a y u => (q3.2 a y u).trans (hj a y u), q2, ?_, ?_, ?_, ?_⟩
    · rw [e_80_319]
      simp (disch := first | omega | (simp (disch := omega) only [n_ti, Int32.reduceToInt] <;> omega)) only [i1, e_80_331, e_80_339, i2, e_80_348, e_80_361, e_80_366, q1, n_add, nl_add, nr_add, n_mul, nl_mul, nr_mul, n_sub, nr_dec, n_div, nr_sub_1, nr_sub_2, nr_sub_3, nr_sub_4, nr_sub_7, nr_sub_10, nr_sub_11, nr_sub_20, nr_sub_48, nr_sub_97, nl_sub_3, nl_sub_4, nl_sub_12, nl_sub_24, nl_sub_32, nr_div_2, nr_div_4, z_lt, z_le, z_eq, z_cl, n_ti, Int.toNat_natCast, Int32.reduceToInt, Int32.reduceToNatClampNeg, zc_add, zc_sub, zc_add_1, zc_add_2, zc_add_3, zc_add_4, zc_add_8, zc_add_10, zc_add_12, zc_add_16, zc_add_20, zc_sub_1, zc_sub_2, zc_sub_4, zc_sub_10, zc_sub_20, zc_sub_48, zc_sub_97, zc_mul_4, t_ltZ, f_ltZ, t_leZ, f_leZ, t_eqZ, f_eqZ, t_ltN, f_ltN, t_leN, f_leN, t_eqN, f_eqN, ↓reduceIte, and_true, true_and, and_false, false_and, and_self, or_true, true_or, or_false, false_or, or_self, not_true_eq_false, not_false_eq_true, tu_same, tu_eq, tu_ne, b_V, b_I, b_J]
    · rw [q3.1 _ _ (by omega)]; simp (disch := omega) only [h147, tu_same, tu_eq, tu_ne]
    · rw [q3.1 _ _ (by omega)]; simp (disch := omega) only [h148, tu_same, tu_eq, tu_ne]
    · rw [q3.1 _ _ (by omega)]; simp (disch := omega) only [tu_same, tu_eq, tu_ne]; rfl
    · rw [q3.1 _ _ (by omega)]; simp (disch := omega) only [h150, tu_same, tu_eq, tu_ne]; rfl
  · rw [if_neg c1]
    have h' : MoS s n (tm_u B 149 i 1) J t := h.tr (fun a y u => by simp (disch := omega) only [tu_same, tu_eq, tu_ne]) rfl
    have i1 : F_62 [.ref 131, .long 1818584692] (mk B J τ) = some (some (.int 0), mk B J τ) := by rw [wc_21]; exact is_f h (by omega) c1
    have i2 : F_62 [.ref 131, .long 1818584692] (mk (tm_u B 149 i 1) J τ) = some (some (.int 0), mk (tm_u B 149 i 1) J τ) := by rw [wc_21]; exact is_f h' (by omega) c1
    by_cases c2 : tK t = 22
    · rw [if_pos c2]
      have i3 : F_62 [.ref 131, .long 491394656372] (mk (tm_u B 149 i 1) J τ) = some (some (.int 1), mk (tm_u B 149 i 1) J τ) := by rw [wc_22]; exact is_t h' (by omega) c2
      obtain ⟨B3, J3, q1, q2, q3⟩ := m_must1 (τ := τ) h' (by omega)
      refine ⟨B3, J3, ?_, (hf.u 149 1 (by omega)).mo q3, fun a y u => (q3.2 a y u).trans (hj a y u), q2, ?_, ?_, ?_, ?_⟩
      · rw [e_80_319]
        simp (disch := first | omega | (simp (disch := omega) only [n_ti, Int32.reduceToInt] <;> omega)) only [i1, e_80_331, e_80_339, i2, e_80_348, i3, e_80_358, e_80_361, e_80_366, q1, n_add, nl_add, nr_add, n_mul, nl_mul, nr_mul, n_sub, nr_dec, n_div, nr_sub_1, nr_sub_2, nr_sub_3, nr_sub_4, nr_sub_7, nr_sub_10, nr_sub_11, nr_sub_20, nr_sub_48, nr_sub_97, nl_sub_3, nl_sub_4, nl_sub_12, nl_sub_24, nl_sub_32, nr_div_2, nr_div_4, z_lt, z_le, z_eq, z_cl, n_ti, Int.toNat_natCast, Int32.reduceToInt, Int32.reduceToNatClampNeg, zc_add, zc_sub, zc_add_1, zc_add_2, zc_add_3, zc_add_4, zc_add_8, zc_add_10, zc_add_12, zc_add_16, zc_add_20, zc_sub_1, zc_sub_2, zc_sub_4, zc_sub_10, zc_sub_20, zc_sub_48, zc_sub_97, zc_mul_4, t_ltZ, f_ltZ, t_leZ, f_leZ, t_eqZ, f_eqZ, t_ltN, f_ltN, t_leN, f_leN, t_eqN, f_eqN, ↓reduceIte, and_true, true_and, and_false, false_and, and_self, or_true, true_or, or_false, false_or, or_self, not_true_eq_false, not_false_eq_true, tu_same, tu_eq, tu_ne, b_V, b_I, b_J]
      · rw [q3.1 _ _ (by omega)]; simp (disch := omega) only [h147, tu_same, tu_eq, tu_ne]
      · rw [q3.1 _ _ (by omega)]; simp (disch := omega) only [h148, tu_same, tu_eq, tu_ne]
      · rw [q3.1 _ _ (by omega)]; simp (disch := omega) only [tu_same, tu_eq, tu_ne]; rfl
      · rw [q3.1 _ _ (by omega)]; simp (disch := omega) only [h150, tu_same, tu_eq, tu_ne]; rfl
    · rw [if_neg c2]
      have i3 : F_62 [.ref 131, .long 491394656372] (mk (tm_u B 149 i 1) J τ) = some (some (.int 0), mk (tm_u B 149 i 1) J τ) := by rw [wc_22]; exact is_f h' (by omega) c2
      have wr := m_mustN (τ := τ) h'
      have bad := BadB.of h' 2 (by omega) (by omega)
      refine ⟨_, J, ?_, (hf.u 149 1 (by omega)).b _ _, hj, bad⟩
      rw [e_80_319]
      simp (disch := first | omega | (simp (disch := omega) only [n_ti, Int32.reduceToInt] <;> omega)) only [i1, e_80_331, e_80_339, i2, e_80_348, i3, e_80_358, e_80_366, wr, n_add, nl_add, nr_add, n_mul, nl_mul, nr_mul, n_sub, nr_dec, n_div, nr_sub_1, nr_sub_2, nr_sub_3, nr_sub_4, nr_sub_7, nr_sub_10, nr_sub_11, nr_sub_20, nr_sub_48, nr_sub_97, nl_sub_3, nl_sub_4, nl_sub_12, nl_sub_24, nl_sub_32, nr_div_2, nr_div_4, z_lt, z_le, z_eq, z_cl, n_ti, Int.toNat_natCast, Int32.reduceToInt, Int32.reduceToNatClampNeg, zc_add, zc_sub, zc_add_1, zc_add_2, zc_add_3, zc_add_4, zc_add_8, zc_add_10, zc_add_12, zc_add_16, zc_add_20, zc_sub_1, zc_sub_2, zc_sub_4, zc_sub_10, zc_sub_20, zc_sub_48, zc_sub_97, zc_mul_4, t_ltZ, f_ltZ, t_leZ, f_leZ, t_eqZ, f_eqZ, t_ltN, f_ltN, t_leN, f_leN, t_eqN, f_eqN, ↓reduceIte, and_true, true_and, and_false, false_and, and_self, or_true, true_or, or_false, false_or, or_self, not_true_eq_false, not_false_eq_true, tu_same, tu_eq, tu_ne, b_V, b_I, b_J]
theorem nI_and1 (r : Nat) (h : r ≤ 1) : nI r &&& 1 = nI r := by
  have : r = 0 ∨ r = 1 := by omega
  rcases this with e | e <;> subst e <;> decide
set_option maxHeartbeats 1000000 in
theorem y_249 {τ : tm_Tu} {s : Nat → Int} {n i v bk m : Nat} {nm : Nat → List Nat} {B0 B : Nat → Nat → Int32} {J0 J : Nat → Nat → Int64} {t : TK} (hi : i < 120) (h : MoS s n B J t) (hf : fA B0 B i) (hj : ∀ a y, ¬ (a = 131 ∧ y = 10) → J a y = J0 a y) (h147 : B 147 i = nI v) (h148 : B 148 i = nI 2) (h150 : B 150 i = 0) (hbk : bk < 2) (h21 : B 131 21 = nI bk) (hm : m ≤ 12) (h135 : B 135 bk = nI m) (hN : NmB J bk m nm) : ∃ B' J', R_80 224 [(0, .ref 131), (1, .int (nI i))] [.int 1] (mk B J τ) = R_80 369 [(0, .ref 131)] [] (mk B' J' τ) ∧ PoAc s n B0 B' J0 J' i v (if tK t = 30 then (if (fnd nm (tL t) m 0).toInt = -1 then .inl (flt t 5) else if tK (nx s n t) = 19 then .inr ((18, (fnd nm (tL t) m 0).toInt.toNat, 1), nx s n (nx s n t)) else .inr ((18, (fnd nm (tL t) m 0).toInt.toNat, 0), nx s n t)) else .inl (flt t 2)) := by
  have hg := m_gd (τ := τ) (J := J) h.2.2.2
  have a61 := h.2.1.1
  by_cases c1 : tK t = 30
  · rw [if_pos c1]
    obtain ⟨b8, b10⟩ := h.2.1.2.2.2.1 c1
    obtain ⟨l1, l2⟩ := h.2.2.1.2.2.2.2.2.2 (Or.inr c1)
    have f65 := m_65 (τ := τ) hbk hm h135 hN l1 l2
    have h' : ∀ x : Int32, MoS s n (tm_u B 149 i x) J t := fun x => h.tr (fun a y u => by simp (disch := omega) only [tu_same, tu_eq, tu_ne]) rfl
    have hg' : ∀ x : Int32, F_61 [.ref 131] (mk (tm_u B 149 i x) J τ) = some (some (.int 1), mk (tm_u B 149 i x) J τ) := fun x => m_gd (h' x).2.2.2
    rcases fnd_c nm (tL t) m 0 (by omega) with ⟨e1, e2⟩ | ⟨k, u1, u2, u3, -⟩
    · rw [if_pos e2]
      rw [e1] at f65
      have hfl : flt t 5 = (5, tQ t) := by unfold flt; rw [if_neg (by omega)]
      have fl : F_63 [.ref 131, .int 5, .int (nI (tQ t))] (mk (tm_u B 149 i (-1)) J τ) = _ := m_fail (τ := τ) (J := J) (x := 5) (y := nI (tQ t)) (h' (-1)).2.2.2
      have bad : BadB (tm_u (tm_u (tm_u B 149 i (-1)) 131 4 5) 131 5 (nI (tQ t))) (5, tQ t) := ⟨by simp (disch := omega) only [tu_same, tu_eq, tu_ne]; rfl, by simp (disch := omega) only [tu_same, tu_eq, tu_ne], by omega, by omega, by obtain ⟨q, q1, q2⟩ := h.p; exact ⟨q, q1, by simp (disch := omega) only [q2, tu_same, tu_eq, tu_ne]⟩⟩
      have fin := x_292 (τ := τ) (J := J) hi bad
      rw [hfl]
      refine ⟨_, J, ?_, ((hf.u 149 (-1) (by omega)).b _ _).u 150 0 (by omega), hj, bad.u 150 i 0 (by omega)⟩
      rw [← fin, e_80_224]
      simp (disch := first | omega | (simp (disch := omega) only [n_ti, Int32.reduceToInt] <;> omega)) only [h148, b8, e_80_249, h21, b10, f65, e_80_266, hg' (-1), e_80_271, a61, fl, n_add, nl_add, nr_add, n_mul, nl_mul, nr_mul, n_sub, nr_dec, n_div, nr_sub_1, nr_sub_2, nr_sub_3, nr_sub_4, nr_sub_7, nr_sub_10, nr_sub_11, nr_sub_20, nr_sub_48, nr_sub_97, nl_sub_3, nl_sub_4, nl_sub_12, nl_sub_24, nl_sub_32, nr_div_2, nr_div_4, z_lt, z_le, z_eq, z_cl, n_ti, Int.toNat_natCast, Int32.reduceToInt, Int32.reduceToNatClampNeg, zc_add, zc_sub, zc_add_1, zc_add_2, zc_add_3, zc_add_4, zc_add_8, zc_add_10, zc_add_12, zc_add_16, zc_add_20, zc_sub_1, zc_sub_2, zc_sub_4, zc_sub_10, zc_sub_20, zc_sub_48, zc_sub_97, zc_mul_4, t_ltZ, f_ltZ, t_leZ, f_leZ, t_eqZ, f_eqZ, t_ltN, f_ltN, t_leN, f_leN, t_eqN, f_eqN, ↓reduceIte, and_true, true_and, and_false, false_and, and_self, or_true, true_or, or_false, false_or, or_self, not_true_eq_false, not_false_eq_true, tu_same, tu_eq, tu_ne, b_V, b_I, b_J]
    · rw [u3] at f65 ⊢
      have ti : (nI k).toInt = k := n_ti (by omega)
      have tn : (nI k).toInt.toNat = k := by rw [ti]; omega
      have ne : ¬ (nI k).toInt = -1 := by omega
      rw [if_neg ne, tn]
      obtain ⟨B1, J1, n1, n2, n3, n4⟩ := m_next (τ := τ) (h' (nI k)) (by omega)
      have st : R_80 224 [(0, .ref 131), (1, .int (nI i))] [.int 1] (mk B J τ) = R_80 303 [(0, .ref 131), (1, .int (nI i))] [] (mk B1 J1 τ) := by
        rw [e_80_224]
        simp (disch := first | omega | (simp (disch := omega) only [n_ti, Int32.reduceToInt] <;> omega)) only [h148, b8, e_80_249, h21, b10, f65, e_80_266, hg' (nI k), e_80_271, e_80_292, e_80_296, n1, n_add, nl_add, nr_add, n_mul, nl_mul, nr_mul, n_sub, nr_dec, n_div, nr_sub_1, nr_sub_2, nr_sub_3, nr_sub_4, nr_sub_7, nr_sub_10, nr_sub_11, nr_sub_20, nr_sub_48, nr_sub_97, nl_sub_3, nl_sub_4, nl_sub_12, nl_sub_24, nl_sub_32, nr_div_2, nr_div_4, z_lt, z_le, z_eq, z_cl, n_ti, Int.toNat_natCast, Int32.reduceToInt, Int32.reduceToNatClampNeg, zc_add, zc_sub, zc_add_1, zc_add_2, zc_add_3, zc_add_4, zc_add_8, zc_add_10, zc_add_12, zc_add_16, zc_add_20, zc_sub_1, zc_sub_2, zc_sub_4, zc_sub_10, zc_sub_20, zc_sub_48, zc_sub_97, zc_mul_4, t_ltZ, f_ltZ, t_leZ, f_leZ, t_eqZ, f_eqZ, t_ltN, f_ltN, t_leN, f_leN, t_eqN, f_eqN, ↓reduceIte, and_true, true_and, and_false, false_and, and_self, or_true, true_or, or_false, false_or, or_self, not_true_eq_false, not_false_eq_true, tu_same, tu_eq, tu_ne, b_V, b_I, b_J]
      have f1 : fA B0 B1 i := fun a y u w => by
        rw [n3 a y (by omega)]
        simp (disch := omega) only [tu_same, tu_eq, tu_ne]
        exact hf a y u w
      have j1 : ∀ a y, ¬ (a = 131 ∧ y = 10) → J1 a y = J0 a y := fun a y u => (n4 a y u).trans (hj a y u)
      have z147 : B1 147 i = nI v := by rw [n3 _ _ (by omega)]; simp (disch := omega) only [h147, tu_same, tu_eq, tu_ne]
      have z148 : B1 148 i = nI (ac 18) := by rw [n3 _ _ (by omega)]; simp (disch := omega) only [h148, tu_same, tu_eq, tu_ne]; rfl
      have z149 : B1 149 i = nI k := by rw [n3 _ _ (by omega)]; simp (disch := omega) only [tu_same, tu_eq, tu_ne]
      rcases m_if (τ := τ) (w := 19) n2 (by omega) with ⟨ck, B2, J2, p1, p2, p3⟩ | ⟨ck, p1⟩
      · rw [if_pos ck]
        rw [← wc_19] at p1
        refine ⟨tm_u B2 150 i 1, J2, ?_, (f1.mo p3).u 150 1 (by omega), fun a y u => (p3.2 a y u).trans (j1 a y u), p2.tr (fun a y u => by simp (disch := omega) only [tu_same, tu_eq, tu_ne]) rfl, ?_, ?_, ?_, ?_⟩
        · rw [st, e_80_303]
          have e : (1 : Int32) &&& 1 = 1 := by decide
          simp (disch := first | omega | (simp (disch := omega) only [n_ti, Int32.reduceToInt] <;> omega)) only [p1, e_80_315, e, n_add, nl_add, nr_add, n_mul, nl_mul, nr_mul, n_sub, nr_dec, n_div, nr_sub_1, nr_sub_2, nr_sub_3, nr_sub_4, nr_sub_7, nr_sub_10, nr_sub_11, nr_sub_20, nr_sub_48, nr_sub_97, nl_sub_3, nl_sub_4, nl_sub_12, nl_sub_24, nl_sub_32, nr_div_2, nr_div_4, z_lt, z_le, z_eq, z_cl, n_ti, Int.toNat_natCast, Int32.reduceToInt, Int32.reduceToNatClampNeg, zc_add, zc_sub, zc_add_1, zc_add_2, zc_add_3, zc_add_4, zc_add_8, zc_add_10, zc_add_12, zc_add_16, zc_add_20, zc_sub_1, zc_sub_2, zc_sub_4, zc_sub_10, zc_sub_20, zc_sub_48, zc_sub_97, zc_mul_4, t_ltZ, f_ltZ, t_leZ, f_leZ, t_eqZ, f_eqZ, t_ltN, f_ltN, t_leN, f_leN, t_eqN, f_eqN, ↓reduceIte, and_true, true_and, and_false, false_and, and_self, or_true, true_or, or_false, false_or, or_self, not_true_eq_false, not_false_eq_true, tu_same, tu_eq, tu_ne, b_V, b_I, b_J]
        · simp (disch := omega) only [tu_same, tu_eq, tu_ne]; rw [p3.1 _ _ (by omega)]; exact z147
        · simp (disch := omega) only [tu_same, tu_eq, tu_ne]; rw [p3.1 _ _ (by omega)]; exact z148
        · simp (disch := omega) only [tu_same, tu_eq, tu_ne]; rw [p3.1 _ _ (by omega)]; exact z149
        · simp (disch := omega) only [tu_same, tu_eq, tu_ne]; rfl
      · rw [if_neg ck]
        rw [← wc_19] at p1
        refine ⟨tm_u B1 150 i 0, J1, ?_, f1.u 150 0 (by omega), j1, n2.tr (fun a y u => by simp (disch := omega) only [tu_same, tu_eq, tu_ne]) rfl, by simp (disch := omega) only [z147, tu_same, tu_eq, tu_ne], by simp (disch := omega) only [z148, tu_same, tu_eq, tu_ne], by simp (disch := omega) only [z149, tu_same, tu_eq, tu_ne], by simp (disch := omega) only [tu_same, tu_eq, tu_ne]; rfl⟩
        rw [st, e_80_303]
        have e : (0 : Int32) &&& 1 = 0 := by decide
        simp (disch := first | omega | (simp (disch := omega) only [n_ti, Int32.reduceToInt] <;> omega)) only [p1, e_80_315, e, n_add, nl_add, nr_add, n_mul, nl_mul, nr_mul, n_sub, nr_dec, n_div, nr_sub_1, nr_sub_2, nr_sub_3, nr_sub_4, nr_sub_7, nr_sub_10, nr_sub_11, nr_sub_20, nr_sub_48, nr_sub_97, nl_sub_3, nl_sub_4, nl_sub_12, nl_sub_24, nl_sub_32, nr_div_2, nr_div_4, z_lt, z_le, z_eq, z_cl, n_ti, Int.toNat_natCast, Int32.reduceToInt, Int32.reduceToNatClampNeg, zc_add, zc_sub, zc_add_1, zc_add_2, zc_add_3, zc_add_4, zc_add_8, zc_add_10, zc_add_12, zc_add_16, zc_add_20, zc_sub_1, zc_sub_2, zc_sub_4, zc_sub_10, zc_sub_20, zc_sub_48, zc_sub_97, zc_mul_4, t_ltZ, f_ltZ, t_leZ, f_leZ, t_eqZ, f_eqZ, t_ltN, f_ltN, t_leN, f_leN, t_eqN, f_eqN, ↓reduceIte, and_true, true_and, and_false, false_and, and_self, or_true, true_or, or_false, false_or, or_self, not_true_eq_false, not_false_eq_true, tu_same, tu_eq, tu_ne, b_V, b_I, b_J]
  · rw [if_neg c1]
    have b8 := tok_82 h c1
    have wr := m_wrong (τ := τ) h
    have bad := BadB.of h 2 (by omega) (by omega)
    obtain ⟨B1, e1⟩ : ∃ x, x = tm_u (tm_u B 131 4 (nI (flt t 2).1)) 131 5 (nI (flt t 2).2) := ⟨_, rfl⟩
    rw [← e1] at wr bad
    obtain ⟨r, hr⟩ := w_65 (τ := τ) (B := B1) (J := J) (b := bk) (k := m) (l := J 131 10) hbk hm (by rw [e1]; simp (disch := omega) only [h135, tu_same, tu_eq, tu_ne])
    have h21' : B1 131 21 = nI bk := by rw [e1]; simp (disch := omega) only [h21, tu_same, tu_eq, tu_ne]
    have bad' := bad.u 149 i r (by omega)
    have gb := m_bd (τ := τ) (J := J) bad'
    have fin := x_292 (τ := τ) (J := J) hi bad'
    refine ⟨_, J, ?_, ((by rw [e1]; exact hf.b _ _ : fA B0 B1 i).u 149 r (by omega)).u 150 0 (by omega), hj, bad'.u 150 i 0 (by omega)⟩
    rw [← fin, e_80_224]
    simp (disch := first | omega | (simp (disch := omega) only [n_ti, Int32.reduceToInt] <;> omega)) only [h148, b8, wr, e_80_249, h21', hr, e_80_266, gb, e_80_271, n_add, nl_add, nr_add, n_mul, nl_mul, nr_mul, n_sub, nr_dec, n_div, nr_sub_1, nr_sub_2, nr_sub_3, nr_sub_4, nr_sub_7, nr_sub_10, nr_sub_11, nr_sub_20, nr_sub_48, nr_sub_97, nl_sub_3, nl_sub_4, nl_sub_12, nl_sub_24, nl_sub_32, nr_div_2, nr_div_4, z_lt, z_le, z_eq, z_cl, n_ti, Int.toNat_natCast, Int32.reduceToInt, Int32.reduceToNatClampNeg, zc_add, zc_sub, zc_add_1, zc_add_2, zc_add_3, zc_add_4, zc_add_8, zc_add_10, zc_add_12, zc_add_16, zc_add_20, zc_sub_1, zc_sub_2, zc_sub_4, zc_sub_10, zc_sub_20, zc_sub_48, zc_sub_97, zc_mul_4, t_ltZ, f_ltZ, t_leZ, f_leZ, t_eqZ, f_eqZ, t_ltN, f_ltN, t_leN, f_leN, t_eqN, f_eqN, ↓reduceIte, and_true, true_and, and_false, false_and, and_self, or_true, true_or, or_false, false_or, or_self, not_true_eq_false, not_false_eq_true, tu_same, tu_eq, tu_ne, b_V, b_I, b_J]
set_option maxHeartbeats 1000000 in
theorem y_114 {τ : tm_Tu} {s : Nat → Int} {n i v bk m : Nat} {nm : Nat → List Nat} {B : Nat → Nat → Int32} {J : Nat → Nat → Int64} {t : TK} (hi : i < 120) (h : MoS s n B J t) (hbk : bk < 2) (h21 : B 131 21 = nI bk) (hm : m ≤ 12) (h135 : B 135 bk = nI m) (hN : NmB J bk m nm) : ∃ B' J', R_80 114 [(0, .ref 131), (1, .int (nI i))] [.int (nI v), .int (nI i), .ref 147] (mk B J τ) = R_80 369 [(0, .ref 131)] [] (mk B' J' τ) ∧ PoAc s n B B' J J' i v (pAct s n nm m t) := by
  obtain ⟨B1, e1⟩ : ∃ x, x = tm_u B 147 i (nI v) := ⟨_, rfl⟩
  have h1 : MoS s n B1 J t := by rw [e1]; exact h.tr (fun a y u => by simp (disch := omega) only [tu_same, tu_eq, tu_ne]) rfl
  have f1 : fA B B1 i := by rw [e1]; exact fA.rf.u 147 _ (by omega)
  have st : R_80 114 [(0, .ref 131), (1, .int (nI i))] [.int (nI v), .int (nI i), .ref 147] (mk B J τ) = (tm_bI (F_62 [.ref 131, .long 26990] (mk B1 J τ)) fun r M => R_80 127 [(0, .ref 131), (1, .int (nI i))] [.int r, .int (nI i), .ref 148] M) := by
    rw [e_80_114, e1]
    simp (disch := first | omega | (simp (disch := omega) only [n_ti, Int32.reduceToInt] <;> omega)) only [n_add, nl_add, nr_add, n_mul, nl_mul, nr_mul, n_sub, nr_dec, n_div, nr_sub_1, nr_sub_2, nr_sub_3, nr_sub_4, nr_sub_7, nr_sub_10, nr_sub_11, nr_sub_20, nr_sub_48, nr_sub_97, nl_sub_3, nl_sub_4, nl_sub_12, nl_sub_24, nl_sub_32, nr_div_2, nr_div_4, z_lt, z_le, z_eq, z_cl, n_ti, Int.toNat_natCast, Int32.reduceToInt, Int32.reduceToNatClampNeg, zc_add, zc_sub, zc_add_1, zc_add_2, zc_add_3, zc_add_4, zc_add_8, zc_add_10, zc_add_12, zc_add_16, zc_add_20, zc_sub_1, zc_sub_2, zc_sub_4, zc_sub_10, zc_sub_20, zc_sub_48, zc_sub_97, zc_mul_4, t_ltZ, f_ltZ, t_leZ, f_leZ, t_eqZ, f_eqZ, t_ltN, f_ltN, t_leN, f_leN, t_eqN, f_eqN, ↓reduceIte, and_true, true_and, and_false, false_and, and_self, or_true, true_or, or_false, false_or, or_self, not_true_eq_false, not_false_eq_true, tu_same, tu_eq, tu_ne, b_V, b_I, b_J]
  have t16 : ∀ B', MoS s n B' J t → tK t = 16 → F_62 [.ref 131, .long 26990] (mk B' J τ) = some (some (.int 1), mk B' J τ) := fun B' hB c => by rw [wc_16]; exact is_t hB (by omega) c
  have t17 : ∀ B', MoS s n B' J t → tK t = 17 → F_62 [.ref 131, .long 7304564] (mk B' J τ) = some (some (.int 1), mk B' J τ) := fun B' hB c => by rw [wc_17]; exact is_t hB (by omega) c
  have t18 : ∀ B', MoS s n B' J t → tK t = 18 → F_62 [.ref 131, .long 1685022067] (mk B' J τ) = some (some (.int 1), mk B' J τ) := fun B' hB c => by rw [wc_18]; exact is_t hB (by omega) c
  have t20 : ∀ B', MoS s n B' J t → tK t = 20 → F_62 [.ref 131, .long 499850634611] (mk B' J τ) = some (some (.int 1), mk B' J τ) := fun B' hB c => by rw [wc_20]; exact is_t hB (by omega) c
  have u16 : ∀ B', MoS s n B' J t → ¬ tK t = 16 → F_62 [.ref 131, .long 26990] (mk B' J τ) = some (some (.int 0), mk B' J τ) := fun B' hB c => by rw [wc_16]; exact is_f hB (by omega) c
  have u17 : ∀ B', MoS s n B' J t → ¬ tK t = 17 → F_62 [.ref 131, .long 7304564] (mk B' J τ) = some (some (.int 0), mk B' J τ) := fun B' hB c => by rw [wc_17]; exact is_f hB (by omega) c
  have u18 : ∀ B', MoS s n B' J t → ¬ tK t = 18 → F_62 [.ref 131, .long 1685022067] (mk B' J τ) = some (some (.int 0), mk B' J τ) := fun B' hB c => by rw [wc_18]; exact is_f hB (by omega) c
  have u20 : ∀ B', MoS s n B' J t → ¬ tK t = 20 → F_62 [.ref 131, .long 499850634611] (mk B' J τ) = some (some (.int 0), mk B' J τ) := fun B' hB c => by rw [wc_20]; exact is_f hB (by omega) c
  have h2 : ∀ x, MoS s n (tm_u B1 148 i x) J t := fun x => h1.tr (fun a y u => by simp (disch := omega) only [tu_same, tu_eq, tu_ne]) rfl
  have key : ∃ x, (tK t = 16 ∨ tK t = 17 ∨ tK t = 18 ∨ tK t = 20 → x = nI (ac (tK t))) ∧ R_80 114 [(0, .ref 131), (1, .int (nI i))] [.int (nI v), .int (nI i), .ref 147] (mk B J τ) = R_80 210 [(0, .ref 131), (1, .int (nI i))] [.int (b2 (decide (tK t = 16 ∨ tK t = 17 ∨ tK t = 18 ∨ tK t = 20))), .ref 131] (mk (tm_u B1 148 i x) J τ) := by
    by_cases c1 : tK t = 16
    · refine ⟨0, fun _ => by rw [c1]; rfl, ?_⟩
      have e : b2 (decide (tK t = 16 ∨ tK t = 17 ∨ tK t = 18 ∨ tK t = 20)) = 1 := by simp [c1, b2]
      rw [st, e]
      simp (disch := first | omega | (simp (disch := omega) only [n_ti, Int32.reduceToInt] <;> omega)) only [t16 _ h1 c1, e_80_127, e_80_163, t16 _ (h2 0) c1, e_80_172, e_80_205, n_add, nl_add, nr_add, n_mul, nl_mul, nr_mul, n_sub, nr_dec, n_div, nr_sub_1, nr_sub_2, nr_sub_3, nr_sub_4, nr_sub_7, nr_sub_10, nr_sub_11, nr_sub_20, nr_sub_48, nr_sub_97, nl_sub_3, nl_sub_4, nl_sub_12, nl_sub_24, nl_sub_32, nr_div_2, nr_div_4, z_lt, z_le, z_eq, z_cl, n_ti, Int.toNat_natCast, Int32.reduceToInt, Int32.reduceToNatClampNeg, zc_add, zc_sub, zc_add_1, zc_add_2, zc_add_3, zc_add_4, zc_add_8, zc_add_10, zc_add_12, zc_add_16, zc_add_20, zc_sub_1, zc_sub_2, zc_sub_4, zc_sub_10, zc_sub_20, zc_sub_48, zc_sub_97, zc_mul_4, t_ltZ, f_ltZ, t_leZ, f_leZ, t_eqZ, f_eqZ, t_ltN, f_ltN, t_leN, f_leN, t_eqN, f_eqN, ↓reduceIte, and_true, true_and, and_false, false_and, and_self, or_true, true_or, or_false, false_or, or_self, not_true_eq_false, not_false_eq_true, tu_same, tu_eq, tu_ne, b_V, b_I, b_J]
    · by_cases c2 : tK t = 17
      · refine ⟨1, fun _ => by rw [c2]; rfl, ?_⟩
        have e : b2 (decide (tK t = 16 ∨ tK t = 17 ∨ tK t = 18 ∨ tK t = 20)) = 1 := by simp [c2, b2]
        rw [st, e]
        simp (disch := first | omega | (simp (disch := omega) only [n_ti, Int32.reduceToInt] <;> omega)) only [u16 _ h1 c1, e_80_127, t17 _ h1 c2, e_80_141, e_80_163, u16 _ (h2 1) c1, e_80_172, t17 _ (h2 1) c2, e_80_182, e_80_205, n_add, nl_add, nr_add, n_mul, nl_mul, nr_mul, n_sub, nr_dec, n_div, nr_sub_1, nr_sub_2, nr_sub_3, nr_sub_4, nr_sub_7, nr_sub_10, nr_sub_11, nr_sub_20, nr_sub_48, nr_sub_97, nl_sub_3, nl_sub_4, nl_sub_12, nl_sub_24, nl_sub_32, nr_div_2, nr_div_4, z_lt, z_le, z_eq, z_cl, n_ti, Int.toNat_natCast, Int32.reduceToInt, Int32.reduceToNatClampNeg, zc_add, zc_sub, zc_add_1, zc_add_2, zc_add_3, zc_add_4, zc_add_8, zc_add_10, zc_add_12, zc_add_16, zc_add_20, zc_sub_1, zc_sub_2, zc_sub_4, zc_sub_10, zc_sub_20, zc_sub_48, zc_sub_97, zc_mul_4, t_ltZ, f_ltZ, t_leZ, f_leZ, t_eqZ, f_eqZ, t_ltN, f_ltN, t_leN, f_leN, t_eqN, f_eqN, ↓reduceIte, and_true, true_and, and_false, false_and, and_self, or_true, true_or, or_false, false_or, or_self, not_true_eq_false, not_false_eq_true, tu_same, tu_eq, tu_ne, b_V, b_I, b_J]
      · by_cases c3 : tK t = 18
        · refine ⟨2, fun _ => by rw [c3]; rfl, ?_⟩
          have e : b2 (decide (tK t = 16 ∨ tK t = 17 ∨ tK t = 18 ∨ tK t = 20)) = 1 := by simp [c3, b2]
          rw [st, e]
          simp (disch := first | omega | (simp (disch := omega) only [n_ti, Int32.reduceToInt] <;> omega)) only [u16 _ h1 c1, e_80_127, u17 _ h1 c2, e_80_141, t18 _ h1 c3, e_80_155, e_80_163, u16 _ (h2 2) c1, e_80_172, u17 _ (h2 2) c2, e_80_182, t18 _ (h2 2) c3, e_80_192, e_80_205, n_add, nl_add, nr_add, n_mul, nl_mul, nr_mul, n_sub, nr_dec, n_div, nr_sub_1, nr_sub_2, nr_sub_3, nr_sub_4, nr_sub_7, nr_sub_10, nr_sub_11, nr_sub_20, nr_sub_48, nr_sub_97, nl_sub_3, nl_sub_4, nl_sub_12, nl_sub_24, nl_sub_32, nr_div_2, nr_div_4, z_lt, z_le, z_eq, z_cl, n_ti, Int.toNat_natCast, Int32.reduceToInt, Int32.reduceToNatClampNeg, zc_add, zc_sub, zc_add_1, zc_add_2, zc_add_3, zc_add_4, zc_add_8, zc_add_10, zc_add_12, zc_add_16, zc_add_20, zc_sub_1, zc_sub_2, zc_sub_4, zc_sub_10, zc_sub_20, zc_sub_48, zc_sub_97, zc_mul_4, t_ltZ, f_ltZ, t_leZ, f_leZ, t_eqZ, f_eqZ, t_ltN, f_ltN, t_leN, f_leN, t_eqN, f_eqN, ↓reduceIte, and_true, true_and, and_false, false_and, and_self, or_true, true_or, or_false, false_or, or_self, not_true_eq_false, not_false_eq_true, tu_same, tu_eq, tu_ne, b_V, b_I, b_J]
        · by_cases c4 : tK t = 20
          · refine ⟨3, fun _ => by rw [c4]; rfl, ?_⟩
            have e : b2 (decide (tK t = 16 ∨ tK t = 17 ∨ tK t = 18 ∨ tK t = 20)) = 1 := by simp [c4, b2]
            rw [st, e]
            simp (disch := first | omega | (simp (disch := omega) only [n_ti, Int32.reduceToInt] <;> omega)) only [u16 _ h1 c1, e_80_127, u17 _ h1 c2, e_80_141, u18 _ h1 c3, e_80_155, e_80_163, u16 _ (h2 3) c1, e_80_172, u17 _ (h2 3) c2, e_80_182, u18 _ (h2 3) c3, e_80_192, t20 _ (h2 3) c4, e_80_202, e_80_205, n_add, nl_add, nr_add, n_mul, nl_mul, nr_mul, n_sub, nr_dec, n_div, nr_sub_1, nr_sub_2, nr_sub_3, nr_sub_4, nr_sub_7, nr_sub_10, nr_sub_11, nr_sub_20, nr_sub_48, nr_sub_97, nl_sub_3, nl_sub_4, nl_sub_12, nl_sub_24, nl_sub_32, nr_div_2, nr_div_4, z_lt, z_le, z_eq, z_cl, n_ti, Int.toNat_natCast, Int32.reduceToInt, Int32.reduceToNatClampNeg, zc_add, zc_sub, zc_add_1, zc_add_2, zc_add_3, zc_add_4, zc_add_8, zc_add_10, zc_add_12, zc_add_16, zc_add_20, zc_sub_1, zc_sub_2, zc_sub_4, zc_sub_10, zc_sub_20, zc_sub_48, zc_sub_97, zc_mul_4, t_ltZ, f_ltZ, t_leZ, f_leZ, t_eqZ, f_eqZ, t_ltN, f_ltN, t_leN, f_leN, t_eqN, f_eqN, ↓reduceIte, and_true, true_and, and_false, false_and, and_self, or_true, true_or, or_false, false_or, or_self, not_true_eq_false, not_false_eq_true, tu_same, tu_eq, tu_ne, b_V, b_I, b_J]
          · refine ⟨3, fun hh => by omega, ?_⟩
            have e : b2 (decide (tK t = 16 ∨ tK t = 17 ∨ tK t = 18 ∨ tK t = 20)) = 0 := by simp [c1, c2, c3, c4, b2]
            rw [st, e]
            simp (disch := first | omega | (simp (disch := omega) only [n_ti, Int32.reduceToInt] <;> omega)) only [u16 _ h1 c1, e_80_127, u17 _ h1 c2, e_80_141, u18 _ h1 c3, e_80_155, e_80_163, u16 _ (h2 3) c1, e_80_172, u17 _ (h2 3) c2, e_80_182, u18 _ (h2 3) c3, e_80_192, u20 _ (h2 3) c4, e_80_202, n_add, nl_add, nr_add, n_mul, nl_mul, nr_mul, n_sub, nr_dec, n_div, nr_sub_1, nr_sub_2, nr_sub_3, nr_sub_4, nr_sub_7, nr_sub_10, nr_sub_11, nr_sub_20, nr_sub_48, nr_sub_97, nl_sub_3, nl_sub_4, nl_sub_12, nl_sub_24, nl_sub_32, nr_div_2, nr_div_4, z_lt, z_le, z_eq, z_cl, n_ti, Int.toNat_natCast, Int32.reduceToInt, Int32.reduceToNatClampNeg, zc_add, zc_sub, zc_add_1, zc_add_2, zc_add_3, zc_add_4, zc_add_8, zc_add_10, zc_add_12, zc_add_16, zc_add_20, zc_sub_1, zc_sub_2, zc_sub_4, zc_sub_10, zc_sub_20, zc_sub_48, zc_sub_97, zc_mul_4, t_ltZ, f_ltZ, t_leZ, f_leZ, t_eqZ, f_eqZ, t_ltN, f_ltN, t_leN, f_leN, t_eqN, f_eqN, ↓reduceIte, and_true, true_and, and_false, false_and, and_self, or_true, true_or, or_false, false_or, or_self, not_true_eq_false, not_false_eq_true, tu_same, tu_eq, tu_ne, b_V, b_I, b_J]
  obtain ⟨x, hx, pre⟩ := key
  have hS := h2 x
  obtain ⟨B2, e2⟩ : ∃ z, z = tm_u B1 148 i x := ⟨_, rfl⟩
  rw [← e2] at pre hS
  have f2 : fA B B2 i := by rw [e2]; exact f1.u 148 x (by omega)
  unfold pAct
  by_cases c0 : tK t = 16 ∨ tK t = 17 ∨ tK t = 18 ∨ tK t = 20
  · have e : b2 (decide (tK t = 16 ∨ tK t = 17 ∨ tK t = 18 ∨ tK t = 20)) = 1 := by simp only [c0, b2, decide_true, if_true]
    rw [e] at pre
    have hx' := hx c0
    obtain ⟨B3, J3, q1, q2, q3⟩ := m_must1 (τ := τ) hS (by omega)
    obtain ⟨B4, e4⟩ : ∃ z, z = tm_u B3 150 i 0 := ⟨_, rfl⟩
    have q4 : MoS s n B4 J3 (nx s n t) := by rw [e4]; exact q2.tr (fun a y u => by simp (disch := omega) only [tu_same, tu_eq, tu_ne]) rfl
    have f4 : fA B B4 i := by rw [e4]; exact (f2.mo q3).u 150 0 (by omega)
    have hg := m_gd (τ := τ) (J := J3) q4.2.2.2
    have pre2 : R_80 114 [(0, .ref 131), (1, .int (nI i))] [.int (nI v), .int (nI i), .ref 147] (mk B J τ) = R_80 224 [(0, .ref 131), (1, .int (nI i))] [.int 1] (mk B4 J3 τ) := by
      rw [pre, e_80_210]
      simp (disch := first | omega | (simp (disch := omega) only [n_ti, Int32.reduceToInt] <;> omega)) only [q1, e_80_213, ← e4, hg, n_add, nl_add, nr_add, n_mul, nl_mul, nr_mul, n_sub, nr_dec, n_div, nr_sub_1, nr_sub_2, nr_sub_3, nr_sub_4, nr_sub_7, nr_sub_10, nr_sub_11, nr_sub_20, nr_sub_48, nr_sub_97, nl_sub_3, nl_sub_4, nl_sub_12, nl_sub_24, nl_sub_32, nr_div_2, nr_div_4, z_lt, z_le, z_eq, z_cl, n_ti, Int.toNat_natCast, Int32.reduceToInt, Int32.reduceToNatClampNeg, zc_add, zc_sub, zc_add_1, zc_add_2, zc_add_3, zc_add_4, zc_add_8, zc_add_10, zc_add_12, zc_add_16, zc_add_20, zc_sub_1, zc_sub_2, zc_sub_4, zc_sub_10, zc_sub_20, zc_sub_48, zc_sub_97, zc_mul_4, t_ltZ, f_ltZ, t_leZ, f_leZ, t_eqZ, f_eqZ, t_ltN, f_ltN, t_leN, f_leN, t_eqN, f_eqN, ↓reduceIte, and_true, true_and, and_false, false_and, and_self, or_true, true_or, or_false, false_or, or_self, not_true_eq_false, not_false_eq_true, tu_same, tu_eq, tu_ne, b_V, b_I, b_J]
    have z147 : B4 147 i = nI v := by rw [e4]; simp (disch := omega) only [tu_same, tu_eq, tu_ne]; rw [q3.1 _ _ (by omega), e2]; simp (disch := omega) only [tu_same, tu_eq, tu_ne]; rw [e1]; simp (disch := omega) only [tu_same, tu_eq, tu_ne]
    have z148 : B4 148 i = nI (ac (tK t)) := by rw [e4]; simp (disch := omega) only [tu_same, tu_eq, tu_ne]; rw [q3.1 _ _ (by omega), e2]; simp (disch := omega) only [tu_same, tu_eq, tu_ne]; exact hx'
    have z150 : B4 150 i = 0 := by rw [e4]; simp (disch := omega) only [tu_same, tu_eq, tu_ne]
    by_cases c1 : tK t = 16 ∨ tK t = 17 ∨ tK t = 20
    · rw [if_pos c1]
      obtain ⟨B5, J5, r1, r2⟩ := y_339 (τ := τ) (v := v) (w := tK t) hi q4 f4 q3.2 z147 z148 z150
      refine ⟨B5, J5, ?_, r2⟩
      rw [pre2, e_80_224, ← r1]
      have hac : ac (tK t) < 4 ∧ ac (tK t) ≠ 2 := by rcases c1 with e | e | e <;> rw [e] <;> decide
      simp (disch := first | omega | (simp (disch := omega) only [n_ti, Int32.reduceToInt] <;> omega)) only [z148, n_add, nl_add, nr_add, n_mul, nl_mul, nr_mul, n_sub, nr_dec, n_div, nr_sub_1, nr_sub_2, nr_sub_3, nr_sub_4, nr_sub_7, nr_sub_10, nr_sub_11, nr_sub_20, nr_sub_48, nr_sub_97, nl_sub_3, nl_sub_4, nl_sub_12, nl_sub_24, nl_sub_32, nr_div_2, nr_div_4, z_lt, z_le, z_eq, z_cl, n_ti, Int.toNat_natCast, Int32.reduceToInt, Int32.reduceToNatClampNeg, zc_add, zc_sub, zc_add_1, zc_add_2, zc_add_3, zc_add_4, zc_add_8, zc_add_10, zc_add_12, zc_add_16, zc_add_20, zc_sub_1, zc_sub_2, zc_sub_4, zc_sub_10, zc_sub_20, zc_sub_48, zc_sub_97, zc_mul_4, t_ltZ, f_ltZ, t_leZ, f_leZ, t_eqZ, f_eqZ, t_ltN, f_ltN, t_leN, f_leN, t_eqN, f_eqN, ↓reduceIte, and_true, true_and, and_false, false_and, and_self, or_true, true_or, or_false, false_or, or_self, not_true_eq_false, not_false_eq_true, tu_same, tu_eq, tu_ne, b_V, b_I, b_J]
    · have c2 : tK t = 18 := by omega
      rw [if_neg c1, if_pos c2]
      have z148' : B4 148 i = nI 2 := by rw [z148, c2]; rfl
      obtain ⟨B5, J5, r1, r2⟩ := y_249 (τ := τ) (v := v) hi q4 f4 q3.2 z147 z148' z150 hbk ((f4 131 21 (by omega) (by omega)).trans h21) hm ((f4 135 bk (by omega) (by omega)).trans h135) (fun j hj => by rw [q3.2 _ _ (by omega)]; exact hN j hj)
      exact ⟨B5, J5, pre2.trans r1, r2⟩
  · have e : b2 (decide (tK t = 16 ∨ tK t = 17 ∨ tK t = 18 ∨ tK t = 20)) = 0 := by simp only [c0, b2, decide_false]; decide
    rw [e] at pre
    rw [if_neg (show ¬ (tK t = 16 ∨ tK t = 17 ∨ tK t = 20) by omega), if_neg (show ¬ tK t = 18 by omega)]
    have wr := m_mustN (τ := τ) hS
    have bad := BadB.of hS 2 (by omega) (by omega)
    obtain ⟨B', p1, p2, p3⟩ := x_213 (τ := τ) (J := J) hi bad
    refine ⟨B', J, ?_, (f2.b _ _).then p2, fun _ _ _ => rfl, p3⟩
    rw [pre, e_80_210]
    simp (disch := first | omega | (simp (disch := omega) only [n_ti, Int32.reduceToInt] <;> omega)) only [wr, p1, n_add, nl_add, nr_add, n_mul, nl_mul, nr_mul, n_sub, nr_dec, n_div, nr_sub_1, nr_sub_2, nr_sub_3, nr_sub_4, nr_sub_7, nr_sub_10, nr_sub_11, nr_sub_20, nr_sub_48, nr_sub_97, nl_sub_3, nl_sub_4, nl_sub_12, nl_sub_24, nl_sub_32, nr_div_2, nr_div_4, z_lt, z_le, z_eq, z_cl, n_ti, Int.toNat_natCast, Int32.reduceToInt, Int32.reduceToNatClampNeg, zc_add, zc_sub, zc_add_1, zc_add_2, zc_add_3, zc_add_4, zc_add_8, zc_add_10, zc_add_12, zc_add_16, zc_add_20, zc_sub_1, zc_sub_2, zc_sub_4, zc_sub_10, zc_sub_20, zc_sub_48, zc_sub_97, zc_mul_4, t_ltZ, f_ltZ, t_leZ, f_leZ, t_eqZ, f_eqZ, t_ltN, f_ltN, t_leN, f_leN, t_eqN, f_eqN, ↓reduceIte, and_true, true_and, and_false, false_and, and_self, or_true, true_or, or_false, false_or, or_self, not_true_eq_false, not_false_eq_true, tu_same, tu_eq, tu_ne, b_V, b_I, b_J]
