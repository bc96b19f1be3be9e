/-! reading: the head of a trick (model), whole -/
set_option maxHeartbeats 2000000 in
theorem m_72h {τ : tm_Tu} {s : Nat → Int} {n b k : Nat} {B : Nat → Nat → Int32} {J : Nat → Nat → Int64} {t : TK} {nm : Nat → List Nat} (h : MoS s n B J t) (hk0 : tK t = 0) (hb : b < 2) (hk : k < 12) (h22 : B 131 22 = nI b) (h1 : B 135 b = nI k) (hN : NmB J b k nm) : HdM τ s n B J (12 * b + k) (pHead s n k nm t) := by
  have hm : 12 * b + k < 24 := by omega
  have hok0 := h.2.2.1.2.2.1 (by omega) (by omega)
  unfold pHead
  obtain ⟨t1, e1⟩ : ∃ x, x = nx s n t := ⟨_, rfl⟩
  obtain ⟨t2, e2⟩ : ∃ x, x = nx s n t1 := ⟨_, rfl⟩
  obtain ⟨t3, e3⟩ : ∃ x, x = nx s n t2 := ⟨_, rfl⟩
  obtain ⟨t4, e4⟩ : ∃ x, x = nx s n t3 := ⟨_, rfl⟩
  obtain ⟨t5, e5⟩ : ∃ x, x = nx s n t4 := ⟨_, rfl⟩
  obtain ⟨t6, e6⟩ : ∃ x, x = nx s n t5 := ⟨_, rfl⟩
  obtain ⟨t7, e7⟩ : ∃ x, x = nx s n t6 := ⟨_, rfl⟩
  rw [← e1, ← e2, ← e3, ← e4, ← e5, ← e6, ← e7]
  have hg := m_gd (τ := τ) (J := J) h.2.2.2
  have i0 : F_62 [.ref 131, .long 500135715691] (mk B J τ) = some (some (.int 1), mk B J τ) := by rw [wc_0]; exact is_t h (by omega) hk0
  obtain ⟨B1, J1, n1, n2, n3, n4⟩ := m_next (τ := τ) h (by omega)
  rw [← e1] at n2
  have F1 : fr B B1 (12 * b + k) := fun a y u w => n3 a y (by omega)
  have G1 : jr J J1 (12 * b + k) := fun a y u w => n4 a y u
  have h22' : B1 131 22 = nI b := (n3 131 22 (by omega)).trans h22
  have h1' : B1 135 b = nI k := (n3 135 b (by omega)).trans h1
  have hN1 : NmB J1 b k nm := fun t ht => by rw [n4 134 (12 * b + t) (by omega)]; exact hN t ht
  have pre : F_72 [.ref 131] (mk B J τ) = R_72 40 [(0, .ref 131)] [] (mk B1 J1 τ) := by
    rw [e_72]
    simp (disch := first | omega | (simp (disch := omega) only [n_ti, Int32.reduceToInt] <;> omega)) only [i0, e_72_7, h22, h1, e_72_28, hg, e_72_32, n1, n_add, nl_add, nr_add, n_mul, nl_mul, nr_mul, n_sub, nr_dec, n_div, nr_sub_1, nr_sub_2, nr_sub_3, nr_sub_4, nr_sub_7, nr_sub_10, nr_sub_11, nr_sub_20, nr_sub_48, nr_sub_97, nl_sub_3, nl_sub_4, nl_sub_12, nl_sub_24, nl_sub_32, nr_div_2, nr_div_4, z_lt, z_le, z_eq, z_cl, n_ti, Int.toNat_natCast, Int32.reduceToInt, Int32.reduceToNatClampNeg, zc_add, zc_sub, zc_add_1, zc_add_2, zc_add_3, zc_add_4, zc_add_8, zc_add_10, zc_add_12, zc_add_16, zc_add_20, zc_sub_1, zc_sub_2, zc_sub_4, zc_sub_10, zc_sub_20, zc_sub_48, zc_sub_97, zc_mul_4, t_ltZ, f_ltZ, t_leZ, f_leZ, t_eqZ, f_eqZ, t_ltN, f_ltN, t_leN, f_leN, t_eqN, f_eqN, ↓reduceIte, and_true, true_and, and_false, false_and, and_self, or_true, true_or, or_false, false_or, or_self, not_true_eq_false, not_false_eq_true, tu_same, tu_eq, tu_ne, b_V, b_I, b_J]
  obtain ⟨J1u, eJ⟩ : ∃ x, x = tm_u J1 134 (12 * b + k) (J1 131 10) := ⟨_, rfl⟩
  have n2u : MoS s n B1 J1u t1 := n2.tr (fun _ _ _ => rfl) (by rw [eJ]; simp (disch := omega) only [tu_same, tu_eq, tu_ne])
  have G1u : jr J J1u (12 * b + k) := by rw [eJ]; exact G1.u _
  have hq1 := n2.2.2.1.1
  have a61 := n2.2.1.1
  by_cases c1 : tK t1 = 30
  case neg =>
    rw [if_neg c1]
    have b8 := tok_82 n2 c1
    have wr := m_mustN (τ := τ) n2u
    have bad := BadB.of n2 2 (by omega) (by omega)
    have fin := b_117 (τ := τ) (J := J1u) (m := 12 * b + k) (q := tQ t1) bad hm (n2.1.bb _ _) (by simp (disch := omega) only [a61, tu_same, tu_eq, tu_ne]) hq1
    refine ⟨_, J1u, (F1.b _ _).u 136 (12 * b + k) 0 (Or.inl ⟨by omega, rfl⟩), G1u, ?_, bad.u _ _ _ (by omega)⟩
    rw [pre, e_72_40]
    simp (disch := first | omega | (simp (disch := omega) only [n_ti, Int32.reduceToInt] <;> omega)) only [h22', h1', b8, e_72_90, ← eJ, e_72_114, wr, fin, n_add, nl_add, nr_add, n_mul, nl_mul, nr_mul, n_sub, nr_dec, n_div, nr_sub_1, nr_sub_2, nr_sub_3, nr_sub_4, nr_sub_7, nr_sub_10, nr_sub_11, nr_sub_20, nr_sub_48, nr_sub_97, nl_sub_3, nl_sub_4, nl_sub_12, nl_sub_24, nl_sub_32, nr_div_2, nr_div_4, z_lt, z_le, z_eq, z_cl, n_ti, Int.toNat_natCast, Int32.reduceToInt, Int32.reduceToNatClampNeg, zc_add, zc_sub, zc_add_1, zc_add_2, zc_add_3, zc_add_4, zc_add_8, zc_add_10, zc_add_12, zc_add_16, zc_add_20, zc_sub_1, zc_sub_2, zc_sub_4, zc_sub_10, zc_sub_20, zc_sub_48, zc_sub_97, zc_mul_4, t_ltZ, f_ltZ, t_leZ, f_leZ, t_eqZ, f_eqZ, t_ltN, f_ltN, t_leN, f_leN, t_eqN, f_eqN, ↓reduceIte, and_true, true_and, and_false, false_and, and_self, or_true, true_or, or_false, false_or, or_self, not_true_eq_false, not_false_eq_true, tu_same, tu_eq, tu_ne, b_V, b_I, b_J]
  rw [if_pos c1]
  obtain ⟨b8, b10⟩ := n2.2.1.2.2.2.1 c1
  obtain ⟨l1, l2⟩ := n2.2.2.1.2.2.2.2.2.2 (Or.inr c1)
  have f65 := m_65 (τ := τ) hb (show k ≤ 12 by omega) h1' hN1 l1 l2
  by_cases c2 : (fnd nm (tL t1) k 0).toInt = -1
  case neg =>
    rw [if_neg c2]
    have hfl : flt t1 3 = (3, tQ t1) := by unfold flt; rw [if_neg (by omega)]
    rcases fnd_c nm (tL t1) k 0 (by omega) with e | ⟨i, u1, u2, u3, u4⟩
    · exact absurd e.2 c2
    have fl : F_63 [.ref 131, .int 3, .int (nI (tQ t1))] (mk B1 J1 τ) = _ := m_fail (τ := τ) (J := J1) (x := 3) (y := nI (tQ t1)) n2.2.2.2
    have bad : BadB (tm_u (tm_u B1 131 4 3) 131 5 (nI (tQ t1))) (3, tQ t1) := ⟨by simp (disch := omega) only [tu_same, tu_eq, tu_ne]; rfl, by simp (disch := omega) only [tu_same, tu_eq, tu_ne], by omega, by omega, by obtain ⟨q, q1, q2⟩ := n2.p; exact ⟨q, q1, by simp (disch := omega) only [q2, tu_same, tu_eq, tu_ne]⟩⟩
    have fin := b_117 (τ := τ) (J := J1u) (m := 12 * b + k) (q := tQ t1) bad hm (n2.1.bb _ _) (by simp (disch := omega) only [a61, tu_same, tu_eq, tu_ne]) hq1
    have gm := m_must0 (τ := τ) (J := J1u) (x := 1) bad
    rw [hfl]
    refine ⟨tm_u (tm_u (tm_u B1 131 4 3) 131 5 (nI (tQ t1))) 136 (12 * b + k) 0, J1u, (F1.b _ _).u 136 (12 * b + k) 0 (Or.inl ⟨by omega, rfl⟩), G1u, ?_, bad.u _ _ _ (by omega)⟩
    rw [pre, e_72_40]
    rw [u3] at f65
    rw [b10] at eJ
    simp (disch := first | omega | (simp (disch := omega) only [n_ti, Int32.reduceToInt] <;> omega)) only [h22', h1', b8, b10, f65, e_72_78, a61, fl, e_72_90, ← eJ, e_72_114, gm, fin, n_add, nl_add, nr_add, n_mul, nl_mul, nr_mul, n_sub, nr_dec, n_div, nr_sub_1, nr_sub_2, nr_sub_3, nr_sub_4, nr_sub_7, nr_sub_10, nr_sub_11, nr_sub_20, nr_sub_48, nr_sub_97, nl_sub_3, nl_sub_4, nl_sub_12, nl_sub_24, nl_sub_32, nr_div_2, nr_div_4, z_lt, z_le, z_eq, z_cl, n_ti, Int.toNat_natCast, Int32.reduceToInt, Int32.reduceToNatClampNeg, zc_add, zc_sub, zc_add_1, zc_add_2, zc_add_3, zc_add_4, zc_add_8, zc_add_10, zc_add_12, zc_add_16, zc_add_20, zc_sub_1, zc_sub_2, zc_sub_4, zc_sub_10, zc_sub_20, zc_sub_48, zc_sub_97, zc_mul_4, t_ltZ, f_ltZ, t_leZ, f_leZ, t_eqZ, f_eqZ, t_ltN, f_ltN, t_leN, f_leN, t_eqN, f_eqN, ↓reduceIte, and_true, true_and, and_false, false_and, and_self, or_true, true_or, or_false, false_or, or_self, not_true_eq_false, not_false_eq_true, tu_same, tu_eq, tu_ne, b_V, b_I, b_J]
  rw [if_pos c2]
  obtain ⟨B2, J2, p1, p2, p3⟩ := m_must1 (τ := τ) n2u (by omega)
  rw [← e2] at p2
  have F2 := F1.mo p3
  have G2 := G1u.mo p3
  have a62 := p2.2.1.1
  have hq2 := p2.2.2.1.1
  have pre2 : F_72 [.ref 131] (mk B J τ) = R_72 117 [(0, .ref 131), (1, .int (nI (12 * b + k)))] [] (mk B2 J2 τ) := by
    rw [pre, e_72_40]
    rw [b10] at eJ
    simp (disch := first | omega | (simp (disch := omega) only [n_ti, Int32.reduceToInt] <;> omega)) only [h22', h1', b8, b10, f65, e_72_78, c2, e_72_90, ← eJ, e_72_114, p1, n_add, nl_add, nr_add, n_mul, nl_mul, nr_mul, n_sub, nr_dec, n_div, nr_sub_1, nr_sub_2, nr_sub_3, nr_sub_4, nr_sub_7, nr_sub_10, nr_sub_11, nr_sub_20, nr_sub_48, nr_sub_97, nl_sub_3, nl_sub_4, nl_sub_12, nl_sub_24, nl_sub_32, nr_div_2, nr_div_4, z_lt, z_le, z_eq, z_cl, n_ti, Int.toNat_natCast, Int32.reduceToInt, Int32.reduceToNatClampNeg, zc_add, zc_sub, zc_add_1, zc_add_2, zc_add_3, zc_add_4, zc_add_8, zc_add_10, zc_add_12, zc_add_16, zc_add_20, zc_sub_1, zc_sub_2, zc_sub_4, zc_sub_10, zc_sub_20, zc_sub_48, zc_sub_97, zc_mul_4, t_ltZ, f_ltZ, t_leZ, f_leZ, t_eqZ, f_eqZ, t_ltN, f_ltN, t_leN, f_leN, t_eqN, f_eqN, ↓reduceIte, and_true, true_and, and_false, false_and, and_self, or_true, true_or, or_false, false_or, or_self, not_true_eq_false, not_false_eq_true, tu_same, tu_eq, tu_ne, b_V, b_I, b_J]
  have hJ1 : J1u 134 (12 * b + k) = lN (en256 (tL t1)) := by rw [eJ, b10]; simp (disch := omega) only [tu_same, tu_eq, tu_ne]
  have hJ2 : J2 134 (12 * b + k) = lN (en256 (tL t1)) := (p3.2 134 _ (by omega)).trans hJ1
  by_cases c3 : tK t2 = 1
  case neg =>
    rw [if_neg c3]
    have i1 : F_62 [.ref 131, .long 512970880104] (mk B2 J2 τ) = some (some (.int 0), mk B2 J2 τ) := by rw [wc_1]; exact is_f p2 (by omega) c3
    have wr := m_mustN (τ := τ) p2
    have bad := BadB.of p2 2 (by omega) (by omega)
    have fin := b_128 (τ := τ) (J := J2) (m := 12 * b + k) (q := tQ t2) bad hm (p2.1.bb _ _) (by simp (disch := omega) only [a62, tu_same, tu_eq, tu_ne]) hq2
    refine ⟨_, J2, (F2.b _ _).u 136 (12 * b + k) 0 (Or.inl ⟨by omega, rfl⟩), G2, ?_, bad.u _ _ _ (by omega)⟩
    rw [pre2, e_72_117]
    simp (disch := first | omega | (simp (disch := omega) only [n_ti, Int32.reduceToInt] <;> omega)) only [i1, e_72_125, wr, fin, n_add, nl_add, nr_add, n_mul, nl_mul, nr_mul, n_sub, nr_dec, n_div, nr_sub_1, nr_sub_2, nr_sub_3, nr_sub_4, nr_sub_7, nr_sub_10, nr_sub_11, nr_sub_20, nr_sub_48, nr_sub_97, nl_sub_3, nl_sub_4, nl_sub_12, nl_sub_24, nl_sub_32, nr_div_2, nr_div_4, z_lt, z_le, z_eq, z_cl, n_ti, Int.toNat_natCast, Int32.reduceToInt, Int32.reduceToNatClampNeg, zc_add, zc_sub, zc_add_1, zc_add_2, zc_add_3, zc_add_4, zc_add_8, zc_add_10, zc_add_12, zc_add_16, zc_add_20, zc_sub_1, zc_sub_2, zc_sub_4, zc_sub_10, zc_sub_20, zc_sub_48, zc_sub_97, zc_mul_4, t_ltZ, f_ltZ, t_leZ, f_leZ, t_eqZ, f_eqZ, t_ltN, f_ltN, t_leN, f_leN, t_eqN, f_eqN, ↓reduceIte, and_true, true_and, and_false, false_and, and_self, or_true, true_or, or_false, false_or, or_self, not_true_eq_false, not_false_eq_true, tu_same, tu_eq, tu_ne, b_V, b_I, b_J]
  rw [if_pos c3]
  have i1 : F_62 [.ref 131, .long 512970880104] (mk B2 J2 τ) = some (some (.int 1), mk B2 J2 τ) := by rw [wc_1]; exact is_t p2 (by omega) c3
  obtain ⟨B3, J3, q1, q2, q3⟩ := m_must1 (τ := τ) p2 (by omega)
  rw [← e3] at q2
  have F3 := F2.mo q3
  have G3 := G2.mo q3
  have hJ3 := (q3.2 134 (12 * b + k) (by omega)).trans hJ2
  have a63 := q2.2.1.1
  have hq3 := q2.2.2.1.1
  have pre3 : F_72 [.ref 131] (mk B J τ) = R_72 128 [(0, .ref 131), (1, .int (nI (12 * b + k)))] [] (mk B3 J3 τ) := by
    rw [pre2, e_72_117]
    simp (disch := first | omega | (simp (disch := omega) only [n_ti, Int32.reduceToInt] <;> omega)) only [i1, e_72_125, q1, n_add, nl_add, nr_add, n_mul, nl_mul, nr_mul, n_sub, nr_dec, n_div, nr_sub_1, nr_sub_2, nr_sub_3, nr_sub_4, nr_sub_7, nr_sub_10, nr_sub_11, nr_sub_20, nr_sub_48, nr_sub_97, nl_sub_3, nl_sub_4, nl_sub_12, nl_sub_24, nl_sub_32, nr_div_2, nr_div_4, z_lt, z_le, z_eq, z_cl, n_ti, Int.toNat_natCast, Int32.reduceToInt, Int32.reduceToNatClampNeg, zc_add, zc_sub, zc_add_1, zc_add_2, zc_add_3, zc_add_4, zc_add_8, zc_add_10, zc_add_12, zc_add_16, zc_add_20, zc_sub_1, zc_sub_2, zc_sub_4, zc_sub_10, zc_sub_20, zc_sub_48, zc_sub_97, zc_mul_4, t_ltZ, f_ltZ, t_leZ, f_leZ, t_eqZ, f_eqZ, t_ltN, f_ltN, t_leN, f_leN, t_eqN, f_eqN, ↓reduceIte, and_true, true_and, and_false, false_and, and_self, or_true, true_or, or_false, false_or, or_self, not_true_eq_false, not_false_eq_true, tu_same, tu_eq, tu_ne, b_V, b_I, b_J]
  rcases m_num (τ := τ) (lo := 0) (hi := 999) q2 (by omega) (by omega) with ⟨f, hn, bad, num⟩ | ⟨hn, B4, J4, num, r2, r3⟩
  · rw [hn]
    have num' : F_67 [.ref 131, .int 0, .int 999] (mk B3 J3 τ) = some (some (.int 0), mk (tm_u (tm_u B3 131 4 (nI f.1)) 131 5 (nI f.2)) J3 τ) := num
    have fin := b_141 (τ := τ) (J := J3) (m := 12 * b + k) (q := tQ t3) (x := 0) bad hm (q2.1.bb _ _) (by simp (disch := omega) only [a63, tu_same, tu_eq, tu_ne]) hq3
    refine ⟨_, J3, (F3.b _ _).u 136 (12 * b + k) 0 (Or.inl ⟨by omega, rfl⟩), G3, ?_, bad.u _ _ _ (by omega)⟩
    rw [pre3, e_72_128]
    simp (disch := first | omega | (simp (disch := omega) only [n_ti, Int32.reduceToInt] <;> omega)) only [num', fin, n_add, nl_add, nr_add, n_mul, nl_mul, nr_mul, n_sub, nr_dec, n_div, nr_sub_1, nr_sub_2, nr_sub_3, nr_sub_4, nr_sub_7, nr_sub_10, nr_sub_11, nr_sub_20, nr_sub_48, nr_sub_97, nl_sub_3, nl_sub_4, nl_sub_12, nl_sub_24, nl_sub_32, nr_div_2, nr_div_4, z_lt, z_le, z_eq, z_cl, n_ti, Int.toNat_natCast, Int32.reduceToInt, Int32.reduceToNatClampNeg, zc_add, zc_sub, zc_add_1, zc_add_2, zc_add_3, zc_add_4, zc_add_8, zc_add_10, zc_add_12, zc_add_16, zc_add_20, zc_sub_1, zc_sub_2, zc_sub_4, zc_sub_10, zc_sub_20, zc_sub_48, zc_sub_97, zc_mul_4, t_ltZ, f_ltZ, t_leZ, f_leZ, t_eqZ, f_eqZ, t_ltN, f_ltN, t_leN, f_leN, t_eqN, f_eqN, ↓reduceIte, and_true, true_and, and_false, false_and, and_self, or_true, true_or, or_false, false_or, or_self, not_true_eq_false, not_false_eq_true, tu_same, tu_eq, tu_ne, b_V, b_I, b_J]
  rw [hn]
  obtain ⟨v1, v2, v3⟩ := nf_none hn
  have num' : F_67 [.ref 131, .int 0, .int 999] (mk B3 J3 τ) = some (some (.int (nI (tV t3))), mk B4 J4 τ) := num
  rw [← e4] at r2
  obtain ⟨B4u, eB4⟩ : ∃ x, x = tm_u B4 136 (12 * b + k) (nI (tV t3)) := ⟨_, rfl⟩
  have r2u : MoS s n B4u J4 t4 := r2.tr (fun a y u => by rw [eB4]; simp (disch := omega) only [tu_same, tu_eq, tu_ne]) rfl
  have F4 : fr B B4u (12 * b + k) := by rw [eB4]; exact (F3.mo r3).u 136 (12 * b + k) _ (Or.inl ⟨by omega, rfl⟩)
  have G4 := G3.mo r3
  have hJ4 := (r3.2 134 (12 * b + k) (by omega)).trans hJ3
  have hW4 : B4u 136 (12 * b + k) = nI (tV t3) := by rw [eB4]; simp (disch := omega) only [tu_same, tu_eq, tu_ne]
  have hi68 := m_is (τ := τ) (c := 58) r2u (Or.inl rfl)
  have pre4 : F_72 [.ref 131] (mk B J τ) = R_72 149 [(0, .ref 131), (1, .int (nI (12 * b + k)))] [.int (b2 (decide (tK t4 = 33))), .ref 131] (mk B4u J4 τ) := by
    have hi' : F_68 [.ref 131, .int 58] (mk B4u J4 τ) = some (some (.int (b2 (decide (tK t4 = 33)))), mk B4u J4 τ) := hi68
    rw [pre3, e_72_128]
    simp (disch := first | omega | (simp (disch := omega) only [n_ti, Int32.reduceToInt] <;> omega)) only [num', b_I, n_add, nl_add, nr_add, n_mul, nl_mul, nr_mul, n_sub, nr_dec, n_div, nr_sub_1, nr_sub_2, nr_sub_3, nr_sub_4, nr_sub_7, nr_sub_10, nr_sub_11, nr_sub_20, nr_sub_48, nr_sub_97, nl_sub_3, nl_sub_4, nl_sub_12, nl_sub_24, nl_sub_32, nr_div_2, nr_div_4, ↓reduceIte, and_true, true_and, and_false, false_and, and_self, or_true, true_or, or_false, false_or, or_self, not_true_eq_false, not_false_eq_true, tu_same, tu_eq, tu_ne, b_V, b_I, b_J]
    rw [e_72_141, if_pos ⟨nI_pos' (by omega), by rw [n_cl (by omega)]; omega⟩]
    rw [n_cl (by omega), ← eB4, hi']
    rfl
  show HdM τ s n B J (12 * b + k) (if tK t4 = 33 then _ else _)
  by_cases c4 : tK t4 = 33
  case neg =>
    rw [if_neg c4]
    have e : b2 (decide (tK t4 = 33)) = 0 := by simp [c4, b2]
    rw [e] at pre4
    have wr := m_mustN (τ := τ) r2u
    have bad := BadB.of r2u 2 (by omega) (by omega)
    have fin := b_152 (τ := τ) (J := J4) (m := 12 * b + k) bad
    refine ⟨_, J4, F4.b _ _, G4, ?_, bad⟩
    rw [pre4, e_72_149]
    simp (disch := first | omega | (simp (disch := omega) only [n_ti, Int32.reduceToInt] <;> omega)) only [wr, fin, n_add, nl_add, nr_add, n_mul, nl_mul, nr_mul, n_sub, nr_dec, n_div, nr_sub_1, nr_sub_2, nr_sub_3, nr_sub_4, nr_sub_7, nr_sub_10, nr_sub_11, nr_sub_20, nr_sub_48, nr_sub_97, nl_sub_3, nl_sub_4, nl_sub_12, nl_sub_24, nl_sub_32, nr_div_2, nr_div_4, z_lt, z_le, z_eq, z_cl, n_ti, Int.toNat_natCast, Int32.reduceToInt, Int32.reduceToNatClampNeg, zc_add, zc_sub, zc_add_1, zc_add_2, zc_add_3, zc_add_4, zc_add_8, zc_add_10, zc_add_12, zc_add_16, zc_add_20, zc_sub_1, zc_sub_2, zc_sub_4, zc_sub_10, zc_sub_20, zc_sub_48, zc_sub_97, zc_mul_4, t_ltZ, f_ltZ, t_leZ, f_leZ, t_eqZ, f_eqZ, t_ltN, f_ltN, t_leN, f_leN, t_eqN, f_eqN, ↓reduceIte, and_true, true_and, and_false, false_and, and_self, or_true, true_or, or_false, false_or, or_self, not_true_eq_false, not_false_eq_true, tu_same, tu_eq, tu_ne, b_V, b_I, b_J]
  rw [if_pos c4]
  have e : b2 (decide (tK t4 = 33)) = 1 := by simp [c4, b2]
  rw [e] at pre4
  obtain ⟨B5, J5, s1, s2, s3⟩ := m_must1 (τ := τ) r2u (by omega)
  rw [← e5] at s2
  have F5 := F4.mo s3
  have G5 := G4.mo s3
  have hJ5 := (s3.2 134 (12 * b + k) (by omega)).trans hJ4
  have hW5 := (s3.1 136 (12 * b + k) (by omega)).trans hW4
  by_cases c5 : tK t5 = 2
  case neg =>
    rw [if_neg c5]
    have i2 : F_62 [.ref 131, .long 1717921140] (mk B5 J5 τ) = some (some (.int 0), mk B5 J5 τ) := by rw [wc_2]; exact is_f s2 (by omega) c5
    have wr := m_mustN (τ := τ) s2
    have bad := BadB.of s2 2 (by omega) (by omega)
    have fin := b_163 (τ := τ) (J := J5) (m := 12 * b + k) bad
    refine ⟨_, J5, F5.b _ _, G5, ?_, bad⟩
    rw [pre4, e_72_149]
    simp (disch := first | omega | (simp (disch := omega) only [n_ti, Int32.reduceToInt] <;> omega)) only [s1, e_72_152, i2, e_72_160, wr, fin, n_add, nl_add, nr_add, n_mul, nl_mul, nr_mul, n_sub, nr_dec, n_div, nr_sub_1, nr_sub_2, nr_sub_3, nr_sub_4, nr_sub_7, nr_sub_10, nr_sub_11, nr_sub_20, nr_sub_48, nr_sub_97, nl_sub_3, nl_sub_4, nl_sub_12, nl_sub_24, nl_sub_32, nr_div_2, nr_div_4, z_lt, z_le, z_eq, z_cl, n_ti, Int.toNat_natCast, Int32.reduceToInt, Int32.reduceToNatClampNeg, zc_add, zc_sub, zc_add_1, zc_add_2, zc_add_3, zc_add_4, zc_add_8, zc_add_10, zc_add_12, zc_add_16, zc_add_20, zc_sub_1, zc_sub_2, zc_sub_4, zc_sub_10, zc_sub_20, zc_sub_48, zc_sub_97, zc_mul_4, t_ltZ, f_ltZ, t_leZ, f_leZ, t_eqZ, f_eqZ, t_ltN, f_ltN, t_leN, f_leN, t_eqN, f_eqN, ↓reduceIte, and_true, true_and, and_false, false_and, and_self, or_true, true_or, or_false, false_or, or_self, not_true_eq_false, not_false_eq_true, tu_same, tu_eq, tu_ne, b_V, b_I, b_J]
  rw [if_pos c5]
  have i2 : F_62 [.ref 131, .long 1717921140] (mk B5 J5 τ) = some (some (.int 1), mk B5 J5 τ) := by rw [wc_2]; exact is_t s2 (by omega) c5
  obtain ⟨B6, J6, w1, w2, w3⟩ := m_must1 (τ := τ) s2 (by omega)
  rw [← e6] at w2
  have F6 := F5.mo w3
  have G6 := G5.mo w3
  have hJ6 := (w3.2 134 (12 * b + k) (by omega)).trans hJ5
  have hW6 := (w3.1 136 (12 * b + k) (by omega)).trans hW5
  have hg6 := m_gd (τ := τ) (J := J6) w2.2.2.2
  by_cases c6 : tK t6 = 32
  case neg =>
    rw [if_neg c6]
    have b85 := tok_85 w2 c6
    have wr := m_wrong (τ := τ) w2
    have bad := BadB.of w2 2 (by omega) (by omega)
    have fin := b_182 (τ := τ) (J := J6) (m := 12 * b + k) bad
    refine ⟨_, J6, F6.b _ _, G6, ?_, bad⟩
    rw [pre4, e_72_149]
    simp (disch := first | omega | (simp (disch := omega) only [n_ti, Int32.reduceToInt] <;> omega)) only [s1, e_72_152, i2, e_72_160, w1, e_72_163, hg6, e_72_167, b85, wr, fin, n_add, nl_add, nr_add, n_mul, nl_mul, nr_mul, n_sub, nr_dec, n_div, nr_sub_1, nr_sub_2, nr_sub_3, nr_sub_4, nr_sub_7, nr_sub_10, nr_sub_11, nr_sub_20, nr_sub_48, nr_sub_97, nl_sub_3, nl_sub_4, nl_sub_12, nl_sub_24, nl_sub_32, nr_div_2, nr_div_4, z_lt, z_le, z_eq, z_cl, n_ti, Int.toNat_natCast, Int32.reduceToInt, Int32.reduceToNatClampNeg, zc_add, zc_sub, zc_add_1, zc_add_2, zc_add_3, zc_add_4, zc_add_8, zc_add_10, zc_add_12, zc_add_16, zc_add_20, zc_sub_1, zc_sub_2, zc_sub_4, zc_sub_10, zc_sub_20, zc_sub_48, zc_sub_97, zc_mul_4, t_ltZ, f_ltZ, t_leZ, f_leZ, t_eqZ, f_eqZ, t_ltN, f_ltN, t_leN, f_leN, t_eqN, f_eqN, ↓reduceIte, and_true, true_and, and_false, false_and, and_self, or_true, true_or, or_false, false_or, or_self, not_true_eq_false, not_false_eq_true, tu_same, tu_eq, tu_ne, b_V, b_I, b_J]
  rw [if_pos c6]
  have b85 := w2.2.1.2.2.2.2.2.1 c6
  obtain ⟨x1, x2, x3, x4, x5⟩ := w2.2.2.1.2.2.2.2.2.1 c6
  have x6 := w2.2.2.1.2.1 (by omega)
  have hn14 := w2.1.1
  have a66 := w2.2.1.1
  have a67 := w2.2.1.2.1 (by omega)
  have hm4 : 4 * (tV t6 / 4) = tV t6 := by omega
  obtain ⟨B7, y1, y2, y3⟩ := l_211 (τ := τ) (s := s) (n := n) (m := 12 * b + k) (Q := tQ t6) (q := tV t6 / 4) (J := J6) hm (by omega) (by omega) (fun i hi => x5 i (by omega)) (4 * (tV t6 / 4)) 0 (tm_u B6 137 (12 * b + k) (nI (tV t6 / 4))) (by omega) (w2.1.tr (fun a k u => by simp (disch := omega) only [tu_same, tu_eq, tu_ne])) (by simp (disch := omega) only [a66, tu_same, tu_eq, tu_ne]) (by simp (disch := omega) only [tu_same, tu_eq, tu_ne])
  obtain ⟨B8, z1, z2, z3⟩ := l_257 (τ := τ) (m := 12 * b + k) (J := J6) hm 8 0 B7 (by omega)
  obtain ⟨B8u, eB8⟩ : ∃ x, x = tm_u (tm_u (tm_u (tm_u B8 138 (12 * b + k) 0) 139 (12 * b + k) 0) 140 (12 * b + k) (-1)) 143 (12 * b + k) 0 := ⟨_, rfl⟩
  have hev : ∀ a y, ¬ inB (12 * b + k) a y → B8u a y = B6 a y := fun a y hin => by
    have d1 : ¬ (((136 ≤ a ∧ a ≤ 140 ∨ a = 143) ∧ y = 12 * b + k)) := fun e => hin (Or.inl e)
    have d2 : ¬ (a = 141 ∧ 32 * (12 * b + k) ≤ y ∧ y < 32 * (12 * b + k) + 32) := fun e => hin (Or.inr (Or.inl e))
    have d3 : ¬ (a = 142 ∧ 8 * (12 * b + k) ≤ y ∧ y < 8 * (12 * b + k) + 8) := fun e => hin (Or.inr (Or.inr e))
    rw [eB8]
    simp (disch := omega) only [tu_same, tu_eq, tu_ne]
    rw [z3 a y (by omega), y3 a y (by omega)]
    simp (disch := omega) only [tu_same, tu_eq, tu_ne]
  have hni : ∀ a y, (a = 131 ∨ a = 133) → ¬ inB (12 * b + k) a y := fun a y h1 h2 => by
    unfold inB at h2
    omega
  have w2u : MoS s n B8u J6 t6 := w2.tr (fun a y u => hev a y (hni a y (by omega))) rfl
  have F8 : fr B B8u (12 * b + k) := fun a y u w => (hev a y w).trans (F6 a y u w)
  obtain ⟨B9, J9, o1, o2, o3, o4⟩ := m_next (τ := τ) w2u (by omega)
  rw [← e7] at o2
  have hT8 : TrB B8u (12 * b + k) (tV t6 / 4, tV t3, 0, 0, (fun j => fo (s (tQ t6 + 1 + j))), (fun _ => 0), -1, 0) := by
    refine ⟨?_, ?_, ?_, ?_, ?_, ?_, fun i hi => ?_, fun i hi => Or.inl ⟨rfl, ?_⟩⟩
    · rw [eB8]
      simp (disch := omega) only [tu_same, tu_eq, tu_ne]
      rw [z3 137 _ (by omega), y3 137 _ (by omega)]
      simp (disch := omega) only [tu_same, tu_eq, tu_ne]
    · rw [eB8]
      simp (disch := omega) only [tu_same, tu_eq, tu_ne]
      rw [z3 136 _ (by omega), y3 136 _ (by omega)]
      simp (disch := omega) only [tu_same, tu_eq, tu_ne]
      exact hW6
    · rw [eB8]; simp (disch := omega) only [tu_same, tu_eq, tu_ne]; rfl
    · rw [eB8]; simp (disch := omega) only [tu_same, tu_eq, tu_ne]; rfl
    · rw [eB8]; simp (disch := omega) only [tu_same, tu_eq, tu_ne]
    · rw [eB8]; simp (disch := omega) only [tu_same, tu_eq, tu_ne]
    · rw [eB8]
      simp (disch := omega) only [tu_same, tu_eq, tu_ne]
      rw [z3 141 _ (by omega)]
      exact y2 i (by omega) hi
    · rw [eB8]
      simp (disch := omega) only [tu_same, tu_eq, tu_ne]
      exact z2 i (by omega) hi
  refine ⟨B9, J9, fun a y u w => (o3 a y (by omega)).trans (F8 a y u w), fun a y u w => (o4 a y u).trans (G6 a y u w), ?_, o2, hT8.tr (fun a y u v => o3 a y (by omega)), ?_, (o4 134 _ (by omega)).trans hJ6, l1, l2, ?_⟩
  · rw [pre4, e_72_149]
    have z1' : R_72 257 [(0, .ref 131), (1, .int (nI (12 * b + k))), (2, .int (nI 0))] [] (mk B7 J6 τ) = R_72 313 [(0, .ref 131), (1, .int (nI (12 * b + k)))] [] (mk B9 J9 τ) := by
      rw [z1, e_72_257]
      simp (disch := first | omega | (simp (disch := omega) only [n_ti, Int32.reduceToInt] <;> omega)) only [← eB8, o1, n_add, nl_add, nr_add, n_mul, nl_mul, nr_mul, n_sub, nr_dec, n_div, nr_sub_1, nr_sub_2, nr_sub_3, nr_sub_4, nr_sub_7, nr_sub_10, nr_sub_11, nr_sub_20, nr_sub_48, nr_sub_97, nl_sub_3, nl_sub_4, nl_sub_12, nl_sub_24, nl_sub_32, nr_div_2, nr_div_4, z_lt, z_le, z_eq, z_cl, n_ti, Int.toNat_natCast, Int32.reduceToInt, Int32.reduceToNatClampNeg, zc_add, zc_sub, zc_add_1, zc_add_2, zc_add_3, zc_add_4, zc_add_8, zc_add_10, zc_add_12, zc_add_16, zc_add_20, zc_sub_1, zc_sub_2, zc_sub_4, zc_sub_10, zc_sub_20, zc_sub_48, zc_sub_97, zc_mul_4, t_ltZ, f_ltZ, t_leZ, f_leZ, t_eqZ, f_eqZ, t_ltN, f_ltN, t_leN, f_leN, t_eqN, f_eqN, ↓reduceIte, and_true, true_and, and_false, false_and, and_self, or_true, true_or, or_false, false_or, or_self, not_true_eq_false, not_false_eq_true, tu_same, tu_eq, tu_ne, b_V, b_I, b_J]
    have y1' : R_72 211 [(0, .ref 131), (1, .int (nI (12 * b + k))), (2, .int 0)] [] (mk (tm_u B6 137 (12 * b + k) (nI (tV t6 / 4))) J6 τ) = R_72 313 [(0, .ref 131), (1, .int (nI (12 * b + k)))] [] (mk B9 J9 τ) := y1.trans z1'
    have ee : tE t6 - tQ t6 - 2 = tV t6 := by omega
    simp (disch := first | omega | (simp (disch := omega) only [n_ti, Int32.reduceToInt] <;> omega)) only [s1, e_72_152, i2, e_72_160, w1, e_72_163, hg6, e_72_167, b85, e_72_182, e_72_186, a66, a67, ee, y1', n_add, nl_add, nr_add, n_mul, nl_mul, nr_mul, n_sub, nr_dec, n_div, nr_sub_1, nr_sub_2, nr_sub_3, nr_sub_4, nr_sub_7, nr_sub_10, nr_sub_11, nr_sub_20, nr_sub_48, nr_sub_97, nl_sub_3, nl_sub_4, nl_sub_12, nl_sub_24, nl_sub_32, nr_div_2, nr_div_4, z_lt, z_le, z_eq, z_cl, n_ti, Int.toNat_natCast, Int32.reduceToInt, Int32.reduceToNatClampNeg, zc_add, zc_sub, zc_add_1, zc_add_2, zc_add_3, zc_add_4, zc_add_8, zc_add_10, zc_add_12, zc_add_16, zc_add_20, zc_sub_1, zc_sub_2, zc_sub_4, zc_sub_10, zc_sub_20, zc_sub_48, zc_sub_97, zc_mul_4, t_ltZ, f_ltZ, t_leZ, f_leZ, t_eqZ, f_eqZ, t_ltN, f_ltN, t_leN, f_leN, t_eqN, f_eqN, ↓reduceIte, and_true, true_and, and_false, false_and, and_self, or_true, true_or, or_false, false_or, or_self, not_true_eq_false, not_false_eq_true, tu_same, tu_eq, tu_ne, b_V, b_I, b_J]
  · refine ⟨?_, ?_, ?_, ?_, ?_, ?_, ?_, ?_, ?_, ?_⟩
    · show 1 ≤ tV t6 / 4; omega
    · show tV t6 / 4 ≤ 8; omega
    · show tV t3 ≤ 999; omega
    · show 0 ≤ 3; omega
    · show 0 ≤ 3; omega
    · intro i _; exact fo_le _
    · intro i _; show 0 ≤ 3; omega
    · show -1 ≤ (-1 : Int32).toInt; decide
    · show (-1 : Int32).toInt ≤ 3; decide
    · exact Or.inl rfl
  · have g0 : TokOk s n t := h.2.2.1
    have u6 := w2.2.2.1.2.2.1 (by omega) (by omega)
    have u7 := (nx_ok w2.2.2.1 (by omega)).2
    rw [← e7] at u7
    show 1 ≤ tQ t7
    omega
