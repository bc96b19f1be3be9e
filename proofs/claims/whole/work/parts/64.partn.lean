/-! reading: one part of a trick (model) -/
theorem trb_T {B : Nat → Nat → Int32} {m : Nat} {v : Nat} {D : TD} (h : TrB B m D) : TrB (tm_u B 138 m (nI v)) m (sT D v) := by
  obtain ⟨h1, h2, h3, h4, h5, h6, h7, h8⟩ := h
  exact ⟨by simp (disch := omega) only [h1, tu_same, tu_eq, tu_ne]; rfl, by simp (disch := omega) only [h2, tu_same, tu_eq, tu_ne]; rfl, by simp (disch := omega) only [tu_same, tu_eq, tu_ne]; rfl, by simp (disch := omega) only [h4, tu_same, tu_eq, tu_ne]; rfl, by simp (disch := omega) only [h5, tu_same, tu_eq, tu_ne]; rfl, by simp (disch := omega) only [h6, tu_same, tu_eq, tu_ne]; rfl, fun k hk => by simp (disch := omega) only [tu_same, tu_eq, tu_ne]; exact h7 k hk, fun k hk => by simp (disch := omega) only [tu_same, tu_eq, tu_ne]; exact h8 k hk⟩
theorem trb_F {B : Nat → Nat → Int32} {m : Nat} {v : Nat} {D : TD} (h : TrB B m D) : TrB (tm_u B 139 m (nI v)) m (sF D v) := by
  obtain ⟨h1, h2, h3, h4, h5, h6, h7, h8⟩ := h
  exact ⟨by simp (disch := omega) only [h1, tu_same, tu_eq, tu_ne]; rfl, by simp (disch := omega) only [h2, tu_same, tu_eq, tu_ne]; rfl, by simp (disch := omega) only [h3, tu_same, tu_eq, tu_ne]; rfl, by simp (disch := omega) only [tu_same, tu_eq, tu_ne]; rfl, by simp (disch := omega) only [h5, tu_same, tu_eq, tu_ne]; rfl, by simp (disch := omega) only [h6, tu_same, tu_eq, tu_ne]; rfl, fun k hk => by simp (disch := omega) only [tu_same, tu_eq, tu_ne]; exact h7 k hk, fun k hk => by simp (disch := omega) only [tu_same, tu_eq, tu_ne]; exact h8 k hk⟩
theorem trb_C {B : Nat → Nat → Int32} {m : Nat} {v : Int32} {D : TD} (h : TrB B m D) : TrB (tm_u B 140 m v) m (sC D v) := by
  obtain ⟨h1, h2, h3, h4, h5, h6, h7, h8⟩ := h
  exact ⟨by simp (disch := omega) only [h1, tu_same, tu_eq, tu_ne]; rfl, by simp (disch := omega) only [h2, tu_same, tu_eq, tu_ne]; rfl, by simp (disch := omega) only [h3, tu_same, tu_eq, tu_ne]; rfl, by simp (disch := omega) only [h4, tu_same, tu_eq, tu_ne]; rfl, by simp (disch := omega) only [tu_same, tu_eq, tu_ne]; rfl, by simp (disch := omega) only [h6, tu_same, tu_eq, tu_ne]; rfl, fun k hk => by simp (disch := omega) only [tu_same, tu_eq, tu_ne]; exact h7 k hk, fun k hk => by simp (disch := omega) only [tu_same, tu_eq, tu_ne]; exact h8 k hk⟩
theorem trb_A {B : Nat → Nat → Int32} {m : Nat} {v : Int32} {D : TD} (h : TrB B m D) : TrB (tm_u B 143 m v) m (sA D v) := by
  obtain ⟨h1, h2, h3, h4, h5, h6, h7, h8⟩ := h
  exact ⟨by simp (disch := omega) only [h1, tu_same, tu_eq, tu_ne]; rfl, by simp (disch := omega) only [h2, tu_same, tu_eq, tu_ne]; rfl, by simp (disch := omega) only [h3, tu_same, tu_eq, tu_ne]; rfl, by simp (disch := omega) only [h4, tu_same, tu_eq, tu_ne]; rfl, by simp (disch := omega) only [h5, tu_same, tu_eq, tu_ne]; rfl, by simp (disch := omega) only [tu_same, tu_eq, tu_ne]; rfl, fun k hk => by simp (disch := omega) only [tu_same, tu_eq, tu_ne]; exact h7 k hk, fun k hk => by simp (disch := omega) only [tu_same, tu_eq, tu_ne]; exact h8 k hk⟩
theorem PoB.then {s : Nat → Int} {n m : Nat} {B B1 B2 : Nat → Nat → Int32} {J J1 J2 : Nat → Nat → Int64} {r : PR} (h : PoB s n B1 B2 J1 J2 m r) (g : moF B B1 J J1) : PoB s n B B2 J J2 m r := ⟨fun a y u v => (h.1 a y u v).trans (g.1 a y u), fun a y u => (h.2.1 a y u).trans (g.2 a y u), h.2.2⟩
theorem moF.then {B B1 B2 : Nat → Nat → Int32} {J J1 J2 : Nat → Nat → Int64} (g : moF B B1 J J1) (h : moF B1 B2 J1 J2) : moF B B2 J J2 := ⟨fun a y u => (h.1 a y u).trans (g.1 a y u), fun a y u => (h.2 a y u).trans (g.2 a y u)⟩
theorem pMod2_T {s : Nat → Int} {n first md : Nat} {D : TD} {t : TK} : ∀ q, pMod2 s n first md D t = .inr q → dT q.1 = dT D := by
  intro q h
  unfold pMod2 at h
  by_cases c : tK t = 4
  · rw [if_pos c] at h
    cases hn : nf (nx s n t) first (dQ D - 1) with
    | some f => rw [hn] at h; cases h
    | none =>
      rw [hn] at h
      change (if mfree (dM D) (first + 1) (tV (nx s n t) - first) = true then _ else _) = _ at h
      by_cases cm : mfree (dM D) (first + 1) (tV (nx s n t) - first) = true
      · rw [if_pos cm] at h
        cases h
        rfl
      · rw [if_neg cm] at h; cases h
  · rw [if_neg c] at h
    cases h
    rfl
theorem pMod1_T {s : Nat → Int} {n md : Nat} {D : TD} {t : TK} : ∀ q, pMod1 s n md D t = .inr q → dT q.1 = dT D := by
  intro q h
  unfold pMod1 at h
  cases hn : nf t 0 (dQ D - 1) with
  | some f => rw [hn] at h; cases h
  | none =>
    rw [hn] at h
    change (if dM D (tV t) = 0 then _ else _) = _ at h
    by_cases cm : dM D (tV t) = 0
    · rw [if_pos cm] at h
      have e := pMod2_T q h
      exact e
    · rw [if_neg cm] at h; cases h
theorem Fl.s {x : Int32} {D D' : TD} (h : Fl x D) (e : dT D' = dT D) : Fl x D' := by
  unfold Fl
  rw [e]
  exact h
theorem BadB.u {B : Nat → Nat → Int32} {f : Nat × Nat} (h : BadB B f) (a y : Nat) (v : Int32) (ha : a ≠ 131) : BadB (tm_u B a y v) f := ⟨by simp (disch := omega) only [tu_same, tu_eq, tu_ne]; exact h.1, by simp (disch := omega) only [tu_same, tu_eq, tu_ne]; exact h.2.1, h.2.2.1, h.2.2.2.1, by obtain ⟨q, q1, q2⟩ := h.2.2.2.2; exact ⟨q, q1, by simp (disch := omega) only [q2, tu_same, tu_eq, tu_ne]⟩⟩
theorem m_s3 {τ : tm_Tu} {s : Nat → Int} {n m : Nat} {B : Nat → Nat → Int32} {J : Nat → Nat → Int64} {t : TK} {D : TD} {x : Int32} (h : MoS s n B J t) (hm : m < 24) (hB : TrB B m D) (hD : TDok D) (hx : Fl x D) (k : tK t = 3) : StB τ s n m B J x (pModes s n D t) := by
  have pre := m_71p (τ := τ) h hm hB hD hx (by omega) (by omega) (by omega) (by omega)
  obtain ⟨B1, J1, i3, g2, g3⟩ := if_t (τ := τ) h (show 3 < 23 by omega) k
  rw [← wc_3] at i3
  obtain ⟨B2, J2, y1, y2⟩ := m_70 (τ := τ) (md := 1) g2 hm (hB.mo g3) hD (by omega)
  have y1' : F_70 [.ref 131, .int (nI m), .int 1] (mk B1 J1 τ) = some (none, mk B2 J2 τ) := y1
  have e : pModes s n D t = pMod1 s n 1 D (nx s n t) := if_neg (by omega)
  rw [e]
  refine ⟨B2, J2, x, ?_, y2.then g3, fun q e => hx.s (pMod1_T q e)⟩
  rw [pre, e_71_106]
  simp (disch := first | omega | (simp (disch := omega) only [n_ti, Int32.reduceToInt] <;> omega)) only [i3, e_71_117, y1', e_71_126, e_71_356, n_add, nl_add, nr_add, n_mul, nl_mul, nr_mul, n_sub, nr_dec, n_div, nr_sub_1, nr_sub_2, nr_sub_3, nr_sub_4, nr_sub_7, nr_sub_10, nr_sub_11, nr_sub_20, nr_sub_48, nr_sub_97, nl_sub_3, nl_sub_4, nl_sub_12, nl_sub_24, nl_sub_32, nr_div_2, nr_div_4, z_lt, z_le, z_eq, z_cl, n_ti, Int.toNat_natCast, Int32.reduceToInt, Int32.reduceToNatClampNeg, zc_add, zc_sub, zc_add_1, zc_add_2, zc_add_3, zc_add_4, zc_add_8, zc_add_10, zc_add_12, zc_add_16, zc_add_20, zc_sub_1, zc_sub_2, zc_sub_4, zc_sub_10, zc_sub_20, zc_sub_48, zc_sub_97, zc_mul_4, t_ltZ, f_ltZ, t_leZ, f_leZ, t_eqZ, f_eqZ, t_ltN, f_ltN, t_leN, f_leN, t_eqN, f_eqN, ↓reduceIte, and_true, true_and, and_false, false_and, and_self, or_true, true_or, or_false, false_or, or_self, not_true_eq_false, not_false_eq_true, tu_same, tu_eq, tu_ne, b_V, b_I, b_J]
theorem m_s5 {τ : tm_Tu} {s : Nat → Int} {n m : Nat} {B : Nat → Nat → Int32} {J : Nat → Nat → Int64} {t : TK} {D : TD} {x : Int32} (h : MoS s n B J t) (hm : m < 24) (hB : TrB B m D) (hD : TDok D) (hx : Fl x D) (k : tK t = 5) : StB τ s n m B J x (pModes s n D t) := by
  have pre := m_71p (τ := τ) h hm hB hD hx (by omega) (by omega) (by omega) (by omega)
  have j3 : F_69 [.ref 131, .long 427121668979] (mk B J τ) = some (some (.int 0), mk B J τ) := by rw [wc_3]; exact if_f h (by omega) (by omega)
  obtain ⟨B1, J1, i5, g2, g3⟩ := if_t (τ := τ) h (show 5 < 23 by omega) k
  rw [← wc_5] at i5
  have e : pModes s n D t = _ := if_pos k
  rw [e]
  by_cases d1 : tK (nx s n t) = 10
  · rw [if_pos d1]
    have a10 : F_62 [.ref 131, .long 97] (mk B1 J1 τ) = some (some (.int 1), mk B1 J1 τ) := by rw [wc_10]; exact is_t g2 (by omega) (by omega)
    obtain ⟨B2, J2, u1, u2, u3⟩ := m_must1 (τ := τ) g2 (by omega)
    obtain ⟨B3, J3, y1, y2⟩ := m_70 (τ := τ) (md := 2) u2 hm ((hB.mo g3).mo u3) hD (by omega)
    have y1' : F_70 [.ref 131, .int (nI m), .int 2] (mk B2 J2 τ) = some (none, mk B3 J3 τ) := y1
    refine ⟨B3, J3, x, ?_, y2.then (g3.then u3), fun q e => hx.s (pMod1_T q e)⟩
    rw [pre, e_71_106]
    simp (disch := first | omega | (simp (disch := omega) only [n_ti, Int32.reduceToInt] <;> omega)) only [j3, e_71_117, i5, e_71_136, a10, e_71_146, e_71_154, e_71_164, e_71_174, e_71_177, e_71_182, u1, e_71_185, y1', e_71_192, e_71_356, n_add, nl_add, nr_add, n_mul, nl_mul, nr_mul, n_sub, nr_dec, n_div, nr_sub_1, nr_sub_2, nr_sub_3, nr_sub_4, nr_sub_7, nr_sub_10, nr_sub_11, nr_sub_20, nr_sub_48, nr_sub_97, nl_sub_3, nl_sub_4, nl_sub_12, nl_sub_24, nl_sub_32, nr_div_2, nr_div_4, z_lt, z_le, z_eq, z_cl, n_ti, Int.toNat_natCast, Int32.reduceToInt, Int32.reduceToNatClampNeg, zc_add, zc_sub, zc_add_1, zc_add_2, zc_add_3, zc_add_4, zc_add_8, zc_add_10, zc_add_12, zc_add_16, zc_add_20, zc_sub_1, zc_sub_2, zc_sub_4, zc_sub_10, zc_sub_20, zc_sub_48, zc_sub_97, zc_mul_4, t_ltZ, f_ltZ, t_leZ, f_leZ, t_eqZ, f_eqZ, t_ltN, f_ltN, t_leN, f_leN, t_eqN, f_eqN, ↓reduceIte, and_true, true_and, and_false, false_and, and_self, or_true, true_or, or_false, false_or, or_self, not_true_eq_false, not_false_eq_true, tu_same, tu_eq, tu_ne, b_V, b_I, b_J]
  · rw [if_neg d1]
    by_cases d2 : tK (nx s n t) = 11
    · rw [if_pos d2]
      have a10 : F_62 [.ref 131, .long 97] (mk B1 J1 τ) = some (some (.int 0), mk B1 J1 τ) := by rw [wc_10]; exact is_f g2 (by omega) (by omega)
      have a11 : F_62 [.ref 131, .long 98] (mk B1 J1 τ) = some (some (.int 1), mk B1 J1 τ) := by rw [wc_11]; exact is_t g2 (by omega) (by omega)
      obtain ⟨B2, J2, u1, u2, u3⟩ := m_must1 (τ := τ) g2 (by omega)
      obtain ⟨B3, J3, y1, y2⟩ := m_70 (τ := τ) (md := 3) u2 hm ((hB.mo g3).mo u3) hD (by omega)
      have y1' : F_70 [.ref 131, .int (nI m), .int 3] (mk B2 J2 τ) = some (none, mk B3 J3 τ) := y1
      refine ⟨B3, J3, x, ?_, y2.then (g3.then u3), fun q e => hx.s (pMod1_T q e)⟩
      rw [pre, e_71_106]
      simp (disch := first | omega | (simp (disch := omega) only [n_ti, Int32.reduceToInt] <;> omega)) only [j3, e_71_117, i5, e_71_136, a10, a11, e_71_146, e_71_154, e_71_164, e_71_174, e_71_177, e_71_182, u1, e_71_185, y1', e_71_192, e_71_356, n_add, nl_add, nr_add, n_mul, nl_mul, nr_mul, n_sub, nr_dec, n_div, nr_sub_1, nr_sub_2, nr_sub_3, nr_sub_4, nr_sub_7, nr_sub_10, nr_sub_11, nr_sub_20, nr_sub_48, nr_sub_97, nl_sub_3, nl_sub_4, nl_sub_12, nl_sub_24, nl_sub_32, nr_div_2, nr_div_4, z_lt, z_le, z_eq, z_cl, n_ti, Int.toNat_natCast, Int32.reduceToInt, Int32.reduceToNatClampNeg, zc_add, zc_sub, zc_add_1, zc_add_2, zc_add_3, zc_add_4, zc_add_8, zc_add_10, zc_add_12, zc_add_16, zc_add_20, zc_sub_1, zc_sub_2, zc_sub_4, zc_sub_10, zc_sub_20, zc_sub_48, zc_sub_97, zc_mul_4, t_ltZ, f_ltZ, t_leZ, f_leZ, t_eqZ, f_eqZ, t_ltN, f_ltN, t_leN, f_leN, t_eqN, f_eqN, ↓reduceIte, and_true, true_and, and_false, false_and, and_self, or_true, true_or, or_false, false_or, or_self, not_true_eq_false, not_false_eq_true, tu_same, tu_eq, tu_ne, b_V, b_I, b_J]
    · rw [if_neg d2]
      have a10 : F_62 [.ref 131, .long 97] (mk B1 J1 τ) = some (some (.int 0), mk B1 J1 τ) := by rw [wc_10]; exact is_f g2 (by omega) (by omega)
      have a11 : F_62 [.ref 131, .long 98] (mk B1 J1 τ) = some (some (.int 0), mk B1 J1 τ) := by rw [wc_11]; exact is_f g2 (by omega) (by omega)
      have u1 := m_mustN (τ := τ) g2
      have bad := BadB.of g2 2 (by omega) (by omega)
      have y3 := m_70b (τ := τ) (m := m) (J := J1) (x := 3) bad hm
      refine ⟨_, J1, x, ?_, ⟨fun a y u v => ?_, g3.2, bad⟩, fun q e => by cases e⟩
      · rw [pre, e_71_106]
        simp (disch := first | omega | (simp (disch := omega) only [n_ti, Int32.reduceToInt] <;> omega)) only [j3, e_71_117, i5, e_71_136, a10, a11, e_71_146, e_71_154, e_71_164, e_71_174, e_71_177, e_71_182, u1, e_71_185, y3, e_71_192, e_71_356, n_add, nl_add, nr_add, n_mul, nl_mul, nr_mul, n_sub, nr_dec, n_div, nr_sub_1, nr_sub_2, nr_sub_3, nr_sub_4, nr_sub_7, nr_sub_10, nr_sub_11, nr_sub_20, nr_sub_48, nr_sub_97, nl_sub_3, nl_sub_4, nl_sub_12, nl_sub_24, nl_sub_32, nr_div_2, nr_div_4, z_lt, z_le, z_eq, z_cl, n_ti, Int.toNat_natCast, Int32.reduceToInt, Int32.reduceToNatClampNeg, zc_add, zc_sub, zc_add_1, zc_add_2, zc_add_3, zc_add_4, zc_add_8, zc_add_10, zc_add_12, zc_add_16, zc_add_20, zc_sub_1, zc_sub_2, zc_sub_4, zc_sub_10, zc_sub_20, zc_sub_48, zc_sub_97, zc_mul_4, t_ltZ, f_ltZ, t_leZ, f_leZ, t_eqZ, f_eqZ, t_ltN, f_ltN, t_leN, f_leN, t_eqN, f_eqN, ↓reduceIte, and_true, true_and, and_false, false_and, and_self, or_true, true_or, or_false, false_or, or_self, not_true_eq_false, not_false_eq_true, tu_same, tu_eq, tu_ne, b_V, b_I, b_J]
      · simp (disch := omega) only [tu_same, tu_eq, tu_ne]
        exact g3.1 a y u
theorem m_s6 {τ : tm_Tu} {s : Nat → Int} {n m : Nat} {B : Nat → Nat → Int32} {J : Nat → Nat → Int64} {t : TK} {D : TD} {x : Int32} (h : MoS s n B J t) (hm : m < 24) (hB : TrB B m D) (hD : TDok D) (hx : Fl x D) (k : tK t = 6) : StB τ s n m B J x (pTurn s n D t) := by
  unfold pTurn
  by_cases c0 : dT D = 0
  · rw [if_pos c0]
    have pre := m_71p (τ := τ) h hm hB hD hx (by omega) (by omega) (by omega) (by omega)
    have j3 : F_69 [.ref 131, .long 427121668979] (mk B J τ) = some (some (.int 0), mk B J τ) := by rw [wc_3]; exact if_f h (by omega) (by omega)
    have j5 : F_69 [.ref 131, .long 7300710] (mk B J τ) = some (some (.int 0), mk B J τ) := by rw [wc_5]; exact if_f h (by omega) (by omega)
    obtain ⟨B1, J1, i0, g2, g3⟩ := if_t (τ := τ) h (show 6 < 23 by omega) k
    rw [← wc_6] at i0
    have hB1 := hB.mo g3
    rcases m_num (τ := τ) (lo := 1) (hi := 3) g2 (by omega) (by omega) with ⟨f, hn, bad, num⟩ | ⟨hn, B2, J2, num, u2, u3⟩
    · rw [hn]
      have num' : F_67 [.ref 131, .int 1, .int 3] (mk B1 J1 τ) = some (some (.int 1), mk (tm_u (tm_u B1 131 4 (nI f.1)) 131 5 (nI f.2)) J1 τ) := num
      have bad' := bad.u 138 m 1 (by omega)
      refine ⟨_, J1, 1, ?_, ⟨fun a y u v => ?_, g3.2, bad'⟩, fun q e => by cases e⟩
      · rw [pre, e_71_106]
        simp (disch := first | omega | (simp (disch := omega) only [n_ti, Int32.reduceToInt] <;> omega)) only [j3, j5, i0, num', e_71_117, e_71_136, e_71_202, e_71_216, e_71_356, n_add, nl_add, nr_add, n_mul, nl_mul, nr_mul, n_sub, nr_dec, n_div, nr_sub_1, nr_sub_2, nr_sub_3, nr_sub_4, nr_sub_7, nr_sub_10, nr_sub_11, nr_sub_20, nr_sub_48, nr_sub_97, nl_sub_3, nl_sub_4, nl_sub_12, nl_sub_24, nl_sub_32, nr_div_2, nr_div_4, z_lt, z_le, z_eq, z_cl, n_ti, Int.toNat_natCast, Int32.reduceToInt, Int32.reduceToNatClampNeg, zc_add, zc_sub, zc_add_1, zc_add_2, zc_add_3, zc_add_4, zc_add_8, zc_add_10, zc_add_12, zc_add_16, zc_add_20, zc_sub_1, zc_sub_2, zc_sub_4, zc_sub_10, zc_sub_20, zc_sub_48, zc_sub_97, zc_mul_4, t_ltZ, f_ltZ, t_leZ, f_leZ, t_eqZ, f_eqZ, t_ltN, f_ltN, t_leN, f_leN, t_eqN, f_eqN, ↓reduceIte, and_true, true_and, and_false, false_and, and_self, or_true, true_or, or_false, false_or, or_self, not_true_eq_false, not_false_eq_true, tu_same, tu_eq, tu_ne, b_V, b_I, b_J]
      · have : ¬ (a = 138 ∧ y = m) := fun e => v (Or.inl ⟨by omega, e.2⟩)
        simp (disch := omega) only [tu_same, tu_eq, tu_ne]
        exact g3.1 a y u
    · rw [hn]
      obtain ⟨n1, n2, n3⟩ := nf_none hn
      have num' : F_67 [.ref 131, .int 1, .int 3] (mk B1 J1 τ) = some (some (.int (nI (tV (nx s n t)))), mk B2 J2 τ) := num
      refine ⟨tm_u B2 138 m (nI (tV (nx s n t))), J2, 1, ?_, ⟨fun a y u v => ?_, fun a y u => ?_, u2.tr (fun a y u => by simp (disch := omega) only [tu_same, tu_eq, tu_ne]) rfl, trb_T (hB1.mo u3)⟩, fun q e => by cases e; exact Or.inr ⟨rfl, by show tV (nx s n t) ≠ 0; omega⟩⟩
      · rw [pre, e_71_106]
        simp (disch := first | omega | (simp (disch := omega) only [n_ti, Int32.reduceToInt] <;> omega)) only [j3, j5, i0, num', e_71_117, e_71_136, e_71_202, e_71_216, e_71_356, n_add, nl_add, nr_add, n_mul, nl_mul, nr_mul, n_sub, nr_dec, n_div, nr_sub_1, nr_sub_2, nr_sub_3, nr_sub_4, nr_sub_7, nr_sub_10, nr_sub_11, nr_sub_20, nr_sub_48, nr_sub_97, nl_sub_3, nl_sub_4, nl_sub_12, nl_sub_24, nl_sub_32, nr_div_2, nr_div_4, z_lt, z_le, z_eq, z_cl, n_ti, Int.toNat_natCast, Int32.reduceToInt, Int32.reduceToNatClampNeg, zc_add, zc_sub, zc_add_1, zc_add_2, zc_add_3, zc_add_4, zc_add_8, zc_add_10, zc_add_12, zc_add_16, zc_add_20, zc_sub_1, zc_sub_2, zc_sub_4, zc_sub_10, zc_sub_20, zc_sub_48, zc_sub_97, zc_mul_4, t_ltZ, f_ltZ, t_leZ, f_leZ, t_eqZ, f_eqZ, t_ltN, f_ltN, t_leN, f_leN, t_eqN, f_eqN, ↓reduceIte, and_true, true_and, and_false, false_and, and_self, or_true, true_or, or_false, false_or, or_self, not_true_eq_false, not_false_eq_true, tu_same, tu_eq, tu_ne, b_V, b_I, b_J]
      · have : ¬ (a = 138 ∧ y = m) := fun e => v (Or.inl ⟨by omega, e.2⟩)
        simp (disch := omega) only [tu_same, tu_eq, tu_ne]
        rw [u3.1 a y u, g3.1 a y u]
      · rw [u3.2 a y u, g3.2 a y u]
  · rw [if_neg c0]
    exact m_71w h hm hB hD hx (by omega)
theorem m_s8 {τ : tm_Tu} {s : Nat → Int} {n m : Nat} {B : Nat → Nat → Int32} {J : Nat → Nat → Int64} {t : TK} {D : TD} {x : Int32} (h : MoS s n B J t) (hm : m < 24) (hB : TrB B m D) (hD : TDok D) (hx : Fl x D) (k : tK t = 8) : StB τ s n m B J x (pFac s n D t) := by
  unfold pFac
  by_cases c0 : (dC D).toInt = -1
  · rw [if_pos c0]
    have pre := m_71p (τ := τ) h hm hB hD hx (by omega) (by omega) (by omega) (by omega)
    have j3 : F_69 [.ref 131, .long 427121668979] (mk B J τ) = some (some (.int 0), mk B J τ) := by rw [wc_3]; exact if_f h (by omega) (by omega)
    have j5 : F_69 [.ref 131, .long 7300710] (mk B J τ) = some (some (.int 0), mk B J τ) := by rw [wc_5]; exact if_f h (by omega) (by omega)
    have j6 : F_69 [.ref 131, .long 1953854062] (mk B J τ) = some (some (.int 0), mk B J τ) := by rw [wc_6]; exact if_f h (by omega) (by omega)
    have j7 : F_69 [.ref 131, .long 1718775661] (mk B J τ) = some (some (.int 0), mk B J τ) := by rw [wc_7]; exact if_f h (by omega) (by omega)
    obtain ⟨B1, J1, i0, g2, g3⟩ := if_t (τ := τ) h (show 8 < 23 by omega) k
    rw [← wc_8] at i0
    have hB1 := hB.mo g3
    rcases m_num (τ := τ) (lo := 0) (hi := 3) g2 (by omega) (by omega) with ⟨f, hn, bad, num⟩ | ⟨hn, B2, J2, num, u2, u3⟩
    · rw [hn]
      have num' : F_67 [.ref 131, .int 0, .int 3] (mk B1 J1 τ) = some (some (.int 0), mk (tm_u (tm_u B1 131 4 (nI f.1)) 131 5 (nI f.2)) J1 τ) := num
      have bad' := bad.u 140 m 0 (by omega)
      refine ⟨_, J1, x, ?_, ⟨fun a y u v => ?_, g3.2, bad'⟩, fun q e => by cases e⟩
      · rw [pre, e_71_106]
        simp (disch := first | omega | (simp (disch := omega) only [n_ti, Int32.reduceToInt] <;> omega)) only [j3, j5, j6, j7, i0, num', e_71_117, e_71_136, e_71_202, e_71_229, e_71_316, e_71_330, e_71_356, n_add, nl_add, nr_add, n_mul, nl_mul, nr_mul, n_sub, nr_dec, n_div, nr_sub_1, nr_sub_2, nr_sub_3, nr_sub_4, nr_sub_7, nr_sub_10, nr_sub_11, nr_sub_20, nr_sub_48, nr_sub_97, nl_sub_3, nl_sub_4, nl_sub_12, nl_sub_24, nl_sub_32, nr_div_2, nr_div_4, z_lt, z_le, z_eq, z_cl, n_ti, Int.toNat_natCast, Int32.reduceToInt, Int32.reduceToNatClampNeg, zc_add, zc_sub, zc_add_1, zc_add_2, zc_add_3, zc_add_4, zc_add_8, zc_add_10, zc_add_12, zc_add_16, zc_add_20, zc_sub_1, zc_sub_2, zc_sub_4, zc_sub_10, zc_sub_20, zc_sub_48, zc_sub_97, zc_mul_4, t_ltZ, f_ltZ, t_leZ, f_leZ, t_eqZ, f_eqZ, t_ltN, f_ltN, t_leN, f_leN, t_eqN, f_eqN, ↓reduceIte, and_true, true_and, and_false, false_and, and_self, or_true, true_or, or_false, false_or, or_self, not_true_eq_false, not_false_eq_true, tu_same, tu_eq, tu_ne, b_V, b_I, b_J]
      · have : ¬ (a = 140 ∧ y = m) := fun e => v (Or.inl ⟨by omega, e.2⟩)
        simp (disch := omega) only [tu_same, tu_eq, tu_ne]
        exact g3.1 a y u
    · rw [hn]
      obtain ⟨n1, n2, n3⟩ := nf_none hn
      have num' : F_67 [.ref 131, .int 0, .int 3] (mk B1 J1 τ) = some (some (.int (nI (tV (nx s n t)))), mk B2 J2 τ) := num
      refine ⟨tm_u B2 140 m (nI (tV (nx s n t))), J2, x, ?_, ⟨fun a y u v => ?_, fun a y u => ?_, u2.tr (fun a y u => by simp (disch := omega) only [tu_same, tu_eq, tu_ne]) rfl, trb_C (hB1.mo u3)⟩, fun q e => by cases e; exact hx⟩
      · rw [pre, e_71_106]
        simp (disch := first | omega | (simp (disch := omega) only [n_ti, Int32.reduceToInt] <;> omega)) only [j3, j5, j6, j7, i0, num', e_71_117, e_71_136, e_71_202, e_71_229, e_71_316, e_71_330, e_71_356, n_add, nl_add, nr_add, n_mul, nl_mul, nr_mul, n_sub, nr_dec, n_div, nr_sub_1, nr_sub_2, nr_sub_3, nr_sub_4, nr_sub_7, nr_sub_10, nr_sub_11, nr_sub_20, nr_sub_48, nr_sub_97, nl_sub_3, nl_sub_4, nl_sub_12, nl_sub_24, nl_sub_32, nr_div_2, nr_div_4, z_lt, z_le, z_eq, z_cl, n_ti, Int.toNat_natCast, Int32.reduceToInt, Int32.reduceToNatClampNeg, zc_add, zc_sub, zc_add_1, zc_add_2, zc_add_3, zc_add_4, zc_add_8, zc_add_10, zc_add_12, zc_add_16, zc_add_20, zc_sub_1, zc_sub_2, zc_sub_4, zc_sub_10, zc_sub_20, zc_sub_48, zc_sub_97, zc_mul_4, t_ltZ, f_ltZ, t_leZ, f_leZ, t_eqZ, f_eqZ, t_ltN, f_ltN, t_leN, f_leN, t_eqN, f_eqN, ↓reduceIte, and_true, true_and, and_false, false_and, and_self, or_true, true_or, or_false, false_or, or_self, not_true_eq_false, not_false_eq_true, tu_same, tu_eq, tu_ne, b_V, b_I, b_J]
      · have : ¬ (a = 140 ∧ y = m) := fun e => v (Or.inl ⟨by omega, e.2⟩)
        simp (disch := omega) only [tu_same, tu_eq, tu_ne]
        rw [u3.1 a y u, g3.1 a y u]
      · rw [u3.2 a y u, g3.2 a y u]
  · rw [if_neg c0]
    exact m_71w h hm hB hD hx (by omega)
theorem m_s9 {τ : tm_Tu} {s : Nat → Int} {n m : Nat} {B : Nat → Nat → Int32} {J : Nat → Nat → Int64} {t : TK} {D : TD} {x : Int32} (h : MoS s n B J t) (hm : m < 24) (hB : TrB B m D) (hD : TDok D) (hx : Fl x D) (k : tK t = 9) : StB τ s n m B J x (pAlo s n D t) := by
  unfold pAlo
  by_cases c0 : (dA D).toInt = 0
  · rw [if_pos c0]
    have pre := m_71p (τ := τ) h hm hB hD hx (by omega) (by omega) (by omega) (by omega)
    have j3 : F_69 [.ref 131, .long 427121668979] (mk B J τ) = some (some (.int 0), mk B J τ) := by rw [wc_3]; exact if_f h (by omega) (by omega)
    have j5 : F_69 [.ref 131, .long 7300710] (mk B J τ) = some (some (.int 0), mk B J τ) := by rw [wc_5]; exact if_f h (by omega) (by omega)
    have j6 : F_69 [.ref 131, .long 1953854062] (mk B J τ) = some (some (.int 0), mk B J τ) := by rw [wc_6]; exact if_f h (by omega) (by omega)
    have j7 : F_69 [.ref 131, .long 1718775661] (mk B J τ) = some (some (.int 0), mk B J τ) := by rw [wc_7]; exact if_f h (by omega) (by omega)
    have j8 : F_69 [.ref 131, .long 112568465714791] (mk B J τ) = some (some (.int 0), mk B J τ) := by rw [wc_8]; exact if_f h (by omega) (by omega)
    obtain ⟨B1, J1, i0, g2, g3⟩ := if_t (τ := τ) h (show 9 < 23 by omega) k
    rw [← wc_9] at i0
    have hB1 := hB.mo g3
    refine ⟨tm_u B1 143 m 1, J1, x, ?_, ⟨fun a y u v => ?_, g3.2, g2.tr (fun a y u => by simp (disch := omega) only [tu_same, tu_eq, tu_ne]) rfl, trb_A hB1⟩, fun q e => by cases e; exact hx⟩
    · rw [pre, e_71_106]
      simp (disch := first | omega | (simp (disch := omega) only [n_ti, Int32.reduceToInt] <;> omega)) only [j3, j5, j6, j7, j8, i0, e_71_117, e_71_136, e_71_202, e_71_229, e_71_316, e_71_341, e_71_356, n_add, nl_add, nr_add, n_mul, nl_mul, nr_mul, n_sub, nr_dec, n_div, nr_sub_1, nr_sub_2, nr_sub_3, nr_sub_4, nr_sub_7, nr_sub_10, nr_sub_11, nr_sub_20, nr_sub_48, nr_sub_97, nl_sub_3, nl_sub_4, nl_sub_12, nl_sub_24, nl_sub_32, nr_div_2, nr_div_4, z_lt, z_le, z_eq, z_cl, n_ti, Int.toNat_natCast, Int32.reduceToInt, Int32.reduceToNatClampNeg, zc_add, zc_sub, zc_add_1, zc_add_2, zc_add_3, zc_add_4, zc_add_8, zc_add_10, zc_add_12, zc_add_16, zc_add_20, zc_sub_1, zc_sub_2, zc_sub_4, zc_sub_10, zc_sub_20, zc_sub_48, zc_sub_97, zc_mul_4, t_ltZ, f_ltZ, t_leZ, f_leZ, t_eqZ, f_eqZ, t_ltN, f_ltN, t_leN, f_leN, t_eqN, f_eqN, ↓reduceIte, and_true, true_and, and_false, false_and, and_self, or_true, true_or, or_false, false_or, or_self, not_true_eq_false, not_false_eq_true, tu_same, tu_eq, tu_ne, b_V, b_I, b_J]
    · have : ¬ (a = 143 ∧ y = m) := fun e => v (Or.inl ⟨by omega, e.2⟩)
      simp (disch := omega) only [tu_same, tu_eq, tu_ne]
      exact g3.1 a y u
  · rw [if_neg c0]
    exact m_71w h hm hB hD hx (by omega)
theorem m_s7 {τ : tm_Tu} {s : Nat → Int} {n m : Nat} {B : Nat → Nat → Int32} {J : Nat → Nat → Int64} {t : TK} {D : TD} {x : Int32} (h : MoS s n B J t) (hm : m < 24) (hB : TrB B m D) (hD : TDok D) (hx : Fl x D) (k : tK t = 7) : StB τ s n m B J x (pFrom s n D t) := by
  unfold pFrom
  by_cases c0 : dF D = 0
  · rw [if_pos c0]
    have pre := m_71p (τ := τ) h hm hB hD hx (by omega) (by omega) (by omega) (by omega)
    have j3 : F_69 [.ref 131, .long 427121668979] (mk B J τ) = some (some (.int 0), mk B J τ) := by rw [wc_3]; exact if_f h (by omega) (by omega)
    have j5 : F_69 [.ref 131, .long 7300710] (mk B J τ) = some (some (.int 0), mk B J τ) := by rw [wc_5]; exact if_f h (by omega) (by omega)
    have j6 : F_69 [.ref 131, .long 1953854062] (mk B J τ) = some (some (.int 0), mk B J τ) := by rw [wc_6]; exact if_f h (by omega) (by omega)
    obtain ⟨B1, J1, i0, g2, g3⟩ := if_t (τ := τ) h (show 7 < 23 by omega) k
    rw [← wc_7] at i0
    have hB1 := hB.mo g3
    by_cases d1 : tK (nx s n t) = 11
    · rw [if_pos d1]
      have a12 : F_62 [.ref 131, .long 108] (mk B1 J1 τ) = some (some (.int 0), mk B1 J1 τ) := by rw [wc_12]; exact is_f g2 (by omega) (by omega)
      have a13 : F_62 [.ref 131, .long 114] (mk B1 J1 τ) = some (some (.int 0), mk B1 J1 τ) := by rw [wc_13]; exact is_f g2 (by omega) (by omega)
      have g2u : MoS s n (tm_u B1 139 m 3) J1 (nx s n t) := g2.tr (fun a y u => by simp (disch := omega) only [tu_same, tu_eq, tu_ne]) rfl
      have d12 : F_62 [.ref 131, .long 108] (mk (tm_u B1 139 m 3) J1 τ) = some (some (.int 0), mk (tm_u B1 139 m 3) J1 τ) := by rw [wc_12]; exact is_f g2u (by omega) (by omega)
      have d13 : F_62 [.ref 131, .long 114] (mk (tm_u B1 139 m 3) J1 τ) = some (some (.int 0), mk (tm_u B1 139 m 3) J1 τ) := by rw [wc_13]; exact is_f g2u (by omega) (by omega)
      have d11 : F_62 [.ref 131, .long 98] (mk (tm_u B1 139 m 3) J1 τ) = some (some (.int 1), mk (tm_u B1 139 m 3) J1 τ) := by rw [wc_11]; exact is_t g2u (by omega) (by omega)
      obtain ⟨B2, J2, u1, u2, u3⟩ := m_must1 (τ := τ) g2u (by omega)
      refine ⟨B2, J2, x, ?_, ⟨fun a y u v => ?_, fun a y u => ?_, u2, TrB.mo (trb_F (v := 3) hB1) u3⟩, fun q e => by cases e; exact hx⟩
      · rw [pre, e_71_106]
        simp (disch := first | omega | (simp (disch := omega) only [n_ti, Int32.reduceToInt] <;> omega)) only [j3, j5, j6, i0, a12, d12, a13, d13, d11, e_71_117, e_71_136, e_71_202, e_71_229, e_71_244, e_71_258, e_71_266, e_71_275, e_71_285, e_71_295, e_71_298, e_71_303, u1, e_71_306, e_71_356, n_add, nl_add, nr_add, n_mul, nl_mul, nr_mul, n_sub, nr_dec, n_div, nr_sub_1, nr_sub_2, nr_sub_3, nr_sub_4, nr_sub_7, nr_sub_10, nr_sub_11, nr_sub_20, nr_sub_48, nr_sub_97, nl_sub_3, nl_sub_4, nl_sub_12, nl_sub_24, nl_sub_32, nr_div_2, nr_div_4, z_lt, z_le, z_eq, z_cl, n_ti, Int.toNat_natCast, Int32.reduceToInt, Int32.reduceToNatClampNeg, zc_add, zc_sub, zc_add_1, zc_add_2, zc_add_3, zc_add_4, zc_add_8, zc_add_10, zc_add_12, zc_add_16, zc_add_20, zc_sub_1, zc_sub_2, zc_sub_4, zc_sub_10, zc_sub_20, zc_sub_48, zc_sub_97, zc_mul_4, t_ltZ, f_ltZ, t_leZ, f_leZ, t_eqZ, f_eqZ, t_ltN, f_ltN, t_leN, f_leN, t_eqN, f_eqN, ↓reduceIte, and_true, true_and, and_false, false_and, and_self, or_true, true_or, or_false, false_or, or_self, not_true_eq_false, not_false_eq_true, tu_same, tu_eq, tu_ne, b_V, b_I, b_J]
      · have : ¬ (a = 139 ∧ y = m) := fun e => v (Or.inl ⟨by omega, e.2⟩)
        rw [u3.1 a y u]
        simp (disch := omega) only [tu_same, tu_eq, tu_ne]
        exact g3.1 a y u
      · rw [u3.2 a y u, g3.2 a y u]
    · rw [if_neg d1]
      by_cases d2 : tK (nx s n t) = 12
      · rw [if_pos d2]
        have a12 : F_62 [.ref 131, .long 108] (mk B1 J1 τ) = some (some (.int 1), mk B1 J1 τ) := by rw [wc_12]; exact is_t g2 (by omega) (by omega)
        have g2u : MoS s n (tm_u B1 139 m 1) J1 (nx s n t) := g2.tr (fun a y u => by simp (disch := omega) only [tu_same, tu_eq, tu_ne]) rfl
        have d12 : F_62 [.ref 131, .long 108] (mk (tm_u B1 139 m 1) J1 τ) = some (some (.int 1), mk (tm_u B1 139 m 1) J1 τ) := by rw [wc_12]; exact is_t g2u (by omega) (by omega)
        obtain ⟨B2, J2, u1, u2, u3⟩ := m_must1 (τ := τ) g2u (by omega)
        refine ⟨B2, J2, x, ?_, ⟨fun a y u v => ?_, fun a y u => ?_, u2, TrB.mo (trb_F (v := 1) hB1) u3⟩, fun q e => by cases e; exact hx⟩
        · rw [pre, e_71_106]
          simp (disch := first | omega | (simp (disch := omega) only [n_ti, Int32.reduceToInt] <;> omega)) only [j3, j5, j6, i0, a12, d12, e_71_117, e_71_136, e_71_202, e_71_229, e_71_244, e_71_258, e_71_266, e_71_275, e_71_285, e_71_295, e_71_298, e_71_303, u1, e_71_306, e_71_356, n_add, nl_add, nr_add, n_mul, nl_mul, nr_mul, n_sub, nr_dec, n_div, nr_sub_1, nr_sub_2, nr_sub_3, nr_sub_4, nr_sub_7, nr_sub_10, nr_sub_11, nr_sub_20, nr_sub_48, nr_sub_97, nl_sub_3, nl_sub_4, nl_sub_12, nl_sub_24, nl_sub_32, nr_div_2, nr_div_4, z_lt, z_le, z_eq, z_cl, n_ti, Int.toNat_natCast, Int32.reduceToInt, Int32.reduceToNatClampNeg, zc_add, zc_sub, zc_add_1, zc_add_2, zc_add_3, zc_add_4, zc_add_8, zc_add_10, zc_add_12, zc_add_16, zc_add_20, zc_sub_1, zc_sub_2, zc_sub_4, zc_sub_10, zc_sub_20, zc_sub_48, zc_sub_97, zc_mul_4, t_ltZ, f_ltZ, t_leZ, f_leZ, t_eqZ, f_eqZ, t_ltN, f_ltN, t_leN, f_leN, t_eqN, f_eqN, ↓reduceIte, and_true, true_and, and_false, false_and, and_self, or_true, true_or, or_false, false_or, or_self, not_true_eq_false, not_false_eq_true, tu_same, tu_eq, tu_ne, b_V, b_I, b_J]
        · have : ¬ (a = 139 ∧ y = m) := fun e => v (Or.inl ⟨by omega, e.2⟩)
          rw [u3.1 a y u]
          simp (disch := omega) only [tu_same, tu_eq, tu_ne]
          exact g3.1 a y u
        · rw [u3.2 a y u, g3.2 a y u]
      · rw [if_neg d2]
        by_cases d3 : tK (nx s n t) = 13
        · rw [if_pos d3]
          have a12 : F_62 [.ref 131, .long 108] (mk B1 J1 τ) = some (some (.int 0), mk B1 J1 τ) := by rw [wc_12]; exact is_f g2 (by omega) (by omega)
          have a13 : F_62 [.ref 131, .long 114] (mk B1 J1 τ) = some (some (.int 1), mk B1 J1 τ) := by rw [wc_13]; exact is_t g2 (by omega) (by omega)
          have g2u : MoS s n (tm_u B1 139 m 2) J1 (nx s n t) := g2.tr (fun a y u => by simp (disch := omega) only [tu_same, tu_eq, tu_ne]) rfl
          have d12 : F_62 [.ref 131, .long 108] (mk (tm_u B1 139 m 2) J1 τ) = some (some (.int 0), mk (tm_u B1 139 m 2) J1 τ) := by rw [wc_12]; exact is_f g2u (by omega) (by omega)
          have d13 : F_62 [.ref 131, .long 114] (mk (tm_u B1 139 m 2) J1 τ) = some (some (.int 1), mk (tm_u B1 139 m 2) J1 τ) := by rw [wc_13]; exact is_t g2u (by omega) (by omega)
          obtain ⟨B2, J2, u1, u2, u3⟩ := m_must1 (τ := τ) g2u (by omega)
          refine ⟨B2, J2, x, ?_, ⟨fun a y u v => ?_, fun a y u => ?_, u2, TrB.mo (trb_F (v := 2) hB1) u3⟩, fun q e => by cases e; exact hx⟩
          · rw [pre, e_71_106]
            simp (disch := first | omega | (simp (disch := omega) only [n_ti, Int32.reduceToInt] <;> omega)) only [j3, j5, j6, i0, a12, d12, a13, d13, e_71_117, e_71_136, e_71_202, e_71_229, e_71_244, e_71_258, e_71_266, e_71_275, e_71_285, e_71_295, e_71_298, e_71_303, u1, e_71_306, e_71_356, n_add, nl_add, nr_add, n_mul, nl_mul, nr_mul, n_sub, nr_dec, n_div, nr_sub_1, nr_sub_2, nr_sub_3, nr_sub_4, nr_sub_7, nr_sub_10, nr_sub_11, nr_sub_20, nr_sub_48, nr_sub_97, nl_sub_3, nl_sub_4, nl_sub_12, nl_sub_24, nl_sub_32, nr_div_2, nr_div_4, z_lt, z_le, z_eq, z_cl, n_ti, Int.toNat_natCast, Int32.reduceToInt, Int32.reduceToNatClampNeg, zc_add, zc_sub, zc_add_1, zc_add_2, zc_add_3, zc_add_4, zc_add_8, zc_add_10, zc_add_12, zc_add_16, zc_add_20, zc_sub_1, zc_sub_2, zc_sub_4, zc_sub_10, zc_sub_20, zc_sub_48, zc_sub_97, zc_mul_4, t_ltZ, f_ltZ, t_leZ, f_leZ, t_eqZ, f_eqZ, t_ltN, f_ltN, t_leN, f_leN, t_eqN, f_eqN, ↓reduceIte, and_true, true_and, and_false, false_and, and_self, or_true, true_or, or_false, false_or, or_self, not_true_eq_false, not_false_eq_true, tu_same, tu_eq, tu_ne, b_V, b_I, b_J]
          · have : ¬ (a = 139 ∧ y = m) := fun e => v (Or.inl ⟨by omega, e.2⟩)
            rw [u3.1 a y u]
            simp (disch := omega) only [tu_same, tu_eq, tu_ne]
            exact g3.1 a y u
          · rw [u3.2 a y u, g3.2 a y u]
        · rw [if_neg d3]
          have a12 : F_62 [.ref 131, .long 108] (mk B1 J1 τ) = some (some (.int 0), mk B1 J1 τ) := by rw [wc_12]; exact is_f g2 (by omega) (by omega)
          have a13 : F_62 [.ref 131, .long 114] (mk B1 J1 τ) = some (some (.int 0), mk B1 J1 τ) := by rw [wc_13]; exact is_f g2 (by omega) (by omega)
          have g2u : MoS s n (tm_u B1 139 m 3) J1 (nx s n t) := g2.tr (fun a y u => by simp (disch := omega) only [tu_same, tu_eq, tu_ne]) rfl
          have d12 : F_62 [.ref 131, .long 108] (mk (tm_u B1 139 m 3) J1 τ) = some (some (.int 0), mk (tm_u B1 139 m 3) J1 τ) := by rw [wc_12]; exact is_f g2u (by omega) (by omega)
          have d13 : F_62 [.ref 131, .long 114] (mk (tm_u B1 139 m 3) J1 τ) = some (some (.int 0), mk (tm_u B1 139 m 3) J1 τ) := by rw [wc_13]; exact is_f g2u (by omega) (by omega)
          have d11 : F_62 [.ref 131, .long 98] (mk (tm_u B1 139 m 3) J1 τ) = some (some (.int 0), mk (tm_u B1 139 m 3) J1 τ) := by rw [wc_11]; exact is_f g2u (by omega) (by omega)
          have u1 := m_mustN (τ := τ) g2u
          have bad := BadB.of g2u 2 (by omega) (by omega)
          refine ⟨_, J1, x, ?_, ⟨fun a y u v => ?_, g3.2, bad⟩, fun q e => by cases e⟩
          · rw [pre, e_71_106]
            simp (disch := first | omega | (simp (disch := omega) only [n_ti, Int32.reduceToInt] <;> omega)) only [j3, j5, j6, i0, a12, d12, a13, d13, d11, e_71_117, e_71_136, e_71_202, e_71_229, e_71_244, e_71_258, e_71_266, e_71_275, e_71_285, e_71_295, e_71_298, e_71_303, u1, e_71_306, e_71_356, n_add, nl_add, nr_add, n_mul, nl_mul, nr_mul, n_sub, nr_dec, n_div, nr_sub_1, nr_sub_2, nr_sub_3, nr_sub_4, nr_sub_7, nr_sub_10, nr_sub_11, nr_sub_20, nr_sub_48, nr_sub_97, nl_sub_3, nl_sub_4, nl_sub_12, nl_sub_24, nl_sub_32, nr_div_2, nr_div_4, z_lt, z_le, z_eq, z_cl, n_ti, Int.toNat_natCast, Int32.reduceToInt, Int32.reduceToNatClampNeg, zc_add, zc_sub, zc_add_1, zc_add_2, zc_add_3, zc_add_4, zc_add_8, zc_add_10, zc_add_12, zc_add_16, zc_add_20, zc_sub_1, zc_sub_2, zc_sub_4, zc_sub_10, zc_sub_20, zc_sub_48, zc_sub_97, zc_mul_4, t_ltZ, f_ltZ, t_leZ, f_leZ, t_eqZ, f_eqZ, t_ltN, f_ltN, t_leN, f_leN, t_eqN, f_eqN, ↓reduceIte, and_true, true_and, and_false, false_and, and_self, or_true, true_or, or_false, false_or, or_self, not_true_eq_false, not_false_eq_true, tu_same, tu_eq, tu_ne, b_V, b_I, b_J]
          · have : ¬ (a = 139 ∧ y = m) := fun e => v (Or.inl ⟨by omega, e.2⟩)
            simp (disch := omega) only [tu_same, tu_eq, tu_ne]
            exact g3.1 a y u
  · rw [if_neg c0]
    exact m_71w h hm hB hD hx (by omega)
theorem m_step {τ : tm_Tu} {s : Nat → Int} {n m : Nat} {B : Nat → Nat → Int32} {J : Nat → Nat → Int64} {t : TK} {D : TD} {x : Int32} (h : MoS s n B J t) (hm : m < 24) (hB : TrB B m D) (hD : TDok D) (hx : Fl x D) (k : tK t = 3 ∨ (5 ≤ tK t ∧ tK t ≤ 9)) : StB τ s n m B J x (pStep s n D t) := by
  unfold pStep
  by_cases c1 : tK t = 3 ∨ tK t = 5
  · rw [if_pos c1]
    rcases c1 with c | c
    · exact m_s3 h hm hB hD hx c
    · exact m_s5 h hm hB hD hx c
  · rw [if_neg c1]
    by_cases c6 : tK t = 6
    · rw [if_pos c6]; exact m_s6 h hm hB hD hx c6
    · rw [if_neg c6]
      by_cases c7 : tK t = 7
      · rw [if_pos c7]; exact m_s7 h hm hB hD hx c7
      · rw [if_neg c7]
        by_cases c8 : tK t = 8
        · rw [if_pos c8]; exact m_s8 h hm hB hD hx c8
        · rw [if_neg c8, if_pos (by omega)]; exact m_s9 h hm hB hD hx (by omega)
