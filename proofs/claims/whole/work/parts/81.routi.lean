/-! routine: a line and the lines (model) -/
def LnB (B : Nat → Nat → Int32) (i : Nat) (L : LD) : Prop := B 146 i = nI L.1 ∧ B 147 i = nI L.2.1 ∧ B 148 i = nI (ac L.2.2.1) ∧ B 149 i = nI L.2.2.2.1 ∧ B 150 i = nI L.2.2.2.2
def fL (B B' : Nat → Nat → Int32) (b k : Nat) : Prop := ∀ a y, ¬ (a = 131 ∧ 4 ≤ y ∧ y ≤ 9) → ¬ (146 ≤ a ∧ a ≤ 150 ∧ y = 60 * b + k) → ¬ (a = 144 ∧ y = b) → B' a y = B a y
def jX (J J' : Nat → Nat → Int64) : Prop := ∀ a y, ¬ (a = 131 ∧ y = 10) → J' a y = J a y
theorem x_369 {τ : tm_Tu} {s : Nat → Int} {n b k : Nat} {B : Nat → Nat → Int32} {J : Nat → Nat → Int64} {f : Nat × Nat} (h : BadB B f) (hT : TxB B s n) (hb : b < 2) (h31 : B 131 31 = nI b) (h144 : B 144 b = nI k) : R_80 369 [(0, .ref 131)] [] (mk B J τ) = some (none, mk (tm_u B 144 b (nI (k + 1))) J τ) := by
  obtain ⟨z, z1, z2⟩ := h.2.2.2.2
  obtain ⟨r, hr⟩ := w_68 (τ := τ) (J := J) (c := 59) hT z2 (by omega) (Or.inr rfl)
  have hr' : F_68 [.ref 131, .int 59] (mk B J τ) = some (some (.int r), mk B J τ) := hr
  have gm := m_must0 (τ := τ) (J := J) (x := r) h
  rw [e_80_369]
  simp (disch := first | omega | (simp (disch := omega) only [n_ti, Int32.reduceToInt] <;> omega)) only [hr', e_80_376, gm, e_80_379, h31, h144, n_add, nl_add, nr_add, n_mul, nl_mul, nr_mul, n_sub, nr_dec, n_div, nr_sub_1, nr_sub_2, nr_sub_3, nr_sub_4, nr_sub_7, nr_sub_10, nr_sub_11, nr_sub_20, nr_sub_48, nr_sub_97, nl_sub_3, nl_sub_4, nl_sub_12, nl_sub_24, nl_sub_32, nr_div_2, nr_div_4, z_lt, z_le, z_eq, z_cl, n_ti, Int.toNat_natCast, Int32.reduceToInt, Int32.reduceToNatClampNeg, zc_add, zc_sub, zc_add_1, zc_add_2, zc_add_3, zc_add_4, zc_add_8, zc_add_10, zc_add_12, zc_add_16, zc_add_20, zc_sub_1, zc_sub_2, zc_sub_4, zc_sub_10, zc_sub_20, zc_sub_48, zc_sub_97, zc_mul_4, t_ltZ, f_ltZ, t_leZ, f_leZ, t_eqZ, f_eqZ, t_ltN, f_ltN, t_leN, f_leN, t_eqN, f_eqN, ↓reduceIte, and_true, true_and, and_false, false_and, and_self, or_true, true_or, or_false, false_or, or_self, not_true_eq_false, not_false_eq_true, tu_same, tu_eq, tu_ne, b_V, b_I, b_J]
set_option maxHeartbeats 1000000 in
theorem m_80 {τ : tm_Tu} {s : Nat → Int} {n b k N lo bk m : Nat} {nm : Nat → List Nat} {B : Nat → Nat → Int32} {J : Nat → Nat → Int64} {t : TK} (h : MoS s n B J t) (h15 : tK t = 15) (hb : b < 2) (hk : k < 60) (h31 : B 131 31 = nI b) (h144 : B 144 b = nI k) (hNb : 1 ≤ N ∧ N ≤ 200) (h145 : B 145 b = nI N) (hlo : lo < 200) (hl : (k = 0 ∧ lo = 0) ∨ (1 ≤ k ∧ B 146 (60 * b + k - 1) = nI lo)) (hbk : bk < 2) (h21 : B 131 21 = nI bk) (hm : m ≤ 12) (h135 : B 135 bk = nI m) (hN : NmB J bk m nm) : ∃ B' J', F_80 [.ref 131] (mk B J τ) = some (none, mk B' J' τ) ∧ fL B B' b k ∧ jX J J' ∧ (match pLine s n nm m N lo t with
    | .inl f => BadB B' f
    | .inr q => MoS s n B' J' q.2 ∧ LnB B' (60 * b + k) q.1 ∧ B' 144 b = nI (k + 1)) := by
  have hi : 60 * b + k < 120 := by omega
  have hg := m_gd (τ := τ) (J := J) h.2.2.2
  have i0 : F_62 [.ref 131, .long 24948] (mk B J τ) = some (some (.int 1), mk B J τ) := by rw [wc_15]; exact is_t h (by omega) h15
  obtain ⟨B1, J1, n1, n2, n3, n4⟩ := m_next (τ := τ) h (by omega)
  have h31a : B1 131 31 = nI b := (n3 _ _ (by omega)).trans h31
  have h144a : B1 144 b = nI k := (n3 _ _ (by omega)).trans h144
  have h145a : B1 145 b = nI N := (n3 _ _ (by omega)).trans h145
  have pre : F_80 [.ref 131] (mk B J τ) = R_80 88 [(0, .ref 131), (1, .int (nI (60 * b + k)))] [.int (nI lo), .ref 131, .int (nI (60 * b + k)), .ref 146] (mk B1 J1 τ) := by
    rw [e_80]
    rcases hl with ⟨e1, e2⟩ | ⟨e1, e2⟩
    · subst e1 e2
      simp (disch := first | omega | (simp (disch := omega) only [n_ti, Int32.reduceToInt] <;> omega)) only [i0, e_80_7, h31, h144, e_80_28, hg, e_80_32, n1, e_80_40, h31a, h144a, n_add, nl_add, nr_add, n_mul, nl_mul, nr_mul, n_sub, nr_dec, n_div, nr_sub_1, nr_sub_2, nr_sub_3, nr_sub_4, nr_sub_7, nr_sub_10, nr_sub_11, nr_sub_20, nr_sub_48, nr_sub_97, nl_sub_3, nl_sub_4, nl_sub_12, nl_sub_24, nl_sub_32, nr_div_2, nr_div_4, z_lt, z_le, z_eq, z_cl, n_ti, Int.toNat_natCast, Int32.reduceToInt, Int32.reduceToNatClampNeg, zc_add, zc_sub, zc_add_1, zc_add_2, zc_add_3, zc_add_4, zc_add_8, zc_add_10, zc_add_12, zc_add_16, zc_add_20, zc_sub_1, zc_sub_2, zc_sub_4, zc_sub_10, zc_sub_20, zc_sub_48, zc_sub_97, zc_mul_4, t_ltZ, f_ltZ, t_leZ, f_leZ, t_eqZ, f_eqZ, t_ltN, f_ltN, t_leN, f_leN, t_eqN, f_eqN, ↓reduceIte, and_true, true_and, and_false, false_and, and_self, or_true, true_or, or_false, false_or, or_self, not_true_eq_false, not_false_eq_true, tu_same, tu_eq, tu_ne, b_V, b_I, b_J]
      rfl
    · have e3 : B1 146 (60 * b + k - 1) = nI lo := (n3 _ _ (by omega)).trans e2
      simp (disch := first | omega | (simp (disch := omega) only [n_ti, Int32.reduceToInt] <;> omega)) only [i0, e_80_7, h31, h144, e_80_28, hg, e_80_32, n1, e_80_40, h31a, h144a, e3, n_add, nl_add, nr_add, n_mul, nl_mul, nr_mul, n_sub, nr_dec, n_div, nr_sub_1, nr_sub_2, nr_sub_3, nr_sub_4, nr_sub_7, nr_sub_10, nr_sub_11, nr_sub_20, nr_sub_48, nr_sub_97, nl_sub_3, nl_sub_4, nl_sub_12, nl_sub_24, nl_sub_32, nr_div_2, nr_div_4, z_lt, z_le, z_eq, z_cl, n_ti, Int.toNat_natCast, Int32.reduceToInt, Int32.reduceToNatClampNeg, zc_add, zc_sub, zc_add_1, zc_add_2, zc_add_3, zc_add_4, zc_add_8, zc_add_10, zc_add_12, zc_add_16, zc_add_20, zc_sub_1, zc_sub_2, zc_sub_4, zc_sub_10, zc_sub_20, zc_sub_48, zc_sub_97, zc_mul_4, t_ltZ, f_ltZ, t_leZ, f_leZ, t_eqZ, f_eqZ, t_ltN, f_ltN, t_leN, f_leN, t_eqN, f_eqN, ↓reduceIte, and_true, true_and, and_false, false_and, and_self, or_true, true_or, or_false, false_or, or_self, not_true_eq_false, not_false_eq_true, tu_same, tu_eq, tu_ne, b_V, b_I, b_J]
  unfold pLine
  have F1 : fL B B1 b k := fun a y u v w => n3 a y (by omega)
  have hT1 := n2.1
  -- how a bad line ends
  have ebad : ∀ (B2 : Nat → Nat → Int32) (J2 : Nat → Nat → Int64) (f : Nat × Nat), fL B B2 b k → jX J J2 → BadB B2 f → B2 144 b = nI k → B2 131 31 = nI b → TxB B2 s n → F_80 [.ref 131] (mk B J τ) = R_80 369 [(0, .ref 131)] [] (mk B2 J2 τ) → ∃ B' J', F_80 [.ref 131] (mk B J τ) = some (none, mk B' J' τ) ∧ fL B B' b k ∧ jX J J' ∧ BadB B' f := by
    intro B2 J2 f f2 j2 bad a1 a2 a3 eq
    refine ⟨tm_u B2 144 b (nI (k + 1)), J2, ?_, fun a y u v w => by simp (disch := omega) only [tu_same, tu_eq, tu_ne]; exact f2 a y u v w, j2, bad.u 144 b _ (by omega)⟩
    rw [eq, x_369 bad a3 hb a2 a1]
  rcases m_num (τ := τ) (lo := lo) (hi := N - 1) n2 (by omega) (by omega) with ⟨f, hn, bad, num⟩ | ⟨hn, B2, J2, num, r2, r3⟩
  · rw [hn]
    have bad1 := bad.u 146 (60 * b + k) (nI lo) (by omega)
    have num0 := m_num0 (τ := τ) (J := J1) (x := 0) (y := 5) bad1
    obtain ⟨B3, p1, p2, p3⟩ := x_114 (τ := τ) (J := J1) hi bad1 0
    have F3 : fL B B3 b k := fun a y u v w => by
      rw [p2 a y u (by omega)]
      simp (disch := omega) only [tu_same, tu_eq, tu_ne]
      exact F1 a y u v w
    refine ebad B3 J1 f F3 n4 p3 ?_ ?_ ?_ ?_
    · rw [p2 _ _ (by omega) (by omega)]; simp (disch := omega) only [h144a, tu_same, tu_eq, tu_ne]
    · rw [p2 _ _ (by omega) (by omega)]; simp (disch := omega) only [h31a, tu_same, tu_eq, tu_ne]
    · exact (hT1.tr (fun a y u => by rw [p2 a y (by omega) (by omega)]; simp (disch := omega) only [tu_same, tu_eq, tu_ne]))
    · rw [pre, e_80_88, ← p1]
      simp (disch := first | omega | (simp (disch := omega) only [n_ti, Int32.reduceToInt] <;> omega)) only [h31a, h145a, num, e_80_102, num0, n_add, nl_add, nr_add, n_mul, nl_mul, nr_mul, n_sub, nr_dec, n_div, nr_sub_1, nr_sub_2, nr_sub_3, nr_sub_4, nr_sub_7, nr_sub_10, nr_sub_11, nr_sub_20, nr_sub_48, nr_sub_97, nl_sub_3, nl_sub_4, nl_sub_12, nl_sub_24, nl_sub_32, nr_div_2, nr_div_4, z_lt, z_le, z_eq, z_cl, n_ti, Int.toNat_natCast, Int32.reduceToInt, Int32.reduceToNatClampNeg, zc_add, zc_sub, zc_add_1, zc_add_2, zc_add_3, zc_add_4, zc_add_8, zc_add_10, zc_add_12, zc_add_16, zc_add_20, zc_sub_1, zc_sub_2, zc_sub_4, zc_sub_10, zc_sub_20, zc_sub_48, zc_sub_97, zc_mul_4, t_ltZ, f_ltZ, t_leZ, f_leZ, t_eqZ, f_eqZ, t_ltN, f_ltN, t_leN, f_leN, t_eqN, f_eqN, ↓reduceIte, and_true, true_and, and_false, false_and, and_self, or_true, true_or, or_false, false_or, or_self, not_true_eq_false, not_false_eq_true, tu_same, tu_eq, tu_ne, b_V, b_I, b_J]
  rw [hn]
  obtain ⟨v1, v2, v3⟩ := nf_none hn
  obtain ⟨B3, e3⟩ : ∃ x, x = tm_u B2 146 (60 * b + k) (nI (tV (nx s n t))) := ⟨_, rfl⟩
  have r4 : MoS s n B3 J2 (nx s n (nx s n t)) := by rw [e3]; exact r2.tr (fun a y u => by simp (disch := omega) only [tu_same, tu_eq, tu_ne]) rfl
  have F3 : fL B B3 b k := fun a y u v w => by
    rw [e3]
    simp (disch := omega) only [tu_same, tu_eq, tu_ne]
    rw [r3.1 a y u]
    exact F1 a y u v w
  have J2x : jX J J2 := fun a y u => (r3.2 a y u).trans (n4 a y u)
  have h31c : B3 131 31 = nI b := by rw [e3]; simp (disch := omega) only [tu_same, tu_eq, tu_ne]; rw [r3.1 _ _ (by omega)]; exact h31a
  have h144c : B3 144 b = nI k := by rw [e3]; simp (disch := omega) only [tu_same, tu_eq, tu_ne]; rw [r3.1 _ _ (by omega)]; exact h144a
  have h146c : B3 146 (60 * b + k) = nI (tV (nx s n t)) := by rw [e3]; simp (disch := omega) only [tu_same, tu_eq, tu_ne]
  have pre2 : F_80 [.ref 131] (mk B J τ) = (tm_bI (F_67 [.ref 131, .int 0, .int 5] (mk B3 J2 τ)) fun r M => R_80 114 [(0, .ref 131), (1, .int (nI (60 * b + k)))] [.int r, .int (nI (60 * b + k)), .ref 147] M) := by
    rw [pre, e_80_88, e3]
    simp (disch := first | omega | (simp (disch := omega) only [n_ti, Int32.reduceToInt] <;> omega)) only [h31a, h145a, num, e_80_102, n_add, nl_add, nr_add, n_mul, nl_mul, nr_mul, n_sub, nr_dec, n_div, nr_sub_1, nr_sub_2, nr_sub_3, nr_sub_4, nr_sub_7, nr_sub_10, nr_sub_11, nr_sub_20, nr_sub_48, nr_sub_97, nl_sub_3, nl_sub_4, nl_sub_12, nl_sub_24, nl_sub_32, nr_div_2, nr_div_4, z_lt, z_le, z_eq, z_cl, n_ti, Int.toNat_natCast, Int32.reduceToInt, Int32.reduceToNatClampNeg, zc_add, zc_sub, zc_add_1, zc_add_2, zc_add_3, zc_add_4, zc_add_8, zc_add_10, zc_add_12, zc_add_16, zc_add_20, zc_sub_1, zc_sub_2, zc_sub_4, zc_sub_10, zc_sub_20, zc_sub_48, zc_sub_97, zc_mul_4, t_ltZ, f_ltZ, t_leZ, f_leZ, t_eqZ, f_eqZ, t_ltN, f_ltN, t_leN, f_leN, t_eqN, f_eqN, ↓reduceIte, and_true, true_and, and_false, false_and, and_self, or_true, true_or, or_false, false_or, or_self, not_true_eq_false, not_false_eq_true, tu_same, tu_eq, tu_ne, b_V, b_I, b_J]
  dsimp only
  rcases m_num (τ := τ) (lo := 0) (hi := 5) r4 (by omega) (by omega) with ⟨f, hn2, bad, num2⟩ | ⟨hn2, B4, J4, num2, s2, s3⟩
  · rw [hn2]
    have num2' : F_67 [.ref 131, .int 0, .int 5] (mk B3 J2 τ) = some (some (.int 0), mk (tm_u (tm_u B3 131 4 (nI f.1)) 131 5 (nI f.2)) J2 τ) := num2
    obtain ⟨B4, p1, p2, p3⟩ := x_114 (τ := τ) (J := J2) hi bad 0
    refine ebad B4 J2 f (fun a y u v w => ?_) J2x p3 ?_ ?_ ?_ ?_
    · rw [p2 a y u (by omega)]
      simp (disch := omega) only [tu_same, tu_eq, tu_ne]
      exact F3 a y u v w
    · rw [p2 _ _ (by omega) (by omega)]; simp (disch := omega) only [h144c, tu_same, tu_eq, tu_ne]
    · rw [p2 _ _ (by omega) (by omega)]; simp (disch := omega) only [h31c, tu_same, tu_eq, tu_ne]
    · exact ((r4.1.bb _ _).tr (fun a y u => p2 a y (by omega) (by omega)))
    · rw [pre2, num2', ← p1]
      rfl
  rw [hn2]
  have num2' : F_67 [.ref 131, .int 0, .int 5] (mk B3 J2 τ) = some (some (.int (nI (tV (nx s n (nx s n t))))), mk B4 J4 τ) := num2
  have F4 : fL B B4 b k := fun a y u v w => (s3.1 a y u).trans (F3 a y u v w)
  have J4x : jX J J4 := fun a y u => (s3.2 a y u).trans (J2x a y u)
  obtain ⟨B5, J5, y1, y2, y3, y4⟩ := y_114 (τ := τ) (v := tV (nx s n (nx s n t))) hi s2 hbk ((F4 _ _ (by omega) (by omega) (by omega)).trans h21) hm ((F4 _ _ (by omega) (by omega) (by omega)).trans h135) (nm := nm) (fun j hj => by rw [J4x _ _ (by omega)]; exact hN j hj)
  have pre3 : F_80 [.ref 131] (mk B J τ) = R_80 369 [(0, .ref 131)] [] (mk B5 J5 τ) := by
    rw [pre2, num2', ← y1]
    rfl
  have F5 : fL B B5 b k := fun a y u v w => (y2 a y u (by omega)).trans (F4 a y u v w)
  have J5x : jX J J5 := fun a y u => (y3 a y u).trans (J4x a y u)
  have h31e : B5 131 31 = nI b := by rw [y2 _ _ (by omega) (by omega), s3.1 _ _ (by omega)]; exact h31c
  have h144e : B5 144 b = nI k := by rw [y2 _ _ (by omega) (by omega), s3.1 _ _ (by omega)]; exact h144c
  have h146e : B5 146 (60 * b + k) = nI (tV (nx s n t)) := by rw [y2 _ _ (by omega) (by omega), s3.1 _ _ (by omega)]; exact h146c
  have hT5 : TxB B5 s n := s2.1.tr (fun a y u => by rw [y2 a y (by omega) (by omega)])
  dsimp only
  cases hp : pAct s n nm m (nx s n (nx s n (nx s n t))) with
  | inl f =>
    rw [hp] at y4
    exact ebad B5 J5 f F5 J5x y4 h144e h31e hT5 pre3
  | inr q =>
    rw [hp] at y4
    obtain ⟨z1, z2, z3, z4, z5⟩ := y4
    have hi68 := m_is (τ := τ) (c := 59) z1 (Or.inr rfl)
    have hi' : F_68 [.ref 131, .int 59] (mk B5 J5 τ) = some (some (.int (b2 (decide (tK q.2 = 34)))), mk B5 J5 τ) := hi68
    dsimp only
    by_cases c : tK q.2 = 34
    · rw [if_pos c]
      have e : b2 (decide (tK q.2 = 34)) = 1 := by simp [c, b2]
      rw [e] at hi'
      obtain ⟨B6, J6, p1, p2, p3⟩ := m_must1 (τ := τ) z1 (by omega)
      have h31f : B6 131 31 = nI b := (p3.1 _ _ (by omega)).trans h31e
      have h144f : B6 144 b = nI k := (p3.1 _ _ (by omega)).trans h144e
      refine ⟨tm_u B6 144 b (nI (k + 1)), J6, ?_, fun a y u v w => ?_, fun a y u => (p3.2 a y u).trans (J5x a y u), p2.tr (fun a y u => by simp (disch := omega) only [tu_same, tu_eq, tu_ne]) rfl, ⟨?_, ?_, ?_, ?_, ?_⟩, by simp (disch := omega) only [tu_same, tu_eq, tu_ne]⟩
      · rw [pre3, e_80_369]
        simp (disch := first | omega | (simp (disch := omega) only [n_ti, Int32.reduceToInt] <;> omega)) only [hi', e_80_376, p1, e_80_379, h31f, h144f, n_add, nl_add, nr_add, n_mul, nl_mul, nr_mul, n_sub, nr_dec, n_div, nr_sub_1, nr_sub_2, nr_sub_3, nr_sub_4, nr_sub_7, nr_sub_10, nr_sub_11, nr_sub_20, nr_sub_48, nr_sub_97, nl_sub_3, nl_sub_4, nl_sub_12, nl_sub_24, nl_sub_32, nr_div_2, nr_div_4, z_lt, z_le, z_eq, z_cl, n_ti, Int.toNat_natCast, Int32.reduceToInt, Int32.reduceToNatClampNeg, zc_add, zc_sub, zc_add_1, zc_add_2, zc_add_3, zc_add_4, zc_add_8, zc_add_10, zc_add_12, zc_add_16, zc_add_20, zc_sub_1, zc_sub_2, zc_sub_4, zc_sub_10, zc_sub_20, zc_sub_48, zc_sub_97, zc_mul_4, t_ltZ, f_ltZ, t_leZ, f_leZ, t_eqZ, f_eqZ, t_ltN, f_ltN, t_leN, f_leN, t_eqN, f_eqN, ↓reduceIte, and_true, true_and, and_false, false_and, and_self, or_true, true_or, or_false, false_or, or_self, not_true_eq_false, not_false_eq_true, tu_same, tu_eq, tu_ne, b_V, b_I, b_J]
      · simp (disch := omega) only [tu_same, tu_eq, tu_ne]
        rw [p3.1 a y u]
        exact F5 a y u v w
      · simp (disch := omega) only [tu_same, tu_eq, tu_ne]; rw [p3.1 _ _ (by omega)]; exact h146e
      · simp (disch := omega) only [tu_same, tu_eq, tu_ne]; rw [p3.1 _ _ (by omega)]; exact z2
      · simp (disch := omega) only [tu_same, tu_eq, tu_ne]; rw [p3.1 _ _ (by omega)]; exact z3
      · simp (disch := omega) only [tu_same, tu_eq, tu_ne]; rw [p3.1 _ _ (by omega)]; exact z4
      · simp (disch := omega) only [tu_same, tu_eq, tu_ne]; rw [p3.1 _ _ (by omega)]; exact z5
    · rw [if_neg c]
      have e : b2 (decide (tK q.2 = 34)) = 0 := by simp [c, b2]
      rw [e] at hi'
      have wr := m_mustN (τ := τ) z1
      have bad := BadB.of z1 2 (by omega) (by omega)
      refine ⟨tm_u (tm_u (tm_u B5 131 4 (nI (flt q.2 2).1)) 131 5 (nI (flt q.2 2).2)) 144 b (nI (k + 1)), J5, ?_, fun a y u v w => ?_, J5x, bad.u 144 b _ (by omega)⟩
      · rw [pre3, e_80_369]
        simp (disch := first | omega | (simp (disch := omega) only [n_ti, Int32.reduceToInt] <;> omega)) only [hi', e_80_376, wr, e_80_379, h31e, h144e, n_add, nl_add, nr_add, n_mul, nl_mul, nr_mul, n_sub, nr_dec, n_div, nr_sub_1, nr_sub_2, nr_sub_3, nr_sub_4, nr_sub_7, nr_sub_10, nr_sub_11, nr_sub_20, nr_sub_48, nr_sub_97, nl_sub_3, nl_sub_4, nl_sub_12, nl_sub_24, nl_sub_32, nr_div_2, nr_div_4, z_lt, z_le, z_eq, z_cl, n_ti, Int.toNat_natCast, Int32.reduceToInt, Int32.reduceToNatClampNeg, zc_add, zc_sub, zc_add_1, zc_add_2, zc_add_3, zc_add_4, zc_add_8, zc_add_10, zc_add_12, zc_add_16, zc_add_20, zc_sub_1, zc_sub_2, zc_sub_4, zc_sub_10, zc_sub_20, zc_sub_48, zc_sub_97, zc_mul_4, t_ltZ, f_ltZ, t_leZ, f_leZ, t_eqZ, f_eqZ, t_ltN, f_ltN, t_leN, f_leN, t_eqN, f_eqN, ↓reduceIte, and_true, true_and, and_false, false_and, and_self, or_true, true_or, or_false, false_or, or_self, not_true_eq_false, not_false_eq_true, tu_same, tu_eq, tu_ne, b_V, b_I, b_J]
      · simp (disch := omega) only [tu_same, tu_eq, tu_ne]
        exact F5 a y u v w
theorem b_81 {τ : tm_Tu} {B : Nat → Nat → Int32} {J : Nat → Nat → Int64} {f : Nat × Nat} (h : BadB B f) : R_81 66 [(0, .ref 131)] [] (mk B J τ) = some (some (.int (-1)), mk B J τ) := by
  have g := m_bd (τ := τ) (J := J) h
  rw [e_81_66]
  simp (disch := first | omega | (simp (disch := omega) only [n_ti, Int32.reduceToInt] <;> omega)) only [g, e_81_70, e_81_87, e_81_91, n_add, nl_add, nr_add, n_mul, nl_mul, nr_mul, n_sub, nr_dec, n_div, nr_sub_1, nr_sub_2, nr_sub_3, nr_sub_4, nr_sub_7, nr_sub_10, nr_sub_11, nr_sub_20, nr_sub_48, nr_sub_97, nl_sub_3, nl_sub_4, nl_sub_12, nl_sub_24, nl_sub_32, nr_div_2, nr_div_4, z_lt, z_le, z_eq, z_cl, n_ti, Int.toNat_natCast, Int32.reduceToInt, Int32.reduceToNatClampNeg, zc_add, zc_sub, zc_add_1, zc_add_2, zc_add_3, zc_add_4, zc_add_8, zc_add_10, zc_add_12, zc_add_16, zc_add_20, zc_sub_1, zc_sub_2, zc_sub_4, zc_sub_10, zc_sub_20, zc_sub_48, zc_sub_97, zc_mul_4, t_ltZ, f_ltZ, t_leZ, f_leZ, t_eqZ, f_eqZ, t_ltN, f_ltN, t_leN, f_leN, t_eqN, f_eqN, ↓reduceIte, and_true, true_and, and_false, false_and, and_self, or_true, true_or, or_false, false_or, or_self, not_true_eq_false, not_false_eq_true, tu_same, tu_eq, tu_ne, b_V, b_I, b_J]
/-- what the model's routine may change while it reads bank b -/
def fR (B B' : Nat → Nat → Int32) (b : Nat) : Prop := ∀ a y, ¬ (a = 131 ∧ 4 ≤ y ∧ y ≤ 9) → ¬ (146 ≤ a ∧ a ≤ 150 ∧ 60 * b ≤ y ∧ y < 60 * b + 60) → ¬ ((a = 144 ∨ a = 145) ∧ y = b) → B' a y = B a y
theorem fL.R {B B' : Nat → Nat → Int32} {b k : Nat} (h : fL B B' b k) (hk : k < 60) : fR B B' b := fun a y u v w => h a y u (by omega) (by omega)
theorem fR.then {B B1 B2 : Nat → Nat → Int32} {b : Nat} (h : fR B B1 b) (g : fR B1 B2 b) : fR B B2 b := fun a y u v w => (g a y u v w).trans (h a y u v w)
def PoQ (B B' : Nat → Nat → Int32) (J J' : Nat → Nat → Int64) (b : Nat) (r : Sum (Nat × Nat) (Nat × (Nat → LD))) : Prop := (fR B B' b ∧ B' 145 b = B 145 b) ∧ jX J J' ∧ (match r with
    | .inl f => BadB B' f
    | .inr q => (B' 131 4 = 0 ∧ B' 131 5 = -1) ∧ B' 144 b = nI q.1 ∧ (∀ j, j < q.1 → LnB B' (60 * b + j) (q.2 j)))
set_option maxHeartbeats 2000000 in
theorem m_81l {τ : tm_Tu} {s : Nat → Int} {n b N bk m : Nat} {nm : Nat → List Nat} (hb : b < 2) (hNb : 1 ≤ N ∧ N ≤ 200) (hbk : bk < 2) (hm : m ≤ 12) : ∀ f k lo (B : Nat → Nat → Int32) (J : Nat → Nat → Int64) (t : TK) (L : Nat → LD), k + f = 60 → lo < 200 → MoS s n B J t → B 131 31 = nI b → B 144 b = nI k → B 145 b = nI N → ((k = 0 ∧ lo = 0) ∨ (1 ≤ k ∧ B 146 (60 * b + k - 1) = nI lo)) → (∀ j, j < k → LnB B (60 * b + j) (L j)) → B 131 21 = nI bk → B 135 bk = nI m → NmB J bk m nm → ∃ B' J', R_81 66 [(0, .ref 131)] [] (mk B J τ) = R_81 66 [(0, .ref 131)] [] (mk B' J' τ) ∧ PoQ B B' J J' b (pLines s n nm m N f k lo L t) ∧ (∀ q, pLines s n nm m N f k lo L t = .inr q → B' 131 8 = 0) := by
  have fin : ∀ k (B : Nat → Nat → Int32) (J : Nat → Nat → Int64) (t : TK) (L : Nat → LD), k ≤ 60 → (tK t ≠ 15 ∨ k = 60) → MoS s n B J t → B 131 31 = nI b → B 144 b = nI k → (∀ j, j < k → LnB B (60 * b + j) (L j)) → ∃ B' J', R_81 66 [(0, .ref 131)] [] (mk B J τ) = R_81 66 [(0, .ref 131)] [] (mk B' J' τ) ∧ PoQ B B' J J' b (if tK t = 35 then .inr (k, L) else .inl (flt t 2)) ∧ (∀ q, (if tK t = 35 then .inr (k, L) else .inl (flt t 2) : Sum (Nat × Nat) (Nat × (Nat → LD))) = .inr q → B' 131 8 = 0) := by
    intro k B J t L hk h0 h h31 h144 hL
    have hg := m_gd (τ := τ) (J := J) h.2.2.2
    by_cases c : tK t = 35
    · rw [if_pos c]
      have b8 := h.2.1.2.2.2.2.2.2.2.2.1 c
      exact ⟨B, J, rfl, ⟨⟨fun _ _ _ _ _ => rfl, rfl⟩, fun _ _ _ => rfl, h.2.2.2, h144, hL⟩, fun _ _ => b8⟩
    · rw [if_neg c]
      have b8 := tok_80 h c
      have wr := m_wrong (τ := τ) h
      have bad := BadB.of h 2 (by omega) (by omega)
      have gb := m_bd (τ := τ) (J := J) bad
      have s80 : F_80 [.ref 131] (mk B J τ) = some (none, mk (tm_u (tm_u B 131 4 (nI (flt t 2).1)) 131 5 (nI (flt t 2).2)) J τ) := by
        rw [e_80]
        by_cases d : tK t = 15
        · have i0 : F_62 [.ref 131, .long 24948] (mk B J τ) = some (some (.int 1), mk B J τ) := by rw [wc_15]; exact is_t h (by omega) d
          have ek : k = 60 := by omega
          subst ek
          simp (disch := first | omega | (simp (disch := omega) only [n_ti, Int32.reduceToInt] <;> omega)) only [i0, e_80_7, h31, h144, e_80_24, wr, e_80_28, gb, e_80_32, n_add, nl_add, nr_add, n_mul, nl_mul, nr_mul, n_sub, nr_dec, n_div, nr_sub_1, nr_sub_2, nr_sub_3, nr_sub_4, nr_sub_7, nr_sub_10, nr_sub_11, nr_sub_20, nr_sub_48, nr_sub_97, nl_sub_3, nl_sub_4, nl_sub_12, nl_sub_24, nl_sub_32, nr_div_2, nr_div_4, z_lt, z_le, z_eq, z_cl, n_ti, Int.toNat_natCast, Int32.reduceToInt, Int32.reduceToNatClampNeg, zc_add, zc_sub, zc_add_1, zc_add_2, zc_add_3, zc_add_4, zc_add_8, zc_add_10, zc_add_12, zc_add_16, zc_add_20, zc_sub_1, zc_sub_2, zc_sub_4, zc_sub_10, zc_sub_20, zc_sub_48, zc_sub_97, zc_mul_4, t_ltZ, f_ltZ, t_leZ, f_leZ, t_eqZ, f_eqZ, t_ltN, f_ltN, t_leN, f_leN, t_eqN, f_eqN, ↓reduceIte, and_true, true_and, and_false, false_and, and_self, or_true, true_or, or_false, false_or, or_self, not_true_eq_false, not_false_eq_true, tu_same, tu_eq, tu_ne, b_V, b_I, b_J]
        · have i0 : F_62 [.ref 131, .long 24948] (mk B J τ) = some (some (.int 0), mk B J τ) := by rw [wc_15]; exact is_f h (by omega) d
          simp (disch := first | omega | (simp (disch := omega) only [n_ti, Int32.reduceToInt] <;> omega)) only [i0, e_80_7, e_80_24, wr, e_80_28, gb, e_80_32, n_add, nl_add, nr_add, n_mul, nl_mul, nr_mul, n_sub, nr_dec, n_div, nr_sub_1, nr_sub_2, nr_sub_3, nr_sub_4, nr_sub_7, nr_sub_10, nr_sub_11, nr_sub_20, nr_sub_48, nr_sub_97, nl_sub_3, nl_sub_4, nl_sub_12, nl_sub_24, nl_sub_32, nr_div_2, nr_div_4, z_lt, z_le, z_eq, z_cl, n_ti, Int.toNat_natCast, Int32.reduceToInt, Int32.reduceToNatClampNeg, zc_add, zc_sub, zc_add_1, zc_add_2, zc_add_3, zc_add_4, zc_add_8, zc_add_10, zc_add_12, zc_add_16, zc_add_20, zc_sub_1, zc_sub_2, zc_sub_4, zc_sub_10, zc_sub_20, zc_sub_48, zc_sub_97, zc_mul_4, t_ltZ, f_ltZ, t_leZ, f_leZ, t_eqZ, f_eqZ, t_ltN, f_ltN, t_leN, f_leN, t_eqN, f_eqN, ↓reduceIte, and_true, true_and, and_false, false_and, and_self, or_true, true_or, or_false, false_or, or_self, not_true_eq_false, not_false_eq_true, tu_same, tu_eq, tu_ne, b_V, b_I, b_J]
      refine ⟨tm_u (tm_u B 131 4 (nI (flt t 2).1)) 131 5 (nI (flt t 2).2), J, ?_, ⟨⟨fun a y u w z => by simp (disch := omega) only [tu_same, tu_eq, tu_ne], by simp (disch := omega) only [tu_same, tu_eq, tu_ne]⟩, fun _ _ _ => rfl, bad⟩, fun q hq => by cases hq⟩
      rw [e_81_66]
      simp (disch := first | omega | (simp (disch := omega) only [n_ti, Int32.reduceToInt] <;> omega)) only [hg, e_81_70, b8, s80, e_81_84, n_add, nl_add, nr_add, n_mul, nl_mul, nr_mul, n_sub, nr_dec, n_div, nr_sub_1, nr_sub_2, nr_sub_3, nr_sub_4, nr_sub_7, nr_sub_10, nr_sub_11, nr_sub_20, nr_sub_48, nr_sub_97, nl_sub_3, nl_sub_4, nl_sub_12, nl_sub_24, nl_sub_32, nr_div_2, nr_div_4, z_lt, z_le, z_eq, z_cl, n_ti, Int.toNat_natCast, Int32.reduceToInt, Int32.reduceToNatClampNeg, zc_add, zc_sub, zc_add_1, zc_add_2, zc_add_3, zc_add_4, zc_add_8, zc_add_10, zc_add_12, zc_add_16, zc_add_20, zc_sub_1, zc_sub_2, zc_sub_4, zc_sub_10, zc_sub_20, zc_sub_48, zc_sub_97, zc_mul_4, t_ltZ, f_ltZ, t_leZ, f_leZ, t_eqZ, f_eqZ, t_ltN, f_ltN, t_leN, f_leN, t_eqN, f_eqN, ↓reduceIte, and_true, true_and, and_false, false_and, and_self, or_true, true_or, or_false, false_or, or_self, not_true_eq_false, not_false_eq_true, tu_same, tu_eq, tu_ne, b_V, b_I, b_J]
  intro f
  induction f with
  | zero =>
    intro k lo B J t L hk hlo h h31 h144 h145 hl hL h21 h135 hN
    exact fin k B J t L (by omega) (Or.inr (by omega)) h h31 h144 hL
  | succ f ih =>
    intro k lo B J t L hk hlo h h31 h144 h145 hl hL h21 h135 hN
    by_cases c : tK t = 15
    · have hg := m_gd (τ := τ) (J := J) h.2.2.2
      have b8 := tok_80 h (show ¬ tK t = 35 by omega)
      have ep : pLines s n nm m N (f + 1) k lo L t = (match pLine s n nm m N lo t with
        | .inl e => .inl e
        | .inr q => pLines s n nm m N f (k + 1) q.1.1 (updN L k q.1) q.2) := if_pos c
      obtain ⟨B1, J1, g1, g2, g3, g4⟩ := m_80 (τ := τ) h c hb (show k < 60 by omega) h31 h144 hNb h145 hlo hl hbk h21 hm h135 hN
      have st : R_81 66 [(0, .ref 131)] [] (mk B J τ) = R_81 66 [(0, .ref 131)] [] (mk B1 J1 τ) := by
        rw [e_81_66]
        simp (disch := first | omega | (simp (disch := omega) only [n_ti, Int32.reduceToInt] <;> omega)) only [hg, e_81_70, b8, g1, e_81_84, n_add, nl_add, nr_add, n_mul, nl_mul, nr_mul, n_sub, nr_dec, n_div, nr_sub_1, nr_sub_2, nr_sub_3, nr_sub_4, nr_sub_7, nr_sub_10, nr_sub_11, nr_sub_20, nr_sub_48, nr_sub_97, nl_sub_3, nl_sub_4, nl_sub_12, nl_sub_24, nl_sub_32, nr_div_2, nr_div_4, z_lt, z_le, z_eq, z_cl, n_ti, Int.toNat_natCast, Int32.reduceToInt, Int32.reduceToNatClampNeg, zc_add, zc_sub, zc_add_1, zc_add_2, zc_add_3, zc_add_4, zc_add_8, zc_add_10, zc_add_12, zc_add_16, zc_add_20, zc_sub_1, zc_sub_2, zc_sub_4, zc_sub_10, zc_sub_20, zc_sub_48, zc_sub_97, zc_mul_4, t_ltZ, f_ltZ, t_leZ, f_leZ, t_eqZ, f_eqZ, t_ltN, f_ltN, t_leN, f_leN, t_eqN, f_eqN, ↓reduceIte, and_true, true_and, and_false, false_and, and_self, or_true, true_or, or_false, false_or, or_self, not_true_eq_false, not_false_eq_true, tu_same, tu_eq, tu_ne, b_V, b_I, b_J]
      rw [ep]
      cases hp : pLine s n nm m N lo t with
      | inl e =>
        rw [hp] at g4
        exact ⟨B1, J1, st, ⟨⟨g2.R (by omega), g2 _ _ (by omega) (by omega) (by omega)⟩, g3, g4⟩, fun q hq => by cases hq⟩
      | inr q =>
        have ok := pLine_ok hm hNb.1 q hp
        rw [hp] at g4
        obtain ⟨w1, w2, w3⟩ := g4
        obtain ⟨B2, J2, x1, ⟨x2, x3, x4⟩, x5⟩ := ih (k + 1) q.1.1 B1 J1 q.2 (updN L k q.1) (by omega) (by have := ok.1.1; omega) w1 ((g2 _ _ (by omega) (by omega) (by omega)).trans h31) w3 ((g2 _ _ (by omega) (by omega) (by omega)).trans h145) (Or.inr ⟨by omega, by rw [show 60 * b + (k + 1) - 1 = 60 * b + k by omega]; exact w2.1⟩) (fun j hj => by
          unfold updN
          by_cases e : j = k
          · rw [if_pos e, e]; exact w2
          · rw [if_neg e]
            obtain ⟨z1, z2, z3, z4, z5⟩ := hL j (by omega)
            exact ⟨(g2 _ _ (by omega) (by omega) (by omega)).trans z1, (g2 _ _ (by omega) (by omega) (by omega)).trans z2, (g2 _ _ (by omega) (by omega) (by omega)).trans z3, (g2 _ _ (by omega) (by omega) (by omega)).trans z4, (g2 _ _ (by omega) (by omega) (by omega)).trans z5⟩) ((g2 _ _ (by omega) (by omega) (by omega)).trans h21) ((g2 _ _ (by omega) (by omega) (by omega)).trans h135) (fun j hj => by rw [g3 _ _ (by omega)]; exact hN j hj)
        exact ⟨B2, J2, st.trans x1, ⟨⟨(g2.R (by omega)).then x2.1, x2.2.trans (g2 _ _ (by omega) (by omega) (by omega))⟩, fun a y u => (x3 a y u).trans (g3 a y u), x4⟩, x5⟩
    · have ep : pLines s n nm m N (f + 1) k lo L t = (if tK t = 35 then .inr (k, L) else .inl (flt t 2)) := if_neg c
      rw [ep]
      exact fin k B J t L (by omega) (Or.inl c) h h31 h144 hL
