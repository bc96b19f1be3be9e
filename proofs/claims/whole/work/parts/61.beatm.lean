/-! reading: the modes of a trick (model) -/
def inB (m a y : Nat) : Prop := ((136 ≤ a ∧ a ≤ 140 ∨ a = 143) ∧ y = m) ∨ (a = 141 ∧ 32 * m ≤ y ∧ y < 32 * m + 32) ∨ (a = 142 ∧ 8 * m ≤ y ∧ y < 8 * m + 8)
def PoB (s : Nat → Int) (n : Nat) (B B' : Nat → Nat → Int32) (J J' : Nat → Nat → Int64) (m : Nat) (r : PR) : Prop := (∀ a y, ¬ (a = 131 ∧ 4 ≤ y ∧ y ≤ 9) → ¬ inB m a y → B' a y = B a y) ∧ (∀ a y, ¬ (a = 131 ∧ y = 10) → J' a y = J a y) ∧ (match r with
    | .inl f => BadB B' f
    | .inr q => MoS s n B' J' q.2 ∧ TrB B' m q.1)
theorem TrB.mo {B B' : Nat → Nat → Int32} {J J' : Nat → Nat → Int64} {m : Nat} {D : TD} (h : TrB B m D) (g : moF B B' J J') : TrB B' m D := h.tr (fun a k u v => g.1 a k (by omega))
theorem trb_M {B : Nat → Nat → Int32} {m j md : Nat} {D : TD} (h : TrB B m D) (hj : j < 8) (hmd : 1 ≤ md) : TrB (tm_u B 142 (8 * m + j) (nI md)) m (sM D (mset (dM D) j j md)) := by
  obtain ⟨h1, h2, h3, h4, h5, h6, h7, h8⟩ := h
  refine ⟨by simp (disch := omega) only [h1, tu_same, tu_eq, tu_ne]; rfl, by simp (disch := omega) only [h2, tu_same, tu_eq, tu_ne]; rfl, by simp (disch := omega) only [h3, tu_same, tu_eq, tu_ne]; rfl, by simp (disch := omega) only [h4, tu_same, tu_eq, tu_ne]; rfl, by simp (disch := omega) only [h5, tu_same, tu_eq, tu_ne]; rfl, by simp (disch := omega) only [h6, tu_same, tu_eq, tu_ne]; rfl, fun k hk => by simp (disch := omega) only [tu_same, tu_eq, tu_ne]; exact h7 k hk, fun k hk => ?_⟩
  show (mset (dM D) j j md k = 0 ∧ tm_u B 142 (8 * m + j) (nI md) 142 (8 * m + k) = -1) ∨ (1 ≤ mset (dM D) j j md k ∧ tm_u B 142 (8 * m + j) (nI md) 142 (8 * m + k) = nI (mset (dM D) j j md k))
  by_cases e : k = j
  · subst e
    have : mset (dM D) k k md k = md := if_pos (by omega)
    rw [this]
    refine Or.inr ⟨hmd, ?_⟩
    simp (disch := omega) only [tu_same, tu_eq, tu_ne]
  · have : mset (dM D) j j md k = dM D k := if_neg (by omega)
    rw [this]
    simp (disch := omega) only [tu_same, tu_eq, tu_ne]
    exact h8 k hk
theorem l_70b {τ : tm_Tu} {B : Nat → Nat → Int32} {J : Nat → Nat → Int64} {m md p hi j : Nat} {f : Nat × Nat} (h : BadB B f) : R_70 107 [(0, .ref 131), (1, .int (nI m)), (2, .int (nI md)), (3, .int (nI p)), (5, .int (nI hi)), (6, .int (nI j))] [] (mk B J τ) = some (none, mk B J τ) := by
  have g := m_bd (τ := τ) (J := J) h
  rw [e_70_107]
  by_cases c : nI hi < nI j
  · rw [if_pos c, e_70_161]
  · rw [if_neg c]
    simp (disch := first | omega | (simp (disch := omega) only [n_ti, Int32.reduceToInt] <;> omega)) only [g, e_70_118, e_70_161, n_add, nl_add, nr_add, n_mul, nl_mul, nr_mul, n_sub, nr_dec, n_div, nr_sub_1, nr_sub_2, nr_sub_3, nr_sub_4, nr_sub_7, nr_sub_10, nr_sub_11, nr_sub_20, nr_sub_48, nr_sub_97, nl_sub_3, nl_sub_4, nl_sub_12, nl_sub_24, nl_sub_32, nr_div_2, nr_div_4, z_lt, z_le, z_eq, z_cl, n_ti, Int.toNat_natCast, Int32.reduceToInt, Int32.reduceToNatClampNeg, zc_add, zc_sub, zc_add_1, zc_add_2, zc_add_3, zc_add_4, zc_add_8, zc_add_10, zc_add_12, zc_add_16, zc_add_20, zc_sub_1, zc_sub_2, zc_sub_4, zc_sub_10, zc_sub_20, zc_sub_48, zc_sub_97, zc_mul_4, t_ltZ, f_ltZ, t_leZ, f_leZ, t_eqZ, f_eqZ, t_ltN, f_ltN, t_leN, f_leN, t_eqN, f_eqN, ↓reduceIte, and_true, true_and, and_false, false_and, and_self, or_true, true_or, or_false, false_or, or_self, not_true_eq_false, not_false_eq_true, tu_same, tu_eq, tu_ne, b_V, b_I, b_J]
theorem l_70 {τ : tm_Tu} {s : Nat → Int} {n m hi md p : Nat} {J : Nat → Nat → Int64} {t : TK} (hm : m < 24) (hh : hi < 8) (hmd : 1 ≤ md ∧ md ≤ 3) : ∀ k j (D : TD) (B : Nat → Nat → Int32), j + k = hi + 1 → (∀ x, x < 8 → dM D x ≤ 3) → MoS s n B J t → TrB B m D → ∃ B', R_70 107 [(0, .ref 131), (1, .int (nI m)), (2, .int (nI md)), (3, .int (nI p)), (5, .int (nI hi)), (6, .int (nI j))] [] (mk B J τ) = some (none, mk B' J τ) ∧ (∀ a y, ¬ (a = 131 ∧ 4 ≤ y ∧ y ≤ 5) → ¬ (a = 142 ∧ 8 * m ≤ y ∧ y < 8 * m + 8) → B' a y = B a y) ∧ (mfree (dM D) j k = true → MoS s n B' J t ∧ TrB B' m (sM D (mset (dM D) j hi md))) ∧ (mfree (dM D) j k = false → BadB B' (5, p)) := by
  intro k
  induction k with
  | zero =>
    intro j D B hj hD hS hB
    refine ⟨B, ?_, fun _ _ _ _ => rfl, fun _ => ⟨hS, ?_⟩, fun h => by cases h⟩
    · rw [e_70_107]
      simp (disch := first | omega | (simp (disch := omega) only [n_ti, Int32.reduceToInt] <;> omega)) only [e_70_161, n_add, nl_add, nr_add, n_mul, nl_mul, nr_mul, n_sub, nr_dec, n_div, nr_sub_1, nr_sub_2, nr_sub_3, nr_sub_4, nr_sub_7, nr_sub_10, nr_sub_11, nr_sub_20, nr_sub_48, nr_sub_97, nl_sub_3, nl_sub_4, nl_sub_12, nl_sub_24, nl_sub_32, nr_div_2, nr_div_4, z_lt, z_le, z_eq, z_cl, n_ti, Int.toNat_natCast, Int32.reduceToInt, Int32.reduceToNatClampNeg, zc_add, zc_sub, zc_add_1, zc_add_2, zc_add_3, zc_add_4, zc_add_8, zc_add_10, zc_add_12, zc_add_16, zc_add_20, zc_sub_1, zc_sub_2, zc_sub_4, zc_sub_10, zc_sub_20, zc_sub_48, zc_sub_97, zc_mul_4, t_ltZ, f_ltZ, t_leZ, f_leZ, t_eqZ, f_eqZ, t_ltN, f_ltN, t_leN, f_leN, t_eqN, f_eqN, ↓reduceIte, and_true, true_and, and_false, false_and, and_self, or_true, true_or, or_false, false_or, or_self, not_true_eq_false, not_false_eq_true, tu_same, tu_eq, tu_ne, b_V, b_I, b_J]
    · rw [mset_0 _ _ _ _ (by omega), sM_id]; exact hB
  | succ k ih =>
    intro j D B hj hD hS hB
    have hm8 := hB.2.2.2.2.2.2.2 j (by omega)
    have hd := hD j (by omega)
    have hg := m_gd (τ := τ) (J := J) hS.2.2.2
    have hf : mfree (dM D) j (k + 1) = (decide (dM D j = 0) && mfree (dM D) (j + 1) k) := rfl
    rw [e_70_107, hf]
    by_cases c0 : dM D j = 0
    · have hv : (B 142 (8 * m + j)).toInt = -1 := by
        rcases hm8 with e | e
        · rw [e.2]; rfl
        · omega
      obtain ⟨B', g1, g2, g3, g4⟩ := ih (j + 1) (sM D (mset (dM D) j j md)) (tm_u B 142 (8 * m + j) (nI md)) (by omega) (fun x hx => by
        rw [sM_M]
        unfold mset
        by_cases e : j ≤ x ∧ x ≤ j
        · rw [if_pos e]; omega
        · rw [if_neg e]; exact hD x hx) (hS.tr (fun a y u => by simp (disch := omega) only [tu_same, tu_eq, tu_ne]) rfl) (trb_M hB (by omega) hmd.1)
      rw [sM_M, sM_s, mset_s _ _ _ _ (by omega)] at g3
      rw [sM_M] at g4
      have ef : mfree (mset (dM D) j j md) (j + 1) k = mfree (dM D) (j + 1) k := mfree_c _ _ k (j + 1) (fun x hx => if_neg (by omega))
      rw [ef] at g3 g4
      refine ⟨B', ?_, fun a y u v => (g2 a y u v).trans (by simp (disch := omega) only [tu_same, tu_eq, tu_ne]), ?_, ?_⟩
      · rw [← g1]
        simp (disch := first | omega | (simp (disch := omega) only [n_ti, Int32.reduceToInt] <;> omega)) only [hg, e_70_118, hv, e_70_142, n_add, nl_add, nr_add, n_mul, nl_mul, nr_mul, n_sub, nr_dec, n_div, nr_sub_1, nr_sub_2, nr_sub_3, nr_sub_4, nr_sub_7, nr_sub_10, nr_sub_11, nr_sub_20, nr_sub_48, nr_sub_97, nl_sub_3, nl_sub_4, nl_sub_12, nl_sub_24, nl_sub_32, nr_div_2, nr_div_4, z_lt, z_le, z_eq, z_cl, n_ti, Int.toNat_natCast, Int32.reduceToInt, Int32.reduceToNatClampNeg, zc_add, zc_sub, zc_add_1, zc_add_2, zc_add_3, zc_add_4, zc_add_8, zc_add_10, zc_add_12, zc_add_16, zc_add_20, zc_sub_1, zc_sub_2, zc_sub_4, zc_sub_10, zc_sub_20, zc_sub_48, zc_sub_97, zc_mul_4, t_ltZ, f_ltZ, t_leZ, f_leZ, t_eqZ, f_eqZ, t_ltN, f_ltN, t_leN, f_leN, t_eqN, f_eqN, ↓reduceIte, and_true, true_and, and_false, false_and, and_self, or_true, true_or, or_false, false_or, or_self, not_true_eq_false, not_false_eq_true, tu_same, tu_eq, tu_ne, b_V, b_I, b_J]
      · rw [c0]; simpa using g3
      · rw [c0]; simpa using g4
    · have hv : B 142 (8 * m + j) = nI (dM D j) := by
        rcases hm8 with e | e
        · exact absurd e.1 c0
        · exact e.2
      have fl : F_63 [.ref 131, .int 5, .int (nI p)] (mk B J τ) = _ := m_fail (τ := τ) (J := J) (x := 5) (y := nI p) hS.2.2.2
      have bad : BadB (tm_u (tm_u (tm_u B 131 4 5) 131 5 (nI p)) 142 (8 * m + j) (nI md)) (5, p) := ⟨by simp (disch := omega) only [tu_same, tu_eq, tu_ne]; rfl, by simp (disch := omega) only [tu_same, tu_eq, tu_ne], by omega, by omega, by obtain ⟨q, q1, q2⟩ := hS.p; exact ⟨q, q1, by simp (disch := omega) only [q2, tu_same, tu_eq, tu_ne]⟩⟩
      have lb := l_70b (τ := τ) (J := J) (m := m) (md := md) (p := p) (hi := hi) (j := j + 1) bad
      refine ⟨_, ?_, fun a y u v => ?_, ?_, fun _ => bad⟩
      · rw [← lb]
        simp (disch := first | omega | (simp (disch := omega) only [n_ti, Int32.reduceToInt] <;> omega)) only [hg, e_70_118, hv, fl, e_70_142, n_add, nl_add, nr_add, n_mul, nl_mul, nr_mul, n_sub, nr_dec, n_div, nr_sub_1, nr_sub_2, nr_sub_3, nr_sub_4, nr_sub_7, nr_sub_10, nr_sub_11, nr_sub_20, nr_sub_48, nr_sub_97, nl_sub_3, nl_sub_4, nl_sub_12, nl_sub_24, nl_sub_32, nr_div_2, nr_div_4, z_lt, z_le, z_eq, z_cl, n_ti, Int.toNat_natCast, Int32.reduceToInt, Int32.reduceToNatClampNeg, zc_add, zc_sub, zc_add_1, zc_add_2, zc_add_3, zc_add_4, zc_add_8, zc_add_10, zc_add_12, zc_add_16, zc_add_20, zc_sub_1, zc_sub_2, zc_sub_4, zc_sub_10, zc_sub_20, zc_sub_48, zc_sub_97, zc_mul_4, t_ltZ, f_ltZ, t_leZ, f_leZ, t_eqZ, f_eqZ, t_ltN, f_ltN, t_leN, f_leN, t_eqN, f_eqN, ↓reduceIte, and_true, true_and, and_false, false_and, and_self, or_true, true_or, or_false, false_or, or_self, not_true_eq_false, not_false_eq_true, tu_same, tu_eq, tu_ne, b_V, b_I, b_J]
      · simp (disch := omega) only [tu_same, tu_eq, tu_ne]
      · intro h
        simp [c0] at h
