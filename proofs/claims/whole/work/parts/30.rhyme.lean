/-! RHYME: rhyme, word -/
theorem by_and (v : Int32) : (v &&& 255).toInt = v.toInt % 256 := by
  rw [pk_and v (m := 255) 8 (by decide), n_ti (by omega)]
  have h : v.toInt = (v.toBitVec.toNat : Int).bmod 4294967296 := by
    show v.toBitVec.toInt = _
    exact BitVec.toInt_eq_toNat_bmod v.toBitVec
  rw [h, z_bm]
  omega
theorem s_20t {I : Nat → Nat → Int32} {J : Nat → Nat → Int64} {τ : tm_Tu} {x : Int32} (h : 97 ≤ x.toInt) (h2 : x.toInt ≤ 122) : F_20 [.int x] (mk I J τ) = some (some (.int 1), mk I J τ) := by
  simp (disch := omega) only [e_20, e_20_16, e_20_17, n_add, nl_add, nr_add, n_mul, nl_mul, nr_mul, n_sub, nl_sub, nr_sub, nr_dec, nr_div, n_div, z_lt, z_le, z_eq, z_cl, n_ti, Int.toNat_natCast, Int32.reduceToInt, Int32.reduceToNatClampNeg, zc_add, zc_sub, zc_addl, zc_subl, zc_mull, t_ltZ, f_ltZ, t_leZ, f_leZ, t_eqZ, f_eqZ, t_ltN, f_ltN, t_leN, f_leN, t_eqN, f_eqN, ↓reduceIte, and_true, true_and, and_false, false_and, and_self, or_true, true_or, or_false, false_or, or_self, not_true_eq_false, not_false_eq_true, tu_same, tu_eq, tu_ne, b_V, b_I, b_J]
theorem s_20f {I : Nat → Nat → Int32} {J : Nat → Nat → Int64} {τ : tm_Tu} {x : Int32} (h : x.toInt < 97 ∨ 122 < x.toInt) : F_20 [.int x] (mk I J τ) = some (some (.int 0), mk I J τ) := by
  rcases h with h | h
  · simp (disch := omega) only [e_20, e_20_16, e_20_17, n_add, nl_add, nr_add, n_mul, nl_mul, nr_mul, n_sub, nl_sub, nr_sub, nr_dec, nr_div, n_div, z_lt, z_le, z_eq, z_cl, n_ti, Int.toNat_natCast, Int32.reduceToInt, Int32.reduceToNatClampNeg, zc_add, zc_sub, zc_addl, zc_subl, zc_mull, t_ltZ, f_ltZ, t_leZ, f_leZ, t_eqZ, f_eqZ, t_ltN, f_ltN, t_leN, f_leN, t_eqN, f_eqN, ↓reduceIte, and_true, true_and, and_false, false_and, and_self, or_true, true_or, or_false, false_or, or_self, not_true_eq_false, not_false_eq_true, tu_same, tu_eq, tu_ne, b_V, b_I, b_J]
  · simp (disch := omega) only [e_20, e_20_16, e_20_17, n_add, nl_add, nr_add, n_mul, nl_mul, nr_mul, n_sub, nl_sub, nr_sub, nr_dec, nr_div, n_div, z_lt, z_le, z_eq, z_cl, n_ti, Int.toNat_natCast, Int32.reduceToInt, Int32.reduceToNatClampNeg, zc_add, zc_sub, zc_addl, zc_subl, zc_mull, t_ltZ, f_ltZ, t_leZ, f_leZ, t_eqZ, f_eqZ, t_ltN, f_ltN, t_leN, f_leN, t_eqN, f_eqN, ↓reduceIte, and_true, true_and, and_false, false_and, and_self, or_true, true_or, or_false, false_or, or_self, not_true_eq_false, not_false_eq_true, tu_same, tu_eq, tu_ne, b_V, b_I, b_J]
theorem s_56t {I : Nat → Nat → Int32} {J : Nat → Nat → Int64} {τ : tm_Tu} {x : Int32} (h : 97 ≤ x.toInt) (h2 : x.toInt ≤ 122) : F_56 [.int x] (mk I J τ) = some (some (.int 1), mk I J τ) := by
  simp (disch := omega) only [e_56, e_56_16, e_56_17, n_add, nl_add, nr_add, n_mul, nl_mul, nr_mul, n_sub, nl_sub, nr_sub, nr_dec, nr_div, n_div, z_lt, z_le, z_eq, z_cl, n_ti, Int.toNat_natCast, Int32.reduceToInt, Int32.reduceToNatClampNeg, zc_add, zc_sub, zc_addl, zc_subl, zc_mull, t_ltZ, f_ltZ, t_leZ, f_leZ, t_eqZ, f_eqZ, t_ltN, f_ltN, t_leN, f_leN, t_eqN, f_eqN, ↓reduceIte, and_true, true_and, and_false, false_and, and_self, or_true, true_or, or_false, false_or, or_self, not_true_eq_false, not_false_eq_true, tu_same, tu_eq, tu_ne, b_V, b_I, b_J]
theorem s_56f {I : Nat → Nat → Int32} {J : Nat → Nat → Int64} {τ : tm_Tu} {x : Int32} (h : x.toInt < 97 ∨ 122 < x.toInt) : F_56 [.int x] (mk I J τ) = some (some (.int 0), mk I J τ) := by
  rcases h with h | h
  · simp (disch := omega) only [e_56, e_56_16, e_56_17, n_add, nl_add, nr_add, n_mul, nl_mul, nr_mul, n_sub, nl_sub, nr_sub, nr_dec, nr_div, n_div, z_lt, z_le, z_eq, z_cl, n_ti, Int.toNat_natCast, Int32.reduceToInt, Int32.reduceToNatClampNeg, zc_add, zc_sub, zc_addl, zc_subl, zc_mull, t_ltZ, f_ltZ, t_leZ, f_leZ, t_eqZ, f_eqZ, t_ltN, f_ltN, t_leN, f_leN, t_eqN, f_eqN, ↓reduceIte, and_true, true_and, and_false, false_and, and_self, or_true, true_or, or_false, false_or, or_self, not_true_eq_false, not_false_eq_true, tu_same, tu_eq, tu_ne, b_V, b_I, b_J]
  · simp (disch := omega) only [e_56, e_56_16, e_56_17, n_add, nl_add, nr_add, n_mul, nl_mul, nr_mul, n_sub, nl_sub, nr_sub, nr_dec, nr_div, n_div, z_lt, z_le, z_eq, z_cl, n_ti, Int.toNat_natCast, Int32.reduceToInt, Int32.reduceToNatClampNeg, zc_add, zc_sub, zc_addl, zc_subl, zc_mull, t_ltZ, f_ltZ, t_leZ, f_leZ, t_eqZ, f_eqZ, t_ltN, f_ltN, t_leN, f_leN, t_eqN, f_eqN, ↓reduceIte, and_true, true_and, and_false, false_and, and_self, or_true, true_or, or_false, false_or, or_self, not_true_eq_false, not_false_eq_true, tu_same, tu_eq, tu_ne, b_V, b_I, b_J]
theorem s_56_32 {I : Nat → Nat → Int32} {J : Nat → Nat → Int64} {τ : tm_Tu} : F_56 [.int 32] (mk I J τ) = some (some (.int 0), mk I J τ) := s_56f (Or.inl (by decide))
def vow (z : Int) : Prop := z = 97 ∨ z = 101 ∨ z = 105 ∨ z = 111 ∨ z = 117 ∨ z = 121
theorem s_209t {I : Nat → Nat → Int32} {J : Nat → Nat → Int64} {τ : tm_Tu} {x : Int32} (h : vow x.toInt) : F_209 [.int x] (mk I J τ) = some (some (.int 1), mk I J τ) := by
  unfold vow at h
  rcases h with h | h | h | h | h | h <;> simp (disch := omega) only [e_209, e_209_36, e_209_41, n_add, nl_add, nr_add, n_mul, nl_mul, nr_mul, n_sub, nl_sub, nr_sub, nr_dec, nr_div, n_div, z_lt, z_le, z_eq, z_cl, n_ti, Int.toNat_natCast, Int32.reduceToInt, Int32.reduceToNatClampNeg, zc_add, zc_sub, zc_addl, zc_subl, zc_mull, t_ltZ, f_ltZ, t_leZ, f_leZ, t_eqZ, f_eqZ, t_ltN, f_ltN, t_leN, f_leN, t_eqN, f_eqN, ↓reduceIte, and_true, true_and, and_false, false_and, and_self, or_true, true_or, or_false, false_or, or_self, not_true_eq_false, not_false_eq_true, tu_same, tu_eq, tu_ne, b_V, b_I, b_J]
theorem s_209f {I : Nat → Nat → Int32} {J : Nat → Nat → Int64} {τ : tm_Tu} {x : Int32} (h : ¬ vow x.toInt) : F_209 [.int x] (mk I J τ) = some (some (.int 0), mk I J τ) := by
  unfold vow at h
  simp (disch := omega) only [e_209, e_209_36, e_209_41, n_add, nl_add, nr_add, n_mul, nl_mul, nr_mul, n_sub, nl_sub, nr_sub, nr_dec, nr_div, n_div, z_lt, z_le, z_eq, z_cl, n_ti, Int.toNat_natCast, Int32.reduceToInt, Int32.reduceToNatClampNeg, zc_add, zc_sub, zc_addl, zc_subl, zc_mull, t_ltZ, f_ltZ, t_leZ, f_leZ, t_eqZ, f_eqZ, t_ltN, f_ltN, t_leN, f_leN, t_eqN, f_eqN, ↓reduceIte, and_true, true_and, and_false, false_and, and_self, or_true, true_or, or_false, false_or, or_self, not_true_eq_false, not_false_eq_true, tu_same, tu_eq, tu_ne, b_V, b_I, b_J]
theorem s_213t {I : Nat → Nat → Int32} {J : Nat → Nat → Int64} {τ : tm_Tu} {x : Int32} (h : vow x.toInt) : F_213 [.int x] (mk I J τ) = some (some (.int 1), mk I J τ) := by
  unfold vow at h
  rcases h with h | h | h | h | h | h <;> simp (disch := omega) only [e_213, e_213_36, e_213_41, n_add, nl_add, nr_add, n_mul, nl_mul, nr_mul, n_sub, nl_sub, nr_sub, nr_dec, nr_div, n_div, z_lt, z_le, z_eq, z_cl, n_ti, Int.toNat_natCast, Int32.reduceToInt, Int32.reduceToNatClampNeg, zc_add, zc_sub, zc_addl, zc_subl, zc_mull, t_ltZ, f_ltZ, t_leZ, f_leZ, t_eqZ, f_eqZ, t_ltN, f_ltN, t_leN, f_leN, t_eqN, f_eqN, ↓reduceIte, and_true, true_and, and_false, false_and, and_self, or_true, true_or, or_false, false_or, or_self, not_true_eq_false, not_false_eq_true, tu_same, tu_eq, tu_ne, b_V, b_I, b_J]
theorem s_213f {I : Nat → Nat → Int32} {J : Nat → Nat → Int64} {τ : tm_Tu} {x : Int32} (h : ¬ vow x.toInt) : F_213 [.int x] (mk I J τ) = some (some (.int 0), mk I J τ) := by
  unfold vow at h
  simp (disch := omega) only [e_213, e_213_36, e_213_41, n_add, nl_add, nr_add, n_mul, nl_mul, nr_mul, n_sub, nl_sub, nr_sub, nr_dec, nr_div, n_div, z_lt, z_le, z_eq, z_cl, n_ti, Int.toNat_natCast, Int32.reduceToInt, Int32.reduceToNatClampNeg, zc_add, zc_sub, zc_addl, zc_subl, zc_mull, t_ltZ, f_ltZ, t_leZ, f_leZ, t_eqZ, f_eqZ, t_ltN, f_ltN, t_leN, f_leN, t_eqN, f_eqN, ↓reduceIte, and_true, true_and, and_false, false_and, and_self, or_true, true_or, or_false, false_or, or_self, not_true_eq_false, not_false_eq_true, tu_same, tu_eq, tu_ne, b_V, b_I, b_J]
def RRhyme (A B : Nat → Nat → Int32) : Prop := ∃ w s : Nat, w ≤ 150 ∧ s ≤ 300 ∧ A 32 1 = nI w ∧ B 131 74 = nI w ∧ A 32 2 = nI s ∧ B 131 75 = nI s ∧ ∀ i, i < w → A 33 i = B 177 i
/-- what the model's loop comes to, beside the class's memory behind its own -/
def rhEnd (A' B B' : Nat → Nat → Int32) (o : Option tm_R) (J : Nat → Nat → Int64) (τ : tm_Tu) : Prop := ∃ s, o = some (some (.int s), mk B' J τ) ∧ s = A' 32 2 ∧ RRhyme A' B' ∧ B' 131 2 = 0 ∧ (∀ a y, a ≠ 177 → ¬ (a = 131 ∧ (y = 2 ∨ y = 74 ∨ y = 75)) → B' a y = B a y)
set_option maxHeartbeats 4000000 in
theorem l_rh {J Jm : Nat → Nat → Int64} {τ τm : tm_Tu} (n : Nat) (hn : n ≤ 300) : ∀ m k, k + m = n → ∀ (A : Nat → Nat → Int32) (w s r v : Nat) (iw ir : Int32),
    (iw = 0 ∧ ir = 0 ∧ 2 * w ≤ k ∧ s ≤ k ∧ v = s ∧ r ≤ k ∨ iw = 1 ∧ (ir = 0 ∨ ir = 1 ∧ 1 ≤ r) ∧ 2 * w ≤ k + 1 ∧ v ≤ k ∧ (r = 0 ∧ v = s + 1 ∨ 1 ≤ r ∧ v = s + r)) →
    A 32 1 = nI w → A 32 2 = nI v → (∀ i, i < n → -128 ≤ (A 3 i).toInt ∧ (A 3 i).toInt ≤ 127) →
    ∃ A', R_211 21 [(0, .ref 32), (1, .ref 3), (2, .int (nI n)), (3, .int (nI r)), (4, .int iw), (5, .int ir), (6, .int (nI k))] [] (mk A J τ) = some (none, mk A' J τ) ∧ (∀ a y, a ≠ 33 → ¬ (a = 32 ∧ (y = 1 ∨ y = 2)) → A' a y = A a y) ∧
      ∀ B x2 x3, B 131 2 = nI n → B 131 74 = nI w → B 131 75 = nI s → (∀ i, i < w → A 33 i = B 177 i) → (∀ i, i < n → B 132 i = A 3 i) → (iw = 1 → x2 = ir ∧ x3 = nI r) →
        ∃ B', rhEnd A' B B' (R_214 31 [(0, .ref 131), (1, .int iw), (2, .int x2), (3, .int x3), (4, .int (nI k))] [] (mk B Jm τm)) Jm τm := by
  intro m
  induction m with
  | zero =>
    intro k hk A w s r v iw ir hiv hw hv ht
    refine ⟨A, ?_, fun _ _ _ _ => rfl, ?_⟩
    · rw [e_211_21]
      simp (disch := omega) only [e_211_114, n_add, nl_add, nr_add, n_mul, nl_mul, nr_mul, n_sub, nl_sub, nr_sub, nr_dec, nr_div, n_div, z_lt, z_le, z_eq, z_cl, n_ti, Int.toNat_natCast, Int32.reduceToInt, Int32.reduceToNatClampNeg, zc_add, zc_sub, zc_addl, zc_subl, zc_mull, t_ltZ, f_ltZ, t_leZ, f_leZ, t_eqZ, f_eqZ, t_ltN, f_ltN, t_leN, f_leN, t_eqN, f_eqN, ↓reduceIte, and_true, true_and, and_false, false_and, and_self, or_true, true_or, or_false, false_or, or_self, not_true_eq_false, not_false_eq_true, tu_same, tu_eq, tu_ne, b_V, b_I, b_J]
    · intro B x2 x3 b1 b2 b3 b4 b5 b6
      rcases hiv with ⟨rfl, rfl, h1, h2, rfl, h4⟩ | ⟨rfl, h1, h2, h3, h4⟩
      · refine ⟨tm_u B 131 2 0, _, ?_, rfl, ⟨w, v, by omega, by omega, hw, by simp (disch := omega) only [b2, tu_same, tu_eq, tu_ne], hv, by simp (disch := omega) only [b3, tu_same, tu_eq, tu_ne], fun i hi => by simp (disch := omega) only [tu_same, tu_eq, tu_ne]; exact b4 i hi⟩, by simp (disch := omega) only [tu_same, tu_eq, tu_ne], fun a y h1 h2 => by simp (disch := omega) only [tu_same, tu_eq, tu_ne]⟩
        rw [e_214_31]
        simp (disch := omega) only [e_214_65, s_56_32, e_214_72, e_214_97, e_214_156, e_214_31, b1, b3, hv, n_add, nl_add, nr_add, n_mul, nl_mul, nr_mul, n_sub, nl_sub, nr_sub, nr_dec, nr_div, n_div, z_lt, z_le, z_eq, z_cl, n_ti, Int.toNat_natCast, Int32.reduceToInt, Int32.reduceToNatClampNeg, zc_add, zc_sub, zc_addl, zc_subl, zc_mull, t_ltZ, f_ltZ, t_leZ, f_leZ, t_eqZ, f_eqZ, t_ltN, f_ltN, t_leN, f_leN, t_eqN, f_eqN, ↓reduceIte, and_true, true_and, and_false, false_and, and_self, or_true, true_or, or_false, false_or, or_self, not_true_eq_false, not_false_eq_true, tu_same, tu_eq, tu_ne, b_V, b_I, b_J]
      · obtain ⟨rfl, rfl⟩ := b6 rfl
        refine ⟨tm_u (tm_u B 131 75 (nI v)) 131 2 0, _, ?_, rfl, ⟨w, v, by omega, by omega, hw, by simp (disch := omega) only [b2, tu_same, tu_eq, tu_ne], hv, by simp (disch := omega) only [tu_same, tu_eq, tu_ne], fun i hi => by simp (disch := omega) only [tu_same, tu_eq, tu_ne]; exact b4 i hi⟩, by simp (disch := omega) only [tu_same, tu_eq, tu_ne], fun a y h1 h2 => by simp (disch := omega) only [tu_same, tu_eq, tu_ne]⟩
        rw [e_214_31]
        rcases h4 with ⟨rfl, rfl⟩ | ⟨h4, rfl⟩
        · simp (disch := omega) only [e_214_65, s_56_32, e_214_72, e_214_93, e_214_97, e_214_156, e_214_31, b1, b3, hv, n_add, nl_add, nr_add, n_mul, nl_mul, nr_mul, n_sub, nl_sub, nr_sub, nr_dec, nr_div, n_div, z_lt, z_le, z_eq, z_cl, n_ti, Int.toNat_natCast, Int32.reduceToInt, Int32.reduceToNatClampNeg, zc_add, zc_sub, zc_addl, zc_subl, zc_mull, t_ltZ, f_ltZ, t_leZ, f_leZ, t_eqZ, f_eqZ, t_ltN, f_ltN, t_leN, f_leN, t_eqN, f_eqN, ↓reduceIte, and_true, true_and, and_false, false_and, and_self, or_true, true_or, or_false, false_or, or_self, not_true_eq_false, not_false_eq_true, tu_same, tu_eq, tu_ne, b_V, b_I, b_J]
        · simp (disch := omega) only [e_214_65, s_56_32, e_214_72, e_214_93, e_214_97, e_214_156, e_214_31, b1, b3, hv, n_add, nl_add, nr_add, n_mul, nl_mul, nr_mul, n_sub, nl_sub, nr_sub, nr_dec, nr_div, n_div, z_lt, z_le, z_eq, z_cl, n_ti, Int.toNat_natCast, Int32.reduceToInt, Int32.reduceToNatClampNeg, zc_add, zc_sub, zc_addl, zc_subl, zc_mull, t_ltZ, f_ltZ, t_leZ, f_leZ, t_eqZ, f_eqZ, t_ltN, f_ltN, t_leN, f_leN, t_eqN, f_eqN, ↓reduceIte, and_true, true_and, and_false, false_and, and_self, or_true, true_or, or_false, false_or, or_self, not_true_eq_false, not_false_eq_true, tu_same, tu_eq, tu_ne, b_V, b_I, b_J]
  | succ m ih =>
    intro k hk A w s r v iw ir hiv hw hv ht
    have htk := ht k (by omega)
    have hc := by_and (A 3 k)
    by_cases hl : 97 ≤ (A 3 k).toInt ∧ (A 3 k).toInt ≤ 122
    · obtain ⟨hl1, hl2⟩ := hl
      by_cases hvo : vow (A 3 k).toInt
      · have hvo' : vow (A 3 k &&& 255).toInt := by rw [hc]; unfold vow at hvo ⊢; omega
        rcases hiv with ⟨rfl, rfl, h1, h2, rfl, h4⟩ | ⟨rfl, h1, h2, h3, h4⟩
        · obtain ⟨A', g1, g2, g3⟩ := ih (k + 1) (by omega) (tm_u (tm_u (tm_u (tm_u A 33 w (nI v)) 32 1 (nI (w + 1))) 32 2 (nI (v + 1))) 32 2 (nI (v + 1))) (w + 1) v 1 (v + 1) 1 1 (Or.inr ⟨rfl, Or.inr ⟨rfl, by omega⟩, by omega, by omega, by omega⟩) (by simp (disch := omega) only [tu_same, tu_eq, tu_ne]) (by simp (disch := omega) only [tu_same, tu_eq, tu_ne]) (fun i hi => by simp (disch := omega) only [tu_same, tu_eq, tu_ne]; exact ht i hi)
          refine ⟨A', ?_, fun a y ha hb => ?_, fun B x2 x3 b1 b2 b3 b4 b5 b6 => ?_⟩
          · rw [← g1, e_211_21]
            simp (disch := omega) only [s_20t, e_211_41, s_209t hvo, e_211_50, e_210, e_210_35, e_211_66, e_211_68, e_211_96, e_211_100, hw, hv, n_add, nl_add, nr_add, n_mul, nl_mul, nr_mul, n_sub, nl_sub, nr_sub, nr_dec, nr_div, n_div, z_lt, z_le, z_eq, z_cl, n_ti, Int.toNat_natCast, Int32.reduceToInt, Int32.reduceToNatClampNeg, zc_add, zc_sub, zc_addl, zc_subl, zc_mull, t_ltZ, f_ltZ, t_leZ, f_leZ, t_eqZ, f_eqZ, t_ltN, f_ltN, t_leN, f_leN, t_eqN, f_eqN, ↓reduceIte, and_true, true_and, and_false, false_and, and_self, or_true, true_or, or_false, false_or, or_self, not_true_eq_false, not_false_eq_true, tu_same, tu_eq, tu_ne, b_V, b_I, b_J]
            rfl
          · rw [g2 a y ha hb]
            simp (disch := omega) only [tu_same, tu_eq, tu_ne]
          · obtain ⟨B', q0, q1, q2, q3, q4, q5⟩ := g3 (tm_u (tm_u B 177 w (nI v)) 131 74 (nI (w + 1))) 1 1 (by simp (disch := omega) only [b1, tu_same, tu_eq, tu_ne]) (by simp (disch := omega) only [tu_same, tu_eq, tu_ne]) (by simp (disch := omega) only [b3, tu_same, tu_eq, tu_ne]) (fun i hi => by
              by_cases hi' : i = w
              · subst hi'; simp (disch := omega) only [tu_same, tu_eq, tu_ne]
              · simp (disch := omega) only [tu_same, tu_eq, tu_ne]; exact b4 i (by omega)) (fun i hi => by simp (disch := omega) only [tu_same, tu_eq, tu_ne]; exact b5 i hi) (fun _ => ⟨rfl, rfl⟩)
            refine ⟨B', q0, ?_, q2, q3, q4, fun a y ha hb => (q5 a y ha hb).trans (by simp (disch := omega) only [tu_same, tu_eq, tu_ne])⟩
            rw [← q1, e_214_31]
            simp (disch := omega) only [b5, b1, e_214_65, s_56t, hc, e_214_72, e_214_133, s_213t hvo', e_214_140, e_214_150, e_214_155, e_214_156, b2, b3, n_add, nl_add, nr_add, n_mul, nl_mul, nr_mul, n_sub, nl_sub, nr_sub, nr_dec, nr_div, n_div, z_lt, z_le, z_eq, z_cl, n_ti, Int.toNat_natCast, Int32.reduceToInt, Int32.reduceToNatClampNeg, zc_add, zc_sub, zc_addl, zc_subl, zc_mull, t_ltZ, f_ltZ, t_leZ, f_leZ, t_eqZ, f_eqZ, t_ltN, f_ltN, t_leN, f_leN, t_eqN, f_eqN, ↓reduceIte, and_true, true_and, and_false, false_and, and_self, or_true, true_or, or_false, false_or, or_self, not_true_eq_false, not_false_eq_true, tu_same, tu_eq, tu_ne, b_V, b_I, b_J]
            rfl
        · rcases h1 with rfl | ⟨rfl, h1⟩
          · have hr : ∃ v', v' = s + (r + 1) := ⟨_, rfl⟩
            obtain ⟨v', hv'⟩ := hr
            obtain ⟨A', g1, g2, g3⟩ := ih (k + 1) (by omega) (tm_u A 32 2 (nI v')) w s (r + 1) v' 1 1 (Or.inr ⟨rfl, Or.inr ⟨rfl, by omega⟩, by omega, by omega, by omega⟩) (by simp (disch := omega) only [hw, tu_same, tu_eq, tu_ne]) (by simp (disch := omega) only [tu_same, tu_eq, tu_ne]) (fun i hi => by simp (disch := omega) only [tu_same, tu_eq, tu_ne]; exact ht i hi)
            refine ⟨A', ?_, fun a y ha hb => ?_, fun B x2 x3 b1 b2 b3 b4 b5 b6 => ?_⟩
            · rw [← g1, e_211_21]
              rcases h4 with ⟨rfl, rfl⟩ | ⟨h4, rfl⟩
              · simp (disch := omega) only [s_20t, e_211_41, s_209t hvo, e_211_50, e_211_66, e_211_68, e_211_96, e_211_100, hw, hv, n_add, nl_add, nr_add, n_mul, nl_mul, nr_mul, n_sub, nl_sub, nr_sub, nr_dec, nr_div, n_div, z_lt, z_le, z_eq, z_cl, n_ti, Int.toNat_natCast, Int32.reduceToInt, Int32.reduceToNatClampNeg, zc_add, zc_sub, zc_addl, zc_subl, zc_mull, t_ltZ, f_ltZ, t_leZ, f_leZ, t_eqZ, f_eqZ, t_ltN, f_ltN, t_leN, f_leN, t_eqN, f_eqN, ↓reduceIte, and_true, true_and, and_false, false_and, and_self, or_true, true_or, or_false, false_or, or_self, not_true_eq_false, not_false_eq_true, tu_same, tu_eq, tu_ne, b_V, b_I, b_J]
                rw [hv']
              · simp (disch := omega) only [s_20t, e_211_41, s_209t hvo, e_211_50, e_211_66, e_211_68, e_211_96, e_211_100, hw, hv, n_add, nl_add, nr_add, n_mul, nl_mul, nr_mul, n_sub, nl_sub, nr_sub, nr_dec, nr_div, n_div, z_lt, z_le, z_eq, z_cl, n_ti, Int.toNat_natCast, Int32.reduceToInt, Int32.reduceToNatClampNeg, zc_add, zc_sub, zc_addl, zc_subl, zc_mull, t_ltZ, f_ltZ, t_leZ, f_leZ, t_eqZ, f_eqZ, t_ltN, f_ltN, t_leN, f_leN, t_eqN, f_eqN, ↓reduceIte, and_true, true_and, and_false, false_and, and_self, or_true, true_or, or_false, false_or, or_self, not_true_eq_false, not_false_eq_true, tu_same, tu_eq, tu_ne, b_V, b_I, b_J]
                rw [hv', Nat.add_assoc]
            · rw [g2 a y ha hb]
              simp (disch := omega) only [tu_same, tu_eq, tu_ne]
            · obtain ⟨rfl, rfl⟩ := b6 rfl
              obtain ⟨B', q0, q1, q2, q3, q4, q5⟩ := g3 B 1 (nI (r + 1)) b1 b2 b3 (fun i hi => by simp (disch := omega) only [tu_same, tu_eq, tu_ne]; exact b4 i hi) (fun i hi => by simp (disch := omega) only [tu_same, tu_eq, tu_ne]; exact b5 i hi) (fun _ => ⟨rfl, rfl⟩)
              refine ⟨B', q0, ?_, q2, q3, q4, q5⟩
              rw [← q1, e_214_31]
              simp (disch := omega) only [b5, b1, e_214_65, s_56t, hc, e_214_72, e_214_133, s_213t hvo', e_214_140, e_214_150, e_214_155, e_214_156, b2, b3, n_add, nl_add, nr_add, n_mul, nl_mul, nr_mul, n_sub, nl_sub, nr_sub, nr_dec, nr_div, n_div, z_lt, z_le, z_eq, z_cl, n_ti, Int.toNat_natCast, Int32.reduceToInt, Int32.reduceToNatClampNeg, zc_add, zc_sub, zc_addl, zc_subl, zc_mull, t_ltZ, f_ltZ, t_leZ, f_leZ, t_eqZ, f_eqZ, t_ltN, f_ltN, t_leN, f_leN, t_eqN, f_eqN, ↓reduceIte, and_true, true_and, and_false, false_and, and_self, or_true, true_or, or_false, false_or, or_self, not_true_eq_false, not_false_eq_true, tu_same, tu_eq, tu_ne, b_V, b_I, b_J]
          · obtain ⟨A', g1, g2, g3⟩ := ih (k + 1) (by omega) A w s r v 1 1 (Or.inr ⟨rfl, Or.inr ⟨rfl, by omega⟩, by omega, by omega, by omega⟩) hw hv ht
            refine ⟨A', ?_, g2, fun B x2 x3 b1 b2 b3 b4 b5 b6 => ?_⟩
            · rw [← g1, e_211_21]
              simp (disch := omega) only [s_20t, e_211_41, s_209t hvo, e_211_50, e_211_66, e_211_68, e_211_96, e_211_100, hw, hv, n_add, nl_add, nr_add, n_mul, nl_mul, nr_mul, n_sub, nl_sub, nr_sub, nr_dec, nr_div, n_div, z_lt, z_le, z_eq, z_cl, n_ti, Int.toNat_natCast, Int32.reduceToInt, Int32.reduceToNatClampNeg, zc_add, zc_sub, zc_addl, zc_subl, zc_mull, t_ltZ, f_ltZ, t_leZ, f_leZ, t_eqZ, f_eqZ, t_ltN, f_ltN, t_leN, f_leN, t_eqN, f_eqN, ↓reduceIte, and_true, true_and, and_false, false_and, and_self, or_true, true_or, or_false, false_or, or_self, not_true_eq_false, not_false_eq_true, tu_same, tu_eq, tu_ne, b_V, b_I, b_J]
            · obtain ⟨rfl, rfl⟩ := b6 rfl
              obtain ⟨B', q0, q1, q2, q3, q4, q5⟩ := g3 B 1 (nI r) b1 b2 b3 b4 b5 (fun _ => ⟨rfl, rfl⟩)
              refine ⟨B', q0, ?_, q2, q3, q4, q5⟩
              rw [← q1, e_214_31]
              simp (disch := omega) only [b5, b1, e_214_65, s_56t, hc, e_214_72, e_214_133, s_213t hvo', e_214_140, e_214_150, e_214_155, e_214_156, b2, b3, n_add, nl_add, nr_add, n_mul, nl_mul, nr_mul, n_sub, nl_sub, nr_sub, nr_dec, nr_div, n_div, z_lt, z_le, z_eq, z_cl, n_ti, Int.toNat_natCast, Int32.reduceToInt, Int32.reduceToNatClampNeg, zc_add, zc_sub, zc_addl, zc_subl, zc_mull, t_ltZ, f_ltZ, t_leZ, f_leZ, t_eqZ, f_eqZ, t_ltN, f_ltN, t_leN, f_leN, t_eqN, f_eqN, ↓reduceIte, and_true, true_and, and_false, false_and, and_self, or_true, true_or, or_false, false_or, or_self, not_true_eq_false, not_false_eq_true, tu_same, tu_eq, tu_ne, b_V, b_I, b_J]
      · have hvo' : ¬ vow (A 3 k &&& 255).toInt := by rw [hc]; unfold vow at hvo ⊢; omega
        rcases hiv with ⟨rfl, rfl, h1, h2, rfl, h4⟩ | ⟨rfl, h1, h2, h3, h4⟩
        · obtain ⟨A', g1, g2, g3⟩ := ih (k + 1) (by omega) (tm_u (tm_u (tm_u A 33 w (nI v)) 32 1 (nI (w + 1))) 32 2 (nI (v + 1))) (w + 1) v 0 (v + 1) 1 0 (Or.inr ⟨rfl, Or.inl rfl, by omega, by omega, by omega⟩) (by simp (disch := omega) only [tu_same, tu_eq, tu_ne]) (by simp (disch := omega) only [tu_same, tu_eq, tu_ne]) (fun i hi => by simp (disch := omega) only [tu_same, tu_eq, tu_ne]; exact ht i hi)
          refine ⟨A', ?_, fun a y ha hb => ?_, fun B x2 x3 b1 b2 b3 b4 b5 b6 => ?_⟩
          · rw [← g1, e_211_21]
            simp (disch := omega) only [s_20t, e_211_41, s_209f hvo, e_211_50, e_210, e_210_35, e_211_66, e_211_68, e_211_96, e_211_100, hw, hv, n_add, nl_add, nr_add, n_mul, nl_mul, nr_mul, n_sub, nl_sub, nr_sub, nr_dec, nr_div, n_div, z_lt, z_le, z_eq, z_cl, n_ti, Int.toNat_natCast, Int32.reduceToInt, Int32.reduceToNatClampNeg, zc_add, zc_sub, zc_addl, zc_subl, zc_mull, t_ltZ, f_ltZ, t_leZ, f_leZ, t_eqZ, f_eqZ, t_ltN, f_ltN, t_leN, f_leN, t_eqN, f_eqN, ↓reduceIte, and_true, true_and, and_false, false_and, and_self, or_true, true_or, or_false, false_or, or_self, not_true_eq_false, not_false_eq_true, tu_same, tu_eq, tu_ne, b_V, b_I, b_J]
            rfl
          · rw [g2 a y ha hb]
            simp (disch := omega) only [tu_same, tu_eq, tu_ne]
          · obtain ⟨B', q0, q1, q2, q3, q4, q5⟩ := g3 (tm_u (tm_u B 177 w (nI v)) 131 74 (nI (w + 1))) 0 0 (by simp (disch := omega) only [b1, tu_same, tu_eq, tu_ne]) (by simp (disch := omega) only [tu_same, tu_eq, tu_ne]) (by simp (disch := omega) only [b3, tu_same, tu_eq, tu_ne]) (fun i hi => by
              by_cases hi' : i = w
              · subst hi'; simp (disch := omega) only [tu_same, tu_eq, tu_ne]
              · simp (disch := omega) only [tu_same, tu_eq, tu_ne]; exact b4 i (by omega)) (fun i hi => by simp (disch := omega) only [tu_same, tu_eq, tu_ne]; exact b5 i hi) (fun _ => ⟨rfl, rfl⟩)
            refine ⟨B', q0, ?_, q2, q3, q4, fun a y ha hb => (q5 a y ha hb).trans (by simp (disch := omega) only [tu_same, tu_eq, tu_ne])⟩
            rw [← q1, e_214_31]
            simp (disch := omega) only [b5, b1, e_214_65, s_56t, hc, e_214_72, e_214_133, s_213f hvo', e_214_140, e_214_150, e_214_155, e_214_156, b2, b3, n_add, nl_add, nr_add, n_mul, nl_mul, nr_mul, n_sub, nl_sub, nr_sub, nr_dec, nr_div, n_div, z_lt, z_le, z_eq, z_cl, n_ti, Int.toNat_natCast, Int32.reduceToInt, Int32.reduceToNatClampNeg, zc_add, zc_sub, zc_addl, zc_subl, zc_mull, t_ltZ, f_ltZ, t_leZ, f_leZ, t_eqZ, f_eqZ, t_ltN, f_ltN, t_leN, f_leN, t_eqN, f_eqN, ↓reduceIte, and_true, true_and, and_false, false_and, and_self, or_true, true_or, or_false, false_or, or_self, not_true_eq_false, not_false_eq_true, tu_same, tu_eq, tu_ne, b_V, b_I, b_J]
        · obtain ⟨A', g1, g2, g3⟩ := ih (k + 1) (by omega) A w s r v 1 0 (Or.inr ⟨rfl, Or.inl rfl, by omega, by omega, by omega⟩) hw hv ht
          refine ⟨A', ?_, g2, fun B x2 x3 b1 b2 b3 b4 b5 b6 => ?_⟩
          · rw [← g1, e_211_21]
            simp (disch := omega) only [s_20t, e_211_41, s_209f hvo, e_211_50, e_211_66, e_211_68, e_211_96, e_211_100, hw, hv, n_add, nl_add, nr_add, n_mul, nl_mul, nr_mul, n_sub, nl_sub, nr_sub, nr_dec, nr_div, n_div, z_lt, z_le, z_eq, z_cl, n_ti, Int.toNat_natCast, Int32.reduceToInt, Int32.reduceToNatClampNeg, zc_add, zc_sub, zc_addl, zc_subl, zc_mull, t_ltZ, f_ltZ, t_leZ, f_leZ, t_eqZ, f_eqZ, t_ltN, f_ltN, t_leN, f_leN, t_eqN, f_eqN, ↓reduceIte, and_true, true_and, and_false, false_and, and_self, or_true, true_or, or_false, false_or, or_self, not_true_eq_false, not_false_eq_true, tu_same, tu_eq, tu_ne, b_V, b_I, b_J]
          · obtain ⟨rfl, rfl⟩ := b6 rfl
            obtain ⟨B', q0, q1, q2, q3, q4, q5⟩ := g3 B 0 (nI r) b1 b2 b3 b4 b5 (fun _ => ⟨rfl, rfl⟩)
            refine ⟨B', q0, ?_, q2, q3, q4, q5⟩
            rw [← q1, e_214_31]
            simp (disch := omega) only [b5, b1, e_214_65, s_56t, hc, e_214_72, e_214_133, s_213f hvo', e_214_140, e_214_150, e_214_155, e_214_156, b2, b3, n_add, nl_add, nr_add, n_mul, nl_mul, nr_mul, n_sub, nl_sub, nr_sub, nr_dec, nr_div, n_div, z_lt, z_le, z_eq, z_cl, n_ti, Int.toNat_natCast, Int32.reduceToInt, Int32.reduceToNatClampNeg, zc_add, zc_sub, zc_addl, zc_subl, zc_mull, t_ltZ, f_ltZ, t_leZ, f_leZ, t_eqZ, f_eqZ, t_ltN, f_ltN, t_leN, f_leN, t_eqN, f_eqN, ↓reduceIte, and_true, true_and, and_false, false_and, and_self, or_true, true_or, or_false, false_or, or_self, not_true_eq_false, not_false_eq_true, tu_same, tu_eq, tu_ne, b_V, b_I, b_J]
    · have hvo : ¬ vow (A 3 k).toInt := by unfold vow; omega
      have hl' : (A 3 k).toInt < 97 ∨ 122 < (A 3 k).toInt := by omega
      have hm' : (A 3 k &&& 255).toInt < 97 ∨ 122 < (A 3 k &&& 255).toInt := by omega
      rcases hiv with ⟨rfl, rfl, h1, h2, rfl, h4⟩ | ⟨rfl, h1, h2, h3, h4⟩
      · obtain ⟨A', g1, g2, g3⟩ := ih (k + 1) (by omega) A w v r v 0 0 (Or.inl ⟨rfl, rfl, by omega, by omega, by omega, by omega⟩) hw hv ht
        refine ⟨A', ?_, g2, fun B x2 x3 b1 b2 b3 b4 b5 b6 => ?_⟩
        · rw [← g1, e_211_21]
          simp (disch := omega) only [s_20f hl', e_211_41, s_209f hvo, e_211_50, e_211_66, e_211_68, e_211_96, e_211_100, hw, hv, n_add, nl_add, nr_add, n_mul, nl_mul, nr_mul, n_sub, nl_sub, nr_sub, nr_dec, nr_div, n_div, z_lt, z_le, z_eq, z_cl, n_ti, Int.toNat_natCast, Int32.reduceToInt, Int32.reduceToNatClampNeg, zc_add, zc_sub, zc_addl, zc_subl, zc_mull, t_ltZ, f_ltZ, t_leZ, f_leZ, t_eqZ, f_eqZ, t_ltN, f_ltN, t_leN, f_leN, t_eqN, f_eqN, ↓reduceIte, and_true, true_and, and_false, false_and, and_self, or_true, true_or, or_false, false_or, or_self, not_true_eq_false, not_false_eq_true, tu_same, tu_eq, tu_ne, b_V, b_I, b_J]
        · obtain ⟨B', q0, q1, q2, q3, q4, q5⟩ := g3 B x2 x3 b1 b2 b3 b4 b5 (fun h => by cases h)
          refine ⟨B', q0, ?_, q2, q3, q4, q5⟩
          rw [← q1, e_214_31]
          simp (disch := omega) only [b5, b1, e_214_65, s_56f hm', e_214_72, e_214_93, e_214_97, e_214_156, b2, b3, n_add, nl_add, nr_add, n_mul, nl_mul, nr_mul, n_sub, nl_sub, nr_sub, nr_dec, nr_div, n_div, z_lt, z_le, z_eq, z_cl, n_ti, Int.toNat_natCast, Int32.reduceToInt, Int32.reduceToNatClampNeg, zc_add, zc_sub, zc_addl, zc_subl, zc_mull, t_ltZ, f_ltZ, t_leZ, f_leZ, t_eqZ, f_eqZ, t_ltN, f_ltN, t_leN, f_leN, t_eqN, f_eqN, ↓reduceIte, and_true, true_and, and_false, false_and, and_self, or_true, true_or, or_false, false_or, or_self, not_true_eq_false, not_false_eq_true, tu_same, tu_eq, tu_ne, b_V, b_I, b_J]
      · obtain ⟨A', g1, g2, g3⟩ := ih (k + 1) (by omega) A w v r v 0 0 (Or.inl ⟨rfl, rfl, by omega, by omega, by omega, by omega⟩) hw hv ht
        refine ⟨A', ?_, g2, fun B x2 x3 b1 b2 b3 b4 b5 b6 => ?_⟩
        · rw [← g1, e_211_21]
          rcases h1 with rfl | ⟨rfl, h1⟩ <;> simp (disch := omega) only [s_20f hl', e_211_41, s_209f hvo, e_211_50, e_211_66, e_211_68, e_211_96, e_211_100, hw, hv, n_add, nl_add, nr_add, n_mul, nl_mul, nr_mul, n_sub, nl_sub, nr_sub, nr_dec, nr_div, n_div, z_lt, z_le, z_eq, z_cl, n_ti, Int.toNat_natCast, Int32.reduceToInt, Int32.reduceToNatClampNeg, zc_add, zc_sub, zc_addl, zc_subl, zc_mull, t_ltZ, f_ltZ, t_leZ, f_leZ, t_eqZ, f_eqZ, t_ltN, f_ltN, t_leN, f_leN, t_eqN, f_eqN, ↓reduceIte, and_true, true_and, and_false, false_and, and_self, or_true, true_or, or_false, false_or, or_self, not_true_eq_false, not_false_eq_true, tu_same, tu_eq, tu_ne, b_V, b_I, b_J]
        · obtain ⟨rfl, rfl⟩ := b6 rfl
          obtain ⟨B', q0, q1, q2, q3, q4, q5⟩ := g3 (tm_u B 131 75 (nI v)) x2 (nI r) (by simp (disch := omega) only [b1, tu_same, tu_eq, tu_ne]) (by simp (disch := omega) only [b2, tu_same, tu_eq, tu_ne]) (by simp (disch := omega) only [tu_same, tu_eq, tu_ne]) (fun i hi => by simp (disch := omega) only [tu_same, tu_eq, tu_ne]; exact b4 i hi) (fun i hi => by simp (disch := omega) only [tu_same, tu_eq, tu_ne]; exact b5 i hi) (fun h => by cases h)
          refine ⟨B', q0, ?_, q2, q3, q4, fun a y ha hb => (q5 a y ha hb).trans (by simp (disch := omega) only [tu_same, tu_eq, tu_ne])⟩
          rw [← q1, e_214_31]
          rcases h4 with ⟨rfl, rfl⟩ | ⟨h4, rfl⟩
          · simp (disch := omega) only [b5, b1, e_214_65, s_56f hm', e_214_72, e_214_93, e_214_97, e_214_156, b2, b3, n_add, nl_add, nr_add, n_mul, nl_mul, nr_mul, n_sub, nl_sub, nr_sub, nr_dec, nr_div, n_div, z_lt, z_le, z_eq, z_cl, n_ti, Int.toNat_natCast, Int32.reduceToInt, Int32.reduceToNatClampNeg, zc_add, zc_sub, zc_addl, zc_subl, zc_mull, t_ltZ, f_ltZ, t_leZ, f_leZ, t_eqZ, f_eqZ, t_ltN, f_ltN, t_leN, f_leN, t_eqN, f_eqN, ↓reduceIte, and_true, true_and, and_false, false_and, and_self, or_true, true_or, or_false, false_or, or_self, not_true_eq_false, not_false_eq_true, tu_same, tu_eq, tu_ne, b_V, b_I, b_J]
          · simp (disch := omega) only [b5, b1, e_214_65, s_56f hm', e_214_72, e_214_93, e_214_97, e_214_156, b2, b3, n_add, nl_add, nr_add, n_mul, nl_mul, nr_mul, n_sub, nl_sub, nr_sub, nr_dec, nr_div, n_div, z_lt, z_le, z_eq, z_cl, n_ti, Int.toNat_natCast, Int32.reduceToInt, Int32.reduceToNatClampNeg, zc_add, zc_sub, zc_addl, zc_subl, zc_mull, t_ltZ, f_ltZ, t_leZ, f_leZ, t_eqZ, f_eqZ, t_ltN, f_ltN, t_leN, f_leN, t_eqN, f_eqN, ↓reduceIte, and_true, true_and, and_false, false_and, and_self, or_true, true_or, or_false, false_or, or_self, not_true_eq_false, not_false_eq_true, tu_same, tu_eq, tu_ne, b_V, b_I, b_J]
theorem p_rhyme {I : Nat → Nat → Int32} {J : Nat → Nat → Int64} {τ : tm_Tu} (h : RTape I) (h2 : RRhyme I I) : ∃ r I1 I2, F_212 [.ref 2] (mk I J τ) = some (some (.int r), mk I1 J τ) ∧ F_214 [.ref 131] (mk I1 J τ) = some (some (.int r), mk I2 J τ) ∧ RTape I2 ∧ RRhyme I2 I2 ∧ (∀ a k, ¬ (a = 2 ∧ k = 11) → ¬ (a = 131 ∧ (k = 2 ∨ k = 74 ∨ k = 75)) → ¬ (a = 32 ∧ (k = 1 ∨ k = 2)) → a ≠ 33 → a ≠ 177 → I2 a k = I a k) := by
  obtain ⟨n, hn, t1, t2, t3⟩ := h
  by_cases c : n ≤ 300
  · obtain ⟨A', g1, g2, g3⟩ := l_rh (J := J) (Jm := J) (τ := τ) (τm := τ) n c n 0 (by omega) (tm_u (tm_u (tm_u I 2 11 0) 32 1 0) 32 2 0) 0 0 0 0 0 0 (Or.inl ⟨rfl, rfl, by omega, by omega, by omega, by omega⟩) (by simp (disch := omega) only [tu_same, tu_eq, tu_ne]; rfl) (by simp (disch := omega) only [tu_same, tu_eq, tu_ne]; rfl) (fun i hi => by simp (disch := omega) only [tu_same, tu_eq, tu_ne]; exact (t3 i hi).2)
    obtain ⟨B', s, q1, q2, q3, q4, q5⟩ := g3 (tm_u (tm_u A' 131 74 0) 131 75 0) 0 0 (by simp (disch := omega) only [g2, tu_same, tu_eq, tu_ne]; simp (disch := omega) only [t2, tu_same, tu_eq, tu_ne]) (by simp (disch := omega) only [tu_same, tu_eq, tu_ne]; rfl) (by simp (disch := omega) only [tu_same, tu_eq, tu_ne]; rfl) (fun i hi => by omega) (fun i hi => by simp (disch := omega) only [g2, tu_same, tu_eq, tu_ne]; exact (t3 i hi).1.symm) (fun h => by cases h)
    refine ⟨s, A', B', ?_, ?_, ⟨0, by omega, ?_, by rw [q4]; rfl, fun k hk => by omega⟩, ?_, ?_⟩
    · rw [e_212]
      simp (disch := omega) only [t1, e_19, e_212_24, e_211, e_212_27, q2, t1, n_add, nl_add, nr_add, n_mul, nl_mul, nr_mul, n_sub, nl_sub, nr_sub, nr_dec, nr_div, n_div, z_lt, z_le, z_eq, z_cl, n_ti, Int.toNat_natCast, Int32.reduceToInt, Int32.reduceToNatClampNeg, zc_add, zc_sub, zc_addl, zc_subl, zc_mull, t_ltZ, f_ltZ, t_leZ, f_leZ, t_eqZ, f_eqZ, t_ltN, f_ltN, t_leN, f_leN, t_eqN, f_eqN, ↓reduceIte, and_true, true_and, and_false, false_and, and_self, or_true, true_or, or_false, false_or, or_self, not_true_eq_false, not_false_eq_true, tu_same, tu_eq, tu_ne, b_V, b_I, b_J]
      have g1' : R_211 21 [(0, .ref 32), (1, .ref 3), (2, .int (nI n)), (3, .int 0), (4, .int 0), (5, .int 0), (6, .int 0)] [] (mk (tm_u (tm_u (tm_u I 2 11 0) 32 1 0) 32 2 0) J τ) = some (none, mk A' J τ) := g1
      rw [g1']
      simp (disch := omega) only [e_212_27, n_add, nl_add, nr_add, n_mul, nl_mul, nr_mul, n_sub, nl_sub, nr_sub, nr_dec, nr_div, n_div, z_lt, z_le, z_eq, z_cl, n_ti, Int.toNat_natCast, Int32.reduceToInt, Int32.reduceToNatClampNeg, zc_add, zc_sub, zc_addl, zc_subl, zc_mull, t_ltZ, f_ltZ, t_leZ, f_leZ, t_eqZ, f_eqZ, t_ltN, f_ltN, t_leN, f_leN, t_eqN, f_eqN, ↓reduceIte, and_true, true_and, and_false, false_and, and_self, or_true, true_or, or_false, false_or, or_self, not_true_eq_false, not_false_eq_true, tu_same, tu_eq, tu_ne, b_V, b_I, b_J]
    · rw [← q1, e_214]
      simp (disch := omega) only [g2, t2, n_add, nl_add, nr_add, n_mul, nl_mul, nr_mul, n_sub, nl_sub, nr_sub, nr_dec, nr_div, n_div, z_lt, z_le, z_eq, z_cl, n_ti, Int.toNat_natCast, Int32.reduceToInt, Int32.reduceToNatClampNeg, zc_add, zc_sub, zc_addl, zc_subl, zc_mull, t_ltZ, f_ltZ, t_leZ, f_leZ, t_eqZ, f_eqZ, t_ltN, f_ltN, t_leN, f_leN, t_eqN, f_eqN, ↓reduceIte, and_true, true_and, and_false, false_and, and_self, or_true, true_or, or_false, false_or, or_self, not_true_eq_false, not_false_eq_true, tu_same, tu_eq, tu_ne, b_V, b_I, b_J]
      rfl
    · rw [q5 2 11 (by omega) (by omega)]
      simp (disch := omega) only [g2, tu_same, tu_eq, tu_ne]
      rfl
    · obtain ⟨w, s, z1, z2, z3, z4, z5, z6, z7⟩ := q3
      refine ⟨w, s, z1, z2, ?_, z4, ?_, z6, fun i hi => ?_⟩
      · rw [q5 32 1 (by omega) (by omega)]
        simp (disch := omega) only [z3, tu_same, tu_eq, tu_ne]
      · rw [q5 32 2 (by omega) (by omega)]
        simp (disch := omega) only [z5, tu_same, tu_eq, tu_ne]
      · rw [q5 33 i (by omega) (by omega)]
        simp (disch := omega) only [tu_same, tu_eq, tu_ne]
        exact z7 i hi
    · intro a k h1 h2 h3 h4 h5
      rw [q5 a k (by omega) (by omega)]
      simp (disch := omega) only [g2, tu_same, tu_eq, tu_ne]
  · refine ⟨-1, I, I, ?_, ?_, ⟨n, hn, t1, t2, t3⟩, h2, fun _ _ _ _ _ _ _ => rfl⟩
    · simp (disch := omega) only [e_212, t1, n_add, nl_add, nr_add, n_mul, nl_mul, nr_mul, n_sub, nl_sub, nr_sub, nr_dec, nr_div, n_div, z_lt, z_le, z_eq, z_cl, n_ti, Int.toNat_natCast, Int32.reduceToInt, Int32.reduceToNatClampNeg, zc_add, zc_sub, zc_addl, zc_subl, zc_mull, t_ltZ, f_ltZ, t_leZ, f_leZ, t_eqZ, f_eqZ, t_ltN, f_ltN, t_leN, f_leN, t_eqN, f_eqN, ↓reduceIte, and_true, true_and, and_false, false_and, and_self, or_true, true_or, or_false, false_or, or_self, not_true_eq_false, not_false_eq_true, tu_same, tu_eq, tu_ne, b_V, b_I, b_J]
    · simp (disch := omega) only [e_214, t2, n_add, nl_add, nr_add, n_mul, nl_mul, nr_mul, n_sub, nl_sub, nr_sub, nr_dec, nr_div, n_div, z_lt, z_le, z_eq, z_cl, n_ti, Int.toNat_natCast, Int32.reduceToInt, Int32.reduceToNatClampNeg, zc_add, zc_sub, zc_addl, zc_subl, zc_mull, t_ltZ, f_ltZ, t_leZ, f_leZ, t_eqZ, f_eqZ, t_ltN, f_ltN, t_leN, f_leN, t_eqN, f_eqN, ↓reduceIte, and_true, true_and, and_false, false_and, and_self, or_true, true_or, or_false, false_or, or_self, not_true_eq_false, not_false_eq_true, tu_same, tu_eq, tu_ne, b_V, b_I, b_J]
theorem p_word {I : Nat → Nat → Int32} {J : Nat → Nat → Int64} {τ : tm_Tu} (x : Int32) (h : RRhyme I I) : ∃ r, F_215 [.ref 2, .int x] (mk I J τ) = some (some (.int r), mk I J τ) ∧ F_216 [.ref 131, .int x] (mk I J τ) = some (some (.int r), mk I J τ) := by
  obtain ⟨w, s, z1, z2, z3, z4, z5, z6, z7⟩ := h
  by_cases c0 : x.toInt < 0
  · refine ⟨-1, ?_, ?_⟩
    · simp (disch := omega) only [e_215, e_215_27, e_215_28, n_add, nl_add, nr_add, n_mul, nl_mul, nr_mul, n_sub, nl_sub, nr_sub, nr_dec, nr_div, n_div, z_lt, z_le, z_eq, z_cl, n_ti, Int.toNat_natCast, Int32.reduceToInt, Int32.reduceToNatClampNeg, zc_add, zc_sub, zc_addl, zc_subl, zc_mull, t_ltZ, f_ltZ, t_leZ, f_leZ, t_eqZ, f_eqZ, t_ltN, f_ltN, t_leN, f_leN, t_eqN, f_eqN, ↓reduceIte, and_true, true_and, and_false, false_and, and_self, or_true, true_or, or_false, false_or, or_self, not_true_eq_false, not_false_eq_true, tu_same, tu_eq, tu_ne, b_V, b_I, b_J]
    · simp (disch := omega) only [e_216, e_216_12, e_216_22, n_add, nl_add, nr_add, n_mul, nl_mul, nr_mul, n_sub, nl_sub, nr_sub, nr_dec, nr_div, n_div, z_lt, z_le, z_eq, z_cl, n_ti, Int.toNat_natCast, Int32.reduceToInt, Int32.reduceToNatClampNeg, zc_add, zc_sub, zc_addl, zc_subl, zc_mull, t_ltZ, f_ltZ, t_leZ, f_leZ, t_eqZ, f_eqZ, t_ltN, f_ltN, t_leN, f_leN, t_eqN, f_eqN, ↓reduceIte, and_true, true_and, and_false, false_and, and_self, or_true, true_or, or_false, false_or, or_self, not_true_eq_false, not_false_eq_true, tu_same, tu_eq, tu_ne, b_V, b_I, b_J]
  · obtain ⟨q, hq, rfl⟩ := n_of (Int.not_lt.mp c0)
    by_cases c : q < w
    · refine ⟨I 33 q, ?_, ?_⟩
      · simp (disch := omega) only [e_215, e_215_27, e_215_28, z3, n_add, nl_add, nr_add, n_mul, nl_mul, nr_mul, n_sub, nl_sub, nr_sub, nr_dec, nr_div, n_div, z_lt, z_le, z_eq, z_cl, n_ti, Int.toNat_natCast, Int32.reduceToInt, Int32.reduceToNatClampNeg, zc_add, zc_sub, zc_addl, zc_subl, zc_mull, t_ltZ, f_ltZ, t_leZ, f_leZ, t_eqZ, f_eqZ, t_ltN, f_ltN, t_leN, f_leN, t_eqN, f_eqN, ↓reduceIte, and_true, true_and, and_false, false_and, and_self, or_true, true_or, or_false, false_or, or_self, not_true_eq_false, not_false_eq_true, tu_same, tu_eq, tu_ne, b_V, b_I, b_J]
      · simp (disch := omega) only [e_216, e_216_12, e_216_22, z4, z7 q c, n_add, nl_add, nr_add, n_mul, nl_mul, nr_mul, n_sub, nl_sub, nr_sub, nr_dec, nr_div, n_div, z_lt, z_le, z_eq, z_cl, n_ti, Int.toNat_natCast, Int32.reduceToInt, Int32.reduceToNatClampNeg, zc_add, zc_sub, zc_addl, zc_subl, zc_mull, t_ltZ, f_ltZ, t_leZ, f_leZ, t_eqZ, f_eqZ, t_ltN, f_ltN, t_leN, f_leN, t_eqN, f_eqN, ↓reduceIte, and_true, true_and, and_false, false_and, and_self, or_true, true_or, or_false, false_or, or_self, not_true_eq_false, not_false_eq_true, tu_same, tu_eq, tu_ne, b_V, b_I, b_J]
    · refine ⟨-1, ?_, ?_⟩
      · simp (disch := omega) only [e_215, e_215_27, e_215_28, z3, n_add, nl_add, nr_add, n_mul, nl_mul, nr_mul, n_sub, nl_sub, nr_sub, nr_dec, nr_div, n_div, z_lt, z_le, z_eq, z_cl, n_ti, Int.toNat_natCast, Int32.reduceToInt, Int32.reduceToNatClampNeg, zc_add, zc_sub, zc_addl, zc_subl, zc_mull, t_ltZ, f_ltZ, t_leZ, f_leZ, t_eqZ, f_eqZ, t_ltN, f_ltN, t_leN, f_leN, t_eqN, f_eqN, ↓reduceIte, and_true, true_and, and_false, false_and, and_self, or_true, true_or, or_false, false_or, or_self, not_true_eq_false, not_false_eq_true, tu_same, tu_eq, tu_ne, b_V, b_I, b_J]
      · simp (disch := omega) only [e_216, e_216_12, e_216_22, z4, n_add, nl_add, nr_add, n_mul, nl_mul, nr_mul, n_sub, nl_sub, nr_sub, nr_dec, nr_div, n_div, z_lt, z_le, z_eq, z_cl, n_ti, Int.toNat_natCast, Int32.reduceToInt, Int32.reduceToNatClampNeg, zc_add, zc_sub, zc_addl, zc_subl, zc_mull, t_ltZ, f_ltZ, t_leZ, f_leZ, t_eqZ, f_eqZ, t_ltN, f_ltN, t_leN, f_leN, t_eqN, f_eqN, ↓reduceIte, and_true, true_and, and_false, false_and, and_self, or_true, true_or, or_false, false_or, or_self, not_true_eq_false, not_false_eq_true, tu_same, tu_eq, tu_ne, b_V, b_I, b_J]
