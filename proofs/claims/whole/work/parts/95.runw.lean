/-! run: a BEAT (model): ends of tricks; hands (pure and model) -/
def DnB (B : Nat → Nat → Int32) (l : DL) : Prop := B 131 61 = nI l.1.1 ∧ (∀ k, k < l.1.1 → k < 100 → B 168 k = nI (l.1.2 k).1 ∧ B 169 k = nI (l.1.2 k).2.1 ∧ B 170 k = nI (l.1.2 k).2.2.1 ∧ B 173 k = nI (l.1.2 k).2.2.2.1 ∧ B 171 k = nI (l.1.2 k).2.2.2.2) ∧ B 131 62 = nI l.2.1 ∧ ∀ t, t < 12 → B 158 t = nI (l.2.2 t)
theorem DnB.tr {B B' : Nat → Nat → Int32} {l : DL} (h : DnB B l) (f : ∀ a k, (a = 131 ∧ (k = 61 ∨ k = 62)) ∨ a = 158 ∨ (168 ≤ a ∧ a ≤ 171) ∨ a = 173 → B' a k = B a k) : DnB B' l := ⟨(f _ _ (by omega)).trans h.1, fun k h1 h2 => ⟨(f _ _ (by omega)).trans (h.2.1 k h1 h2).1, (f _ _ (by omega)).trans (h.2.1 k h1 h2).2.1, (f _ _ (by omega)).trans (h.2.1 k h1 h2).2.2.1, (f _ _ (by omega)).trans (h.2.1 k h1 h2).2.2.2.1, (f _ _ (by omega)).trans (h.2.1 k h1 h2).2.2.2.2⟩, (f _ _ (by omega)).trans h.2.2.1, fun t ht => (f _ _ (by omega)).trans (h.2.2.2 t ht)⟩
set_option maxHeartbeats 1000000 in
theorem m_159 {B : Nat → Nat → Int32} {J : Nat → Nat → Int64} {τ : tm_Tu} {n bk p t mi d g : Nat} {D : Nat → TD} {l : DL} (hn : n ≤ 12) (hD : DOk n D) (hbk : bk < 2) (hB : BkB B bk n D) (hp : p < 6) (ht : t < n) (hm : mi ≤ 1) (hd : d ≤ 3) (h154 : B 154 p = nI t) (h172 : B 172 p = nI mi) (h153 : B 153 p = nI d) (h155 : B 155 p = nI g) (hl : DnB B l) (hb : lBd l 40000) : ∃ B', F_159 [.ref 131, .int (nI p)] (mk B J τ) = some (none, mk B' J τ) ∧ B' 153 p = nI ((d + tuM mi (D t)) % 4) ∧ B' 154 p = -1 ∧ DnB B' (adD l g t p mi (dW (D t))) ∧ (∀ a k, ¬ ((a = 153 ∨ a = 154) ∧ k = p) → ¬ (a = 131 ∧ (k = 61 ∨ k = 62)) → a ≠ 158 → ¬ (168 ≤ a ∧ a ≤ 171) → a ≠ 173 → B' a k = B a k) := by
  obtain ⟨l1, l2, l3, l4⟩ := hl
  have b1 := hb.1
  have bt := hb.2 t
  have h21 := hB.1
  have s95 := s_95 (J := J) (τ := τ) mi hm (hD t ht) hbk h21 (show t < 12 by omega) (hB.2.2 t ht)
  have h136 := (hB.2.2 t ht).2.1
  have tl := tuM_le (mi := mi) (hD t ht)
  have dw := (hD t ht).2.2.1
  have em : d + tuM mi (D t) - (d + tuM mi (D t)) / 4 * 4 = (d + tuM mi (D t)) % 4 := by omega
  have l4t := l4 t (by omega)
  obtain ⟨G, eG⟩ : ∃ z, z = gnP (l.2.2 t) (dW (D t)) := ⟨_, rfl⟩
  obtain ⟨B1, e1⟩ : ∃ z, z = tm_u B 153 p (nI ((d + tuM mi (D t)) % 4)) := ⟨_, rfl⟩
  have pre : F_159 [.ref 131, .int (nI p)] (mk B J τ) = R_159 78 [(0, .ref 131), (1, .int (nI p)), (2, .int (nI t))] [.int (nI G)] (mk B1 J τ) := by
    rw [e_159, eG, e1]
    unfold gnP
    by_cases c0 : l.2.2 t = 0
    · rw [if_pos c0]
      rw [c0] at l4t
      simp (disch := first | omega | (simp (disch := omega) only [n_ti, Int32.reduceToInt] <;> omega)) only [h154, h172, h153, s95, e_159_29, em, h21, l4t, h136, n_add, nl_add, nr_add, n_mul, nl_mul, nr_mul, n_sub, nr_dec, n_div, nr_sub_1, nr_sub_2, nr_sub_3, nr_sub_4, nr_sub_7, nr_sub_10, nr_sub_11, nr_sub_20, nr_sub_48, nr_sub_97, nl_sub_3, nl_sub_4, nl_sub_12, nl_sub_24, nl_sub_32, nr_div_2, nr_div_4, z_lt, z_le, z_eq, z_cl, n_ti, Int.toNat_natCast, Int32.reduceToInt, Int32.reduceToNatClampNeg, zc_add, zc_sub, zc_add_1, zc_add_2, zc_add_3, zc_add_4, zc_add_8, zc_add_10, zc_add_12, zc_add_16, zc_add_20, zc_sub_1, zc_sub_2, zc_sub_4, zc_sub_10, zc_sub_20, zc_sub_48, zc_sub_97, zc_mul_4, t_ltZ, f_ltZ, t_leZ, f_leZ, t_eqZ, f_eqZ, t_ltN, f_ltN, t_leN, f_leN, t_eqN, f_eqN, ↓reduceIte, and_true, true_and, and_false, false_and, and_self, or_true, true_or, or_false, false_or, or_self, not_true_eq_false, not_false_eq_true, tu_same, tu_eq, tu_ne, b_V, b_I, b_J]
    · rw [if_neg c0]
      by_cases c1 : l.2.2 t = 1
      · rw [if_pos c1]
        rw [c1] at l4t
        simp (disch := first | omega | (simp (disch := omega) only [n_ti, Int32.reduceToInt] <;> omega)) only [h154, h172, h153, s95, e_159_29, em, h21, l4t, h136, n_add, nl_add, nr_add, n_mul, nl_mul, nr_mul, n_sub, nr_dec, n_div, nr_sub_1, nr_sub_2, nr_sub_3, nr_sub_4, nr_sub_7, nr_sub_10, nr_sub_11, nr_sub_20, nr_sub_48, nr_sub_97, nl_sub_3, nl_sub_4, nl_sub_12, nl_sub_24, nl_sub_32, nr_div_2, nr_div_4, z_lt, z_le, z_eq, z_cl, n_ti, Int.toNat_natCast, Int32.reduceToInt, Int32.reduceToNatClampNeg, zc_add, zc_sub, zc_add_1, zc_add_2, zc_add_3, zc_add_4, zc_add_8, zc_add_10, zc_add_12, zc_add_16, zc_add_20, zc_sub_1, zc_sub_2, zc_sub_4, zc_sub_10, zc_sub_20, zc_sub_48, zc_sub_97, zc_mul_4, t_ltZ, f_ltZ, t_leZ, f_leZ, t_eqZ, f_eqZ, t_ltN, f_ltN, t_leN, f_leN, t_eqN, f_eqN, ↓reduceIte, and_true, true_and, and_false, false_and, and_self, or_true, true_or, or_false, false_or, or_self, not_true_eq_false, not_false_eq_true, tu_same, tu_eq, tu_ne, b_V, b_I, b_J]
      · rw [if_neg c1]
        simp (disch := first | omega | (simp (disch := omega) only [n_ti, Int32.reduceToInt] <;> omega)) only [h154, h172, h153, s95, e_159_29, em, h21, l4t, h136, n_add, nl_add, nr_add, n_mul, nl_mul, nr_mul, n_sub, nr_dec, n_div, nr_sub_1, nr_sub_2, nr_sub_3, nr_sub_4, nr_sub_7, nr_sub_10, nr_sub_11, nr_sub_20, nr_sub_48, nr_sub_97, nl_sub_3, nl_sub_4, nl_sub_12, nl_sub_24, nl_sub_32, nr_div_2, nr_div_4, z_lt, z_le, z_eq, z_cl, n_ti, Int.toNat_natCast, Int32.reduceToInt, Int32.reduceToNatClampNeg, zc_add, zc_sub, zc_add_1, zc_add_2, zc_add_3, zc_add_4, zc_add_8, zc_add_10, zc_add_12, zc_add_16, zc_add_20, zc_sub_1, zc_sub_2, zc_sub_4, zc_sub_10, zc_sub_20, zc_sub_48, zc_sub_97, zc_mul_4, t_ltZ, f_ltZ, t_leZ, f_leZ, t_eqZ, f_eqZ, t_ltN, f_ltN, t_leN, f_leN, t_eqN, f_eqN, ↓reduceIte, and_true, true_and, and_false, false_and, and_self, or_true, true_or, or_false, false_or, or_self, not_true_eq_false, not_false_eq_true, tu_same, tu_eq, tu_ne, b_V, b_I, b_J]
        rfl
  have a61 : B1 131 61 = nI l.1.1 := by rw [e1]; simp (disch := omega) only [l1, tu_same, tu_eq, tu_ne]
  have a62 : B1 131 62 = nI l.2.1 := by rw [e1]; simp (disch := omega) only [l3, tu_same, tu_eq, tu_ne]
  have a158 : B1 158 t = nI (l.2.2 t) := by rw [e1]; simp (disch := omega) only [l4t, tu_same, tu_eq, tu_ne]
  have a155 : B1 155 p = nI g := by rw [e1]; simp (disch := omega) only [h155, tu_same, tu_eq, tu_ne]
  have a172 : B1 172 p = nI mi := by rw [e1]; simp (disch := omega) only [h172, tu_same, tu_eq, tu_ne]
  have ea := nI_and1 mi hm
  have hAd : adD l g t p mi (dW (D t)) = ((l.1.1 + 1, updN l.1.2 l.1.1 (g, t, p, mi, G)), l.2.1 + G, updN l.2.2 t (l.2.2 t + 1)) := by rw [eG]; rfl
  rw [hAd]
  have times : ∀ B2 : Nat → Nat → Int32, (∀ k, B2 158 k = tm_u B1 158 t (nI (l.2.2 t + 1)) 158 k) → ∀ u, u < 12 → B2 158 u = nI (updN l.2.2 t (l.2.2 t + 1) u) := fun B2 f u hu => by
    rw [f u]
    by_cases e : u = t
    · subst e; rw [updN_s]; simp (disch := omega) only [tu_same, tu_eq, tu_ne]
    · rw [updN_n _ _ e]; simp (disch := omega) only [tu_same, tu_eq, tu_ne]; rw [e1]; simp (disch := omega) only [tu_same, tu_eq, tu_ne]; exact l4 u hu
  by_cases c : l.1.1 < 100
  · refine ⟨tm_u (tm_u (tm_u (tm_u (tm_u (tm_u (tm_u (tm_u (tm_u B1 158 t (nI (l.2.2 t + 1))) 131 62 (nI (l.2.1 + G))) 168 l.1.1 (nI g)) 169 l.1.1 (nI t)) 170 l.1.1 (nI p)) 173 l.1.1 (nI mi)) 171 l.1.1 (nI G)) 131 61 (nI (l.1.1 + 1))) 154 p (-1), ?_, by simp (disch := omega) only [tu_same, tu_eq, tu_ne]; rw [e1]; simp (disch := omega) only [tu_same, tu_eq, tu_ne], by simp (disch := omega) only [tu_same, tu_eq, tu_ne], ⟨by simp (disch := omega) only [tu_same, tu_eq, tu_ne], fun k u1 u2 => ?_, by simp (disch := omega) only [tu_same, tu_eq, tu_ne], times _ (fun k => by simp (disch := omega) only [tu_same, tu_eq, tu_ne])⟩, fun a k u1 u2 u3 u4 u5 => by simp (disch := omega) only [tu_same, tu_eq, tu_ne]; rw [e1]; simp (disch := omega) only [tu_same, tu_eq, tu_ne]⟩
    · rw [pre, e_159_78]
      simp (disch := first | omega | (simp (disch := omega) only [n_ti, Int32.reduceToInt] <;> omega)) only [a61, a62, a158, a155, a172, ea, e_159_171, n_add, nl_add, nr_add, n_mul, nl_mul, nr_mul, n_sub, nr_dec, n_div, nr_sub_1, nr_sub_2, nr_sub_3, nr_sub_4, nr_sub_7, nr_sub_10, nr_sub_11, nr_sub_20, nr_sub_48, nr_sub_97, nl_sub_3, nl_sub_4, nl_sub_12, nl_sub_24, nl_sub_32, nr_div_2, nr_div_4, z_lt, z_le, z_eq, z_cl, n_ti, Int.toNat_natCast, Int32.reduceToInt, Int32.reduceToNatClampNeg, zc_add, zc_sub, zc_add_1, zc_add_2, zc_add_3, zc_add_4, zc_add_8, zc_add_10, zc_add_12, zc_add_16, zc_add_20, zc_sub_1, zc_sub_2, zc_sub_4, zc_sub_10, zc_sub_20, zc_sub_48, zc_sub_97, zc_mul_4, t_ltZ, f_ltZ, t_leZ, f_leZ, t_eqZ, f_eqZ, t_ltN, f_ltN, t_leN, f_leN, t_eqN, f_eqN, ↓reduceIte, and_true, true_and, and_false, false_and, and_self, or_true, true_or, or_false, false_or, or_self, not_true_eq_false, not_false_eq_true, tu_same, tu_eq, tu_ne, b_V, b_I, b_J]
    · show _ = nI (updN l.1.2 l.1.1 (g, t, p, mi, G) k).1 ∧ _ = nI (updN l.1.2 l.1.1 (g, t, p, mi, G) k).2.1 ∧ _ = nI (updN l.1.2 l.1.1 (g, t, p, mi, G) k).2.2.1 ∧ _ = nI (updN l.1.2 l.1.1 (g, t, p, mi, G) k).2.2.2.1 ∧ _ = nI (updN l.1.2 l.1.1 (g, t, p, mi, G) k).2.2.2.2
      by_cases e : k = l.1.1
      · subst e
        rw [updN_s]
        exact ⟨by simp (disch := omega) only [tu_same, tu_eq, tu_ne], by simp (disch := omega) only [tu_same, tu_eq, tu_ne], by simp (disch := omega) only [tu_same, tu_eq, tu_ne], by simp (disch := omega) only [tu_same, tu_eq, tu_ne], by simp (disch := omega) only [tu_same, tu_eq, tu_ne]⟩
      · rw [updN_n _ _ e]
        have u1' : k < l.1.1 := by
          have : k < l.1.1 + 1 := u1
          omega
        obtain ⟨w1, w2, w3, w4, w5⟩ := l2 k u1' u2
        refine ⟨?_, ?_, ?_, ?_, ?_⟩
        · simp (disch := omega) only [tu_same, tu_eq, tu_ne]; rw [e1]; simp (disch := omega) only [w1, tu_same, tu_eq, tu_ne]
        · simp (disch := omega) only [tu_same, tu_eq, tu_ne]; rw [e1]; simp (disch := omega) only [w2, tu_same, tu_eq, tu_ne]
        · simp (disch := omega) only [tu_same, tu_eq, tu_ne]; rw [e1]; simp (disch := omega) only [w3, tu_same, tu_eq, tu_ne]
        · simp (disch := omega) only [tu_same, tu_eq, tu_ne]; rw [e1]; simp (disch := omega) only [w4, tu_same, tu_eq, tu_ne]
        · simp (disch := omega) only [tu_same, tu_eq, tu_ne]; rw [e1]; simp (disch := omega) only [w5, tu_same, tu_eq, tu_ne]
  · refine ⟨tm_u (tm_u (tm_u (tm_u B1 158 t (nI (l.2.2 t + 1))) 131 62 (nI (l.2.1 + G))) 131 61 (nI (l.1.1 + 1))) 154 p (-1), ?_, by simp (disch := omega) only [tu_same, tu_eq, tu_ne]; rw [e1]; simp (disch := omega) only [tu_same, tu_eq, tu_ne], by simp (disch := omega) only [tu_same, tu_eq, tu_ne], ⟨by simp (disch := omega) only [tu_same, tu_eq, tu_ne], fun k u1 u2 => ?_, by simp (disch := omega) only [tu_same, tu_eq, tu_ne], times _ (fun k => by simp (disch := omega) only [tu_same, tu_eq, tu_ne])⟩, fun a k u1 u2 u3 u4 u5 => by simp (disch := omega) only [tu_same, tu_eq, tu_ne]; rw [e1]; simp (disch := omega) only [tu_same, tu_eq, tu_ne]⟩
    · rw [pre, e_159_78]
      simp (disch := first | omega | (simp (disch := omega) only [n_ti, Int32.reduceToInt] <;> omega)) only [a61, a62, a158, e_159_171, n_add, nl_add, nr_add, n_mul, nl_mul, nr_mul, n_sub, nr_dec, n_div, nr_sub_1, nr_sub_2, nr_sub_3, nr_sub_4, nr_sub_7, nr_sub_10, nr_sub_11, nr_sub_20, nr_sub_48, nr_sub_97, nl_sub_3, nl_sub_4, nl_sub_12, nl_sub_24, nl_sub_32, nr_div_2, nr_div_4, z_lt, z_le, z_eq, z_cl, n_ti, Int.toNat_natCast, Int32.reduceToInt, Int32.reduceToNatClampNeg, zc_add, zc_sub, zc_add_1, zc_add_2, zc_add_3, zc_add_4, zc_add_8, zc_add_10, zc_add_12, zc_add_16, zc_add_20, zc_sub_1, zc_sub_2, zc_sub_4, zc_sub_10, zc_sub_20, zc_sub_48, zc_sub_97, zc_mul_4, t_ltZ, f_ltZ, t_leZ, f_leZ, t_eqZ, f_eqZ, t_ltN, f_ltN, t_leN, f_leN, t_eqN, f_eqN, ↓reduceIte, and_true, true_and, and_false, false_and, and_self, or_true, true_or, or_false, false_or, or_self, not_true_eq_false, not_false_eq_true, tu_same, tu_eq, tu_ne, b_V, b_I, b_J]
    · show _ = nI (updN l.1.2 l.1.1 (g, t, p, mi, G) k).1 ∧ _ = nI (updN l.1.2 l.1.1 (g, t, p, mi, G) k).2.1 ∧ _ = nI (updN l.1.2 l.1.1 (g, t, p, mi, G) k).2.2.1 ∧ _ = nI (updN l.1.2 l.1.1 (g, t, p, mi, G) k).2.2.2.1 ∧ _ = nI (updN l.1.2 l.1.1 (g, t, p, mi, G) k).2.2.2.2
      rw [updN_n _ _ (show k ≠ l.1.1 by omega)]
      obtain ⟨w1, w2, w3, w4, w5⟩ := l2 k (by omega) u2
      refine ⟨?_, ?_, ?_, ?_, ?_⟩
      · simp (disch := omega) only [tu_same, tu_eq, tu_ne]; rw [e1]; simp (disch := omega) only [w1, tu_same, tu_eq, tu_ne]
      · simp (disch := omega) only [tu_same, tu_eq, tu_ne]; rw [e1]; simp (disch := omega) only [w2, tu_same, tu_eq, tu_ne]
      · simp (disch := omega) only [tu_same, tu_eq, tu_ne]; rw [e1]; simp (disch := omega) only [w3, tu_same, tu_eq, tu_ne]
      · simp (disch := omega) only [tu_same, tu_eq, tu_ne]; rw [e1]; simp (disch := omega) only [w4, tu_same, tu_eq, tu_ne]
      · simp (disch := omega) only [tu_same, tu_eq, tu_ne]; rw [e1]; simp (disch := omega) only [w5, tu_same, tu_eq, tu_ne]
/-- what goOn may change (model) -/
def fGo (B B' : Nat → Nat → Int32) : Prop := ∀ a k, ¬ (152 ≤ a ∧ a ≤ 154) → a ≠ 174 → ¬ (a = 131 ∧ (k = 61 ∨ k = 62)) → a ≠ 158 → ¬ (168 ≤ a ∧ a ≤ 171) → a ≠ 173 → B' a k = B a k
set_option maxHeartbeats 2000000 in
theorem m_160 {J : Nat → Nat → Int64} {τ : tm_Tu} {n b bk : Nat} {D : Nat → TD} {S : PS} (hS : SOk n D b S) (hn : n ≤ 12) (hD : DOk n D) (hbk : bk < 2) (hb : b < 200) : ∀ m j (B : Nat → Nat → Int32) (X : PS × DL), j + m = 6 → (∀ p, p < j → JmB B (b + 1) p (X.1 p)) → (∀ p, j ≤ p → p < 6 → JmB B b p (S p) ∧ X.1 p = stS D b (S p)) → BkB B bk n D → DnB B X.2 → lBd X.2 (30000 + j) → ∃ B', R_160 2 [(0, .ref 131), (1, .int (nI j))] [] (mk B J τ) = some (none, mk B' J τ) ∧ PsB B' (b + 1) (enF D b m j X).1 ∧ DnB B' (enF D b m j X).2 ∧ fGo B B' := by
  intro m
  induction m with
  | zero =>
    intro j B X hj h1 h2 hB hL hl
    refine ⟨B, ?_, fun p hp => h1 p (by omega), hL, fun _ _ _ _ _ _ _ _ => rfl⟩
    rw [e_160_2]
    simp (disch := first | omega | (simp (disch := omega) only [n_ti, Int32.reduceToInt] <;> omega)) only [n_add, nl_add, nr_add, n_mul, nl_mul, nr_mul, n_sub, nr_dec, n_div, nr_sub_1, nr_sub_2, nr_sub_3, nr_sub_4, nr_sub_7, nr_sub_10, nr_sub_11, nr_sub_20, nr_sub_48, nr_sub_97, nl_sub_3, nl_sub_4, nl_sub_12, nl_sub_24, nl_sub_32, nr_div_2, nr_div_4, z_lt, z_le, z_eq, z_cl, n_ti, Int.toNat_natCast, Int32.reduceToInt, Int32.reduceToNatClampNeg, zc_add, zc_sub, zc_add_1, zc_add_2, zc_add_3, zc_add_4, zc_add_8, zc_add_10, zc_add_12, zc_add_16, zc_add_20, zc_sub_1, zc_sub_2, zc_sub_4, zc_sub_10, zc_sub_20, zc_sub_48, zc_sub_97, zc_mul_4, t_ltZ, f_ltZ, t_leZ, f_leZ, t_eqZ, f_eqZ, t_ltN, f_ltN, t_leN, f_leN, t_eqN, f_eqN, ↓reduceIte, and_true, true_and, and_false, false_and, and_self, or_true, true_or, or_false, false_or, or_self, not_true_eq_false, not_false_eq_true, tu_same, tu_eq, tu_ne, b_V, b_I, b_J]
  | succ m ih =>
    intro j B X hj h1 h2 hB hL hl
    have hp : j < 6 := by omega
    obtain ⟨⟨y0, y1, y3, y4⟩, eX⟩ := h2 j (Nat.le_refl _) hp
    obtain ⟨w1, w2, w3, w4, w5, w6, w7, w8⟩ := hS j hp
    -- a person whose trick does not end here
    have no : ∀ B1 : Nat → Nat → Int32, fnP D b (X.1 j) = false → R_160 2 [(0, .ref 131), (1, .int (nI j))] [] (mk B J τ) = R_160 148 [(0, .ref 131), (1, .int (nI j))] [] (mk B1 J τ) → JmB B1 (b + 1) j (X.1 j) → (∀ a k, ¬ ((152 ≤ a ∧ a ≤ 154 ∨ a = 174) ∧ k = j) → B1 a k = B a k) → ∃ B', R_160 2 [(0, .ref 131), (1, .int (nI j))] [] (mk B J τ) = some (none, mk B' J τ) ∧ PsB B' (b + 1) (enF D b (m + 1) j X).1 ∧ DnB B' (enF D b (m + 1) j X).2 ∧ fGo B B' := by
      intro B1 hf st hJ f1
      have e : enF D b (m + 1) j X = enF D b m (j + 1) X := by
        show enF D b m (j + 1) (if fnP D b (X.1 j) = true then _ else X) = _
        rw [if_neg (by rw [hf]; exact Bool.false_ne_true)]
      rw [e]
      obtain ⟨B', g1, g2, g3, g4⟩ := ih (j + 1) B1 X (by omega) (fun p hp' => by
        by_cases ep : p = j
        · subst ep; exact hJ
        · exact (h1 p (by omega)).tr (fun a u => f1 a p (by omega))) (fun p hp' hp6 => ⟨(h2 p (by omega) hp6).1.tr (fun a u => f1 a p (by omega)), (h2 p (by omega) hp6).2⟩) (hB.tr (fun a k u => f1 a k (by omega))) (hL.tr (fun a k u => f1 a k (by omega))) (hl.le (by omega))
      refine ⟨B', ?_, g2, g3, fun a k u1 u2 u3 u4 u5 u6 => (g4 a k u1 u2 u3 u4 u5 u6).trans (f1 a k (by omega))⟩
      rw [st, ← g1, e_160_148]
      simp (disch := first | omega | (simp (disch := omega) only [n_ti, Int32.reduceToInt] <;> omega)) only [n_add, nl_add, nr_add, n_mul, nl_mul, nr_mul, n_sub, nr_dec, n_div, nr_sub_1, nr_sub_2, nr_sub_3, nr_sub_4, nr_sub_7, nr_sub_10, nr_sub_11, nr_sub_20, nr_sub_48, nr_sub_97, nl_sub_3, nl_sub_4, nl_sub_12, nl_sub_24, nl_sub_32, nr_div_2, nr_div_4, z_lt, z_le, z_eq, z_cl, n_ti, Int.toNat_natCast, Int32.reduceToInt, Int32.reduceToNatClampNeg, zc_add, zc_sub, zc_add_1, zc_add_2, zc_add_3, zc_add_4, zc_add_8, zc_add_10, zc_add_12, zc_add_16, zc_add_20, zc_sub_1, zc_sub_2, zc_sub_4, zc_sub_10, zc_sub_20, zc_sub_48, zc_sub_97, zc_mul_4, t_ltZ, f_ltZ, t_leZ, f_leZ, t_eqZ, f_eqZ, t_ltN, f_ltN, t_leN, f_leN, t_eqN, f_eqN, ↓reduceIte, and_true, true_and, and_false, false_and, and_self, or_true, true_or, or_false, false_or, or_self, not_true_eq_false, not_false_eq_true, tu_same, tu_eq, tu_ne, b_V, b_I, b_J]
    by_cases c : pW (S j) = 1
    case neg =>
      have t0 : pT (S j) = 0 := by
        by_cases d : pT (S j) = 0
        · exact d
        · exact absurd (w6 d).1 c
      have eX' : X.1 j = S j := by rw [eX]; unfold stS; rw [if_neg c]
      refine no B ?_ ?_ ?_ (fun _ _ _ => rfl)
      · rw [eX']; exact and_f1 (decide_eq_false (fun u => u t0))
      · rw [e_160_2]
        simp (disch := first | omega | (simp (disch := omega) only [n_ti, Int32.reduceToInt] <;> omega)) only [y0, n_add, nl_add, nr_add, n_mul, nl_mul, nr_mul, n_sub, nr_dec, n_div, nr_sub_1, nr_sub_2, nr_sub_3, nr_sub_4, nr_sub_7, nr_sub_10, nr_sub_11, nr_sub_20, nr_sub_48, nr_sub_97, nl_sub_3, nl_sub_4, nl_sub_12, nl_sub_24, nl_sub_32, nr_div_2, nr_div_4, z_lt, z_le, z_eq, z_cl, n_ti, Int.toNat_natCast, Int32.reduceToInt, Int32.reduceToNatClampNeg, zc_add, zc_sub, zc_add_1, zc_add_2, zc_add_3, zc_add_4, zc_add_8, zc_add_10, zc_add_12, zc_add_16, zc_add_20, zc_sub_1, zc_sub_2, zc_sub_4, zc_sub_10, zc_sub_20, zc_sub_48, zc_sub_97, zc_mul_4, t_ltZ, f_ltZ, t_leZ, f_leZ, t_eqZ, f_eqZ, t_ltN, f_ltN, t_leN, f_leN, t_eqN, f_eqN, ↓reduceIte, and_true, true_and, and_false, false_and, and_self, or_true, true_or, or_false, false_or, or_self, not_true_eq_false, not_false_eq_true, tu_same, tu_eq, tu_ne, b_V, b_I, b_J]
      · rw [eX']; exact ⟨y0, y1, y3, fun u => absurd t0 u⟩
    obtain ⟨y15, y16⟩ := y1 c
    have y0' := y0
    rw [c] at y0'
    by_cases t0 : pT (S j) = 0
    · have eX' : X.1 j = (pW (S j), mir (fs1 (S j)), pD (S j), pT (S j), pM (S j), pG (S j), 4 * fs1 (S j) + 64 * mir (fs1 (S j))) := by rw [eX]; unfold stS; rw [if_pos c, if_pos t0]
      have y3' := y3
      rw [tI_z t0] at y3'
      have hJ : ∀ v, v = mir (fs1 (S j)) → JmB (tm_u B 152 j (nI v)) (b + 1) j (X.1 j) := fun v ev => by
        rw [eX']
        refine ⟨?_, fun u => ⟨?_, ?_⟩, ?_, fun u => absurd t0 u⟩
        · simp (disch := omega) only [tu_same, tu_eq, tu_ne]; exact y0
        · simp (disch := omega) only [tu_same, tu_eq, tu_ne]; show nI v = nI (mir (fs1 (S j))); rw [ev]
        · simp (disch := omega) only [tu_same, tu_eq, tu_ne]; exact y16
        · simp (disch := omega) only [tu_same, tu_eq, tu_ne]; exact y3
      have hf : fnP D b (X.1 j) = false := by rw [eX']; exact and_f1 (decide_eq_false (fun u => u t0))
      by_cases f : pF (S j) = 1
      · have ev : (1 : Nat) = mir (fs1 (S j)) := by unfold fs1; rw [if_pos f]; rfl
        refine no (tm_u B 152 j (nI 1)) hf ?_ (hJ 1 ev) (fun a k u => by simp (disch := omega) only [tu_same, tu_eq, tu_ne])
        rw [f] at y15
        rw [e_160_2]
        simp (disch := first | omega | (simp (disch := omega) only [n_ti, Int32.reduceToInt] <;> omega)) only [y0', y3', y15, e_160_50, n_add, nl_add, nr_add, n_mul, nl_mul, nr_mul, n_sub, nr_dec, n_div, nr_sub_1, nr_sub_2, nr_sub_3, nr_sub_4, nr_sub_7, nr_sub_10, nr_sub_11, nr_sub_20, nr_sub_48, nr_sub_97, nl_sub_3, nl_sub_4, nl_sub_12, nl_sub_24, nl_sub_32, nr_div_2, nr_div_4, z_lt, z_le, z_eq, z_cl, n_ti, Int.toNat_natCast, Int32.reduceToInt, Int32.reduceToNatClampNeg, zc_add, zc_sub, zc_add_1, zc_add_2, zc_add_3, zc_add_4, zc_add_8, zc_add_10, zc_add_12, zc_add_16, zc_add_20, zc_sub_1, zc_sub_2, zc_sub_4, zc_sub_10, zc_sub_20, zc_sub_48, zc_sub_97, zc_mul_4, t_ltZ, f_ltZ, t_leZ, f_leZ, t_eqZ, f_eqZ, t_ltN, f_ltN, t_leN, f_leN, t_eqN, f_eqN, ↓reduceIte, and_true, true_and, and_false, false_and, and_self, or_true, true_or, or_false, false_or, or_self, not_true_eq_false, not_false_eq_true, tu_same, tu_eq, tu_ne, b_V, b_I, b_J]
        rfl
      · have ev : (2 : Nat) = mir (fs1 (S j)) := by unfold fs1; rw [if_neg f]; rfl
        refine no (tm_u B 152 j (nI 2)) hf ?_ (hJ 2 ev) (fun a k u => by simp (disch := omega) only [tu_same, tu_eq, tu_ne])
        rw [e_160_2]
        simp (disch := first | omega | (simp (disch := omega) only [n_ti, Int32.reduceToInt] <;> omega)) only [y0', y3', y15, e_160_50, n_add, nl_add, nr_add, n_mul, nl_mul, nr_mul, n_sub, nr_dec, n_div, nr_sub_1, nr_sub_2, nr_sub_3, nr_sub_4, nr_sub_7, nr_sub_10, nr_sub_11, nr_sub_20, nr_sub_48, nr_sub_97, nl_sub_3, nl_sub_4, nl_sub_12, nl_sub_24, nl_sub_32, nr_div_2, nr_div_4, z_lt, z_le, z_eq, z_cl, n_ti, Int.toNat_natCast, Int32.reduceToInt, Int32.reduceToNatClampNeg, zc_add, zc_sub, zc_add_1, zc_add_2, zc_add_3, zc_add_4, zc_add_8, zc_add_10, zc_add_12, zc_add_16, zc_add_20, zc_sub_1, zc_sub_2, zc_sub_4, zc_sub_10, zc_sub_20, zc_sub_48, zc_sub_97, zc_mul_4, t_ltZ, f_ltZ, t_leZ, f_leZ, t_eqZ, f_eqZ, t_ltN, f_ltN, t_leN, f_leN, t_eqN, f_eqN, ↓reduceIte, and_true, true_and, and_false, false_and, and_self, or_true, true_or, or_false, false_or, or_self, not_true_eq_false, not_false_eq_true, tu_same, tu_eq, tu_ne, b_V, b_I, b_J]
        rfl
    · have eX' : X.1 j = (pW (S j), ff D b (S j) 4, pD (S j), pT (S j), pM (S j), pG (S j), xx D b (S j) 4) := by rw [eX]; unfold stS; rw [if_pos c, if_neg t0]
      obtain ⟨z1, z2, z3⟩ := y4 t0
      obtain ⟨u1, u2, u3⟩ := w6 t0
      have hx : pT (S j) - 1 < n := by omega
      have y3' := y3
      rw [tI_s t0] at y3'
      have fl4 := ff_le (hS j hp) hD t0
      have tick : ∀ q i (B1 : Nat → Nat → Int32), i + q = 4 → B1 152 j = nI (ff D b (S j) i) → (∀ a k, ¬ (a = 152 ∧ k = j) → B1 a k = B a k) → ∃ B2, R_160 56 [(0, .ref 131), (1, .int (nI j)), (2, .int (nI i))] [] (mk B1 J τ) = R_160 56 [(0, .ref 131), (1, .int (nI j)), (2, .int (nI 4))] [] (mk B2 J τ) ∧ B2 152 j = nI (ff D b (S j) 4) ∧ (∀ a k, ¬ (a = 152 ∧ k = j) → B2 a k = B a k) := by
        intro q
        induction q with
        | zero =>
          intro i B1 hi a1 a2
          have : i = 4 := by omega
          subst this
          exact ⟨B1, rfl, a1, a2⟩
        | succ q ihq =>
          intro i B1 hi a1 a2
          obtain ⟨d1, d2⟩ := dv_le (i := i) (hS j hp) hD t0 (by omega)
          have hB1 : BkB B1 bk n D := hB.tr (fun a k u => a2 a k (by omega))
          have s98 := s_98 (J := J) (τ := τ) (pM (S j)) (4 * (b - pG (S j)) + i) w5 (hD _ hx) hbk hB1.1 (show pT (S j) - 1 < 12 by omega) (hB1.2.2 _ hx) d2
          have s98' : F_98 [.ref 131, .int (nI (pT (S j) - 1)), .int (nI (pM (S j))), .int (nI (4 * (b - pG (S j)) + i))] (mk B1 J τ) = some (some (.int (nI (dv D b (S j) i))), mk B1 J τ) := s98
          have i154 := (a2 154 j (by omega)).trans y3'
          have i172 := (a2 172 j (by omega)).trans z1
          have i174 := (a2 174 j (by omega)).trans z3
          obtain ⟨B2, g1, g2, g3⟩ := ihq (i + 1) (tm_u B1 152 j (nI (ff D b (S j) (i + 1)))) (by omega) (by simp (disch := omega) only [tu_same, tu_eq, tu_ne]) (fun a k u => by simp (disch := omega) only [tu_same, tu_eq, tu_ne]; exact a2 a k u)
          refine ⟨B2, ?_, g2, g3⟩
          rw [← g1, e_160_56]
          by_cases cz : dv D b (S j) i = 0
          · have ef : ff D b (S j) (i + 1) = ff D b (S j) i := if_pos cz
            rw [cz] at s98'
            rw [ef]
            simp (disch := first | omega | (simp (disch := omega) only [n_ti, Int32.reduceToInt] <;> omega)) only [i154, i172, i174, s98', e_160_87, a1, e_160_107, n_add, nl_add, nr_add, n_mul, nl_mul, nr_mul, n_sub, nr_dec, n_div, nr_sub_1, nr_sub_2, nr_sub_3, nr_sub_4, nr_sub_7, nr_sub_10, nr_sub_11, nr_sub_20, nr_sub_48, nr_sub_97, nl_sub_3, nl_sub_4, nl_sub_12, nl_sub_24, nl_sub_32, nr_div_2, nr_div_4, z_lt, z_le, z_eq, z_cl, n_ti, Int.toNat_natCast, Int32.reduceToInt, Int32.reduceToNatClampNeg, zc_add, zc_sub, zc_add_1, zc_add_2, zc_add_3, zc_add_4, zc_add_8, zc_add_10, zc_add_12, zc_add_16, zc_add_20, zc_sub_1, zc_sub_2, zc_sub_4, zc_sub_10, zc_sub_20, zc_sub_48, zc_sub_97, zc_mul_4, t_ltZ, f_ltZ, t_leZ, f_leZ, t_eqZ, f_eqZ, t_ltN, f_ltN, t_leN, f_leN, t_eqN, f_eqN, ↓reduceIte, and_true, true_and, and_false, false_and, and_self, or_true, true_or, or_false, false_or, or_self, not_true_eq_false, not_false_eq_true, tu_same, tu_eq, tu_ne, b_V, b_I, b_J]
          · have ef : ff D b (S j) (i + 1) = dv D b (S j) i := if_neg cz
            rw [ef]
            simp (disch := first | omega | (simp (disch := omega) only [n_ti, Int32.reduceToInt] <;> omega)) only [i154, i172, i174, s98', e_160_87, e_160_107, n_add, nl_add, nr_add, n_mul, nl_mul, nr_mul, n_sub, nr_dec, n_div, nr_sub_1, nr_sub_2, nr_sub_3, nr_sub_4, nr_sub_7, nr_sub_10, nr_sub_11, nr_sub_20, nr_sub_48, nr_sub_97, nl_sub_3, nl_sub_4, nl_sub_12, nl_sub_24, nl_sub_32, nr_div_2, nr_div_4, z_lt, z_le, z_eq, z_cl, n_ti, Int.toNat_natCast, Int32.reduceToInt, Int32.reduceToNatClampNeg, zc_add, zc_sub, zc_add_1, zc_add_2, zc_add_3, zc_add_4, zc_add_8, zc_add_10, zc_add_12, zc_add_16, zc_add_20, zc_sub_1, zc_sub_2, zc_sub_4, zc_sub_10, zc_sub_20, zc_sub_48, zc_sub_97, zc_mul_4, t_ltZ, f_ltZ, t_leZ, f_leZ, t_eqZ, f_eqZ, t_ltN, f_ltN, t_leN, f_leN, t_eqN, f_eqN, ↓reduceIte, and_true, true_and, and_false, false_and, and_self, or_true, true_or, or_false, false_or, or_self, not_true_eq_false, not_false_eq_true, tu_same, tu_eq, tu_ne, b_V, b_I, b_J]
      obtain ⟨B2, k1, k2, k3⟩ := tick 4 0 B (by omega) y15 (fun _ _ _ => rfl)
      obtain ⟨B3, e3⟩ : ∃ z, z = tm_u B2 174 j (nI (b - pG (S j) + 1)) := ⟨_, rfl⟩
      have hB3 : BkB B3 bk n D := hB.tr (fun a k u => by rw [e3]; simp (disch := omega) only [tu_same, tu_eq, tu_ne]; exact k3 a k (by omega))
      have s94 := s_94 (J := J) (τ := τ) hbk hB3.1 (show pT (S j) - 1 < 12 by omega) (hB3.2.2 _ hx)
      have i154 := (k3 154 j (by omega)).trans y3'
      have i174 := (k3 174 j (by omega)).trans z3
      have dq8 := (hD _ hx).2.1
      have pre : R_160 2 [(0, .ref 131), (1, .int (nI j))] [] (mk B J τ) = R_160 140 [(0, .ref 131), (1, .int (nI j))] [.int (nI (dQ (D (pT (S j) - 1)))), .int (nI (b - pG (S j) + 1))] (mk B3 J τ) := by
        have k1' : R_160 56 [(0, .ref 131), (1, .int (nI j)), (2, .int 0)] [] (mk B J τ) = R_160 56 [(0, .ref 131), (1, .int (nI j)), (2, .int (nI 4))] [] (mk B2 J τ) := k1
        have st : R_160 2 [(0, .ref 131), (1, .int (nI j))] [] (mk B J τ) = R_160 56 [(0, .ref 131), (1, .int (nI j)), (2, .int (nI 4))] [] (mk B2 J τ) := by
          rw [← k1', e_160_2]
          simp (disch := first | omega | (simp (disch := omega) only [n_ti, Int32.reduceToInt] <;> omega)) only [y0', y3', n_add, nl_add, nr_add, n_mul, nl_mul, nr_mul, n_sub, nr_dec, n_div, nr_sub_1, nr_sub_2, nr_sub_3, nr_sub_4, nr_sub_7, nr_sub_10, nr_sub_11, nr_sub_20, nr_sub_48, nr_sub_97, nl_sub_3, nl_sub_4, nl_sub_12, nl_sub_24, nl_sub_32, nr_div_2, nr_div_4, z_lt, z_le, z_eq, z_cl, n_ti, Int.toNat_natCast, Int32.reduceToInt, Int32.reduceToNatClampNeg, zc_add, zc_sub, zc_add_1, zc_add_2, zc_add_3, zc_add_4, zc_add_8, zc_add_10, zc_add_12, zc_add_16, zc_add_20, zc_sub_1, zc_sub_2, zc_sub_4, zc_sub_10, zc_sub_20, zc_sub_48, zc_sub_97, zc_mul_4, t_ltZ, f_ltZ, t_leZ, f_leZ, t_eqZ, f_eqZ, t_ltN, f_ltN, t_leN, f_leN, t_eqN, f_eqN, ↓reduceIte, and_true, true_and, and_false, false_and, and_self, or_true, true_or, or_false, false_or, or_self, not_true_eq_false, not_false_eq_true, tu_same, tu_eq, tu_ne, b_V, b_I, b_J]
        rw [st, e_160_56]
        simp (disch := first | omega | (simp (disch := omega) only [n_ti, Int32.reduceToInt] <;> omega)) only [i154, i174, ← e3, s94, n_add, nl_add, nr_add, n_mul, nl_mul, nr_mul, n_sub, nr_dec, n_div, nr_sub_1, nr_sub_2, nr_sub_3, nr_sub_4, nr_sub_7, nr_sub_10, nr_sub_11, nr_sub_20, nr_sub_48, nr_sub_97, nl_sub_3, nl_sub_4, nl_sub_12, nl_sub_24, nl_sub_32, nr_div_2, nr_div_4, z_lt, z_le, z_eq, z_cl, n_ti, Int.toNat_natCast, Int32.reduceToInt, Int32.reduceToNatClampNeg, zc_add, zc_sub, zc_add_1, zc_add_2, zc_add_3, zc_add_4, zc_add_8, zc_add_10, zc_add_12, zc_add_16, zc_add_20, zc_sub_1, zc_sub_2, zc_sub_4, zc_sub_10, zc_sub_20, zc_sub_48, zc_sub_97, zc_mul_4, t_ltZ, f_ltZ, t_leZ, f_leZ, t_eqZ, f_eqZ, t_ltN, f_ltN, t_leN, f_leN, t_eqN, f_eqN, ↓reduceIte, and_true, true_and, and_false, false_and, and_self, or_true, true_or, or_false, false_or, or_self, not_true_eq_false, not_false_eq_true, tu_same, tu_eq, tu_ne, b_V, b_I, b_J]
      have F3 : ∀ a k, ¬ ((a = 152 ∨ a = 174) ∧ k = j) → B3 a k = B a k := fun a k u => by
        rw [e3]
        simp (disch := omega) only [tu_same, tu_eq, tu_ne]
        exact k3 a k (by omega)
      have i152 : B3 152 j = nI (ff D b (S j) 4) := by rw [e3]; simp (disch := omega) only [k2, tu_same, tu_eq, tu_ne]
      have i174' : B3 174 j = nI (b - pG (S j) + 1) := by rw [e3]; simp (disch := omega) only [tu_same, tu_eq, tu_ne]
      by_cases d : dQ (D (pT (S j) - 1)) ≤ b - pG (S j) + 1
      · -- it ends
        have hf : fnP D b (X.1 j) = true := by rw [eX']; exact and_t (decide_eq_true t0) (decide_eq_true d)
        have de : dQ (D (pT (S j) - 1)) = b - pG (S j) + 1 := by omega
        obtain ⟨B4, p1, p2, p3, p4, p5⟩ := m_159 (J := J) (τ := τ) hn hD hbk hB3 hp hx w5 w3 ((F3 _ _ (by omega)).trans y3') ((F3 _ _ (by omega)).trans z1) ((F3 _ _ (by omega)).trans y16) ((F3 _ _ (by omega)).trans z2) (hL.tr (fun a k u => F3 a k (by omega))) (hl.le (by omega))
        have e : enF D b (m + 1) j X = enF D b m (j + 1) (updN X.1 j (enS D (X.1 j)), adD X.2 (pG (X.1 j)) (pT (X.1 j) - 1) j (pM (X.1 j)) (dW (D (pT (X.1 j) - 1)))) := by
          show enF D b m (j + 1) (if fnP D b (X.1 j) = true then _ else X) = _
          rw [if_pos hf]
        rw [e]
        have eE : enS D (X.1 j) = (pW (S j), ff D b (S j) 4, (pD (S j) + tuM (pM (S j)) (D (pT (S j) - 1))) % 4, 0, 0, 0, xx D b (S j) 4) := by rw [eX']; rfl
        have eA : adD X.2 (pG (X.1 j)) (pT (X.1 j) - 1) j (pM (X.1 j)) (dW (D (pT (X.1 j) - 1))) = adD X.2 (pG (S j)) (pT (S j) - 1) j (pM (S j)) (dW (D (pT (S j) - 1))) := by rw [eX']
        rw [eE, eA]
        have F4 : ∀ a k, ¬ ((152 ≤ a ∧ a ≤ 154 ∨ a = 174) ∧ k = j) → ¬ (a = 131 ∧ (k = 61 ∨ k = 62)) → a ≠ 158 → ¬ (168 ≤ a ∧ a ≤ 171) → a ≠ 173 → B4 a k = B a k := fun a k v1 v2 v3 v4 v5 => (p5 a k (by omega) v2 v3 v4 v5).trans (F3 a k (by omega))
        obtain ⟨B', q1, q2, q3, q4⟩ := ih (j + 1) B4 (updN X.1 j (pW (S j), ff D b (S j) 4, (pD (S j) + tuM (pM (S j)) (D (pT (S j) - 1))) % 4, 0, 0, 0, xx D b (S j) 4), adD X.2 (pG (S j)) (pT (S j) - 1) j (pM (S j)) (dW (D (pT (S j) - 1)))) (by omega) (fun p hp' => by
          show JmB B4 (b + 1) p (updN X.1 j _ p)
          by_cases ep : p = j
          · subst ep
            rw [updN_s]
            refine ⟨?_, fun v => ⟨?_, ?_⟩, ?_, fun v => absurd rfl v⟩
            · exact (F4 _ _ (by omega) (by omega) (by omega) (by omega) (by omega)).trans y0
            · exact (p5 _ _ (by omega) (by omega) (by omega) (by omega) (by omega)).trans i152
            · exact p2
            · exact p3
          · rw [updN_n _ _ ep]
            exact (h1 p (by omega)).tr (fun a v => F4 a p (by omega) (by omega) (by omega) (by omega) (by omega))) (fun p hp' hp6 => ⟨(h2 p (by omega) hp6).1.tr (fun a v => F4 a p (by omega) (by omega) (by omega) (by omega) (by omega)), by show updN X.1 j _ p = _; rw [updN_n _ _ (by omega)]; exact (h2 p (by omega) hp6).2⟩) (hB.tr (fun a k v => F4 a k (by omega) (by omega) (by omega) (by omega) (by omega))) p4 (hl.add.le (by omega))
        refine ⟨B', ?_, q2, q3, fun a k v1 v2 v3 v4 v5 v6 => (q4 a k v1 v2 v3 v4 v5 v6).trans (F4 a k (by omega) v3 v4 v5 v6)⟩
        rw [pre, ← q1, e_160_140, de]
        simp (disch := first | omega | (simp (disch := omega) only [n_ti, Int32.reduceToInt] <;> omega)) only [p1, e_160_148, n_add, nl_add, nr_add, n_mul, nl_mul, nr_mul, n_sub, nr_dec, n_div, nr_sub_1, nr_sub_2, nr_sub_3, nr_sub_4, nr_sub_7, nr_sub_10, nr_sub_11, nr_sub_20, nr_sub_48, nr_sub_97, nl_sub_3, nl_sub_4, nl_sub_12, nl_sub_24, nl_sub_32, nr_div_2, nr_div_4, z_lt, z_le, z_eq, z_cl, n_ti, Int.toNat_natCast, Int32.reduceToInt, Int32.reduceToNatClampNeg, zc_add, zc_sub, zc_add_1, zc_add_2, zc_add_3, zc_add_4, zc_add_8, zc_add_10, zc_add_12, zc_add_16, zc_add_20, zc_sub_1, zc_sub_2, zc_sub_4, zc_sub_10, zc_sub_20, zc_sub_48, zc_sub_97, zc_mul_4, t_ltZ, f_ltZ, t_leZ, f_leZ, t_eqZ, f_eqZ, t_ltN, f_ltN, t_leN, f_leN, t_eqN, f_eqN, ↓reduceIte, and_true, true_and, and_false, false_and, and_self, or_true, true_or, or_false, false_or, or_self, not_true_eq_false, not_false_eq_true, tu_same, tu_eq, tu_ne, b_V, b_I, b_J]
      · refine no B3 ?_ ?_ ?_ (fun a k v => F3 a k (by omega))
        · rw [eX']; exact and_f2 (decide_eq_false d)
        · rw [pre, e_160_140]
          simp (disch := first | omega | (simp (disch := omega) only [n_ti, Int32.reduceToInt] <;> omega)) only [n_add, nl_add, nr_add, n_mul, nl_mul, nr_mul, n_sub, nr_dec, n_div, nr_sub_1, nr_sub_2, nr_sub_3, nr_sub_4, nr_sub_7, nr_sub_10, nr_sub_11, nr_sub_20, nr_sub_48, nr_sub_97, nl_sub_3, nl_sub_4, nl_sub_12, nl_sub_24, nl_sub_32, nr_div_2, nr_div_4, z_lt, z_le, z_eq, z_cl, n_ti, Int.toNat_natCast, Int32.reduceToInt, Int32.reduceToNatClampNeg, zc_add, zc_sub, zc_add_1, zc_add_2, zc_add_3, zc_add_4, zc_add_8, zc_add_10, zc_add_12, zc_add_16, zc_add_20, zc_sub_1, zc_sub_2, zc_sub_4, zc_sub_10, zc_sub_20, zc_sub_48, zc_sub_97, zc_mul_4, t_ltZ, f_ltZ, t_leZ, f_leZ, t_eqZ, f_eqZ, t_ltN, f_ltN, t_leN, f_leN, t_eqN, f_eqN, ↓reduceIte, and_true, true_and, and_false, false_and, and_self, or_true, true_or, or_false, false_or, or_self, not_true_eq_false, not_false_eq_true, tu_same, tu_eq, tu_ne, b_V, b_I, b_J]
        · rw [eX']
          refine ⟨(F3 _ _ (by omega)).trans y0, fun v => ⟨i152, (F3 _ _ (by omega)).trans y16⟩, (F3 _ _ (by omega)).trans y3, fun v => ⟨(F3 _ _ (by omega)).trans z1, (F3 _ _ (by omega)).trans z2, ?_⟩⟩
          show B3 174 j = nI (b + 1 - pG (S j))
          rw [i174', show b + 1 - pG (S j) = b - pG (S j) + 1 by omega]
