/-! run: a BEAT (model), its misses -/
theorem stF_T {D : Nat → TD} {b : Nat} {S : PS} (p : Nat) : pT (stF D b S 0 p) = pT (S p) ∧ pG (stF D b S 0 p) = pG (S p) ∧ pW (stF D b S 0 p) = pW (S p) ∧ pM (stF D b S 0 p) = pM (S p) ∧ pD (stF D b S 0 p) = pD (S p) ∧ stF D b S 0 p = stS D b (S p) := by
  unfold stF stS
  rw [if_pos (Nat.zero_le _)]
  by_cases c : pW (S p) = 1
  · rw [if_pos c]
    by_cases d : pT (S p) = 0
    · rw [if_pos d]; exact ⟨rfl, rfl, rfl, rfl, rfl, rfl⟩
    · rw [if_neg d]; exact ⟨rfl, rfl, rfl, rfl, rfl, rfl⟩
  · rw [if_neg c]; exact ⟨rfl, rfl, rfl, rfl, rfl, rfl⟩
theorem toQ_st {D : Nat → TD} {b mo : Nat} {S : PS} : toQ D b mo (stF D b S 0) = toQ D b mo S := by
  funext p
  obtain ⟨h1, h2, -⟩ := stF_T (D := D) (b := b) (S := S) p
  unfold toQ itP wm
  rw [h1, h2]
theorem h4P_st {D : Nat → TD} {b : Nat} {S : PS} : h4P (stF D b S 0) = h4P S := by
  funext p
  unfold h4P
  rw [(stF_T (D := D) (b := b) (S := S) p).2.2.1]
theorem m_153 {B : Nat → Nat → Int32} {J : Nat → Nat → Int64} {τ : tm_Tu} {n b bk p : Nat} {D : Nat → TD} {S : PS} (h : PsB B b S) (hS : SOk n D b S) (hn : n ≤ 12) (hD : DOk n D) (hbk : bk < 2) (hB : BkB B bk n D) (hp : p < 6) (ht : pT (S p) ≠ 0) : F_153 [.ref 131, .int (nI p)] (mk B J τ) = some (some (.int (nI (wm D b (S p)))), mk B J τ) := by
  obtain ⟨h0, h1, h3, h4⟩ := h p hp
  obtain ⟨w1, w2, w3, w4, w5, w6, -⟩ := hS p hp
  rw [tI_s ht] at h3
  have h5 := (h4 ht).2.2
  have hx : pT (S p) - 1 < n := by omega
  have s100 := s_100 (J := J) (τ := τ) (b - pG (S p)) (hD _ hx) hbk hB.1 (show pT (S p) - 1 < 12 by omega) (hB.2.2 _ hx) (wm_le (hS p hp) hD ht).2
  rw [e_153]
  simp (disch := first | omega | (simp (disch := omega) only [n_ti, Int32.reduceToInt] <;> omega)) only [h3, h5, s100, e_153_16, n_add, nl_add, nr_add, n_mul, nl_mul, nr_mul, n_sub, nr_dec, n_div, nr_sub_1, nr_sub_2, nr_sub_3, nr_sub_4, nr_sub_7, nr_sub_10, nr_sub_11, nr_sub_20, nr_sub_48, nr_sub_97, nl_sub_3, nl_sub_4, nl_sub_12, nl_sub_24, nl_sub_32, nr_div_2, nr_div_4, z_lt, z_le, z_eq, z_cl, n_ti, Int.toNat_natCast, Int32.reduceToInt, Int32.reduceToNatClampNeg, zc_add, zc_sub, zc_add_1, zc_add_2, zc_add_3, zc_add_4, zc_add_8, zc_add_10, zc_add_12, zc_add_16, zc_add_20, zc_sub_1, zc_sub_2, zc_sub_4, zc_sub_10, zc_sub_20, zc_sub_48, zc_sub_97, zc_mul_4, t_ltZ, f_ltZ, t_leZ, f_leZ, t_eqZ, f_eqZ, t_ltN, f_ltN, t_leN, f_leN, t_eqN, f_eqN, ↓reduceIte, and_true, true_and, and_false, false_and, and_self, or_true, true_or, or_false, false_or, or_self, not_true_eq_false, not_false_eq_true, tu_same, tu_eq, tu_ne, b_V, b_I, b_J]
  rfl
set_option maxHeartbeats 2000000 in
theorem m_154 {B : Nat → Nat → Int32} {J : Nat → Nat → Int64} {τ : tm_Tu} {n b bk : Nat} {D : Nat → TD} {S : PS} {m : ML} (h : PsB B b S) (hS : SOk n D b S) (hn : n ≤ 12) (hD : DOk n D) (hbk : bk < 2) (hB : BkB B bk n D) (hM : MsB B m) (hm : m.1 < 100000) (h59 : B 131 59 = nI b) (hb : b < 200) : ∃ B', F_154 [.ref 131] (mk B J τ) = some (some (.int (b2 (anyF (toQ D b (moP D b S) S) 6 0))), mk B' J τ) ∧ B' 159 b = nI (moP D b S) ∧ MsB B' (if anyF (toQ D b (moP D b S) S) 6 0 = true then adM m (b, 7, fiP S - 1) else m) ∧ (∀ a k, ¬ (a = 159 ∧ k = b) → ¬ (a = 131 ∧ k = 60) → ¬ (165 ≤ a ∧ a ≤ 167) → B' a k = B a k) := by
  obtain ⟨B1, e1⟩ : ∃ x, x = tm_u B 159 b 0 := ⟨_, rfl⟩
  have h1 : PsB B1 b S := h.tr (fun a k u => by rw [e1]; simp (disch := omega) only [tu_same, tu_eq, tu_ne])
  have hB1 : BkB B1 bk n D := hB.tr (fun a k u => by rw [e1]; simp (disch := omega) only [tu_same, tu_eq, tu_ne])
  have hM1 : MsB B1 m := hM.tr (fun a k u => by rw [e1]; simp (disch := omega) only [tu_same, tu_eq, tu_ne])
  have h591 : B1 131 59 = nI b := by rw [e1]; simp (disch := omega) only [h59, tu_same, tu_eq, tu_ne]
  have f153 : ∀ p, p < 6 → pT (S p) ≠ 0 → F_153 [.ref 131, .int (nI p)] (mk B1 J τ) = some (some (.int (nI (wm D b (S p)))), mk B1 J τ) := fun p hp ht => m_153 h1 hS hn hD hbk hB1 hp ht
  -- the loop; f: the first one so far, told as one more
  have key : ∀ k j f (tb : Bool), j + k = 6 → f ≤ j → (f ≠ 0 → pT (S (f - 1)) ≠ 0) → R_154 16 [(0, .ref 131), (1, .int (tI f)), (2, .int (b2 tb)), (3, .int (nI j))] [] (mk B1 J τ) = R_154 16 [(0, .ref 131), (1, .int (tI (if f = 0 then fstF (itP S) k j else f))), (2, .int (b2 (tb || anyF (toQ D b (if (if f = 0 then fstF (itP S) k j else f) = 0 then 0 else wm D b (S ((if f = 0 then fstF (itP S) k j else f) - 1))) S) k j))), (3, .int (nI 6))] [] (mk B1 J τ) := by
    intro k
    induction k with
    | zero =>
      intro j f tb hj hf hft
      have : j = 6 := by omega
      subst this
      have e : (if f = 0 then fstF (itP S) 0 6 else f) = f := by
        by_cases c : f = 0
        · rw [if_pos c]; exact c.symm
        · rw [if_neg c]
      have e2 : ∀ P : Nat → Bool, (tb || anyF P 0 6) = tb := fun P => by cases tb <;> rfl
      rw [e, e2]
    | succ k ih =>
      intro j f tb hj hf hft
      have hp : j < 6 := by omega
      obtain ⟨w1, w2, w3, w4, w5, w6, -⟩ := hS j hp
      have h3 := (h1 j hp).2.2.1
      by_cases c : pT (S j) = 0
      · have hi : itP S j = false := decide_eq_false (fun u => u c)
        have i1 : fstF (itP S) (k + 1) j = fstF (itP S) k (j + 1) := fstF_0 hi
        have i2 : ∀ mo, anyF (toQ D b mo S) (k + 1) j = anyF (toQ D b mo S) k (j + 1) := fun mo => anyF_0 (and_f1 hi)
        rw [i1, i2, ← ih (j + 1) f tb (by omega) (by omega) hft]
        rw [tI_z c] at h3
        rw [e_154_16]
        simp (disch := first | omega | (simp (disch := omega) only [n_ti, Int32.reduceToInt] <;> omega)) only [h3, e_154_71, n_add, nl_add, nr_add, n_mul, nl_mul, nr_mul, n_sub, nr_dec, n_div, nr_sub_1, nr_sub_2, nr_sub_3, nr_sub_4, nr_sub_7, nr_sub_10, nr_sub_11, nr_sub_20, nr_sub_48, nr_sub_97, nl_sub_3, nl_sub_4, nl_sub_12, nl_sub_24, nl_sub_32, nr_div_2, nr_div_4, z_lt, z_le, z_eq, z_cl, n_ti, Int.toNat_natCast, Int32.reduceToInt, Int32.reduceToNatClampNeg, zc_add, zc_sub, zc_add_1, zc_add_2, zc_add_3, zc_add_4, zc_add_8, zc_add_10, zc_add_12, zc_add_16, zc_add_20, zc_sub_1, zc_sub_2, zc_sub_4, zc_sub_10, zc_sub_20, zc_sub_48, zc_sub_97, zc_mul_4, t_ltZ, f_ltZ, t_leZ, f_leZ, t_eqZ, f_eqZ, t_ltN, f_ltN, t_leN, f_leN, t_eqN, f_eqN, ↓reduceIte, and_true, true_and, and_false, false_and, and_self, or_true, true_or, or_false, false_or, or_self, not_true_eq_false, not_false_eq_true, tu_same, tu_eq, tu_ne, b_V, b_I, b_J]
      · have hi : itP S j = true := decide_eq_true c
        have wl := (wm_le (hS j hp) hD c).1
        have fj := f153 j hp c
        rw [tI_s c] at h3
        by_cases cf : f = 0
        · -- the first one of all
          have i1 : fstF (itP S) (k + 1) j = j + 1 := fstF_1 hi
          have i3 : (if f = 0 then fstF (itP S) (k + 1) j else f) = j + 1 := by rw [if_pos cf, i1]
          rw [i3, if_neg (show ¬ j + 1 = 0 by omega), show j + 1 - 1 = j by omega]
          have i2 : anyF (toQ D b (wm D b (S j)) S) (k + 1) j = anyF (toQ D b (wm D b (S j)) S) k (j + 1) := anyF_0 (and_f2 (decide_eq_false (fun u => u rfl)))
          have z := ih (j + 1) (j + 1) tb (by omega) (by omega) (fun _ => by rw [show j + 1 - 1 = j by omega]; exact c)
          rw [if_neg (show ¬ j + 1 = 0 by omega), if_neg (show ¬ j + 1 = 0 by omega), show j + 1 - 1 = j by omega] at z
          rw [i2, ← z]
          subst cf
          rw [e_154_16]
          cases tb
          · rw [b2f]
            show _ = R_154 16 [(0, .ref 131), (1, .int (nI j)), (2, .int 0), (3, .int (nI (j + 1)))] [] (mk B1 J τ)
            have t0 : tI 0 = -1 := rfl
            simp (disch := first | omega | (simp (disch := omega) only [n_ti, Int32.reduceToInt] <;> omega)) only [t0, h3, e_154_59, e_154_60, e_154_70, e_154_71, n_add, nl_add, nr_add, n_mul, nl_mul, nr_mul, n_sub, nr_dec, n_div, nr_sub_1, nr_sub_2, nr_sub_3, nr_sub_4, nr_sub_7, nr_sub_10, nr_sub_11, nr_sub_20, nr_sub_48, nr_sub_97, nl_sub_3, nl_sub_4, nl_sub_12, nl_sub_24, nl_sub_32, nr_div_2, nr_div_4, z_lt, z_le, z_eq, z_cl, n_ti, Int.toNat_natCast, Int32.reduceToInt, Int32.reduceToNatClampNeg, zc_add, zc_sub, zc_add_1, zc_add_2, zc_add_3, zc_add_4, zc_add_8, zc_add_10, zc_add_12, zc_add_16, zc_add_20, zc_sub_1, zc_sub_2, zc_sub_4, zc_sub_10, zc_sub_20, zc_sub_48, zc_sub_97, zc_mul_4, t_ltZ, f_ltZ, t_leZ, f_leZ, t_eqZ, f_eqZ, t_ltN, f_ltN, t_leN, f_leN, t_eqN, f_eqN, ↓reduceIte, and_true, true_and, and_false, false_and, and_self, or_true, true_or, or_false, false_or, or_self, not_true_eq_false, not_false_eq_true, tu_same, tu_eq, tu_ne, b_V, b_I, b_J]
          · rw [b2t]
            show _ = R_154 16 [(0, .ref 131), (1, .int (nI j)), (2, .int 1), (3, .int (nI (j + 1)))] [] (mk B1 J τ)
            have t0 : tI 0 = -1 := rfl
            simp (disch := first | omega | (simp (disch := omega) only [n_ti, Int32.reduceToInt] <;> omega)) only [t0, h3, e_154_55, e_154_60, e_154_70, e_154_71, n_add, nl_add, nr_add, n_mul, nl_mul, nr_mul, n_sub, nr_dec, n_div, nr_sub_1, nr_sub_2, nr_sub_3, nr_sub_4, nr_sub_7, nr_sub_10, nr_sub_11, nr_sub_20, nr_sub_48, nr_sub_97, nl_sub_3, nl_sub_4, nl_sub_12, nl_sub_24, nl_sub_32, nr_div_2, nr_div_4, z_lt, z_le, z_eq, z_cl, n_ti, Int.toNat_natCast, Int32.reduceToInt, Int32.reduceToNatClampNeg, zc_add, zc_sub, zc_add_1, zc_add_2, zc_add_3, zc_add_4, zc_add_8, zc_add_10, zc_add_12, zc_add_16, zc_add_20, zc_sub_1, zc_sub_2, zc_sub_4, zc_sub_10, zc_sub_20, zc_sub_48, zc_sub_97, zc_mul_4, t_ltZ, f_ltZ, t_leZ, f_leZ, t_eqZ, f_eqZ, t_ltN, f_ltN, t_leN, f_leN, t_eqN, f_eqN, ↓reduceIte, and_true, true_and, and_false, false_and, and_self, or_true, true_or, or_false, false_or, or_self, not_true_eq_false, not_false_eq_true, tu_same, tu_eq, tu_ne, b_V, b_I, b_J]
        · -- another one
          have hft' := hft cf
          have ff' := f153 (f - 1) (by omega) hft'
          have wl2 := (wm_le (hS (f - 1) (by omega)) hD hft').1
          have i3 : ∀ x, (if f = 0 then x else f) = f := fun x => if_neg cf
          have z : ∀ tb', _ := fun tb' => ih (j + 1) f tb' (by omega) (by omega) hft
          simp only [i3, if_neg cf] at z ⊢
          have tf : tI f = nI (f - 1) := tI_s cf
          by_cases cw : wm D b (S j) = wm D b (S (f - 1))
          · have i2 : anyF (toQ D b (wm D b (S (f - 1))) S) (k + 1) j = anyF (toQ D b (wm D b (S (f - 1))) S) k (j + 1) := anyF_0 (and_f2 (decide_eq_false (fun u => u cw)))
            rw [i2, ← z tb, e_154_16]
            rw [cw] at fj
            cases tb
            · rw [b2f]
              simp (disch := first | omega | (simp (disch := omega) only [n_ti, Int32.reduceToInt] <;> omega)) only [tf, h3, fj, e_154_47, ff', e_154_52, e_154_59, e_154_60, e_154_70, e_154_71, n_add, nl_add, nr_add, n_mul, nl_mul, nr_mul, n_sub, nr_dec, n_div, nr_sub_1, nr_sub_2, nr_sub_3, nr_sub_4, nr_sub_7, nr_sub_10, nr_sub_11, nr_sub_20, nr_sub_48, nr_sub_97, nl_sub_3, nl_sub_4, nl_sub_12, nl_sub_24, nl_sub_32, nr_div_2, nr_div_4, z_lt, z_le, z_eq, z_cl, n_ti, Int.toNat_natCast, Int32.reduceToInt, Int32.reduceToNatClampNeg, zc_add, zc_sub, zc_add_1, zc_add_2, zc_add_3, zc_add_4, zc_add_8, zc_add_10, zc_add_12, zc_add_16, zc_add_20, zc_sub_1, zc_sub_2, zc_sub_4, zc_sub_10, zc_sub_20, zc_sub_48, zc_sub_97, zc_mul_4, t_ltZ, f_ltZ, t_leZ, f_leZ, t_eqZ, f_eqZ, t_ltN, f_ltN, t_leN, f_leN, t_eqN, f_eqN, ↓reduceIte, and_true, true_and, and_false, false_and, and_self, or_true, true_or, or_false, false_or, or_self, not_true_eq_false, not_false_eq_true, tu_same, tu_eq, tu_ne, b_V, b_I, b_J]
            · rw [b2t]
              simp (disch := first | omega | (simp (disch := omega) only [n_ti, Int32.reduceToInt] <;> omega)) only [tf, h3, e_154_55, e_154_60, e_154_70, e_154_71, n_add, nl_add, nr_add, n_mul, nl_mul, nr_mul, n_sub, nr_dec, n_div, nr_sub_1, nr_sub_2, nr_sub_3, nr_sub_4, nr_sub_7, nr_sub_10, nr_sub_11, nr_sub_20, nr_sub_48, nr_sub_97, nl_sub_3, nl_sub_4, nl_sub_12, nl_sub_24, nl_sub_32, nr_div_2, nr_div_4, z_lt, z_le, z_eq, z_cl, n_ti, Int.toNat_natCast, Int32.reduceToInt, Int32.reduceToNatClampNeg, zc_add, zc_sub, zc_add_1, zc_add_2, zc_add_3, zc_add_4, zc_add_8, zc_add_10, zc_add_12, zc_add_16, zc_add_20, zc_sub_1, zc_sub_2, zc_sub_4, zc_sub_10, zc_sub_20, zc_sub_48, zc_sub_97, zc_mul_4, t_ltZ, f_ltZ, t_leZ, f_leZ, t_eqZ, f_eqZ, t_ltN, f_ltN, t_leN, f_leN, t_eqN, f_eqN, ↓reduceIte, and_true, true_and, and_false, false_and, and_self, or_true, true_or, or_false, false_or, or_self, not_true_eq_false, not_false_eq_true, tu_same, tu_eq, tu_ne, b_V, b_I, b_J]
          · have i2 : anyF (toQ D b (wm D b (S (f - 1))) S) (k + 1) j = true := anyF_1 (and_t hi (decide_eq_true cw))
            have e : ∀ x : Bool, (x || true) = (true || anyF (toQ D b (wm D b (S (f - 1))) S) k (j + 1)) := fun x => by cases x <;> rfl
            rw [i2, e, ← z true, e_154_16, b2t]
            cases tb
            · rw [b2f]
              simp (disch := first | omega | (simp (disch := omega) only [n_ti, Int32.reduceToInt] <;> omega)) only [tf, h3, fj, e_154_47, ff', e_154_52, e_154_55, e_154_60, e_154_70, e_154_71, n_add, nl_add, nr_add, n_mul, nl_mul, nr_mul, n_sub, nr_dec, n_div, nr_sub_1, nr_sub_2, nr_sub_3, nr_sub_4, nr_sub_7, nr_sub_10, nr_sub_11, nr_sub_20, nr_sub_48, nr_sub_97, nl_sub_3, nl_sub_4, nl_sub_12, nl_sub_24, nl_sub_32, nr_div_2, nr_div_4, z_lt, z_le, z_eq, z_cl, n_ti, Int.toNat_natCast, Int32.reduceToInt, Int32.reduceToNatClampNeg, zc_add, zc_sub, zc_add_1, zc_add_2, zc_add_3, zc_add_4, zc_add_8, zc_add_10, zc_add_12, zc_add_16, zc_add_20, zc_sub_1, zc_sub_2, zc_sub_4, zc_sub_10, zc_sub_20, zc_sub_48, zc_sub_97, zc_mul_4, t_ltZ, f_ltZ, t_leZ, f_leZ, t_eqZ, f_eqZ, t_ltN, f_ltN, t_leN, f_leN, t_eqN, f_eqN, ↓reduceIte, and_true, true_and, and_false, false_and, and_self, or_true, true_or, or_false, false_or, or_self, not_true_eq_false, not_false_eq_true, tu_same, tu_eq, tu_ne, b_V, b_I, b_J]
            · rw [b2t]
              simp (disch := first | omega | (simp (disch := omega) only [n_ti, Int32.reduceToInt] <;> omega)) only [tf, h3, e_154_55, e_154_60, e_154_70, e_154_71, n_add, nl_add, nr_add, n_mul, nl_mul, nr_mul, n_sub, nr_dec, n_div, nr_sub_1, nr_sub_2, nr_sub_3, nr_sub_4, nr_sub_7, nr_sub_10, nr_sub_11, nr_sub_20, nr_sub_48, nr_sub_97, nl_sub_3, nl_sub_4, nl_sub_12, nl_sub_24, nl_sub_32, nr_div_2, nr_div_4, z_lt, z_le, z_eq, z_cl, n_ti, Int.toNat_natCast, Int32.reduceToInt, Int32.reduceToNatClampNeg, zc_add, zc_sub, zc_add_1, zc_add_2, zc_add_3, zc_add_4, zc_add_8, zc_add_10, zc_add_12, zc_add_16, zc_add_20, zc_sub_1, zc_sub_2, zc_sub_4, zc_sub_10, zc_sub_20, zc_sub_48, zc_sub_97, zc_mul_4, t_ltZ, f_ltZ, t_leZ, f_leZ, t_eqZ, f_eqZ, t_ltN, f_ltN, t_leN, f_leN, t_eqN, f_eqN, ↓reduceIte, and_true, true_and, and_false, false_and, and_self, or_true, true_or, or_false, false_or, or_self, not_true_eq_false, not_false_eq_true, tu_same, tu_eq, tu_ne, b_V, b_I, b_J]
  have k0 := key 6 0 0 false (by omega) (by omega) (fun u => absurd rfl u)
  rw [if_pos rfl, Bool.false_or] at k0
  have pre : F_154 [.ref 131] (mk B J τ) = R_154 16 [(0, .ref 131), (1, .int (tI (fiP S))), (2, .int (b2 (anyF (toQ D b (moP D b S) S) 6 0))), (3, .int (nI 6))] [] (mk B1 J τ) := by
    have k0' : R_154 16 [(0, .ref 131), (1, .int (-1)), (2, .int 0), (3, .int 0)] [] (mk B1 J τ) = R_154 16 [(0, .ref 131), (1, .int (tI (fiP S))), (2, .int (b2 (anyF (toQ D b (moP D b S) S) 6 0))), (3, .int (nI 6))] [] (mk B1 J τ) := k0
    rw [← k0', e_154]
    simp (disch := first | omega | (simp (disch := omega) only [n_ti, Int32.reduceToInt] <;> omega)) only [h59, ← e1, n_add, nl_add, nr_add, n_mul, nl_mul, nr_mul, n_sub, nr_dec, n_div, nr_sub_1, nr_sub_2, nr_sub_3, nr_sub_4, nr_sub_7, nr_sub_10, nr_sub_11, nr_sub_20, nr_sub_48, nr_sub_97, nl_sub_3, nl_sub_4, nl_sub_12, nl_sub_24, nl_sub_32, nr_div_2, nr_div_4, z_lt, z_le, z_eq, z_cl, n_ti, Int.toNat_natCast, Int32.reduceToInt, Int32.reduceToNatClampNeg, zc_add, zc_sub, zc_add_1, zc_add_2, zc_add_3, zc_add_4, zc_add_8, zc_add_10, zc_add_12, zc_add_16, zc_add_20, zc_sub_1, zc_sub_2, zc_sub_4, zc_sub_10, zc_sub_20, zc_sub_48, zc_sub_97, zc_mul_4, t_ltZ, f_ltZ, t_leZ, f_leZ, t_eqZ, f_eqZ, t_ltN, f_ltN, t_leN, f_leN, t_eqN, f_eqN, ↓reduceIte, and_true, true_and, and_false, false_and, and_self, or_true, true_or, or_false, false_or, or_self, not_true_eq_false, not_false_eq_true, tu_same, tu_eq, tu_ne, b_V, b_I, b_J]
  rw [pre, e_154_16]
  rcases fstF_P (itP S) 6 0 with ⟨e, ez⟩ | ⟨i, e, i1, i2, i3, -⟩
  · have e' : fiP S = 0 := e
    have at0 : anyF (toQ D b (moP D b S) S) 6 0 = false := anyF_f.mpr (fun q u v => and_f1 (ez q u v))
    have em : moP D b S = 0 := if_pos e'
    rw [at0, if_neg Bool.false_ne_true, em, b2f, e']
    have t0 : tI 0 = -1 := rfl
    refine ⟨B1, ?_, by rw [e1]; simp (disch := omega) only [tu_same, tu_eq, tu_ne]; rfl, hM1, fun a k u v w => by rw [e1]; simp (disch := omega) only [tu_same, tu_eq, tu_ne]⟩
    simp (disch := first | omega | (simp (disch := omega) only [n_ti, Int32.reduceToInt] <;> omega)) only [t0, e_154_95, e_154_106, n_add, nl_add, nr_add, n_mul, nl_mul, nr_mul, n_sub, nr_dec, n_div, nr_sub_1, nr_sub_2, nr_sub_3, nr_sub_4, nr_sub_7, nr_sub_10, nr_sub_11, nr_sub_20, nr_sub_48, nr_sub_97, nl_sub_3, nl_sub_4, nl_sub_12, nl_sub_24, nl_sub_32, nr_div_2, nr_div_4, z_lt, z_le, z_eq, z_cl, n_ti, Int.toNat_natCast, Int32.reduceToInt, Int32.reduceToNatClampNeg, zc_add, zc_sub, zc_add_1, zc_add_2, zc_add_3, zc_add_4, zc_add_8, zc_add_10, zc_add_12, zc_add_16, zc_add_20, zc_sub_1, zc_sub_2, zc_sub_4, zc_sub_10, zc_sub_20, zc_sub_48, zc_sub_97, zc_mul_4, t_ltZ, f_ltZ, t_leZ, f_leZ, t_eqZ, f_eqZ, t_ltN, f_ltN, t_leN, f_leN, t_eqN, f_eqN, ↓reduceIte, and_true, true_and, and_false, false_and, and_self, or_true, true_or, or_false, false_or, or_self, not_true_eq_false, not_false_eq_true, tu_same, tu_eq, tu_ne, b_V, b_I, b_J]
  · have e' : fiP S = i + 1 := e
    have ht : pT (S i) ≠ 0 := of_decide_eq_true i3
    have em : moP D b S = wm D b (S i) := by
      unfold moP
      rw [e', if_neg (by omega), show i + 1 - 1 = i by omega]
    have fi := f153 i (by omega) ht
    obtain ⟨B2, e2⟩ : ∃ x, x = tm_u B1 159 b (nI (wm D b (S i))) := ⟨_, rfl⟩
    have hM2 : MsB B2 m := hM1.tr (fun a k u => by rw [e2]; simp (disch := omega) only [tu_same, tu_eq, tu_ne])
    have h592 : B2 131 59 = nI b := by rw [e2]; simp (disch := omega) only [h591, tu_same, tu_eq, tu_ne]
    rw [e', em, show i + 1 - 1 = i by omega]
    have ti : tI (i + 1) = nI i := rfl
    cases ht2 : anyF (toQ D b (wm D b (S i)) S) 6 0 with
    | false =>
      rw [b2f, if_neg Bool.false_ne_true]
      refine ⟨B2, ?_, by rw [e2]; simp (disch := omega) only [tu_same, tu_eq, tu_ne], hM2, fun a k u v w => by rw [e2]; simp (disch := omega) only [tu_same, tu_eq, tu_ne]; rw [e1]; simp (disch := omega) only [tu_same, tu_eq, tu_ne]⟩
      simp (disch := first | omega | (simp (disch := omega) only [n_ti, Int32.reduceToInt] <;> omega)) only [ti, fi, h591, e_154_94, ← e2, e_154_95, e_154_106, n_add, nl_add, nr_add, n_mul, nl_mul, nr_mul, n_sub, nr_dec, n_div, nr_sub_1, nr_sub_2, nr_sub_3, nr_sub_4, nr_sub_7, nr_sub_10, nr_sub_11, nr_sub_20, nr_sub_48, nr_sub_97, nl_sub_3, nl_sub_4, nl_sub_12, nl_sub_24, nl_sub_32, nr_div_2, nr_div_4, z_lt, z_le, z_eq, z_cl, n_ti, Int.toNat_natCast, Int32.reduceToInt, Int32.reduceToNatClampNeg, zc_add, zc_sub, zc_add_1, zc_add_2, zc_add_3, zc_add_4, zc_add_8, zc_add_10, zc_add_12, zc_add_16, zc_add_20, zc_sub_1, zc_sub_2, zc_sub_4, zc_sub_10, zc_sub_20, zc_sub_48, zc_sub_97, zc_mul_4, t_ltZ, f_ltZ, t_leZ, f_leZ, t_eqZ, f_eqZ, t_ltN, f_ltN, t_leN, f_leN, t_eqN, f_eqN, ↓reduceIte, and_true, true_and, and_false, false_and, and_self, or_true, true_or, or_false, false_or, or_self, not_true_eq_false, not_false_eq_true, tu_same, tu_eq, tu_ne, b_V, b_I, b_J]
    | true =>
      rw [b2t, if_pos rfl]
      obtain ⟨B3, p1, p2, p3⟩ := m_150 (J := J) (τ := τ) hM2 hm h592 7 i
      have p1' : F_150 [.ref 131, .int 7, .int (nI i)] (mk B2 J τ) = some (none, mk B3 J τ) := p1
      refine ⟨B3, ?_, ?_, p2, fun a k u v w => ?_⟩
      · simp (disch := first | omega | (simp (disch := omega) only [n_ti, Int32.reduceToInt] <;> omega)) only [ti, fi, h591, e_154_94, ← e2, e_154_95, p1', e_154_106, n_add, nl_add, nr_add, n_mul, nl_mul, nr_mul, n_sub, nr_dec, n_div, nr_sub_1, nr_sub_2, nr_sub_3, nr_sub_4, nr_sub_7, nr_sub_10, nr_sub_11, nr_sub_20, nr_sub_48, nr_sub_97, nl_sub_3, nl_sub_4, nl_sub_12, nl_sub_24, nl_sub_32, nr_div_2, nr_div_4, z_lt, z_le, z_eq, z_cl, n_ti, Int.toNat_natCast, Int32.reduceToInt, Int32.reduceToNatClampNeg, zc_add, zc_sub, zc_add_1, zc_add_2, zc_add_3, zc_add_4, zc_add_8, zc_add_10, zc_add_12, zc_add_16, zc_add_20, zc_sub_1, zc_sub_2, zc_sub_4, zc_sub_10, zc_sub_20, zc_sub_48, zc_sub_97, zc_mul_4, t_ltZ, f_ltZ, t_leZ, f_leZ, t_eqZ, f_eqZ, t_ltN, f_ltN, t_leN, f_leN, t_eqN, f_eqN, ↓reduceIte, and_true, true_and, and_false, false_and, and_self, or_true, true_or, or_false, false_or, or_self, not_true_eq_false, not_false_eq_true, tu_same, tu_eq, tu_ne, b_V, b_I, b_J]
      · rw [p3 _ _ (by omega) (by omega), e2]; simp (disch := omega) only [tu_same, tu_eq, tu_ne]
      · rw [p3 a k v w, e2]
        simp (disch := omega) only [tu_same, tu_eq, tu_ne]
        rw [e1]
        simp (disch := omega) only [tu_same, tu_eq, tu_ne]
theorem m_156 {B : Nat → Nat → Int32} {J : Nat → Nat → Int64} {τ : tm_Tu} {n b mo : Nat} {D : Nat → TD} {S : PS} {E : ES} {m : ML} (hE : EnB B E) (hS : SOk n D b S) (hO : EOk S E) (hM : MsB B m) (hm : m.1 < 100000) (h59 : B 131 59 = nI b) (hb : b < 200) (h159 : B 159 b = nI mo) (hmo : mo ≤ 3) : ∃ B', F_156 [.ref 131] (mk B J τ) = some (some (.int (b2 (decide (haP mo S ≠ 0)))), mk B' J τ) ∧ MsB B' (if haP mo S ≠ 0 then adM m (b, 8, haP mo S - 1) else m) ∧ (∀ a k, ¬ (a = 131 ∧ k = 60) → ¬ (165 ≤ a ∧ a ≤ 167) → B' a k = B a k) := by
  unfold haP
  by_cases c : mo = 0
  · rw [if_pos c]
    subst c
    refine ⟨B, ?_, hM, fun _ _ _ _ => rfl⟩
    rw [e_156]
    simp (disch := first | omega | (simp (disch := omega) only [n_ti, Int32.reduceToInt] <;> omega)) only [h59, h159, n_add, nl_add, nr_add, n_mul, nl_mul, nr_mul, n_sub, nr_dec, n_div, nr_sub_1, nr_sub_2, nr_sub_3, nr_sub_4, nr_sub_7, nr_sub_10, nr_sub_11, nr_sub_20, nr_sub_48, nr_sub_97, nl_sub_3, nl_sub_4, nl_sub_12, nl_sub_24, nl_sub_32, nr_div_2, nr_div_4, z_lt, z_le, z_eq, z_cl, n_ti, Int.toNat_natCast, Int32.reduceToInt, Int32.reduceToNatClampNeg, zc_add, zc_sub, zc_add_1, zc_add_2, zc_add_3, zc_add_4, zc_add_8, zc_add_10, zc_add_12, zc_add_16, zc_add_20, zc_sub_1, zc_sub_2, zc_sub_4, zc_sub_10, zc_sub_20, zc_sub_48, zc_sub_97, zc_mul_4, t_ltZ, f_ltZ, t_leZ, f_leZ, t_eqZ, f_eqZ, t_ltN, f_ltN, t_leN, f_leN, t_eqN, f_eqN, ↓reduceIte, and_true, true_and, and_false, false_and, and_self, or_true, true_or, or_false, false_or, or_self, not_true_eq_false, not_false_eq_true, tu_same, tu_eq, tu_ne, b_V, b_I, b_J]
    rfl
  · rw [if_neg c]
    obtain ⟨x0, -⟩ := hE 0 (by omega)
    obtain ⟨x1, -⟩ := hE 1 (by omega)
    obtain ⟨-, o0, -, -, o1⟩ := hO 0 (by omega)
    obtain ⟨-, y0, -, -, y1⟩ := hO 1 (by omega)
    obtain ⟨K0, k0⟩ : ∃ z, z = eK (E 0) := ⟨_, rfl⟩
    obtain ⟨K1, k1⟩ : ∃ z, z = eK (E 1) := ⟨_, rfl⟩
    rw [← k0] at x0 o0 o1
    rw [← k1] at x1 y0 y1
    obtain ⟨f, ef⟩ : ∃ z, z = fstF (h4P S) 6 0 := ⟨_, rfl⟩
    have hf : f = (if K0 = 0 then K1 else if K1 = 0 then K0 else if K1 < K0 then K1 else K0) := by
      have a0 : K0 ≠ 0 → pW (S (K0 - 1)) = 4 := fun u => (o1 (K0 - 1) (by omega)).mpr (by omega)
      have a1 : K1 ≠ 0 → pW (S (K1 - 1)) = 5 := fun u => (y1 (K1 - 1) (by omega)).mpr (by omega)
      have g0 : K0 ≠ 0 → h4P S (K0 - 1) = true := fun u => decide_eq_true (by have := a0 u; omega)
      have g1 : K1 ≠ 0 → h4P S (K1 - 1) = true := fun u => decide_eq_true (by have := a1 u; omega)
      rcases fstF_P (h4P S) 6 0 with ⟨e, ez⟩ | ⟨i, e, i1, i2, i3, i4⟩
      · have z0 : K0 = 0 := by
          by_cases u : K0 = 0
          · exact u
          · have := ez (K0 - 1) (by omega) (by omega)
            rw [g0 u] at this; cases this
        have z1 : K1 = 0 := by
          by_cases u : K1 = 0
          · exact u
          · have := ez (K1 - 1) (by omega) (by omega)
            rw [g1 u] at this; cases this
        rw [if_pos z0, z1, ef, e]
      · have w4 : 4 ≤ pW (S i) := of_decide_eq_true i3
        have w5 := (hS i (by omega)).1
        have m0 : K0 ≠ 0 → ¬ K0 - 1 < i := fun u v => by
          have := i4 (K0 - 1) (by omega) v
          rw [g0 u] at this; cases this
        have m1 : K1 ≠ 0 → ¬ K1 - 1 < i := fun u v => by
          have := i4 (K1 - 1) (by omega) v
          rw [g1 u] at this; cases this
        have wi : pW (S i) = 4 ∨ pW (S i) = 5 := by omega
        rw [ef, e]
        rcases wi with w | w
        · have q := (o1 i (by omega)).mp (by omega)
          rw [if_neg (by omega)]
          by_cases u : K1 = 0
          · rw [if_pos u]; omega
          · rw [if_neg u]
            have := m1 u
            by_cases v : K1 < K0
            · rw [if_pos v]; omega
            · rw [if_neg v]; omega
        · have q := (y1 i (by omega)).mp (by omega)
          by_cases u : K0 = 0
          · rw [if_pos u]; omega
          · have := m0 u
            have ne : K0 ≠ K1 := fun w' => by
              have z0 := a0 u
              have z1 := a1 (by omega)
              rw [w'] at z0
              omega
            rw [if_neg u, if_neg (by omega), if_pos (by omega)]
            omega
    have hf6 : f ≤ 6 := by
      rw [hf]
      repeat' split
      all_goals omega
    rw [← ef]
    have pre : F_156 [.ref 131] (mk B J τ) = R_156 18 [(0, .ref 131), (1, .int (tI f)), (2, .int (nI 2))] [] (mk B J τ) := by
      have s0 : F_156 [.ref 131] (mk B J τ) = R_156 18 [(0, .ref 131), (1, .int (tI K0)), (2, .int (nI 1))] [] (mk B J τ) := by
        rw [e_156]
        have st : R_156 18 [(0, .ref 131), (1, .int (-1)), (2, .int (nI 0))] [] (mk B J τ) = R_156 18 [(0, .ref 131), (1, .int (tI K0)), (2, .int (nI 1))] [] (mk B J τ) := by
          rw [e_156_18]
          by_cases u : K0 = 0
          · rw [u] at x0 ⊢
            have t0 : tI 0 = -1 := rfl
            rw [t0] at x0 ⊢
            simp (disch := first | omega | (simp (disch := omega) only [n_ti, Int32.reduceToInt] <;> omega)) only [x0, e_156_53, n_add, nl_add, nr_add, n_mul, nl_mul, nr_mul, n_sub, nr_dec, n_div, nr_sub_1, nr_sub_2, nr_sub_3, nr_sub_4, nr_sub_7, nr_sub_10, nr_sub_11, nr_sub_20, nr_sub_48, nr_sub_97, nl_sub_3, nl_sub_4, nl_sub_12, nl_sub_24, nl_sub_32, nr_div_2, nr_div_4, z_lt, z_le, z_eq, z_cl, n_ti, Int.toNat_natCast, Int32.reduceToInt, Int32.reduceToNatClampNeg, zc_add, zc_sub, zc_add_1, zc_add_2, zc_add_3, zc_add_4, zc_add_8, zc_add_10, zc_add_12, zc_add_16, zc_add_20, zc_sub_1, zc_sub_2, zc_sub_4, zc_sub_10, zc_sub_20, zc_sub_48, zc_sub_97, zc_mul_4, t_ltZ, f_ltZ, t_leZ, f_leZ, t_eqZ, f_eqZ, t_ltN, f_ltN, t_leN, f_leN, t_eqN, f_eqN, ↓reduceIte, and_true, true_and, and_false, false_and, and_self, or_true, true_or, or_false, false_or, or_self, not_true_eq_false, not_false_eq_true, tu_same, tu_eq, tu_ne, b_V, b_I, b_J]
          · rw [tI_s u] at x0 ⊢
            simp (disch := first | omega | (simp (disch := omega) only [n_ti, Int32.reduceToInt] <;> omega)) only [x0, e_156_46, e_156_53, n_add, nl_add, nr_add, n_mul, nl_mul, nr_mul, n_sub, nr_dec, n_div, nr_sub_1, nr_sub_2, nr_sub_3, nr_sub_4, nr_sub_7, nr_sub_10, nr_sub_11, nr_sub_20, nr_sub_48, nr_sub_97, nl_sub_3, nl_sub_4, nl_sub_12, nl_sub_24, nl_sub_32, nr_div_2, nr_div_4, z_lt, z_le, z_eq, z_cl, n_ti, Int.toNat_natCast, Int32.reduceToInt, Int32.reduceToNatClampNeg, zc_add, zc_sub, zc_add_1, zc_add_2, zc_add_3, zc_add_4, zc_add_8, zc_add_10, zc_add_12, zc_add_16, zc_add_20, zc_sub_1, zc_sub_2, zc_sub_4, zc_sub_10, zc_sub_20, zc_sub_48, zc_sub_97, zc_mul_4, t_ltZ, f_ltZ, t_leZ, f_leZ, t_eqZ, f_eqZ, t_ltN, f_ltN, t_leN, f_leN, t_eqN, f_eqN, ↓reduceIte, and_true, true_and, and_false, false_and, and_self, or_true, true_or, or_false, false_or, or_self, not_true_eq_false, not_false_eq_true, tu_same, tu_eq, tu_ne, b_V, b_I, b_J]
        have st' : R_156 18 [(0, .ref 131), (1, .int (-1)), (2, .int 0)] [] (mk B J τ) = R_156 18 [(0, .ref 131), (1, .int (tI K0)), (2, .int (nI 1))] [] (mk B J τ) := st
        simp (disch := first | omega | (simp (disch := omega) only [n_ti, Int32.reduceToInt] <;> omega)) only [h59, h159, st', n_add, nl_add, nr_add, n_mul, nl_mul, nr_mul, n_sub, nr_dec, n_div, nr_sub_1, nr_sub_2, nr_sub_3, nr_sub_4, nr_sub_7, nr_sub_10, nr_sub_11, nr_sub_20, nr_sub_48, nr_sub_97, nl_sub_3, nl_sub_4, nl_sub_12, nl_sub_24, nl_sub_32, nr_div_2, nr_div_4, z_lt, z_le, z_eq, z_cl, n_ti, Int.toNat_natCast, Int32.reduceToInt, Int32.reduceToNatClampNeg, zc_add, zc_sub, zc_add_1, zc_add_2, zc_add_3, zc_add_4, zc_add_8, zc_add_10, zc_add_12, zc_add_16, zc_add_20, zc_sub_1, zc_sub_2, zc_sub_4, zc_sub_10, zc_sub_20, zc_sub_48, zc_sub_97, zc_mul_4, t_ltZ, f_ltZ, t_leZ, f_leZ, t_eqZ, f_eqZ, t_ltN, f_ltN, t_leN, f_leN, t_eqN, f_eqN, ↓reduceIte, and_true, true_and, and_false, false_and, and_self, or_true, true_or, or_false, false_or, or_self, not_true_eq_false, not_false_eq_true, tu_same, tu_eq, tu_ne, b_V, b_I, b_J]
      rw [s0, e_156_18]
      by_cases u : K0 = 0
      · rw [if_pos u] at hf
        rw [hf, u]
        have t0 : tI 0 = -1 := rfl
        rw [t0]
        by_cases v : K1 = 0
        · rw [v] at x1 ⊢
          rw [t0] at x1 ⊢
          simp (disch := first | omega | (simp (disch := omega) only [n_ti, Int32.reduceToInt] <;> omega)) only [x1, e_156_53, n_add, nl_add, nr_add, n_mul, nl_mul, nr_mul, n_sub, nr_dec, n_div, nr_sub_1, nr_sub_2, nr_sub_3, nr_sub_4, nr_sub_7, nr_sub_10, nr_sub_11, nr_sub_20, nr_sub_48, nr_sub_97, nl_sub_3, nl_sub_4, nl_sub_12, nl_sub_24, nl_sub_32, nr_div_2, nr_div_4, z_lt, z_le, z_eq, z_cl, n_ti, Int.toNat_natCast, Int32.reduceToInt, Int32.reduceToNatClampNeg, zc_add, zc_sub, zc_add_1, zc_add_2, zc_add_3, zc_add_4, zc_add_8, zc_add_10, zc_add_12, zc_add_16, zc_add_20, zc_sub_1, zc_sub_2, zc_sub_4, zc_sub_10, zc_sub_20, zc_sub_48, zc_sub_97, zc_mul_4, t_ltZ, f_ltZ, t_leZ, f_leZ, t_eqZ, f_eqZ, t_ltN, f_ltN, t_leN, f_leN, t_eqN, f_eqN, ↓reduceIte, and_true, true_and, and_false, false_and, and_self, or_true, true_or, or_false, false_or, or_self, not_true_eq_false, not_false_eq_true, tu_same, tu_eq, tu_ne, b_V, b_I, b_J]
        · rw [tI_s v] at x1 ⊢
          simp (disch := first | omega | (simp (disch := omega) only [n_ti, Int32.reduceToInt] <;> omega)) only [x1, e_156_46, e_156_53, n_add, nl_add, nr_add, n_mul, nl_mul, nr_mul, n_sub, nr_dec, n_div, nr_sub_1, nr_sub_2, nr_sub_3, nr_sub_4, nr_sub_7, nr_sub_10, nr_sub_11, nr_sub_20, nr_sub_48, nr_sub_97, nl_sub_3, nl_sub_4, nl_sub_12, nl_sub_24, nl_sub_32, nr_div_2, nr_div_4, z_lt, z_le, z_eq, z_cl, n_ti, Int.toNat_natCast, Int32.reduceToInt, Int32.reduceToNatClampNeg, zc_add, zc_sub, zc_add_1, zc_add_2, zc_add_3, zc_add_4, zc_add_8, zc_add_10, zc_add_12, zc_add_16, zc_add_20, zc_sub_1, zc_sub_2, zc_sub_4, zc_sub_10, zc_sub_20, zc_sub_48, zc_sub_97, zc_mul_4, t_ltZ, f_ltZ, t_leZ, f_leZ, t_eqZ, f_eqZ, t_ltN, f_ltN, t_leN, f_leN, t_eqN, f_eqN, ↓reduceIte, and_true, true_and, and_false, false_and, and_self, or_true, true_or, or_false, false_or, or_self, not_true_eq_false, not_false_eq_true, tu_same, tu_eq, tu_ne, b_V, b_I, b_J]
      · rw [if_neg u] at hf
        by_cases v : K1 = 0
        · rw [if_pos v] at hf
          rw [hf]
          rw [v] at x1
          have t0 : tI 0 = -1 := rfl
          rw [t0] at x1
          rw [tI_s u]
          simp (disch := first | omega | (simp (disch := omega) only [n_ti, Int32.reduceToInt] <;> omega)) only [x1, e_156_53, n_add, nl_add, nr_add, n_mul, nl_mul, nr_mul, n_sub, nr_dec, n_div, nr_sub_1, nr_sub_2, nr_sub_3, nr_sub_4, nr_sub_7, nr_sub_10, nr_sub_11, nr_sub_20, nr_sub_48, nr_sub_97, nl_sub_3, nl_sub_4, nl_sub_12, nl_sub_24, nl_sub_32, nr_div_2, nr_div_4, z_lt, z_le, z_eq, z_cl, n_ti, Int.toNat_natCast, Int32.reduceToInt, Int32.reduceToNatClampNeg, zc_add, zc_sub, zc_add_1, zc_add_2, zc_add_3, zc_add_4, zc_add_8, zc_add_10, zc_add_12, zc_add_16, zc_add_20, zc_sub_1, zc_sub_2, zc_sub_4, zc_sub_10, zc_sub_20, zc_sub_48, zc_sub_97, zc_mul_4, t_ltZ, f_ltZ, t_leZ, f_leZ, t_eqZ, f_eqZ, t_ltN, f_ltN, t_leN, f_leN, t_eqN, f_eqN, ↓reduceIte, and_true, true_and, and_false, false_and, and_self, or_true, true_or, or_false, false_or, or_self, not_true_eq_false, not_false_eq_true, tu_same, tu_eq, tu_ne, b_V, b_I, b_J]
        · rw [if_neg v] at hf
          rw [tI_s v] at x1
          by_cases w : K1 < K0
          · rw [if_pos w] at hf
            rw [hf, tI_s u, tI_s v]
            simp (disch := first | omega | (simp (disch := omega) only [n_ti, Int32.reduceToInt] <;> omega)) only [x1, e_156_46, e_156_53, n_add, nl_add, nr_add, n_mul, nl_mul, nr_mul, n_sub, nr_dec, n_div, nr_sub_1, nr_sub_2, nr_sub_3, nr_sub_4, nr_sub_7, nr_sub_10, nr_sub_11, nr_sub_20, nr_sub_48, nr_sub_97, nl_sub_3, nl_sub_4, nl_sub_12, nl_sub_24, nl_sub_32, nr_div_2, nr_div_4, z_lt, z_le, z_eq, z_cl, n_ti, Int.toNat_natCast, Int32.reduceToInt, Int32.reduceToNatClampNeg, zc_add, zc_sub, zc_add_1, zc_add_2, zc_add_3, zc_add_4, zc_add_8, zc_add_10, zc_add_12, zc_add_16, zc_add_20, zc_sub_1, zc_sub_2, zc_sub_4, zc_sub_10, zc_sub_20, zc_sub_48, zc_sub_97, zc_mul_4, t_ltZ, f_ltZ, t_leZ, f_leZ, t_eqZ, f_eqZ, t_ltN, f_ltN, t_leN, f_leN, t_eqN, f_eqN, ↓reduceIte, and_true, true_and, and_false, false_and, and_self, or_true, true_or, or_false, false_or, or_self, not_true_eq_false, not_false_eq_true, tu_same, tu_eq, tu_ne, b_V, b_I, b_J]
          · rw [if_neg w] at hf
            rw [hf, tI_s u]
            simp (disch := first | omega | (simp (disch := omega) only [n_ti, Int32.reduceToInt] <;> omega)) only [x1, e_156_53, n_add, nl_add, nr_add, n_mul, nl_mul, nr_mul, n_sub, nr_dec, n_div, nr_sub_1, nr_sub_2, nr_sub_3, nr_sub_4, nr_sub_7, nr_sub_10, nr_sub_11, nr_sub_20, nr_sub_48, nr_sub_97, nl_sub_3, nl_sub_4, nl_sub_12, nl_sub_24, nl_sub_32, nr_div_2, nr_div_4, z_lt, z_le, z_eq, z_cl, n_ti, Int.toNat_natCast, Int32.reduceToInt, Int32.reduceToNatClampNeg, zc_add, zc_sub, zc_add_1, zc_add_2, zc_add_3, zc_add_4, zc_add_8, zc_add_10, zc_add_12, zc_add_16, zc_add_20, zc_sub_1, zc_sub_2, zc_sub_4, zc_sub_10, zc_sub_20, zc_sub_48, zc_sub_97, zc_mul_4, t_ltZ, f_ltZ, t_leZ, f_leZ, t_eqZ, f_eqZ, t_ltN, f_ltN, t_leN, f_leN, t_eqN, f_eqN, ↓reduceIte, and_true, true_and, and_false, false_and, and_self, or_true, true_or, or_false, false_or, or_self, not_true_eq_false, not_false_eq_true, tu_same, tu_eq, tu_ne, b_V, b_I, b_J]
    rw [pre, e_156_18]
    by_cases u : f = 0
    · rw [if_neg (show ¬ f ≠ 0 from fun v => v u), decide_eq_false (show ¬ f ≠ 0 from fun v => v u), u]
      have t0 : tI 0 = -1 := rfl
      refine ⟨B, ?_, hM, fun _ _ _ _ => rfl⟩
      rw [t0, b2f]
      simp (disch := first | omega | (simp (disch := omega) only [n_ti, Int32.reduceToInt] <;> omega)) only [e_156_70, e_156_79, n_add, nl_add, nr_add, n_mul, nl_mul, nr_mul, n_sub, nr_dec, n_div, nr_sub_1, nr_sub_2, nr_sub_3, nr_sub_4, nr_sub_7, nr_sub_10, nr_sub_11, nr_sub_20, nr_sub_48, nr_sub_97, nl_sub_3, nl_sub_4, nl_sub_12, nl_sub_24, nl_sub_32, nr_div_2, nr_div_4, z_lt, z_le, z_eq, z_cl, n_ti, Int.toNat_natCast, Int32.reduceToInt, Int32.reduceToNatClampNeg, zc_add, zc_sub, zc_add_1, zc_add_2, zc_add_3, zc_add_4, zc_add_8, zc_add_10, zc_add_12, zc_add_16, zc_add_20, zc_sub_1, zc_sub_2, zc_sub_4, zc_sub_10, zc_sub_20, zc_sub_48, zc_sub_97, zc_mul_4, t_ltZ, f_ltZ, t_leZ, f_leZ, t_eqZ, f_eqZ, t_ltN, f_ltN, t_leN, f_leN, t_eqN, f_eqN, ↓reduceIte, and_true, true_and, and_false, false_and, and_self, or_true, true_or, or_false, false_or, or_self, not_true_eq_false, not_false_eq_true, tu_same, tu_eq, tu_ne, b_V, b_I, b_J]
    · rw [if_pos u, decide_eq_true u, tI_s u, b2t]
      obtain ⟨B1, p1, p2, p3⟩ := m_150 (J := J) (τ := τ) hM hm h59 8 (f - 1)
      have p1' : F_150 [.ref 131, .int 8, .int (nI (f - 1))] (mk B J τ) = some (none, mk B1 J τ) := p1
      refine ⟨B1, ?_, p2, p3⟩
      simp (disch := first | omega | (simp (disch := omega) only [n_ti, Int32.reduceToInt] <;> omega)) only [p1', e_156_70, e_156_79, n_add, nl_add, nr_add, n_mul, nl_mul, nr_mul, n_sub, nr_dec, n_div, nr_sub_1, nr_sub_2, nr_sub_3, nr_sub_4, nr_sub_7, nr_sub_10, nr_sub_11, nr_sub_20, nr_sub_48, nr_sub_97, nl_sub_3, nl_sub_4, nl_sub_12, nl_sub_24, nl_sub_32, nr_div_2, nr_div_4, z_lt, z_le, z_eq, z_cl, n_ti, Int.toNat_natCast, Int32.reduceToInt, Int32.reduceToNatClampNeg, zc_add, zc_sub, zc_add_1, zc_add_2, zc_add_3, zc_add_4, zc_add_8, zc_add_10, zc_add_12, zc_add_16, zc_add_20, zc_sub_1, zc_sub_2, zc_sub_4, zc_sub_10, zc_sub_20, zc_sub_48, zc_sub_97, zc_mul_4, t_ltZ, f_ltZ, t_leZ, f_leZ, t_eqZ, f_eqZ, t_ltN, f_ltN, t_leN, f_leN, t_eqN, f_eqN, ↓reduceIte, and_true, true_and, and_false, false_and, and_self, or_true, true_or, or_false, false_or, or_self, not_true_eq_false, not_false_eq_true, tu_same, tu_eq, tu_ne, b_V, b_I, b_J]
