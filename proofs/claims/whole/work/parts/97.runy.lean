/-! run: what a BEAT keeps (pure); a still one and a BEAT (model), whole -/
theorem enF_S {D : Nat → TD} {b : Nat} : ∀ m j (X : PS × DL) p, (enF D b m j X).1 p = if j ≤ p ∧ p < j + m ∧ fnP D b (X.1 p) = true then enS D (X.1 p) else X.1 p := by
  intro m
  induction m with
  | zero => intro j X p; rw [if_neg (by omega)]; rfl
  | succ m ih =>
    intro j X p
    show (enF D b m (j + 1) (if fnP D b (X.1 j) = true then (updN X.1 j (enS D (X.1 j)), adD X.2 (pG (X.1 j)) (pT (X.1 j) - 1) j (pM (X.1 j)) (dW (D (pT (X.1 j) - 1)))) else X)).1 p = _
    rw [ih]
    cases hf : fnP D b (X.1 j) with
    | true =>
      rw [if_pos rfl]
      show (if j + 1 ≤ p ∧ p < j + 1 + m ∧ fnP D b (updN X.1 j (enS D (X.1 j)) p) = true then enS D (updN X.1 j (enS D (X.1 j)) p) else updN X.1 j (enS D (X.1 j)) p) = _
      by_cases e : p = j
      · subst e
        rw [if_neg (by omega), updN_s, if_pos ⟨by omega, by omega, hf⟩]
      · rw [updN_n _ _ e]
        by_cases c : j + 1 ≤ p ∧ p < j + 1 + m ∧ fnP D b (X.1 p) = true
        · rw [if_pos c, if_pos ⟨by omega, by omega, c.2.2⟩]
        · rw [if_neg c, if_neg (fun u => c ⟨by omega, by omega, u.2.2⟩)]
    | false =>
      rw [if_neg Bool.false_ne_true]
      by_cases e : p = j
      · subst e
        rw [if_neg (by omega), if_neg (fun u => by rw [hf] at u; exact Bool.false_ne_true u.2.2)]
      · by_cases c : j + 1 ≤ p ∧ p < j + 1 + m ∧ fnP D b (X.1 p) = true
        · rw [if_pos c, if_pos ⟨by omega, by omega, c.2.2⟩]
        · rw [if_neg c, if_neg (fun u => c ⟨by omega, by omega, u.2.2⟩)]
theorem enF_l {D : Nat → TD} {b : Nat} : ∀ m j (X : PS × DL) c, lBd X.2 c → lBd (enF D b m j X).2 (c + m) := by
  intro m
  induction m with
  | zero => intro j X c h; exact h
  | succ m ih =>
    intro j X c h
    show lBd (enF D b m (j + 1) (if fnP D b (X.1 j) = true then (updN X.1 j (enS D (X.1 j)), adD X.2 (pG (X.1 j)) (pT (X.1 j) - 1) j (pM (X.1 j)) (dW (D (pT (X.1 j) - 1)))) else X)).2 _
    rw [show c + (m + 1) = c + 1 + m by omega]
    apply ih
    split
    · exact h.add
    · exact h.le (by omega)
theorem feF_l {mo b : Nat} {S : PS} : ∀ m j (l : ML), (feF mo b S m j l).1 ≤ l.1 + m := by
  intro m
  induction m with
  | zero => intro j l; exact Nat.le_refl _
  | succ m ih =>
    intro j l
    show (feF mo b S m (j + 1) (if htP mo S j = true then adM l (b, 9, j) else l)).1 ≤ _
    have g := ih (j + 1) (if htP mo S j = true then adM l (b, 9, j) else l)
    split at g
    · next h =>
      rw [if_pos h]
      have : (adM l (b, 9, j)).1 = l.1 + 1 := rfl
      omega
    · next h =>
      rw [if_neg h]
      omega
theorem EOk.cg {S T : PS} {E : ES} (h : EOk S E) (f : ∀ p, p < 6 → pW (T p) = pW (S p)) : EOk T E := fun e he => ⟨(h e he).1, (h e he).2.1, (h e he).2.2.1, fun p hp => by rw [f p hp]; exact (h e he).2.2.2.1 p hp, fun p hp => by rw [f p hp]; exact (h e he).2.2.2.2 p hp⟩
theorem s2_ok {n b : Nat} {D : Nat → TD} {S : PS} {l : DL} (hS : SOk n D b S) (hD : DOk n D) (hb : b < 999) : SOk n D (b + 1) (s2P D b S l).1 ∧ (∀ p, pW ((s2P D b S l).1 p) = pW (S p)) ∧ (∀ p, pX ((s2P D b S l).1 p) = pX (stF D b S 0 p)) ∧ (brP D b S = true → ∀ p, pT ((s2P D b S l).1 p) = 0) := by
  unfold s2P
  cases hbr : brP D b S with
  | true =>
    rw [if_pos rfl]
    refine ⟨fun p hp => ?_, fun p => ?_, fun p => ?_, fun _ p => ?_⟩
    · show sOk n D (b + 1) (if 0 ≤ p then bkS (stF D b S 0 p) else stF D b S 0 p)
      rw [if_pos (Nat.zero_le _)]
      obtain ⟨w1, w2, w3, w4, w5, w6, w7, w8⟩ := st_ok hS hD p hp
      exact ⟨w1, Nat.zero_le _, w3, Nat.zero_le _, Nat.zero_le _, fun u => absurd rfl u, w7, Nat.zero_le _⟩
    · show pW (if 0 ≤ p then bkS (stF D b S 0 p) else stF D b S 0 p) = _
      rw [if_pos (Nat.zero_le _)]
      exact (stF_T p).2.2.1
    · show pX (if 0 ≤ p then bkS (stF D b S 0 p) else stF D b S 0 p) = _
      rw [if_pos (Nat.zero_le _)]
      rfl
    · show pT (if 0 ≤ p then bkS (stF D b S 0 p) else stF D b S 0 p) = 0
      rw [if_pos (Nat.zero_le _)]
      rfl
  | false =>
    rw [if_neg Bool.false_ne_true]
    refine ⟨fun p hp => ?_, fun p => ?_, fun p => ?_, fun u => (by cases u)⟩
    · rw [enF_S]
      obtain ⟨w1, w2, w3, w4, w5, w6, w7, w8⟩ := st_ok hS hD p hp
      show sOk n D (b + 1) (if 0 ≤ p ∧ p < 0 + 6 ∧ fnP D b (stF D b S 0 p) = true then enS D (stF D b S 0 p) else stF D b S 0 p)
      cases hf : fnP D b (stF D b S 0 p) with
      | true =>
        rw [if_pos ⟨by omega, by omega, rfl⟩]
        exact ⟨w1, w2, by show _ % 4 ≤ 3; omega, Nat.zero_le _, Nat.zero_le _, fun u => absurd rfl u, w7, Nat.zero_le _⟩
      | false =>
        rw [if_neg (fun u => Bool.false_ne_true u.2.2)]
        refine ⟨w1, w2, w3, w4, w5, fun u => ?_, w7, w8⟩
        obtain ⟨z1, z2, z3⟩ := w6 u
        refine ⟨z1, by omega, ?_⟩
        by_cases d : dQ (D (pT (stF D b S 0 p) - 1)) ≤ b - pG (stF D b S 0 p) + 1
        · have : fnP D b (stF D b S 0 p) = true := and_t (decide_eq_true u) (decide_eq_true d)
          rw [hf] at this; cases this
        · omega
    · rw [enF_S]
      split
      · exact (stF_T p).2.2.1
      · exact (stF_T p).2.2.1
    · rw [enF_S]
      split
      · rfl
      · rfl
theorem chP_T {e : Nat} {S : PS} {E : ES} (h : ∀ p, pT (S p) = 0) : ∀ p, pT ((chP e (S, E)).1 p) = 0 := by
  intro p
  unfold chP
  by_cases c : eK (E e) = 0
  · rw [if_pos c]; exact h p
  · rw [if_neg c]
    by_cases d : eQ (E e) = 0
    · rw [if_pos d]; exact h p
    · rw [if_neg d]
      show pT (updN (updN S (eH (E e)) zz) (eK (E e) - 1) (2 + e, 0, 0, 0, 0, 0, 0) p) = 0
      unfold updN
      split
      · rfl
      · split
        · rfl
        · exact h p
theorem beat_ok {n b : Nat} {D : Nat → TD} {S : PS} {E : ES} {m : ML} {l : DL} {c : Nat} (hS : SOk n D b S) (hE : EOk S E) (hc : cnt S ≤ 3) (hD : DOk n D) (hb : b < 999) (hl : lBd l c) : SOk n D (b + 1) (s3P D b S E l).1 ∧ EOk (s3P D b S E l).1 (s3P D b S E l).2 ∧ cnt (s3P D b S E l).1 ≤ 3 ∧ (mlP D b S m).1 ≤ m.1 + 6 ∧ lBd (s2P D b S l).2 (c + 6) ∧ (brP D b S = true → ∀ p, pT ((s3P D b S E l).1 p) = 0) ∧ (∀ p, p < 6 → (pW ((s3P D b S E l).1 p) = 1 ↔ pW (S p) = 1)) ∧ (∀ p, p < 6 → pW (S p) = 1 → pX ((s3P D b S E l).1 p) = pX (stF D b S 0 p)) := by
  obtain ⟨g1, g2, g3, g4⟩ := s2_ok (l := l) hS hD hb
  have hE2 : EOk (s2P D b S l).1 E := hE.cg (fun p _ => g2 p)
  obtain ⟨k1, k2, k3, k4, k5⟩ := cha_ok g1 hE2
  have hcn : cnt (s2P D b S l).1 = cnt S := by
    have : inP (s2P D b S l).1 = inP S := by
      funext p
      unfold inP
      rw [g2 p]
    unfold cnt
    rw [this]
  refine ⟨k1, k2, by show cnt (chA ((s2P D b S l).1, E)).1 ≤ 3; omega, ?_, ?_, fun u p => chP_T (chP_T (g4 u)) p, fun p hp => by rw [← g2 p]; exact k4 p hp, fun p hp u => ?_⟩
  · unfold mlP
    split
    · show m.1 + 1 ≤ _; omega
    · split
      · show m.1 + 1 ≤ _; omega
      · exact feF_l 6 0 m
  · unfold s2P
    split
    · exact hl.le (by omega)
    · exact enF_l 6 0 (stF D b S 0, l) c hl
  · show pX ((chA ((s2P D b S l).1, E)).1 p) = _
    rw [k5 p hp (by rw [g2 p]; exact u)]
    exact g3 p
def FeB (B : Nat → Nat → Int32) (b : Nat) : Prop := ∀ p, p < 6 → ∀ k, 4 * b ≤ k → k < 800 → B 164 (800 * p + k) = -1
set_option maxHeartbeats 1000000 in
theorem m_152 {B : Nat → Nat → Int32} {J : Nat → Nat → Int64} {τ : tm_Tu} {n b stl sl : Nat} {D : Nat → TD} {S : PS} (h : PsB B b S) (hS : SOk n D b S) (h59 : B 131 59 = nI b) (hb : b < 200) (h63 : B 131 63 = nI stl) (h66 : B 131 66 = nI sl) (hsl : 1 ≤ sl) (hF : FeB B b) : ∃ B', F_152 [.ref 131] (mk B J τ) = some (none, mk B' J τ) ∧ B' 159 b = nI 4 ∧ B' 131 63 = nI (stl + 1) ∧ B' 131 66 = nI (sl - 1) ∧ (∀ p, p < 6 → FeR B' b p (sdS (S p))) ∧ FeB B' (b + 1) ∧ (∀ a k, a ≠ 164 → ¬ (a = 159 ∧ k = b) → ¬ (a = 131 ∧ (k = 63 ∨ k = 66)) → B' a k = B a k) ∧ (∀ p k, p < 6 → k < 4 * b → B' 164 (800 * p + k) = B 164 (800 * p + k)) := by
  obtain ⟨B1, e1⟩ : ∃ z, z = tm_u (tm_u (tm_u B 159 b (nI 4)) 131 63 (nI (stl + 1))) 131 66 (nI (sl - 1)) := ⟨_, rfl⟩
  have loop : ∀ m j (B2 : Nat → Nat → Int32), j + m = 6 → (∀ a k, a ≠ 164 → B2 a k = B1 a k) → ∃ B3, R_152 32 [(0, .ref 131), (1, .int (nI j))] [] (mk B2 J τ) = some (none, mk B3 J τ) ∧ (∀ p, j ≤ p → p < 6 → pW (S p) = 1 → ∀ i, i < 4 → B3 164 (800 * p + 4 * b + i) = nI 0) ∧ (∀ a k, a ≠ 164 → B3 a k = B1 a k) ∧ (∀ p k, p < 6 → k < 800 → (pW (S p) ≠ 1 ∨ p < j ∨ ¬ (4 * b ≤ k ∧ k < 4 * b + 4)) → B3 164 (800 * p + k) = B2 164 (800 * p + k)) := by
    intro m
    induction m with
    | zero =>
      intro j B2 hj f
      refine ⟨B2, ?_, fun p u v => by omega, f, fun _ _ _ _ _ => rfl⟩
      rw [e_152_32]
      simp (disch := first | omega | (simp (disch := omega) only [n_ti, Int32.reduceToInt] <;> omega)) only [n_add, nl_add, nr_add, n_mul, nl_mul, nr_mul, n_sub, nr_dec, n_div, nr_sub_1, nr_sub_2, nr_sub_3, nr_sub_4, nr_sub_7, nr_sub_10, nr_sub_11, nr_sub_20, nr_sub_48, nr_sub_97, nl_sub_3, nl_sub_4, nl_sub_12, nl_sub_24, nl_sub_32, nr_div_2, nr_div_4, z_lt, z_le, z_eq, z_cl, n_ti, Int.toNat_natCast, Int32.reduceToInt, Int32.reduceToNatClampNeg, zc_add, zc_sub, zc_add_1, zc_add_2, zc_add_3, zc_add_4, zc_add_8, zc_add_10, zc_add_12, zc_add_16, zc_add_20, zc_sub_1, zc_sub_2, zc_sub_4, zc_sub_10, zc_sub_20, zc_sub_48, zc_sub_97, zc_mul_4, t_ltZ, f_ltZ, t_leZ, f_leZ, t_eqZ, f_eqZ, t_ltN, f_ltN, t_leN, f_leN, t_eqN, f_eqN, ↓reduceIte, and_true, true_and, and_false, false_and, and_self, or_true, true_or, or_false, false_or, or_self, not_true_eq_false, not_false_eq_true, tu_same, tu_eq, tu_ne, b_V, b_I, b_J]
    | succ m ih =>
      intro j B2 hj f
      have hp : j < 6 := by omega
      have w1 := (hS j hp).1
      have y0 : B2 151 j = nI (pW (S j)) := by rw [f 151 j (by omega), e1]; simp (disch := omega) only [tu_same, tu_eq, tu_ne]; exact (h j hp).1
      have y59 : B2 131 59 = nI b := by rw [f 131 59 (by omega), e1]; simp (disch := omega) only [h59, tu_same, tu_eq, tu_ne]
      by_cases c : pW (S j) = 1
      · rw [c] at y0
        have tick : ∀ q i (B3 : Nat → Nat → Int32), i + q = 4 → (∀ a k, a ≠ 164 → B3 a k = B2 a k) → ∃ B4, R_152 40 [(0, .ref 131), (1, .int (nI j)), (2, .int (nI i))] [] (mk B3 J τ) = R_152 81 [(0, .ref 131), (1, .int (nI j))] [] (mk B4 J τ) ∧ (∀ i', i ≤ i' → i' < 4 → B4 164 (800 * j + 4 * b + i') = nI 0) ∧ (∀ a k, ¬ (a = 164 ∧ 800 * j + 4 * b + i ≤ k ∧ k < 800 * j + 4 * b + 4) → B4 a k = B3 a k) := by
          intro q
          induction q with
          | zero =>
            intro i B3 hi f3
            refine ⟨B3, ?_, fun i' u v => by omega, fun _ _ _ => rfl⟩
            rw [e_152_40]
            simp (disch := first | omega | (simp (disch := omega) only [n_ti, Int32.reduceToInt] <;> omega)) only [n_add, nl_add, nr_add, n_mul, nl_mul, nr_mul, n_sub, nr_dec, n_div, nr_sub_1, nr_sub_2, nr_sub_3, nr_sub_4, nr_sub_7, nr_sub_10, nr_sub_11, nr_sub_20, nr_sub_48, nr_sub_97, nl_sub_3, nl_sub_4, nl_sub_12, nl_sub_24, nl_sub_32, nr_div_2, nr_div_4, z_lt, z_le, z_eq, z_cl, n_ti, Int.toNat_natCast, Int32.reduceToInt, Int32.reduceToNatClampNeg, zc_add, zc_sub, zc_add_1, zc_add_2, zc_add_3, zc_add_4, zc_add_8, zc_add_10, zc_add_12, zc_add_16, zc_add_20, zc_sub_1, zc_sub_2, zc_sub_4, zc_sub_10, zc_sub_20, zc_sub_48, zc_sub_97, zc_mul_4, t_ltZ, f_ltZ, t_leZ, f_leZ, t_eqZ, f_eqZ, t_ltN, f_ltN, t_leN, f_leN, t_eqN, f_eqN, ↓reduceIte, and_true, true_and, and_false, false_and, and_self, or_true, true_or, or_false, false_or, or_self, not_true_eq_false, not_false_eq_true, tu_same, tu_eq, tu_ne, b_V, b_I, b_J]
          | succ q ihq =>
            intro i B3 hi f3
            have z0 := (f3 151 j (by omega)).trans y0
            have z59 := (f3 131 59 (by omega)).trans y59
            obtain ⟨B4, g1, g2, g3⟩ := ihq (i + 1) (tm_u B3 164 (800 * j + 4 * b + i) (nI 0)) (by omega) (fun a k u => by simp (disch := omega) only [tu_same, tu_eq, tu_ne]; exact f3 a k u)
            refine ⟨B4, ?_, fun i' u v => ?_, fun a k u => by rw [g3 a k (by omega)]; simp (disch := omega) only [tu_same, tu_eq, tu_ne]⟩
            · rw [← g1, e_152_40]
              simp (disch := first | omega | (simp (disch := omega) only [n_ti, Int32.reduceToInt] <;> omega)) only [z0, z59, n_add, nl_add, nr_add, n_mul, nl_mul, nr_mul, n_sub, nr_dec, n_div, nr_sub_1, nr_sub_2, nr_sub_3, nr_sub_4, nr_sub_7, nr_sub_10, nr_sub_11, nr_sub_20, nr_sub_48, nr_sub_97, nl_sub_3, nl_sub_4, nl_sub_12, nl_sub_24, nl_sub_32, nr_div_2, nr_div_4, z_lt, z_le, z_eq, z_cl, n_ti, Int.toNat_natCast, Int32.reduceToInt, Int32.reduceToNatClampNeg, zc_add, zc_sub, zc_add_1, zc_add_2, zc_add_3, zc_add_4, zc_add_8, zc_add_10, zc_add_12, zc_add_16, zc_add_20, zc_sub_1, zc_sub_2, zc_sub_4, zc_sub_10, zc_sub_20, zc_sub_48, zc_sub_97, zc_mul_4, t_ltZ, f_ltZ, t_leZ, f_leZ, t_eqZ, f_eqZ, t_ltN, f_ltN, t_leN, f_leN, t_eqN, f_eqN, ↓reduceIte, and_true, true_and, and_false, false_and, and_self, or_true, true_or, or_false, false_or, or_self, not_true_eq_false, not_false_eq_true, tu_same, tu_eq, tu_ne, b_V, b_I, b_J]
              rfl
            · by_cases e : i' = i
              · subst e
                rw [g3 _ _ (by omega)]
                simp (disch := omega) only [tu_same, tu_eq, tu_ne]
              · exact g2 i' (by omega) v
        obtain ⟨B4, t1, t2, t3⟩ := tick 4 0 B2 (by omega) (fun _ _ _ => rfl)
        have t1' : R_152 40 [(0, .ref 131), (1, .int (nI j)), (2, .int 0)] [] (mk B2 J τ) = R_152 81 [(0, .ref 131), (1, .int (nI j))] [] (mk B4 J τ) := t1
        obtain ⟨B5, g1, g2, g3, g4⟩ := ih (j + 1) B4 (by omega) (fun a k u => (t3 a k (by omega)).trans (f a k u))
        refine ⟨B5, ?_, fun p u v w i hi => ?_, g3, fun p k u v w => ?_⟩
        · rw [← g1, e_152_32]
          simp (disch := first | omega | (simp (disch := omega) only [n_ti, Int32.reduceToInt] <;> omega)) only [t1', e_152_81, n_add, nl_add, nr_add, n_mul, nl_mul, nr_mul, n_sub, nr_dec, n_div, nr_sub_1, nr_sub_2, nr_sub_3, nr_sub_4, nr_sub_7, nr_sub_10, nr_sub_11, nr_sub_20, nr_sub_48, nr_sub_97, nl_sub_3, nl_sub_4, nl_sub_12, nl_sub_24, nl_sub_32, nr_div_2, nr_div_4, z_lt, z_le, z_eq, z_cl, n_ti, Int.toNat_natCast, Int32.reduceToInt, Int32.reduceToNatClampNeg, zc_add, zc_sub, zc_add_1, zc_add_2, zc_add_3, zc_add_4, zc_add_8, zc_add_10, zc_add_12, zc_add_16, zc_add_20, zc_sub_1, zc_sub_2, zc_sub_4, zc_sub_10, zc_sub_20, zc_sub_48, zc_sub_97, zc_mul_4, t_ltZ, f_ltZ, t_leZ, f_leZ, t_eqZ, f_eqZ, t_ltN, f_ltN, t_leN, f_leN, t_eqN, f_eqN, ↓reduceIte, and_true, true_and, and_false, false_and, and_self, or_true, true_or, or_false, false_or, or_self, not_true_eq_false, not_false_eq_true, tu_same, tu_eq, tu_ne, b_V, b_I, b_J]
        · by_cases e : p = j
          · subst e
            rw [show 800 * p + 4 * b + i = 800 * p + (4 * b + i) by omega, g4 p (4 * b + i) v (by omega) (Or.inr (Or.inl (by omega))), show 800 * p + (4 * b + i) = 800 * p + 4 * b + i by omega]
            exact t2 i (by omega) hi
          · exact g2 p (by omega) v w i hi
        · by_cases e : p = j
          · subst e
            rw [g4 p k u v (Or.inr (Or.inl (by omega))), t3 _ _ (by omega)]
          · rw [g4 p k u v (by omega), t3 _ _ (by omega)]
      · obtain ⟨B5, g1, g2, g3, g4⟩ := ih (j + 1) B2 (by omega) f
        refine ⟨B5, ?_, fun p u v w i hi => ?_, g3, fun p k u v w => ?_⟩
        · rw [← g1, e_152_32]
          simp (disch := first | omega | (simp (disch := omega) only [n_ti, Int32.reduceToInt] <;> omega)) only [e_152_40, y0, e_152_81, n_add, nl_add, nr_add, n_mul, nl_mul, nr_mul, n_sub, nr_dec, n_div, nr_sub_1, nr_sub_2, nr_sub_3, nr_sub_4, nr_sub_7, nr_sub_10, nr_sub_11, nr_sub_20, nr_sub_48, nr_sub_97, nl_sub_3, nl_sub_4, nl_sub_12, nl_sub_24, nl_sub_32, nr_div_2, nr_div_4, z_lt, z_le, z_eq, z_cl, n_ti, Int.toNat_natCast, Int32.reduceToInt, Int32.reduceToNatClampNeg, zc_add, zc_sub, zc_add_1, zc_add_2, zc_add_3, zc_add_4, zc_add_8, zc_add_10, zc_add_12, zc_add_16, zc_add_20, zc_sub_1, zc_sub_2, zc_sub_4, zc_sub_10, zc_sub_20, zc_sub_48, zc_sub_97, zc_mul_4, t_ltZ, f_ltZ, t_leZ, f_leZ, t_eqZ, f_eqZ, t_ltN, f_ltN, t_leN, f_leN, t_eqN, f_eqN, ↓reduceIte, and_true, true_and, and_false, false_and, and_self, or_true, true_or, or_false, false_or, or_self, not_true_eq_false, not_false_eq_true, tu_same, tu_eq, tu_ne, b_V, b_I, b_J]
        · have : p ≠ j := fun e => c (e ▸ w)
          exact g2 p (by omega) v w i hi
        · by_cases e : p = j
          · subst e; exact g4 p k u v (Or.inl c)
          · exact g4 p k u v (by omega)
  obtain ⟨B3, g1, g2, g3, g4⟩ := loop 6 0 B1 (by omega) (fun _ _ _ => rfl)
  have F1 : ∀ a k, ¬ (a = 159 ∧ k = b) → ¬ (a = 131 ∧ (k = 63 ∨ k = 66)) → B1 a k = B a k := fun a k u v => by rw [e1]; simp (disch := omega) only [tu_same, tu_eq, tu_ne]
  refine ⟨B3, ?_, ?_, ?_, ?_, fun p hp i hi => ?_, fun p hp k u v => ?_, fun a k u v w => (g3 a k u).trans (F1 a k v w), fun p k u v => ?_⟩
  · have g1' : R_152 32 [(0, .ref 131), (1, .int 0)] [] (mk B1 J τ) = some (none, mk B3 J τ) := g1
    rw [← g1', e_152, e1]
    simp (disch := first | omega | (simp (disch := omega) only [n_ti, Int32.reduceToInt] <;> omega)) only [h59, h63, h66, n_add, nl_add, nr_add, n_mul, nl_mul, nr_mul, n_sub, nr_dec, n_div, nr_sub_1, nr_sub_2, nr_sub_3, nr_sub_4, nr_sub_7, nr_sub_10, nr_sub_11, nr_sub_20, nr_sub_48, nr_sub_97, nl_sub_3, nl_sub_4, nl_sub_12, nl_sub_24, nl_sub_32, nr_div_2, nr_div_4, z_lt, z_le, z_eq, z_cl, n_ti, Int.toNat_natCast, Int32.reduceToInt, Int32.reduceToNatClampNeg, zc_add, zc_sub, zc_add_1, zc_add_2, zc_add_3, zc_add_4, zc_add_8, zc_add_10, zc_add_12, zc_add_16, zc_add_20, zc_sub_1, zc_sub_2, zc_sub_4, zc_sub_10, zc_sub_20, zc_sub_48, zc_sub_97, zc_mul_4, t_ltZ, f_ltZ, t_leZ, f_leZ, t_eqZ, f_eqZ, t_ltN, f_ltN, t_leN, f_leN, t_eqN, f_eqN, ↓reduceIte, and_true, true_and, and_false, false_and, and_self, or_true, true_or, or_false, false_or, or_self, not_true_eq_false, not_false_eq_true, tu_same, tu_eq, tu_ne, b_V, b_I, b_J]
    rfl
  · rw [g3 _ _ (by omega), e1]; simp (disch := omega) only [tu_same, tu_eq, tu_ne]
  · rw [g3 _ _ (by omega), e1]; simp (disch := omega) only [tu_same, tu_eq, tu_ne]
  · rw [g3 _ _ (by omega), e1]; simp (disch := omega) only [tu_same, tu_eq, tu_ne]
  · show B3 164 (800 * p + 4 * b + i) = (if pW (S p) = 1 then nI (0 / 4 ^ i % 4) else -1)
    by_cases c : pW (S p) = 1
    · rw [if_pos c, g2 p (by omega) hp c i hi, Nat.zero_div]
    · rw [if_neg c, show 800 * p + 4 * b + i = 800 * p + (4 * b + i) by omega, g4 p (4 * b + i) hp (by omega) (Or.inl c), F1 _ _ (by omega) (by omega)]
      exact hF p hp _ (by omega) (by omega)
  · rw [g4 p k hp v (Or.inr (Or.inr (by omega))), F1 _ _ (by omega) (by omega)]
    exact hF p hp k (by omega) v
  · rw [g4 p k u (by omega) (Or.inr (Or.inr (by omega))), F1 _ _ (by omega) (by omega)]
set_option maxHeartbeats 2000000 in
theorem m_162 {B : Nat → Nat → Int32} {J : Nat → Nat → Int64} {τ : tm_Tu} {n b bk c : Nat} {D : Nat → TD} {S : PS} {E : ES} {m : ML} {l : DL} (h : PsB B b S) (hE : EnB B E) (hM : MsB B m) (hL : DnB B l) (hS : SOk n D b S) (hO : EOk S E) (hn : n ≤ 12) (hD : DOk n D) (hbk : bk < 2) (hB : BkB B bk n D) (h59 : B 131 59 = nI b) (hb : b < 200) (hm : m.1 < 80000) (hl : lBd l c) (hc : c ≤ 20000) (hF : FeB B b) : ∃ B', F_162 [.ref 131] (mk B J τ) = some (none, mk B' J τ) ∧ PsB B' (b + 1) (s3P D b S E l).1 ∧ EnB B' (s3P D b S E l).2 ∧ MsB B' (mlP D b S m) ∧ DnB B' (s2P D b S l).2 ∧ B' 159 b = nI (moP D b S) ∧ B' 131 65 = nI (moP D b S) ∧ B' 131 66 = (if brP D b S = true then B 131 34 else B 131 66) ∧ (∀ p, p < 6 → FeR B' b p ((s3P D b S E l).1 p)) ∧ FeB B' (b + 1) ∧ (∀ a k, a ≠ 164 → ¬ (a = 159 ∧ k = b) → ¬ (a = 131 ∧ (60 ≤ k ∧ k ≤ 62 ∨ k = 65 ∨ k = 66)) → ¬ (151 ≤ a ∧ a ≤ 158) → ¬ (165 ≤ a ∧ a ≤ 171) → a ≠ 173 → a ≠ 174 → B' a k = B a k) ∧ (∀ p k, p < 6 → k < 4 * b → B' 164 (800 * p + k) = B 164 (800 * p + k)) := by
  have hmo := mo_le hS hD
  have hS1 := st_ok hS hD
  obtain ⟨g1, g2, g3, g4⟩ := s2_ok (l := l) hS hD (show b < 999 by omega)
  have hO2 : EOk (s2P D b S l).1 E := hO.cg (fun p _ => g2 p)
  obtain ⟨ch1, ch2, ch3, ch4, ch5⟩ := cha_ok g1 hO2
  obtain ⟨B1, a1, a2, a3, a4⟩ := m_154 (J := J) (τ := τ) h hS hn hD hbk hB hM (by omega) h59 hb
  have h1 : PsB B1 b S := h.tr (fun a k u => a4 a k (by omega) (by omega) (by omega))
  have hB1 : BkB B1 bk n D := hB.tr (fun a k u => a4 a k (by omega) (by omega) (by omega))
  have h591 : B1 131 59 = nI b := (a4 _ _ (by omega) (by omega) (by omega)).trans h59
  obtain ⟨B2, c1, c2, c3, c4⟩ := m_155 (J := J) (τ := τ) hS hn hD hbk hb 6 0 B1 (by omega) h1 hB1 h591
  have f155 : F_155 [.ref 131] (mk B1 J τ) = some (none, mk B2 J τ) := by rw [e_155]; exact c1
  have hF2 : FtB B2 b (stF D b S 0) := fun p hp hw i hi => by
    obtain ⟨-, -, w, -, -, e⟩ := stF_T (D := D) (b := b) (S := S) p
    rw [w] at hw
    rw [e]
    exact c2 p (by omega) hp hw i hi
  have h2 : PsB B2 b S := h1.tr (fun a k u => c3 a k (by omega))
  have hM2 : MsB B2 (if anyF (toQ D b (moP D b S) S) 6 0 = true then adM m (b, 7, fiP S - 1) else m) := a3.tr (fun a k u => c3 a k (by omega))
  have h592 : B2 131 59 = nI b := (c3 _ _ (by omega)).trans h591
  have h1592 : B2 159 b = nI (moP D b S) := (c3 _ _ (by omega)).trans a2
  have hE2 : EnB B2 E := hE.tr (fun a k u => by rw [c3 a k (by omega)]; exact a4 a k (by omega) (by omega) (by omega))
  have hL2 : DnB B2 l := hL.tr (fun a k u => by rw [c3 a k (by omega)]; exact a4 a k (by omega) (by omega) (by omega))
  have hB2 : BkB B2 bk n D := hB1.tr (fun a k u => c3 a k (by omega))
  obtain ⟨mo, emo⟩ : ∃ x, x = moP D b S := ⟨_, rfl⟩
  -- misses
  have miss : ∃ B3, F_162 [.ref 131] (mk B J τ) = R_162 32 [(0, .ref 131)] [.int (b2 (brP D b S))] (mk B3 J τ) ∧ MsB B3 (mlP D b S m) ∧ (∀ a k, ¬ (a = 131 ∧ k = 60) → ¬ (165 ≤ a ∧ a ≤ 167) → B3 a k = B2 a k) := by
    unfold brP mlP
    rw [toQ_st, ← emo]
    rw [← emo] at a1 a3 hM2 h1592 hmo
    have hha : haP mo (stF D b S 0) = haP mo S := by unfold haP; rw [h4P_st]
    rw [hha]
    cases ht : anyF (toQ D b mo S) 6 0 with
    | true =>
      rw [ht, b2t] at a1
      rw [ht] at hM2
      rw [if_pos rfl] at hM2 ⊢
      refine ⟨B2, ?_, hM2, fun _ _ _ _ => rfl⟩
      rw [e_162, Bool.true_or, b2t]
      simp (disch := first | omega | (simp (disch := omega) only [n_ti, Int32.reduceToInt] <;> omega)) only [a1, e_162_4, f155, e_162_9, e_162_27, n_add, nl_add, nr_add, n_mul, nl_mul, nr_mul, n_sub, nr_dec, n_div, nr_sub_1, nr_sub_2, nr_sub_3, nr_sub_4, nr_sub_7, nr_sub_10, nr_sub_11, nr_sub_20, nr_sub_48, nr_sub_97, nl_sub_3, nl_sub_4, nl_sub_12, nl_sub_24, nl_sub_32, nr_div_2, nr_div_4, z_lt, z_le, z_eq, z_cl, n_ti, Int.toNat_natCast, Int32.reduceToInt, Int32.reduceToNatClampNeg, zc_add, zc_sub, zc_add_1, zc_add_2, zc_add_3, zc_add_4, zc_add_8, zc_add_10, zc_add_12, zc_add_16, zc_add_20, zc_sub_1, zc_sub_2, zc_sub_4, zc_sub_10, zc_sub_20, zc_sub_48, zc_sub_97, zc_mul_4, t_ltZ, f_ltZ, t_leZ, f_leZ, t_eqZ, f_eqZ, t_ltN, f_ltN, t_leN, f_leN, t_eqN, f_eqN, ↓reduceIte, and_true, true_and, and_false, false_and, and_self, or_true, true_or, or_false, false_or, or_self, not_true_eq_false, not_false_eq_true, tu_same, tu_eq, tu_ne, b_V, b_I, b_J]
    | false =>
      rw [ht, b2f] at a1
      rw [ht] at hM2
      rw [if_neg Bool.false_ne_true] at hM2 ⊢
      rw [Bool.false_or]
      obtain ⟨B3, p1, p2, p3⟩ := m_156 (J := J) (τ := τ) hE2 hS hO hM2 (by omega) h592 hb h1592 hmo
      by_cases hh : haP mo S ≠ 0
      · rw [decide_eq_true hh] at p1 ⊢
        rw [b2t] at p1
        rw [if_pos hh] at p2 ⊢
        refine ⟨B3, ?_, p2, p3⟩
        rw [e_162, Bool.true_or, b2t]
        simp (disch := first | omega | (simp (disch := omega) only [n_ti, Int32.reduceToInt] <;> omega)) only [a1, e_162_4, f155, e_162_9, p1, e_162_17, e_162_27, n_add, nl_add, nr_add, n_mul, nl_mul, nr_mul, n_sub, nr_dec, n_div, nr_sub_1, nr_sub_2, nr_sub_3, nr_sub_4, nr_sub_7, nr_sub_10, nr_sub_11, nr_sub_20, nr_sub_48, nr_sub_97, nl_sub_3, nl_sub_4, nl_sub_12, nl_sub_24, nl_sub_32, nr_div_2, nr_div_4, z_lt, z_le, z_eq, z_cl, n_ti, Int.toNat_natCast, Int32.reduceToInt, Int32.reduceToNatClampNeg, zc_add, zc_sub, zc_add_1, zc_add_2, zc_add_3, zc_add_4, zc_add_8, zc_add_10, zc_add_12, zc_add_16, zc_add_20, zc_sub_1, zc_sub_2, zc_sub_4, zc_sub_10, zc_sub_20, zc_sub_48, zc_sub_97, zc_mul_4, t_ltZ, f_ltZ, t_leZ, f_leZ, t_eqZ, f_eqZ, t_ltN, f_ltN, t_leN, f_leN, t_eqN, f_eqN, ↓reduceIte, and_true, true_and, and_false, false_and, and_self, or_true, true_or, or_false, false_or, or_self, not_true_eq_false, not_false_eq_true, tu_same, tu_eq, tu_ne, b_V, b_I, b_J]
      · rw [decide_eq_false hh] at p1 ⊢
        rw [b2f] at p1
        rw [if_neg hh] at p2 ⊢
        rw [Bool.false_or]
        obtain ⟨B4, q1, q2, q3⟩ := m_157 (J := J) (τ := τ) hS1 hmo hb 6 0 B3 m false (by omega) (fun p hp => by
          rw [(stF_T p).2.2.1, p3 _ _ (by omega) (by omega)]
          exact (h2 p hp).1) (hF2.tr (fun k => p3 _ _ (by omega) (by omega))) p2 (by omega) ((p3 _ _ (by omega) (by omega)).trans h592) ((p3 _ _ (by omega) (by omega)).trans h1592)
        rw [Bool.false_or, b2f] at q1
        have f157 : F_157 [.ref 131] (mk B3 J τ) = some (some (.int (b2 (anyF (htP mo (stF D b S 0)) 6 0))), mk B4 J τ) := by rw [e_157]; exact q1
        refine ⟨B4, ?_, q2, fun a k u v => (q3 a k u v).trans (p3 a k u v)⟩
        rw [e_162]
        cases hf : anyF (htP mo (stF D b S 0)) 6 0 with
        | true =>
          rw [hf, b2t] at f157
          rw [b2t]
          simp (disch := first | omega | (simp (disch := omega) only [n_ti, Int32.reduceToInt] <;> omega)) only [a1, e_162_4, f155, e_162_9, p1, e_162_17, f157, e_162_24, e_162_27, n_add, nl_add, nr_add, n_mul, nl_mul, nr_mul, n_sub, nr_dec, n_div, nr_sub_1, nr_sub_2, nr_sub_3, nr_sub_4, nr_sub_7, nr_sub_10, nr_sub_11, nr_sub_20, nr_sub_48, nr_sub_97, nl_sub_3, nl_sub_4, nl_sub_12, nl_sub_24, nl_sub_32, nr_div_2, nr_div_4, z_lt, z_le, z_eq, z_cl, n_ti, Int.toNat_natCast, Int32.reduceToInt, Int32.reduceToNatClampNeg, zc_add, zc_sub, zc_add_1, zc_add_2, zc_add_3, zc_add_4, zc_add_8, zc_add_10, zc_add_12, zc_add_16, zc_add_20, zc_sub_1, zc_sub_2, zc_sub_4, zc_sub_10, zc_sub_20, zc_sub_48, zc_sub_97, zc_mul_4, t_ltZ, f_ltZ, t_leZ, f_leZ, t_eqZ, f_eqZ, t_ltN, f_ltN, t_leN, f_leN, t_eqN, f_eqN, ↓reduceIte, and_true, true_and, and_false, false_and, and_self, or_true, true_or, or_false, false_or, or_self, not_true_eq_false, not_false_eq_true, tu_same, tu_eq, tu_ne, b_V, b_I, b_J]
        | false =>
          rw [hf, b2f] at f157
          rw [b2f]
          simp (disch := first | omega | (simp (disch := omega) only [n_ti, Int32.reduceToInt] <;> omega)) only [a1, e_162_4, f155, e_162_9, p1, e_162_17, f157, e_162_24, n_add, nl_add, nr_add, n_mul, nl_mul, nr_mul, n_sub, nr_dec, n_div, nr_sub_1, nr_sub_2, nr_sub_3, nr_sub_4, nr_sub_7, nr_sub_10, nr_sub_11, nr_sub_20, nr_sub_48, nr_sub_97, nl_sub_3, nl_sub_4, nl_sub_12, nl_sub_24, nl_sub_32, nr_div_2, nr_div_4, z_lt, z_le, z_eq, z_cl, n_ti, Int.toNat_natCast, Int32.reduceToInt, Int32.reduceToNatClampNeg, zc_add, zc_sub, zc_add_1, zc_add_2, zc_add_3, zc_add_4, zc_add_8, zc_add_10, zc_add_12, zc_add_16, zc_add_20, zc_sub_1, zc_sub_2, zc_sub_4, zc_sub_10, zc_sub_20, zc_sub_48, zc_sub_97, zc_mul_4, t_ltZ, f_ltZ, t_leZ, f_leZ, t_eqZ, f_eqZ, t_ltN, f_ltN, t_leN, f_leN, t_eqN, f_eqN, ↓reduceIte, and_true, true_and, and_false, false_and, and_self, or_true, true_or, or_false, false_or, or_self, not_true_eq_false, not_false_eq_true, tu_same, tu_eq, tu_ne, b_V, b_I, b_J]
  obtain ⟨B3, m1, m2, m3⟩ := miss
  have h3 : PsB B3 b S := h2.tr (fun a k u => m3 a k (by omega) (by omega))
  have hB3 : BkB B3 bk n D := hB2.tr (fun a k u => m3 a k (by omega) (by omega))
  have hL3 : DnB B3 l := hL2.tr (fun a k u => m3 a k (by omega) (by omega))
  have F3 : ∀ a k, a ≠ 164 → ¬ (a = 159 ∧ k = b) → ¬ (a = 131 ∧ k = 60) → ¬ (165 ≤ a ∧ a ≤ 167) → B3 a k = B a k := fun a k u v w z => by
    rw [m3 a k w z, c3 a k u]
    exact a4 a k v w z
  -- breaking off, or going on
  have mid : ∃ B4, F_162 [.ref 131] (mk B J τ) = R_162 48 [(0, .ref 131)] [] (mk B4 J τ) ∧ PsB B4 (b + 1) (s2P D b S l).1 ∧ DnB B4 (s2P D b S l).2 ∧ B4 131 66 = (if brP D b S = true then B 131 34 else B 131 66) ∧ (∀ a k, ¬ (152 ≤ a ∧ a ≤ 154) → a ≠ 174 → ¬ (a = 131 ∧ (k = 61 ∨ k = 62 ∨ k = 66)) → a ≠ 158 → ¬ (168 ≤ a ∧ a ≤ 171) → a ≠ 173 → B4 a k = B3 a k) := by
    unfold s2P
    cases hbr : brP D b S with
    | true =>
      rw [hbr, b2t] at m1
      rw [if_pos rfl, if_pos rfl]
      obtain ⟨B4, p1, p2, p3⟩ := m_158 (J := J) (τ := τ) hS (stF D b S 0) (fun p => ⟨(stF_T p).2.2.1, (stF_T p).2.2.2.2.1⟩) 6 0 B3 (by omega) (fun p hp => by omega) (fun p _ hp => h3 p hp)
      have f158 : F_158 [.ref 131] (mk B3 J τ) = some (none, mk (tm_u B4 131 66 (B4 131 34)) J τ) := by rw [e_158]; exact p1
      refine ⟨tm_u B4 131 66 (B4 131 34), ?_, ?_, ?_, ?_, fun a k u1 u2 u3 u4 u5 u6 => ?_⟩
      · rw [m1, e_162_32]
        simp (disch := first | omega | (simp (disch := omega) only [n_ti, Int32.reduceToInt] <;> omega)) only [f158, e_162_41, n_add, nl_add, nr_add, n_mul, nl_mul, nr_mul, n_sub, nr_dec, n_div, nr_sub_1, nr_sub_2, nr_sub_3, nr_sub_4, nr_sub_7, nr_sub_10, nr_sub_11, nr_sub_20, nr_sub_48, nr_sub_97, nl_sub_3, nl_sub_4, nl_sub_12, nl_sub_24, nl_sub_32, nr_div_2, nr_div_4, z_lt, z_le, z_eq, z_cl, n_ti, Int.toNat_natCast, Int32.reduceToInt, Int32.reduceToNatClampNeg, zc_add, zc_sub, zc_add_1, zc_add_2, zc_add_3, zc_add_4, zc_add_8, zc_add_10, zc_add_12, zc_add_16, zc_add_20, zc_sub_1, zc_sub_2, zc_sub_4, zc_sub_10, zc_sub_20, zc_sub_48, zc_sub_97, zc_mul_4, t_ltZ, f_ltZ, t_leZ, f_leZ, t_eqZ, f_eqZ, t_ltN, f_ltN, t_leN, f_leN, t_eqN, f_eqN, ↓reduceIte, and_true, true_and, and_false, false_and, and_self, or_true, true_or, or_false, false_or, or_self, not_true_eq_false, not_false_eq_true, tu_same, tu_eq, tu_ne, b_V, b_I, b_J]
      · have e : (fun p => if 0 ≤ p then bkS (stF D b S 0 p) else stF D b S 0 p) = (fun p => bkS (stF D b S 0 p)) := by
          funext p
          rw [if_pos (Nat.zero_le _)]
        show PsB _ (b + 1) (fun p => if 0 ≤ p then bkS (stF D b S 0 p) else stF D b S 0 p)
        rw [e]
        exact p2.tr (fun a k u => by simp (disch := omega) only [tu_same, tu_eq, tu_ne])
      · exact hL3.tr (fun a k u => by simp (disch := omega) only [tu_same, tu_eq, tu_ne]; exact p3 a k (by omega) (by omega))
      · simp (disch := omega) only [tu_same, tu_eq, tu_ne]
        rw [p3 131 34 (by omega) (by omega)]
        exact F3 _ _ (by omega) (by omega) (by omega) (by omega)
      · simp (disch := omega) only [tu_same, tu_eq, tu_ne]
        exact p3 a k (by omega) (by omega)
    | false =>
      rw [hbr, b2f] at m1
      rw [if_neg Bool.false_ne_true, if_neg Bool.false_ne_true]
      obtain ⟨B4, p1, p2, p3, p4⟩ := m_160 (J := J) (τ := τ) hS hn hD hbk hb 6 0 B3 (stF D b S 0, l) (by omega) (fun p hp => by omega) (fun p _ hp => ⟨h3 p hp, (stF_T p).2.2.2.2.2⟩) hB3 hL3 (hl.le (by omega))
      have f160 : F_160 [.ref 131] (mk B3 J τ) = some (none, mk B4 J τ) := by rw [e_160]; exact p1
      refine ⟨B4, ?_, p2, p3, ?_, fun a k u1 u2 u3 u4 u5 u6 => p4 a k u1 u2 (by omega) u4 u5 u6⟩
      · rw [m1, e_162_32]
        simp (disch := first | omega | (simp (disch := omega) only [n_ti, Int32.reduceToInt] <;> omega)) only [f160, n_add, nl_add, nr_add, n_mul, nl_mul, nr_mul, n_sub, nr_dec, n_div, nr_sub_1, nr_sub_2, nr_sub_3, nr_sub_4, nr_sub_7, nr_sub_10, nr_sub_11, nr_sub_20, nr_sub_48, nr_sub_97, nl_sub_3, nl_sub_4, nl_sub_12, nl_sub_24, nl_sub_32, nr_div_2, nr_div_4, z_lt, z_le, z_eq, z_cl, n_ti, Int.toNat_natCast, Int32.reduceToInt, Int32.reduceToNatClampNeg, zc_add, zc_sub, zc_add_1, zc_add_2, zc_add_3, zc_add_4, zc_add_8, zc_add_10, zc_add_12, zc_add_16, zc_add_20, zc_sub_1, zc_sub_2, zc_sub_4, zc_sub_10, zc_sub_20, zc_sub_48, zc_sub_97, zc_mul_4, t_ltZ, f_ltZ, t_leZ, f_leZ, t_eqZ, f_eqZ, t_ltN, f_ltN, t_leN, f_leN, t_eqN, f_eqN, ↓reduceIte, and_true, true_and, and_false, false_and, and_self, or_true, true_or, or_false, false_or, or_self, not_true_eq_false, not_false_eq_true, tu_same, tu_eq, tu_ne, b_V, b_I, b_J]
      · rw [p4 131 66 (by omega) (by omega) (by omega) (by omega) (by omega) (by omega)]
        exact F3 _ _ (by omega) (by omega) (by omega) (by omega)
  obtain ⟨B4, n1, n2, n3, n4, n5⟩ := mid
  have hE4 : EnB B4 E := hE2.tr (fun a k u => by rw [n5 a k (by omega) (by omega) (by omega) (by omega) (by omega) (by omega)]; exact m3 a k (by omega) (by omega))
  obtain ⟨B5, q1, q2, q3, q4⟩ := m_161 (J := J) (τ := τ) n2 hE4 g1 hO2
  have F5 : ∀ a k, ¬ (151 ≤ a ∧ a ≤ 154) → a ≠ 156 → a ≠ 157 → a ≠ 174 → ¬ (a = 131 ∧ (k = 61 ∨ k = 62 ∨ k = 66)) → a ≠ 158 → ¬ (168 ≤ a ∧ a ≤ 171) → a ≠ 173 → B5 a k = B3 a k := fun a k v1 v2 v3 v4 v5 v6 v7 v8 => (q4 a k (by omega) v2 v3).trans (n5 a k (by omega) v4 v5 v6 v7 v8)
  have i159 : B5 159 b = nI (moP D b S) := by rw [F5 _ _ (by omega) (by omega) (by omega) (by omega) (by omega) (by omega) (by omega) (by omega), m3 _ _ (by omega) (by omega)]; exact h1592
  have i59 : B5 131 59 = nI b := by rw [F5 _ _ (by omega) (by omega) (by omega) (by omega) (by omega) (by omega) (by omega) (by omega), m3 _ _ (by omega) (by omega)]; exact h592
  have i164 : ∀ k, B5 164 k = B2 164 k := fun k => by rw [F5 _ _ (by omega) (by omega) (by omega) (by omega) (by omega) (by omega) (by omega) (by omega), m3 _ _ (by omega) (by omega)]
  refine ⟨tm_u B5 131 65 (nI (moP D b S)), ?_, q2.tr (fun a k u => by simp (disch := omega) only [tu_same, tu_eq, tu_ne]), q3.tr (fun a k u => by simp (disch := omega) only [tu_same, tu_eq, tu_ne]), ?_, ?_, by simp (disch := omega) only [i159, tu_same, tu_eq, tu_ne], by simp (disch := omega) only [tu_same, tu_eq, tu_ne], ?_, fun p hp i hi => ?_, fun p hp k u v => ?_, fun a k v1 v2 v3 v4 v5 v6 v7 => ?_, fun p k u v => ?_⟩
  · rw [n1, e_162_48]
    simp (disch := first | omega | (simp (disch := omega) only [n_ti, Int32.reduceToInt] <;> omega)) only [q1, e_162_52, i59, i159, n_add, nl_add, nr_add, n_mul, nl_mul, nr_mul, n_sub, nr_dec, n_div, nr_sub_1, nr_sub_2, nr_sub_3, nr_sub_4, nr_sub_7, nr_sub_10, nr_sub_11, nr_sub_20, nr_sub_48, nr_sub_97, nl_sub_3, nl_sub_4, nl_sub_12, nl_sub_24, nl_sub_32, nr_div_2, nr_div_4, z_lt, z_le, z_eq, z_cl, n_ti, Int.toNat_natCast, Int32.reduceToInt, Int32.reduceToNatClampNeg, zc_add, zc_sub, zc_add_1, zc_add_2, zc_add_3, zc_add_4, zc_add_8, zc_add_10, zc_add_12, zc_add_16, zc_add_20, zc_sub_1, zc_sub_2, zc_sub_4, zc_sub_10, zc_sub_20, zc_sub_48, zc_sub_97, zc_mul_4, t_ltZ, f_ltZ, t_leZ, f_leZ, t_eqZ, f_eqZ, t_ltN, f_ltN, t_leN, f_leN, t_eqN, f_eqN, ↓reduceIte, and_true, true_and, and_false, false_and, and_self, or_true, true_or, or_false, false_or, or_self, not_true_eq_false, not_false_eq_true, tu_same, tu_eq, tu_ne, b_V, b_I, b_J]
  · exact m2.tr (fun a k u => by simp (disch := omega) only [tu_same, tu_eq, tu_ne]; exact F5 a k (by omega) (by omega) (by omega) (by omega) (by omega) (by omega) (by omega) (by omega))
  · exact n3.tr (fun a k u => by simp (disch := omega) only [tu_same, tu_eq, tu_ne]; exact q4 a k (by omega) (by omega) (by omega))
  · simp (disch := omega) only [tu_same, tu_eq, tu_ne]
    rw [q4 131 66 (by omega) (by omega) (by omega)]
    exact n4
  · simp (disch := omega) only [tu_same, tu_eq, tu_ne]
    rw [i164]
    show _ = (if pW ((chA ((s2P D b S l).1, E)).1 p) = 1 then nI (pX ((chA ((s2P D b S l).1, E)).1 p) / 4 ^ i % 4) else -1)
    by_cases cw : pW (S p) = 1
    · rw [if_pos ((ch4 p hp).mpr (by rw [g2 p]; exact cw)), ch5 p hp (by rw [g2 p]; exact cw), g3 p, (stF_T p).2.2.2.2.2]
      exact c2 p (by omega) hp cw i hi
    · rw [if_neg (fun u => cw (by rw [← g2 p]; exact (ch4 p hp).mp u)), show 800 * p + 4 * b + i = 800 * p + (4 * b + i) by omega, c4 p (4 * b + i) hp (by omega) (Or.inl cw), a4 _ _ (by omega) (by omega) (by omega)]
      exact hF p hp _ (by omega) (by omega)
  · simp (disch := omega) only [tu_same, tu_eq, tu_ne]
    rw [i164, c4 p k hp v (Or.inr (Or.inr (by omega))), a4 _ _ (by omega) (by omega) (by omega)]
    exact hF p hp k (by omega) v
  · simp (disch := omega) only [tu_same, tu_eq, tu_ne]
    rw [F5 a k (by omega) (by omega) (by omega) (by omega) (by omega) (by omega) (by omega) (by omega)]
    exact F3 a k v1 v2 (by omega) (by omega)
  · simp (disch := omega) only [tu_same, tu_eq, tu_ne]
    rw [i164, c4 p k u (by omega) (Or.inr (Or.inr (by omega))), a4 _ _ (by omega) (by omega) (by omega)]
