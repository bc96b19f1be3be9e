/-! run: a line's law and act (pure), and by the class -/
def inP (S : PS) (p : Nat) : Bool := decide (pW (S p) = 1)
def cnt (S : PS) : Nat := cntF (inP S) 6 0
def loP (D : Nat → TD) (S : PS) (p : Nat) : Bool := decide (pT (S p) ≠ 0) && decide ((dA (D (pT (S p) - 1))).toInt ≠ 0)
def frS (s : SP) : Bool := decide (pW s = 1 ∧ pT s = 0)
/-- the least law that a line breaks, or 0 -/
def lawP (D : Nat → TD) (mb : Nat) (S : PS) (E : ES) (L : LD) : Nat :=
  if L.2.2.1 = 16 then (if pW (S L.2.1) ≠ 0 then 1 else if 3 ≤ cnt S then 2 else if mb = 1 ∨ mb = (if L.2.2.2.1 = 0 then 2 else 3) then 3 else if anyF (loP D S) 6 0 = true then 6 else 0)
  else if L.2.2.1 = 17 then (if frS (S L.2.1) = true then (if pF (S L.2.1) = (if L.2.2.2.1 = 0 then 2 else 1) then 4 else 0) else 1)
  else if L.2.2.1 = 18 then (if frS (S L.2.1) = true then (if frM L.2.2.2.2 (D L.2.2.2.1) ≠ 0 ∧ frM L.2.2.2.2 (D L.2.2.2.1) ≠ pF (S L.2.1) then 5 else if (dC (D L.2.2.2.1)).toInt ≠ -1 ∧ (dC (D L.2.2.2.1)).toInt ≠ pD (S L.2.1) then 5 else if (dA (D L.2.2.2.1)).toInt ≠ 0 ∧ 1 < cnt S then 6 else 0) else 1)
  else (if (pW (S L.2.1) = 0 ∨ frS (S L.2.1) = true) ∧ eK (E L.2.2.2.1) = 0 then 0 else 1)
def actP (b : Nat) (S : PS) (E : ES) (L : LD) : PS × ES :=
  if L.2.2.1 = 16 then (updN S L.2.1 (1, (if L.2.2.2.1 = 0 then 1 else 2), 0, 0, 0, 0, 0), E)
  else if L.2.2.1 = 17 then (updN S L.2.1 (0, 0, 0, 0, 0, 0, 0), E)
  else if L.2.2.1 = 18 then (updN S L.2.1 (pW (S L.2.1), pF (S L.2.1), pD (S L.2.1), L.2.2.2.1 + 1, L.2.2.2.2, b, pX (S L.2.1)), E)
  else (updN S L.2.1 (4 + L.2.2.2.1, 0, 0, 0, 0, 0, 0), updN E L.2.2.2.1 (eH (E L.2.2.2.1), L.2.1 + 1, 0))
theorem cntF_le (P : Nat → Bool) : ∀ m j, cntF P m j ≤ m := by
  intro m
  induction m with
  | zero => intro j; exact Nat.le_refl _
  | succ m ih =>
    intro j
    have := ih (j + 1)
    show (if P j = true then 1 else 0) + cntF P m (j + 1) ≤ m + 1
    split <;> omega
theorem c_115 {A : Nat → Nat → Int32} {J : Nat → Nat → Int64} {τ : tm_Tu} {n b : Nat} {D : Nat → TD} {S : PS} (h : PsA A S) (hS : SOk n D b S) : F_115 [.ref 7] (mk A J τ) = some (some (.int (nI (cnt S))), mk A J τ) := by
  have key : ∀ m j acc, j + m = 6 → acc ≤ j → R_115 4 [(0, .ref 7), (1, .int (nI acc)), (2, .int (nI j))] [] (mk A J τ) = some (some (.int (nI (acc + cntF (inP S) m j))), mk A J τ) := by
    intro m
    induction m with
    | zero =>
      intro j acc hj ha
      rw [e_115_4]
      simp (disch := first | omega | (simp (disch := omega) only [n_ti, Int32.reduceToInt] <;> omega)) only [n_add, nl_add, nr_add, n_mul, nl_mul, nr_mul, n_sub, nr_dec, n_div, nr_sub_1, nr_sub_2, nr_sub_3, nr_sub_4, nr_sub_7, nr_sub_10, nr_sub_11, nr_sub_20, nr_sub_48, nr_sub_97, nl_sub_3, nl_sub_4, nl_sub_12, nl_sub_24, nl_sub_32, nr_div_2, nr_div_4, z_lt, z_le, z_eq, z_cl, n_ti, Int.toNat_natCast, Int32.reduceToInt, Int32.reduceToNatClampNeg, zc_add, zc_sub, zc_add_1, zc_add_2, zc_add_3, zc_add_4, zc_add_8, zc_add_10, zc_add_12, zc_add_16, zc_add_20, zc_sub_1, zc_sub_2, zc_sub_4, zc_sub_10, zc_sub_20, zc_sub_48, zc_sub_97, zc_mul_4, t_ltZ, f_ltZ, t_leZ, f_leZ, t_eqZ, f_eqZ, t_ltN, f_ltN, t_leN, f_leN, t_eqN, f_eqN, ↓reduceIte, and_true, true_and, and_false, false_and, and_self, or_true, true_or, or_false, false_or, or_self, not_true_eq_false, not_false_eq_true, tu_same, tu_eq, tu_ne, b_V, b_I, b_J]
      rfl
    | succ m ih =>
      intro j acc hj ha
      have hp : j < 6 := by omega
      obtain ⟨h0, -⟩ := h j hp
      have w := (hS j hp).1
      have k1 := j_1 hp τ
      have k2 := j_2 hp
      rw [e_115_4]
      by_cases c : pW (S j) = 1
      · have e : cntF (inP S) (m + 1) j = 1 + cntF (inP S) m (j + 1) := by
          show (if inP S j = true then 1 else 0) + _ = _
          rw [if_pos (by unfold inP; simp [c])]
        rw [e, show acc + (1 + cntF (inP S) m (j + 1)) = acc + 1 + cntF (inP S) m (j + 1) by omega]
        rw [← ih (j + 1) (acc + 1) (by omega) (by omega)]
        rw [c] at h0
        simp (disch := first | omega | (simp (disch := omega) only [n_ti, Int32.reduceToInt] <;> omega)) only [k1, k2, h0, e_115_26, n_add, nl_add, nr_add, n_mul, nl_mul, nr_mul, n_sub, nr_dec, n_div, nr_sub_1, nr_sub_2, nr_sub_3, nr_sub_4, nr_sub_7, nr_sub_10, nr_sub_11, nr_sub_20, nr_sub_48, nr_sub_97, nl_sub_3, nl_sub_4, nl_sub_12, nl_sub_24, nl_sub_32, nr_div_2, nr_div_4, z_lt, z_le, z_eq, z_cl, n_ti, Int.toNat_natCast, Int32.reduceToInt, Int32.reduceToNatClampNeg, zc_add, zc_sub, zc_add_1, zc_add_2, zc_add_3, zc_add_4, zc_add_8, zc_add_10, zc_add_12, zc_add_16, zc_add_20, zc_sub_1, zc_sub_2, zc_sub_4, zc_sub_10, zc_sub_20, zc_sub_48, zc_sub_97, zc_mul_4, t_ltZ, f_ltZ, t_leZ, f_leZ, t_eqZ, f_eqZ, t_ltN, f_ltN, t_leN, f_leN, t_eqN, f_eqN, ↓reduceIte, and_true, true_and, and_false, false_and, and_self, or_true, true_or, or_false, false_or, or_self, not_true_eq_false, not_false_eq_true, tu_same, tu_eq, tu_ne, b_V, b_I, b_J]
      · have e : cntF (inP S) (m + 1) j = cntF (inP S) m (j + 1) := by
          show (if inP S j = true then 1 else 0) + _ = _
          rw [if_neg (by unfold inP; simp [c])]
          omega
        rw [e, ← ih (j + 1) acc (by omega) (by omega)]
        simp (disch := first | omega | (simp (disch := omega) only [n_ti, Int32.reduceToInt] <;> omega)) only [k1, k2, h0, e_115_26, n_add, nl_add, nr_add, n_mul, nl_mul, nr_mul, n_sub, nr_dec, n_div, nr_sub_1, nr_sub_2, nr_sub_3, nr_sub_4, nr_sub_7, nr_sub_10, nr_sub_11, nr_sub_20, nr_sub_48, nr_sub_97, nl_sub_3, nl_sub_4, nl_sub_12, nl_sub_24, nl_sub_32, nr_div_2, nr_div_4, z_lt, z_le, z_eq, z_cl, n_ti, Int.toNat_natCast, Int32.reduceToInt, Int32.reduceToNatClampNeg, zc_add, zc_sub, zc_add_1, zc_add_2, zc_add_3, zc_add_4, zc_add_8, zc_add_10, zc_add_12, zc_add_16, zc_add_20, zc_sub_1, zc_sub_2, zc_sub_4, zc_sub_10, zc_sub_20, zc_sub_48, zc_sub_97, zc_mul_4, t_ltZ, f_ltZ, t_leZ, f_leZ, t_eqZ, f_eqZ, t_ltN, f_ltN, t_leN, f_leN, t_eqN, f_eqN, ↓reduceIte, and_true, true_and, and_false, false_and, and_self, or_true, true_or, or_false, false_or, or_self, not_true_eq_false, not_false_eq_true, tu_same, tu_eq, tu_ne, b_V, b_I, b_J]
  rw [e_115]
  have k0 := key 6 0 0 rfl (by omega)
  rw [Nat.zero_add] at k0
  exact k0
theorem dA_z {D : TD} (hD : TDok D) : dA D = 0 ∨ dA D = 1 := by
  rcases hD.2.2.2.2.2.2.2.2.2 with e | e
  · exact Or.inl (z_eq.mpr e)
  · exact Or.inr (z_eq.mpr e)
theorem c_117 {A : Nat → Nat → Int32} {J : Nat → Nat → Int64} {τ : tm_Tu} {cb n b : Nat} {D : Nat → TD} {S : PS} (h : PsA A S) (hS : SOk n D b S) (hb : isB cb) (hn : n ≤ 12) (hD : DOk n D) (hA : BkA A cb n D) : F_117 [.ref 7, .ref cb] (mk A J τ) = some (some (.int (b2 (anyF (loP D S) 6 0))), mk A J τ) := by
  obtain ⟨b1, b2', b3, b4⟩ := bk_1 hb τ
  have key : ∀ m j, j + m = 6 → R_117 2 [(0, .ref 7), (1, .ref cb), (2, .int (nI j))] [] (mk A J τ) = some (some (.int (b2 (anyF (loP D S) m j))), mk A J τ) := by
    intro m
    induction m with
    | zero =>
      intro j hj
      rw [e_117_2]
      simp (disch := first | omega | (simp (disch := omega) only [n_ti, Int32.reduceToInt] <;> omega)) only [n_add, nl_add, nr_add, n_mul, nl_mul, nr_mul, n_sub, nr_dec, n_div, nr_sub_1, nr_sub_2, nr_sub_3, nr_sub_4, nr_sub_7, nr_sub_10, nr_sub_11, nr_sub_20, nr_sub_48, nr_sub_97, nl_sub_3, nl_sub_4, nl_sub_12, nl_sub_24, nl_sub_32, nr_div_2, nr_div_4, z_lt, z_le, z_eq, z_cl, n_ti, Int.toNat_natCast, Int32.reduceToInt, Int32.reduceToNatClampNeg, zc_add, zc_sub, zc_add_1, zc_add_2, zc_add_3, zc_add_4, zc_add_8, zc_add_10, zc_add_12, zc_add_16, zc_add_20, zc_sub_1, zc_sub_2, zc_sub_4, zc_sub_10, zc_sub_20, zc_sub_48, zc_sub_97, zc_mul_4, t_ltZ, f_ltZ, t_leZ, f_leZ, t_eqZ, f_eqZ, t_ltN, f_ltN, t_leN, f_leN, t_eqN, f_eqN, ↓reduceIte, and_true, true_and, and_false, false_and, and_self, or_true, true_or, or_false, false_or, or_self, not_true_eq_false, not_false_eq_true, tu_same, tu_eq, tu_ne, b_V, b_I, b_J]
      rfl
    | succ m ih =>
      intro j hj
      have hp : j < 6 := by omega
      have hj3 := (h j hp).2.2.2.1
      obtain ⟨w1, w2, w3, w4, w5, w6, -⟩ := hS j hp
      have k1 := j_1 hp τ
      have k2 := j_2 hp
      have f := c_116 (J := J) (τ := τ) hp (h j hp) w1 (by omega) (fun u => (w6 u).1)
      rw [e_117_2]
      by_cases c : pT (S j) = 0
      · have e : anyF (loP D S) (m + 1) j = anyF (loP D S) m (j + 1) := if_neg (by unfold loP; simp [c])
        have e2 : b2 (decide (pT (S j) ≠ 0)) = 0 := by simp [c, b2]
        rw [e2] at f
        rw [e, ← ih (j + 1) (by omega)]
        simp (disch := first | omega | (simp (disch := omega) only [n_ti, Int32.reduceToInt] <;> omega)) only [k1, k2, f, e_117_19, e_117_50, n_add, nl_add, nr_add, n_mul, nl_mul, nr_mul, n_sub, nr_dec, n_div, nr_sub_1, nr_sub_2, nr_sub_3, nr_sub_4, nr_sub_7, nr_sub_10, nr_sub_11, nr_sub_20, nr_sub_48, nr_sub_97, nl_sub_3, nl_sub_4, nl_sub_12, nl_sub_24, nl_sub_32, nr_div_2, nr_div_4, z_lt, z_le, z_eq, z_cl, n_ti, Int.toNat_natCast, Int32.reduceToInt, Int32.reduceToNatClampNeg, zc_add, zc_sub, zc_add_1, zc_add_2, zc_add_3, zc_add_4, zc_add_8, zc_add_10, zc_add_12, zc_add_16, zc_add_20, zc_sub_1, zc_sub_2, zc_sub_4, zc_sub_10, zc_sub_20, zc_sub_48, zc_sub_97, zc_mul_4, t_ltZ, f_ltZ, t_leZ, f_leZ, t_eqZ, f_eqZ, t_ltN, f_ltN, t_leN, f_leN, t_eqN, f_eqN, ↓reduceIte, and_true, true_and, and_false, false_and, and_self, or_true, true_or, or_false, false_or, or_self, not_true_eq_false, not_false_eq_true, tu_same, tu_eq, tu_ne, b_V, b_I, b_J]
      · have e2 : b2 (decide (pT (S j) ≠ 0)) = 1 := by simp [c, b2]
        rw [e2] at f
        rw [tI_s c] at hj3
        have ht : pT (S j) - 1 < n := by omega
        have k5 := bk_2 hb (show pT (S j) - 1 < 12 by omega) τ
        have hT : isT (cb + 2 + 3 * (pT (S j) - 1)) := ⟨cb, _, hb, by omega, rfl⟩
        have k6 := (bk_3 hT τ).1
        have h8 := (hA.2 _ ht).2.2.2.2.2.1
        have a84 := s_84t (J := J) (τ := τ) hb hn hA.1 ht
        rcases dA_z (hD _ ht) with e | e
        · have e3 : anyF (loP D S) (m + 1) j = anyF (loP D S) m (j + 1) := if_neg (by unfold loP; simp [e])
          rw [e] at h8
          rw [e3, ← ih (j + 1) (by omega)]
          simp (disch := first | omega | (simp (disch := omega) only [n_ti, Int32.reduceToInt] <;> omega)) only [k1, k2, f, e_117_19, hj3, b1, a84, e_117_30, b2', b3, b4, k5, k6, h8, e_117_50, n_add, nl_add, nr_add, n_mul, nl_mul, nr_mul, n_sub, nr_dec, n_div, nr_sub_1, nr_sub_2, nr_sub_3, nr_sub_4, nr_sub_7, nr_sub_10, nr_sub_11, nr_sub_20, nr_sub_48, nr_sub_97, nl_sub_3, nl_sub_4, nl_sub_12, nl_sub_24, nl_sub_32, nr_div_2, nr_div_4, z_lt, z_le, z_eq, z_cl, n_ti, Int.toNat_natCast, Int32.reduceToInt, Int32.reduceToNatClampNeg, zc_add, zc_sub, zc_add_1, zc_add_2, zc_add_3, zc_add_4, zc_add_8, zc_add_10, zc_add_12, zc_add_16, zc_add_20, zc_sub_1, zc_sub_2, zc_sub_4, zc_sub_10, zc_sub_20, zc_sub_48, zc_sub_97, zc_mul_4, t_ltZ, f_ltZ, t_leZ, f_leZ, t_eqZ, f_eqZ, t_ltN, f_ltN, t_leN, f_leN, t_eqN, f_eqN, ↓reduceIte, and_true, true_and, and_false, false_and, and_self, or_true, true_or, or_false, false_or, or_self, not_true_eq_false, not_false_eq_true, tu_same, tu_eq, tu_ne, b_V, b_I, b_J]
        · have e3 : anyF (loP D S) (m + 1) j = true := if_pos (by unfold loP; simp [e, c])
          rw [e] at h8
          rw [e3, b2t]
          simp (disch := first | omega | (simp (disch := omega) only [n_ti, Int32.reduceToInt] <;> omega)) only [k1, k2, f, e_117_19, hj3, b1, a84, e_117_30, b2', b3, b4, k5, k6, h8, e_117_50, n_add, nl_add, nr_add, n_mul, nl_mul, nr_mul, n_sub, nr_dec, n_div, nr_sub_1, nr_sub_2, nr_sub_3, nr_sub_4, nr_sub_7, nr_sub_10, nr_sub_11, nr_sub_20, nr_sub_48, nr_sub_97, nl_sub_3, nl_sub_4, nl_sub_12, nl_sub_24, nl_sub_32, nr_div_2, nr_div_4, z_lt, z_le, z_eq, z_cl, n_ti, Int.toNat_natCast, Int32.reduceToInt, Int32.reduceToNatClampNeg, zc_add, zc_sub, zc_add_1, zc_add_2, zc_add_3, zc_add_4, zc_add_8, zc_add_10, zc_add_12, zc_add_16, zc_add_20, zc_sub_1, zc_sub_2, zc_sub_4, zc_sub_10, zc_sub_20, zc_sub_48, zc_sub_97, zc_mul_4, t_ltZ, f_ltZ, t_leZ, f_leZ, t_eqZ, f_eqZ, t_ltN, f_ltN, t_leN, f_leN, t_eqN, f_eqN, ↓reduceIte, and_true, true_and, and_false, false_and, and_self, or_true, true_or, or_false, false_or, or_self, not_true_eq_false, not_false_eq_true, tu_same, tu_eq, tu_ne, b_V, b_I, b_J]
  rw [e_117]
  exact key 6 0 (by omega)
/-- the frame of a line -/
def fLn (A A' : Nat → Nat → Int32) : Prop := ∀ a k, ¬ (15 ≤ a ∧ a ≤ 23) → A' a k = A a k
set_option maxHeartbeats 1000000 in
theorem c_118 {A : Nat → Nat → Int32} {J : Nat → Nat → Int64} {τ : tm_Tu} {cb n b p mb x : Nat} {D : Nat → TD} {S : PS} {E : ES} {L : LD} (h : PsA A S) (hS : SOk n D b S) (hp : p < 6) (hb : isB cb) (hn : n ≤ 12) (hD : DOk n D) (hA : BkA A cb n D) (h75 : A 7 5 = nI mb) (hmb : mb ≤ 3) (hx : x ≤ 1) (hL : L.2.1 = p ∧ L.2.2.1 = 16 ∧ L.2.2.2.1 = x) : ∃ A', F_118 [.ref 7, .ref cb, .ref (18 + p), .int (nI x)] (mk A J τ) = some (some (.int (nI (lawP D mb S E L))), mk A' J τ) ∧ fLn A A' ∧ (∀ a k, a < 18 → A' a k = A a k) ∧ ((lawP D mb S E L ≠ 0 ∧ A' = A) ∨ (lawP D mb S E L = 0 ∧ PsA A' (updN S p (1, (if x = 0 then 1 else 2), 0, 0, 0, 0, 0)))) := by
  obtain ⟨q1, q2, q3⟩ := hL
  have k2 := j_2 hp
  have h0 := (h p hp).1
  have w := (hS p hp).1
  have hc := cntF_le (inP S) 6 0
  have hc' : cnt S ≤ 6 := hc
  have f115 := c_115 (J := J) (τ := τ) h hS
  have f117 := c_117 (J := J) (τ := τ) h hS hb hn hD hA
  have eL : lawP D mb S E L = (if pW (S p) ≠ 0 then 1 else if 3 ≤ cnt S then 2 else if mb = 1 ∨ mb = (if x = 0 then 2 else 3) then 3 else if anyF (loP D S) 6 0 = true then 6 else 0) := by
    unfold lawP
    rw [if_pos q2, q1, q3]
  rw [eL, e_118]
  by_cases c1 : pW (S p) = 0
  case neg =>
    rw [if_pos c1]
    refine ⟨A, ?_, fun _ _ _ => rfl, fun _ _ _ => rfl, Or.inl ⟨by omega, rfl⟩⟩
    simp (disch := first | omega | (simp (disch := omega) only [n_ti, Int32.reduceToInt] <;> omega)) only [k2, h0, n_add, nl_add, nr_add, n_mul, nl_mul, nr_mul, n_sub, nr_dec, n_div, nr_sub_1, nr_sub_2, nr_sub_3, nr_sub_4, nr_sub_7, nr_sub_10, nr_sub_11, nr_sub_20, nr_sub_48, nr_sub_97, nl_sub_3, nl_sub_4, nl_sub_12, nl_sub_24, nl_sub_32, nr_div_2, nr_div_4, z_lt, z_le, z_eq, z_cl, n_ti, Int.toNat_natCast, Int32.reduceToInt, Int32.reduceToNatClampNeg, zc_add, zc_sub, zc_add_1, zc_add_2, zc_add_3, zc_add_4, zc_add_8, zc_add_10, zc_add_12, zc_add_16, zc_add_20, zc_sub_1, zc_sub_2, zc_sub_4, zc_sub_10, zc_sub_20, zc_sub_48, zc_sub_97, zc_mul_4, t_ltZ, f_ltZ, t_leZ, f_leZ, t_eqZ, f_eqZ, t_ltN, f_ltN, t_leN, f_leN, t_eqN, f_eqN, ↓reduceIte, and_true, true_and, and_false, false_and, and_self, or_true, true_or, or_false, false_or, or_self, not_true_eq_false, not_false_eq_true, tu_same, tu_eq, tu_ne, b_V, b_I, b_J]
    rfl
  rw [if_neg (show ¬ pW (S p) ≠ 0 by omega)]
  rw [c1] at h0
  by_cases c2 : 3 ≤ cnt S
  · rw [if_pos c2]
    refine ⟨A, ?_, fun _ _ _ => rfl, fun _ _ _ => rfl, Or.inl ⟨by omega, rfl⟩⟩
    simp (disch := first | omega | (simp (disch := omega) only [n_ti, Int32.reduceToInt] <;> omega)) only [k2, h0, f115, e_118_13, n_add, nl_add, nr_add, n_mul, nl_mul, nr_mul, n_sub, nr_dec, n_div, nr_sub_1, nr_sub_2, nr_sub_3, nr_sub_4, nr_sub_7, nr_sub_10, nr_sub_11, nr_sub_20, nr_sub_48, nr_sub_97, nl_sub_3, nl_sub_4, nl_sub_12, nl_sub_24, nl_sub_32, nr_div_2, nr_div_4, z_lt, z_le, z_eq, z_cl, n_ti, Int.toNat_natCast, Int32.reduceToInt, Int32.reduceToNatClampNeg, zc_add, zc_sub, zc_add_1, zc_add_2, zc_add_3, zc_add_4, zc_add_8, zc_add_10, zc_add_12, zc_add_16, zc_add_20, zc_sub_1, zc_sub_2, zc_sub_4, zc_sub_10, zc_sub_20, zc_sub_48, zc_sub_97, zc_mul_4, t_ltZ, f_ltZ, t_leZ, f_leZ, t_eqZ, f_eqZ, t_ltN, f_ltN, t_leN, f_leN, t_eqN, f_eqN, ↓reduceIte, and_true, true_and, and_false, false_and, and_self, or_true, true_or, or_false, false_or, or_self, not_true_eq_false, not_false_eq_true, tu_same, tu_eq, tu_ne, b_V, b_I, b_J]
    rfl
  rw [if_neg c2]
  by_cases c3 : mb = 1 ∨ mb = (if x = 0 then 2 else 3)
  · rw [if_pos c3]
    refine ⟨A, ?_, fun _ _ _ => rfl, fun _ _ _ => rfl, Or.inl ⟨by omega, rfl⟩⟩
    rcases c3 with e | e
    · subst e
      simp (disch := first | omega | (simp (disch := omega) only [n_ti, Int32.reduceToInt] <;> omega)) only [k2, h0, f115, e_118_13, h75, e_118_43, n_add, nl_add, nr_add, n_mul, nl_mul, nr_mul, n_sub, nr_dec, n_div, nr_sub_1, nr_sub_2, nr_sub_3, nr_sub_4, nr_sub_7, nr_sub_10, nr_sub_11, nr_sub_20, nr_sub_48, nr_sub_97, nl_sub_3, nl_sub_4, nl_sub_12, nl_sub_24, nl_sub_32, nr_div_2, nr_div_4, z_lt, z_le, z_eq, z_cl, n_ti, Int.toNat_natCast, Int32.reduceToInt, Int32.reduceToNatClampNeg, zc_add, zc_sub, zc_add_1, zc_add_2, zc_add_3, zc_add_4, zc_add_8, zc_add_10, zc_add_12, zc_add_16, zc_add_20, zc_sub_1, zc_sub_2, zc_sub_4, zc_sub_10, zc_sub_20, zc_sub_48, zc_sub_97, zc_mul_4, t_ltZ, f_ltZ, t_leZ, f_leZ, t_eqZ, f_eqZ, t_ltN, f_ltN, t_leN, f_leN, t_eqN, f_eqN, ↓reduceIte, and_true, true_and, and_false, false_and, and_self, or_true, true_or, or_false, false_or, or_self, not_true_eq_false, not_false_eq_true, tu_same, tu_eq, tu_ne, b_V, b_I, b_J]
      rfl
    · by_cases d : x = 0
      · rw [if_pos d] at e
        subst e d
        simp (disch := first | omega | (simp (disch := omega) only [n_ti, Int32.reduceToInt] <;> omega)) only [k2, h0, f115, e_118_13, h75, e_118_40, e_118_43, n_add, nl_add, nr_add, n_mul, nl_mul, nr_mul, n_sub, nr_dec, n_div, nr_sub_1, nr_sub_2, nr_sub_3, nr_sub_4, nr_sub_7, nr_sub_10, nr_sub_11, nr_sub_20, nr_sub_48, nr_sub_97, nl_sub_3, nl_sub_4, nl_sub_12, nl_sub_24, nl_sub_32, nr_div_2, nr_div_4, z_lt, z_le, z_eq, z_cl, n_ti, Int.toNat_natCast, Int32.reduceToInt, Int32.reduceToNatClampNeg, zc_add, zc_sub, zc_add_1, zc_add_2, zc_add_3, zc_add_4, zc_add_8, zc_add_10, zc_add_12, zc_add_16, zc_add_20, zc_sub_1, zc_sub_2, zc_sub_4, zc_sub_10, zc_sub_20, zc_sub_48, zc_sub_97, zc_mul_4, t_ltZ, f_ltZ, t_leZ, f_leZ, t_eqZ, f_eqZ, t_ltN, f_ltN, t_leN, f_leN, t_eqN, f_eqN, ↓reduceIte, and_true, true_and, and_false, false_and, and_self, or_true, true_or, or_false, false_or, or_self, not_true_eq_false, not_false_eq_true, tu_same, tu_eq, tu_ne, b_V, b_I, b_J]
        rfl
      · rw [if_neg d] at e
        subst e
        simp (disch := first | omega | (simp (disch := omega) only [n_ti, Int32.reduceToInt] <;> omega)) only [k2, h0, f115, e_118_13, h75, e_118_40, e_118_43, n_add, nl_add, nr_add, n_mul, nl_mul, nr_mul, n_sub, nr_dec, n_div, nr_sub_1, nr_sub_2, nr_sub_3, nr_sub_4, nr_sub_7, nr_sub_10, nr_sub_11, nr_sub_20, nr_sub_48, nr_sub_97, nl_sub_3, nl_sub_4, nl_sub_12, nl_sub_24, nl_sub_32, nr_div_2, nr_div_4, z_lt, z_le, z_eq, z_cl, n_ti, Int.toNat_natCast, Int32.reduceToInt, Int32.reduceToNatClampNeg, zc_add, zc_sub, zc_add_1, zc_add_2, zc_add_3, zc_add_4, zc_add_8, zc_add_10, zc_add_12, zc_add_16, zc_add_20, zc_sub_1, zc_sub_2, zc_sub_4, zc_sub_10, zc_sub_20, zc_sub_48, zc_sub_97, zc_mul_4, t_ltZ, f_ltZ, t_leZ, f_leZ, t_eqZ, f_eqZ, t_ltN, f_ltN, t_leN, f_leN, t_eqN, f_eqN, ↓reduceIte, and_true, true_and, and_false, false_and, and_self, or_true, true_or, or_false, false_or, or_self, not_true_eq_false, not_false_eq_true, tu_same, tu_eq, tu_ne, b_V, b_I, b_J]
        rfl
  rw [if_neg c3]
  have pre : F_118 [.ref 7, .ref cb, .ref (18 + p), .int (nI x)] (mk A J τ) = R_118 50 [(2, .ref (18 + p)), (3, .int (nI x))] [.int (b2 (anyF (loP D S) 6 0))] (mk A J τ) := by
    have n1 : mb ≠ 1 := fun e => c3 (Or.inl e)
    rw [e_118]
    by_cases d : x = 0
    · have n2 : mb ≠ 2 := fun e => c3 (Or.inr (by rw [if_pos d]; exact e))
      subst d
      simp (disch := first | omega | (simp (disch := omega) only [n_ti, Int32.reduceToInt] <;> omega)) only [k2, h0, f115, e_118_13, h75, e_118_40, f117, n_add, nl_add, nr_add, n_mul, nl_mul, nr_mul, n_sub, nr_dec, n_div, nr_sub_1, nr_sub_2, nr_sub_3, nr_sub_4, nr_sub_7, nr_sub_10, nr_sub_11, nr_sub_20, nr_sub_48, nr_sub_97, nl_sub_3, nl_sub_4, nl_sub_12, nl_sub_24, nl_sub_32, nr_div_2, nr_div_4, z_lt, z_le, z_eq, z_cl, n_ti, Int.toNat_natCast, Int32.reduceToInt, Int32.reduceToNatClampNeg, zc_add, zc_sub, zc_add_1, zc_add_2, zc_add_3, zc_add_4, zc_add_8, zc_add_10, zc_add_12, zc_add_16, zc_add_20, zc_sub_1, zc_sub_2, zc_sub_4, zc_sub_10, zc_sub_20, zc_sub_48, zc_sub_97, zc_mul_4, t_ltZ, f_ltZ, t_leZ, f_leZ, t_eqZ, f_eqZ, t_ltN, f_ltN, t_leN, f_leN, t_eqN, f_eqN, ↓reduceIte, and_true, true_and, and_false, false_and, and_self, or_true, true_or, or_false, false_or, or_self, not_true_eq_false, not_false_eq_true, tu_same, tu_eq, tu_ne, b_V, b_I, b_J]
    · have n2 : mb ≠ 3 := fun e => c3 (Or.inr (by rw [if_neg d]; exact e))
      simp (disch := first | omega | (simp (disch := omega) only [n_ti, Int32.reduceToInt] <;> omega)) only [k2, h0, f115, e_118_13, h75, e_118_40, f117, n_add, nl_add, nr_add, n_mul, nl_mul, nr_mul, n_sub, nr_dec, n_div, nr_sub_1, nr_sub_2, nr_sub_3, nr_sub_4, nr_sub_7, nr_sub_10, nr_sub_11, nr_sub_20, nr_sub_48, nr_sub_97, nl_sub_3, nl_sub_4, nl_sub_12, nl_sub_24, nl_sub_32, nr_div_2, nr_div_4, z_lt, z_le, z_eq, z_cl, n_ti, Int.toNat_natCast, Int32.reduceToInt, Int32.reduceToNatClampNeg, zc_add, zc_sub, zc_add_1, zc_add_2, zc_add_3, zc_add_4, zc_add_8, zc_add_10, zc_add_12, zc_add_16, zc_add_20, zc_sub_1, zc_sub_2, zc_sub_4, zc_sub_10, zc_sub_20, zc_sub_48, zc_sub_97, zc_mul_4, t_ltZ, f_ltZ, t_leZ, f_leZ, t_eqZ, f_eqZ, t_ltN, f_ltN, t_leN, f_leN, t_eqN, f_eqN, ↓reduceIte, and_true, true_and, and_false, false_and, and_self, or_true, true_or, or_false, false_or, or_self, not_true_eq_false, not_false_eq_true, tu_same, tu_eq, tu_ne, b_V, b_I, b_J]
  rw [← e_118, pre]
  cases hl : anyF (loP D S) 6 0 with
  | true =>
    rw [if_pos rfl]
    refine ⟨A, ?_, fun _ _ _ => rfl, fun _ _ _ => rfl, Or.inl ⟨by omega, rfl⟩⟩
    rw [e_118_50, b2t]
    simp (disch := first | omega | (simp (disch := omega) only [n_ti, Int32.reduceToInt] <;> omega)) only [n_add, nl_add, nr_add, n_mul, nl_mul, nr_mul, n_sub, nr_dec, n_div, nr_sub_1, nr_sub_2, nr_sub_3, nr_sub_4, nr_sub_7, nr_sub_10, nr_sub_11, nr_sub_20, nr_sub_48, nr_sub_97, nl_sub_3, nl_sub_4, nl_sub_12, nl_sub_24, nl_sub_32, nr_div_2, nr_div_4, z_lt, z_le, z_eq, z_cl, n_ti, Int.toNat_natCast, Int32.reduceToInt, Int32.reduceToNatClampNeg, zc_add, zc_sub, zc_add_1, zc_add_2, zc_add_3, zc_add_4, zc_add_8, zc_add_10, zc_add_12, zc_add_16, zc_add_20, zc_sub_1, zc_sub_2, zc_sub_4, zc_sub_10, zc_sub_20, zc_sub_48, zc_sub_97, zc_mul_4, t_ltZ, f_ltZ, t_leZ, f_leZ, t_eqZ, f_eqZ, t_ltN, f_ltN, t_leN, f_leN, t_eqN, f_eqN, ↓reduceIte, and_true, true_and, and_false, false_and, and_self, or_true, true_or, or_false, false_or, or_self, not_true_eq_false, not_false_eq_true, tu_same, tu_eq, tu_ne, b_V, b_I, b_J]
    rfl
  | false =>
    rw [if_neg Bool.false_ne_true]
    obtain ⟨A1, g1, g2, g3⟩ := c_111 (A := A) (J := J) (τ := τ) (w := 1) hp
    have g1' : F_111 [.ref (18 + p), .int 1] (mk A J τ) = some (none, mk A1 J τ) := g1
    refine ⟨tm_u A1 (18 + p) 1 (nI (if x = 0 then 1 else 2)), ?_, fun a k u => by simp (disch := omega) only [tu_same, tu_eq, tu_ne]; exact g3 a k (by omega), fun a k u => by simp (disch := omega) only [tu_same, tu_eq, tu_ne]; exact g3 a k (by omega), Or.inr ⟨rfl, h.up (fun a k u v z => by simp (disch := omega) only [tu_same, tu_eq, tu_ne]; exact g3 a k z) ?_⟩⟩
    · rw [e_118_50, b2f]
      by_cases d : x = 0
      · subst d
        simp (disch := first | omega | (simp (disch := omega) only [n_ti, Int32.reduceToInt] <;> omega)) only [k2, g1', e_118_61, e_118_71, n_add, nl_add, nr_add, n_mul, nl_mul, nr_mul, n_sub, nr_dec, n_div, nr_sub_1, nr_sub_2, nr_sub_3, nr_sub_4, nr_sub_7, nr_sub_10, nr_sub_11, nr_sub_20, nr_sub_48, nr_sub_97, nl_sub_3, nl_sub_4, nl_sub_12, nl_sub_24, nl_sub_32, nr_div_2, nr_div_4, z_lt, z_le, z_eq, z_cl, n_ti, Int.toNat_natCast, Int32.reduceToInt, Int32.reduceToNatClampNeg, zc_add, zc_sub, zc_add_1, zc_add_2, zc_add_3, zc_add_4, zc_add_8, zc_add_10, zc_add_12, zc_add_16, zc_add_20, zc_sub_1, zc_sub_2, zc_sub_4, zc_sub_10, zc_sub_20, zc_sub_48, zc_sub_97, zc_mul_4, t_ltZ, f_ltZ, t_leZ, f_leZ, t_eqZ, f_eqZ, t_ltN, f_ltN, t_leN, f_leN, t_eqN, f_eqN, ↓reduceIte, and_true, true_and, and_false, false_and, and_self, or_true, true_or, or_false, false_or, or_self, not_true_eq_false, not_false_eq_true, tu_same, tu_eq, tu_ne, b_V, b_I, b_J]
        rfl
      · rw [if_neg d]
        simp (disch := first | omega | (simp (disch := omega) only [n_ti, Int32.reduceToInt] <;> omega)) only [k2, g1', e_118_61, e_118_71, n_add, nl_add, nr_add, n_mul, nl_mul, nr_mul, n_sub, nr_dec, n_div, nr_sub_1, nr_sub_2, nr_sub_3, nr_sub_4, nr_sub_7, nr_sub_10, nr_sub_11, nr_sub_20, nr_sub_48, nr_sub_97, nl_sub_3, nl_sub_4, nl_sub_12, nl_sub_24, nl_sub_32, nr_div_2, nr_div_4, z_lt, z_le, z_eq, z_cl, n_ti, Int.toNat_natCast, Int32.reduceToInt, Int32.reduceToNatClampNeg, zc_add, zc_sub, zc_add_1, zc_add_2, zc_add_3, zc_add_4, zc_add_8, zc_add_10, zc_add_12, zc_add_16, zc_add_20, zc_sub_1, zc_sub_2, zc_sub_4, zc_sub_10, zc_sub_20, zc_sub_48, zc_sub_97, zc_mul_4, t_ltZ, f_ltZ, t_leZ, f_leZ, t_eqZ, f_eqZ, t_ltN, f_ltN, t_leN, f_leN, t_eqN, f_eqN, ↓reduceIte, and_true, true_and, and_false, false_and, and_self, or_true, true_or, or_false, false_or, or_self, not_true_eq_false, not_false_eq_true, tu_same, tu_eq, tu_ne, b_V, b_I, b_J]
        rfl
    · obtain ⟨y0, y1, y2, y3, y4, y5, y6⟩ := g2
      exact ⟨by simp (disch := omega) only [y0, tu_same, tu_eq, tu_ne], by simp (disch := omega) only [tu_same, tu_eq, tu_ne], by simp (disch := omega) only [y2, tu_same, tu_eq, tu_ne], by simp (disch := omega) only [y3, tu_same, tu_eq, tu_ne], by simp (disch := omega) only [y4, tu_same, tu_eq, tu_ne], by simp (disch := omega) only [y5, tu_same, tu_eq, tu_ne], by simp (disch := omega) only [y6, tu_same, tu_eq, tu_ne]⟩
theorem c_120 {A : Nat → Nat → Int32} {J : Nat → Nat → Int64} {τ : tm_Tu} {n b p mb x : Nat} {D : Nat → TD} {S : PS} {E : ES} {L : LD} (h : PsA A S) (hS : SOk n D b S) (hp : p < 6) (hn : n ≤ 12) (hx : x ≤ 1) (hL : L.2.1 = p ∧ L.2.2.1 = 17 ∧ L.2.2.2.1 = x) : ∃ A', F_120 [.ref 7, .ref (18 + p), .int (nI x)] (mk A J τ) = some (some (.int (nI (lawP D mb S E L))), mk A' J τ) ∧ fLn A A' ∧ (∀ a k, a < 18 → A' a k = A a k) ∧ ((lawP D mb S E L ≠ 0 ∧ A' = A) ∨ (lawP D mb S E L = 0 ∧ PsA A' (updN S p (0, 0, 0, 0, 0, 0, 0)))) := by
  obtain ⟨q1, q2, q3⟩ := hL
  have k2 := j_2 hp
  have h1 := (h p hp).2.1
  obtain ⟨w1, w2, w3, w4, w5, w6, -⟩ := hS p hp
  have f := c_119 (J := J) (τ := τ) hp (h p hp) w1 (by omega)
  have eL : lawP D mb S E L = (if frS (S p) = true then (if pF (S p) = (if x = 0 then 2 else 1) then 4 else 0) else 1) := by
    unfold lawP
    rw [if_neg (by omega), if_pos q2, q1, q3]
  rw [eL, e_120]
  unfold frS
  cases hf : decide (pW (S p) = 1 ∧ pT (S p) = 0) with
  | false =>
    rw [hf, b2f] at f
    rw [if_neg Bool.false_ne_true]
    refine ⟨A, ?_, fun _ _ _ => rfl, fun _ _ _ => rfl, Or.inl ⟨by omega, rfl⟩⟩
    simp (disch := first | omega | (simp (disch := omega) only [n_ti, Int32.reduceToInt] <;> omega)) only [k2, f, e_120_4, n_add, nl_add, nr_add, n_mul, nl_mul, nr_mul, n_sub, nr_dec, n_div, nr_sub_1, nr_sub_2, nr_sub_3, nr_sub_4, nr_sub_7, nr_sub_10, nr_sub_11, nr_sub_20, nr_sub_48, nr_sub_97, nl_sub_3, nl_sub_4, nl_sub_12, nl_sub_24, nl_sub_32, nr_div_2, nr_div_4, z_lt, z_le, z_eq, z_cl, n_ti, Int.toNat_natCast, Int32.reduceToInt, Int32.reduceToNatClampNeg, zc_add, zc_sub, zc_add_1, zc_add_2, zc_add_3, zc_add_4, zc_add_8, zc_add_10, zc_add_12, zc_add_16, zc_add_20, zc_sub_1, zc_sub_2, zc_sub_4, zc_sub_10, zc_sub_20, zc_sub_48, zc_sub_97, zc_mul_4, t_ltZ, f_ltZ, t_leZ, f_leZ, t_eqZ, f_eqZ, t_ltN, f_ltN, t_leN, f_leN, t_eqN, f_eqN, ↓reduceIte, and_true, true_and, and_false, false_and, and_self, or_true, true_or, or_false, false_or, or_self, not_true_eq_false, not_false_eq_true, tu_same, tu_eq, tu_ne, b_V, b_I, b_J]
    rfl
  | true =>
    rw [hf, b2t] at f
    rw [if_pos rfl]
    by_cases c : pF (S p) = (if x = 0 then 2 else 1)
    · rw [if_pos c]
      refine ⟨A, ?_, fun _ _ _ => rfl, fun _ _ _ => rfl, Or.inl ⟨by omega, rfl⟩⟩
      by_cases d : x = 0
      · rw [if_pos d] at c
        rw [c] at h1
        subst d
        simp (disch := first | omega | (simp (disch := omega) only [n_ti, Int32.reduceToInt] <;> omega)) only [k2, f, e_120_4, h1, e_120_22, n_add, nl_add, nr_add, n_mul, nl_mul, nr_mul, n_sub, nr_dec, n_div, nr_sub_1, nr_sub_2, nr_sub_3, nr_sub_4, nr_sub_7, nr_sub_10, nr_sub_11, nr_sub_20, nr_sub_48, nr_sub_97, nl_sub_3, nl_sub_4, nl_sub_12, nl_sub_24, nl_sub_32, nr_div_2, nr_div_4, z_lt, z_le, z_eq, z_cl, n_ti, Int.toNat_natCast, Int32.reduceToInt, Int32.reduceToNatClampNeg, zc_add, zc_sub, zc_add_1, zc_add_2, zc_add_3, zc_add_4, zc_add_8, zc_add_10, zc_add_12, zc_add_16, zc_add_20, zc_sub_1, zc_sub_2, zc_sub_4, zc_sub_10, zc_sub_20, zc_sub_48, zc_sub_97, zc_mul_4, t_ltZ, f_ltZ, t_leZ, f_leZ, t_eqZ, f_eqZ, t_ltN, f_ltN, t_leN, f_leN, t_eqN, f_eqN, ↓reduceIte, and_true, true_and, and_false, false_and, and_self, or_true, true_or, or_false, false_or, or_self, not_true_eq_false, not_false_eq_true, tu_same, tu_eq, tu_ne, b_V, b_I, b_J]
        rfl
      · rw [if_neg d] at c
        rw [c] at h1
        simp (disch := first | omega | (simp (disch := omega) only [n_ti, Int32.reduceToInt] <;> omega)) only [k2, f, e_120_4, h1, e_120_22, n_add, nl_add, nr_add, n_mul, nl_mul, nr_mul, n_sub, nr_dec, n_div, nr_sub_1, nr_sub_2, nr_sub_3, nr_sub_4, nr_sub_7, nr_sub_10, nr_sub_11, nr_sub_20, nr_sub_48, nr_sub_97, nl_sub_3, nl_sub_4, nl_sub_12, nl_sub_24, nl_sub_32, nr_div_2, nr_div_4, z_lt, z_le, z_eq, z_cl, n_ti, Int.toNat_natCast, Int32.reduceToInt, Int32.reduceToNatClampNeg, zc_add, zc_sub, zc_add_1, zc_add_2, zc_add_3, zc_add_4, zc_add_8, zc_add_10, zc_add_12, zc_add_16, zc_add_20, zc_sub_1, zc_sub_2, zc_sub_4, zc_sub_10, zc_sub_20, zc_sub_48, zc_sub_97, zc_mul_4, t_ltZ, f_ltZ, t_leZ, f_leZ, t_eqZ, f_eqZ, t_ltN, f_ltN, t_leN, f_leN, t_eqN, f_eqN, ↓reduceIte, and_true, true_and, and_false, false_and, and_self, or_true, true_or, or_false, false_or, or_self, not_true_eq_false, not_false_eq_true, tu_same, tu_eq, tu_ne, b_V, b_I, b_J]
        rfl
    · rw [if_neg c]
      obtain ⟨A1, g1, g2, g3⟩ := c_111 (A := A) (J := J) (τ := τ) (w := 0) hp
      have g1' : F_111 [.ref (18 + p), .int 0] (mk A J τ) = some (none, mk A1 J τ) := g1
      refine ⟨A1, ?_, fun a k u => g3 a k (by omega), fun a k u => g3 a k (by omega), Or.inr ⟨rfl, h.up (fun a k u v z => g3 a k z) g2⟩⟩
      by_cases d : x = 0
      · rw [if_pos d] at c
        subst d
        simp (disch := first | omega | (simp (disch := omega) only [n_ti, Int32.reduceToInt] <;> omega)) only [k2, f, e_120_4, h1, e_120_22, g1', e_120_32, n_add, nl_add, nr_add, n_mul, nl_mul, nr_mul, n_sub, nr_dec, n_div, nr_sub_1, nr_sub_2, nr_sub_3, nr_sub_4, nr_sub_7, nr_sub_10, nr_sub_11, nr_sub_20, nr_sub_48, nr_sub_97, nl_sub_3, nl_sub_4, nl_sub_12, nl_sub_24, nl_sub_32, nr_div_2, nr_div_4, z_lt, z_le, z_eq, z_cl, n_ti, Int.toNat_natCast, Int32.reduceToInt, Int32.reduceToNatClampNeg, zc_add, zc_sub, zc_add_1, zc_add_2, zc_add_3, zc_add_4, zc_add_8, zc_add_10, zc_add_12, zc_add_16, zc_add_20, zc_sub_1, zc_sub_2, zc_sub_4, zc_sub_10, zc_sub_20, zc_sub_48, zc_sub_97, zc_mul_4, t_ltZ, f_ltZ, t_leZ, f_leZ, t_eqZ, f_eqZ, t_ltN, f_ltN, t_leN, f_leN, t_eqN, f_eqN, ↓reduceIte, and_true, true_and, and_false, false_and, and_self, or_true, true_or, or_false, false_or, or_self, not_true_eq_false, not_false_eq_true, tu_same, tu_eq, tu_ne, b_V, b_I, b_J]
        rfl
      · rw [if_neg d] at c
        simp (disch := first | omega | (simp (disch := omega) only [n_ti, Int32.reduceToInt] <;> omega)) only [k2, f, e_120_4, h1, e_120_22, g1', e_120_32, n_add, nl_add, nr_add, n_mul, nl_mul, nr_mul, n_sub, nr_dec, n_div, nr_sub_1, nr_sub_2, nr_sub_3, nr_sub_4, nr_sub_7, nr_sub_10, nr_sub_11, nr_sub_20, nr_sub_48, nr_sub_97, nl_sub_3, nl_sub_4, nl_sub_12, nl_sub_24, nl_sub_32, nr_div_2, nr_div_4, z_lt, z_le, z_eq, z_cl, n_ti, Int.toNat_natCast, Int32.reduceToInt, Int32.reduceToNatClampNeg, zc_add, zc_sub, zc_add_1, zc_add_2, zc_add_3, zc_add_4, zc_add_8, zc_add_10, zc_add_12, zc_add_16, zc_add_20, zc_sub_1, zc_sub_2, zc_sub_4, zc_sub_10, zc_sub_20, zc_sub_48, zc_sub_97, zc_mul_4, t_ltZ, f_ltZ, t_leZ, f_leZ, t_eqZ, f_eqZ, t_ltN, f_ltN, t_leN, f_leN, t_eqN, f_eqN, ↓reduceIte, and_true, true_and, and_false, false_and, and_self, or_true, true_or, or_false, false_or, or_self, not_true_eq_false, not_false_eq_true, tu_same, tu_eq, tu_ne, b_V, b_I, b_J]
        rfl
