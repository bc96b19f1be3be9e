/-! run: a line (model) -/
def JmB (B : Nat → Nat → Int32) (b p : Nat) (s : SP) : Prop := B 151 p = nI (pW s) ∧ (pW s = 1 → B 152 p = nI (pF s) ∧ B 153 p = nI (pD s)) ∧ B 154 p = tI (pT s) ∧ (pT s ≠ 0 → B 172 p = nI (pM s) ∧ B 155 p = nI (pG s) ∧ B 174 p = nI (b - pG s))
def PsB (B : Nat → Nat → Int32) (b : Nat) (S : PS) : Prop := ∀ p, p < 6 → JmB B b p (S p)
def EnB (B : Nat → Nat → Int32) (E : ES) : Prop := ∀ e, e < 2 → B 157 e = tI (eK (E e)) ∧ (eK (E e) ≠ 0 → B 156 e = nI (eQ (E e)))
theorem JmB.tr {B B' : Nat → Nat → Int32} {b p : Nat} {s : SP} (h : JmB B b p s) (f : ∀ a, (151 ≤ a ∧ a ≤ 155) ∨ a = 172 ∨ a = 174 → B' a p = B a p) : JmB B' b p s := ⟨(f _ (by omega)).trans h.1, fun u => ⟨(f _ (by omega)).trans (h.2.1 u).1, (f _ (by omega)).trans (h.2.1 u).2⟩, (f _ (by omega)).trans h.2.2.1, fun u => ⟨(f _ (by omega)).trans (h.2.2.2 u).1, (f _ (by omega)).trans (h.2.2.2 u).2.1, (f _ (by omega)).trans (h.2.2.2 u).2.2⟩⟩
theorem PsB.tr {B B' : Nat → Nat → Int32} {b : Nat} {S : PS} (h : PsB B b S) (f : ∀ a k, (151 ≤ a ∧ a ≤ 155) ∨ a = 172 ∨ a = 174 → B' a k = B a k) : PsB B' b S := fun p hp => (h p hp).tr (fun a u => f a p u)
theorem EnB.tr {B B' : Nat → Nat → Int32} {E : ES} (h : EnB B E) (f : ∀ a k, a = 156 ∨ a = 157 → B' a k = B a k) : EnB B' E := fun e he => ⟨(f _ _ (by omega)).trans (h e he).1, fun u => (f _ _ (by omega)).trans ((h e he).2 u)⟩
theorem PsB.up {B B' : Nat → Nat → Int32} {b : Nat} {S : PS} {q : Nat} {s : SP} (h : PsB B b S) (f : ∀ a k, (151 ≤ a ∧ a ≤ 155) ∨ a = 172 ∨ a = 174 → k ≠ q → B' a k = B a k) (g : JmB B' b q s) : PsB B' b (updN S q s) := by
  intro p hp
  unfold updN
  by_cases e : p = q
  · rw [if_pos e, e]; exact g
  · rw [if_neg e]; exact (h p hp).tr (fun a u => f a p u e)
theorem m_147 {B : Nat → Nat → Int32} {J : Nat → Nat → Int64} {τ : tm_Tu} {n b : Nat} {D : Nat → TD} {S : PS} (h : PsB B b S) (hS : SOk n D b S) : F_147 [.ref 131] (mk B J τ) = some (some (.int (nI (cnt S))), mk B J τ) := by
  have key : ∀ m j acc, j + m = 6 → acc ≤ j → R_147 4 [(0, .ref 131), (1, .int (nI acc)), (2, .int (nI j))] [] (mk B J τ) = some (some (.int (nI (acc + cntF (inP S) m j))), mk B J τ) := by
    intro m
    induction m with
    | zero =>
      intro j acc hj ha
      rw [e_147_4]
      simp (disch := first | omega | (simp (disch := omega) only [n_ti, Int32.reduceToInt] <;> omega)) only [n_add, nl_add, nr_add, n_mul, nl_mul, nr_mul, n_sub, nr_dec, n_div, nr_sub_1, nr_sub_2, nr_sub_3, nr_sub_4, nr_sub_7, nr_sub_10, nr_sub_11, nr_sub_20, nr_sub_48, nr_sub_97, nl_sub_3, nl_sub_4, nl_sub_12, nl_sub_24, nl_sub_32, nr_div_2, nr_div_4, z_lt, z_le, z_eq, z_cl, n_ti, Int.toNat_natCast, Int32.reduceToInt, Int32.reduceToNatClampNeg, zc_add, zc_sub, zc_add_1, zc_add_2, zc_add_3, zc_add_4, zc_add_8, zc_add_10, zc_add_12, zc_add_16, zc_add_20, zc_sub_1, zc_sub_2, zc_sub_4, zc_sub_10, zc_sub_20, zc_sub_48, zc_sub_97, zc_mul_4, t_ltZ, f_ltZ, t_leZ, f_leZ, t_eqZ, f_eqZ, t_ltN, f_ltN, t_leN, f_leN, t_eqN, f_eqN, ↓reduceIte, and_true, true_and, and_false, false_and, and_self, or_true, true_or, or_false, false_or, or_self, not_true_eq_false, not_false_eq_true, tu_same, tu_eq, tu_ne, b_V, b_I, b_J]
      rfl
    | succ m ih =>
      intro j acc hj ha
      have hp : j < 6 := by omega
      obtain ⟨h0, -⟩ := h j hp
      have w := (hS j hp).1
      rw [e_147_4]
      by_cases c : pW (S j) = 1
      · have e : cntF (inP S) (m + 1) j = 1 + cntF (inP S) m (j + 1) := by
          show (if inP S j = true then 1 else 0) + _ = _
          rw [if_pos (by unfold inP; simp [c])]
        rw [e, show acc + (1 + cntF (inP S) m (j + 1)) = acc + 1 + cntF (inP S) m (j + 1) by omega]
        rw [← ih (j + 1) (acc + 1) (by omega) (by omega)]
        rw [c] at h0
        simp (disch := first | omega | (simp (disch := omega) only [n_ti, Int32.reduceToInt] <;> omega)) only [h0, e_147_26, n_add, nl_add, nr_add, n_mul, nl_mul, nr_mul, n_sub, nr_dec, n_div, nr_sub_1, nr_sub_2, nr_sub_3, nr_sub_4, nr_sub_7, nr_sub_10, nr_sub_11, nr_sub_20, nr_sub_48, nr_sub_97, nl_sub_3, nl_sub_4, nl_sub_12, nl_sub_24, nl_sub_32, nr_div_2, nr_div_4, z_lt, z_le, z_eq, z_cl, n_ti, Int.toNat_natCast, Int32.reduceToInt, Int32.reduceToNatClampNeg, zc_add, zc_sub, zc_add_1, zc_add_2, zc_add_3, zc_add_4, zc_add_8, zc_add_10, zc_add_12, zc_add_16, zc_add_20, zc_sub_1, zc_sub_2, zc_sub_4, zc_sub_10, zc_sub_20, zc_sub_48, zc_sub_97, zc_mul_4, t_ltZ, f_ltZ, t_leZ, f_leZ, t_eqZ, f_eqZ, t_ltN, f_ltN, t_leN, f_leN, t_eqN, f_eqN, ↓reduceIte, and_true, true_and, and_false, false_and, and_self, or_true, true_or, or_false, false_or, or_self, not_true_eq_false, not_false_eq_true, tu_same, tu_eq, tu_ne, b_V, b_I, b_J]
      · have e : cntF (inP S) (m + 1) j = cntF (inP S) m (j + 1) := by
          show (if inP S j = true then 1 else 0) + _ = _
          rw [if_neg (by unfold inP; simp [c])]
          omega
        rw [e, ← ih (j + 1) acc (by omega) (by omega)]
        simp (disch := first | omega | (simp (disch := omega) only [n_ti, Int32.reduceToInt] <;> omega)) only [h0, e_147_26, Nat.add_zero, n_add, nl_add, nr_add, n_mul, nl_mul, nr_mul, n_sub, nr_dec, n_div, nr_sub_1, nr_sub_2, nr_sub_3, nr_sub_4, nr_sub_7, nr_sub_10, nr_sub_11, nr_sub_20, nr_sub_48, nr_sub_97, nl_sub_3, nl_sub_4, nl_sub_12, nl_sub_24, nl_sub_32, nr_div_2, nr_div_4, z_lt, z_le, z_eq, z_cl, n_ti, Int.toNat_natCast, Int32.reduceToInt, Int32.reduceToNatClampNeg, zc_add, zc_sub, zc_add_1, zc_add_2, zc_add_3, zc_add_4, zc_add_8, zc_add_10, zc_add_12, zc_add_16, zc_add_20, zc_sub_1, zc_sub_2, zc_sub_4, zc_sub_10, zc_sub_20, zc_sub_48, zc_sub_97, zc_mul_4, t_ltZ, f_ltZ, t_leZ, f_leZ, t_eqZ, f_eqZ, t_ltN, f_ltN, t_leN, f_leN, t_eqN, f_eqN, ↓reduceIte, and_true, true_and, and_false, false_and, and_self, or_true, true_or, or_false, false_or, or_self, not_true_eq_false, not_false_eq_true, tu_same, tu_eq, tu_ne, b_V, b_I, b_J]
  rw [e_147]
  have k0 := key 6 0 0 rfl (by omega)
  rw [Nat.zero_add] at k0
  exact k0
theorem m_148 {B : Nat → Nat → Int32} {J : Nat → Nat → Int64} {τ : tm_Tu} {n b bk : Nat} {D : Nat → TD} {S : PS} (h : PsB B b S) (hS : SOk n D b S) (hn : n ≤ 12) (hD : DOk n D) (hbk : bk < 2) (hB : BkB B bk n D) : F_148 [.ref 131] (mk B J τ) = some (some (.int (b2 (anyF (loP D S) 6 0))), mk B J τ) := by
  have h21 := hB.1
  have key : ∀ m j, j + m = 6 → R_148 2 [(0, .ref 131), (1, .int (nI j))] [] (mk B J τ) = some (some (.int (b2 (anyF (loP D S) m j))), mk B J τ) := by
    intro m
    induction m with
    | zero =>
      intro j hj
      rw [e_148_2]
      simp (disch := first | omega | (simp (disch := omega) only [n_ti, Int32.reduceToInt] <;> omega)) only [n_add, nl_add, nr_add, n_mul, nl_mul, nr_mul, n_sub, nr_dec, n_div, nr_sub_1, nr_sub_2, nr_sub_3, nr_sub_4, nr_sub_7, nr_sub_10, nr_sub_11, nr_sub_20, nr_sub_48, nr_sub_97, nl_sub_3, nl_sub_4, nl_sub_12, nl_sub_24, nl_sub_32, nr_div_2, nr_div_4, z_lt, z_le, z_eq, z_cl, n_ti, Int.toNat_natCast, Int32.reduceToInt, Int32.reduceToNatClampNeg, zc_add, zc_sub, zc_add_1, zc_add_2, zc_add_3, zc_add_4, zc_add_8, zc_add_10, zc_add_12, zc_add_16, zc_add_20, zc_sub_1, zc_sub_2, zc_sub_4, zc_sub_10, zc_sub_20, zc_sub_48, zc_sub_97, zc_mul_4, t_ltZ, f_ltZ, t_leZ, f_leZ, t_eqZ, f_eqZ, t_ltN, f_ltN, t_leN, f_leN, t_eqN, f_eqN, ↓reduceIte, and_true, true_and, and_false, false_and, and_self, or_true, true_or, or_false, false_or, or_self, not_true_eq_false, not_false_eq_true, tu_same, tu_eq, tu_ne, b_V, b_I, b_J]
      rfl
    | succ m ih =>
      intro j hj
      have hp : j < 6 := by omega
      have hj3 := (h j hp).2.2.1
      obtain ⟨w1, w2, w3, w4, w5, w6, -⟩ := hS j hp
      rw [e_148_2]
      by_cases c : pT (S j) = 0
      · have e : anyF (loP D S) (m + 1) j = anyF (loP D S) m (j + 1) := if_neg (by unfold loP; simp [c])
        rw [tI_z c] at hj3
        rw [e, ← ih (j + 1) (by omega)]
        simp (disch := first | omega | (simp (disch := omega) only [n_ti, Int32.reduceToInt] <;> omega)) only [hj3, e_148_41, n_add, nl_add, nr_add, n_mul, nl_mul, nr_mul, n_sub, nr_dec, n_div, nr_sub_1, nr_sub_2, nr_sub_3, nr_sub_4, nr_sub_7, nr_sub_10, nr_sub_11, nr_sub_20, nr_sub_48, nr_sub_97, nl_sub_3, nl_sub_4, nl_sub_12, nl_sub_24, nl_sub_32, nr_div_2, nr_div_4, z_lt, z_le, z_eq, z_cl, n_ti, Int.toNat_natCast, Int32.reduceToInt, Int32.reduceToNatClampNeg, zc_add, zc_sub, zc_add_1, zc_add_2, zc_add_3, zc_add_4, zc_add_8, zc_add_10, zc_add_12, zc_add_16, zc_add_20, zc_sub_1, zc_sub_2, zc_sub_4, zc_sub_10, zc_sub_20, zc_sub_48, zc_sub_97, zc_mul_4, t_ltZ, f_ltZ, t_leZ, f_leZ, t_eqZ, f_eqZ, t_ltN, f_ltN, t_leN, f_leN, t_eqN, f_eqN, ↓reduceIte, and_true, true_and, and_false, false_and, and_self, or_true, true_or, or_false, false_or, or_self, not_true_eq_false, not_false_eq_true, tu_same, tu_eq, tu_ne, b_V, b_I, b_J]
      · rw [tI_s c] at hj3
        have ht : pT (S j) - 1 < n := by omega
        have h8 := (hB.2.2 _ ht).2.2.2.2.2.1
        rcases dA_z (hD _ ht) with e | e
        · have e3 : anyF (loP D S) (m + 1) j = anyF (loP D S) m (j + 1) := if_neg (by unfold loP; simp [e])
          rw [e] at h8
          rw [e3, ← ih (j + 1) (by omega)]
          simp (disch := first | omega | (simp (disch := omega) only [n_ti, Int32.reduceToInt] <;> omega)) only [hj3, h21, h8, e_148_41, n_add, nl_add, nr_add, n_mul, nl_mul, nr_mul, n_sub, nr_dec, n_div, nr_sub_1, nr_sub_2, nr_sub_3, nr_sub_4, nr_sub_7, nr_sub_10, nr_sub_11, nr_sub_20, nr_sub_48, nr_sub_97, nl_sub_3, nl_sub_4, nl_sub_12, nl_sub_24, nl_sub_32, nr_div_2, nr_div_4, z_lt, z_le, z_eq, z_cl, n_ti, Int.toNat_natCast, Int32.reduceToInt, Int32.reduceToNatClampNeg, zc_add, zc_sub, zc_add_1, zc_add_2, zc_add_3, zc_add_4, zc_add_8, zc_add_10, zc_add_12, zc_add_16, zc_add_20, zc_sub_1, zc_sub_2, zc_sub_4, zc_sub_10, zc_sub_20, zc_sub_48, zc_sub_97, zc_mul_4, t_ltZ, f_ltZ, t_leZ, f_leZ, t_eqZ, f_eqZ, t_ltN, f_ltN, t_leN, f_leN, t_eqN, f_eqN, ↓reduceIte, and_true, true_and, and_false, false_and, and_self, or_true, true_or, or_false, false_or, or_self, not_true_eq_false, not_false_eq_true, tu_same, tu_eq, tu_ne, b_V, b_I, b_J]
        · have e3 : anyF (loP D S) (m + 1) j = true := if_pos (by unfold loP; simp [e, c])
          rw [e] at h8
          rw [e3, b2t]
          simp (disch := first | omega | (simp (disch := omega) only [n_ti, Int32.reduceToInt] <;> omega)) only [hj3, h21, h8, e_148_41, n_add, nl_add, nr_add, n_mul, nl_mul, nr_mul, n_sub, nr_dec, n_div, nr_sub_1, nr_sub_2, nr_sub_3, nr_sub_4, nr_sub_7, nr_sub_10, nr_sub_11, nr_sub_20, nr_sub_48, nr_sub_97, nl_sub_3, nl_sub_4, nl_sub_12, nl_sub_24, nl_sub_32, nr_div_2, nr_div_4, z_lt, z_le, z_eq, z_cl, n_ti, Int.toNat_natCast, Int32.reduceToInt, Int32.reduceToNatClampNeg, zc_add, zc_sub, zc_add_1, zc_add_2, zc_add_3, zc_add_4, zc_add_8, zc_add_10, zc_add_12, zc_add_16, zc_add_20, zc_sub_1, zc_sub_2, zc_sub_4, zc_sub_10, zc_sub_20, zc_sub_48, zc_sub_97, zc_mul_4, t_ltZ, f_ltZ, t_leZ, f_leZ, t_eqZ, f_eqZ, t_ltN, f_ltN, t_leN, f_leN, t_eqN, f_eqN, ↓reduceIte, and_true, true_and, and_false, false_and, and_self, or_true, true_or, or_false, false_or, or_self, not_true_eq_false, not_false_eq_true, tu_same, tu_eq, tu_ne, b_V, b_I, b_J]
  rw [e_148]
  exact key 6 0 (by omega)
theorem ac_16 : ac 16 = 0 := by decide
theorem ac_17 : ac 17 = 1 := by decide
theorem ac_18 : ac 18 = 2 := by decide
theorem ac_20 : ac 20 = 3 := by decide
set_option maxHeartbeats 2000000 in
theorem m_149 {B : Nat → Nat → Int32} {J : Nat → Nat → Int64} {τ : tm_Tu} {n b bk mb i N : Nat} {D : Nat → TD} {S : PS} {E : ES} {L : LD} (h : PsB B b S) (hE : EnB B E) (hS : SOk n D b S) (hO : EOk S E) (hc3 : cnt S ≤ 3) (hn : n ≤ 12) (hD : DOk n D) (hbk : bk < 2) (hB : BkB B bk n D) (h65 : B 131 65 = nI mb) (hmb : mb ≤ 3) (hi : i < 120) (hL : LnB B i L) (hok : LOk n N L) : F_149 [.ref 131, .int (nI i)] (mk B J τ) = some (some (.int (nI (lawP D mb S E L))), mk B J τ) := by
  obtain ⟨l1, l2, l3, l4, l5⟩ := hL
  obtain ⟨o1, o2, o3⟩ := hok
  have hp : L.2.1 < 6 := by omega
  obtain ⟨h0, h1, h3, h4⟩ := h L.2.1 hp
  obtain ⟨w1, w2, w3, w4, w5, w6, -⟩ := hS L.2.1 hp
  have h21 := hB.1
  have f147 := m_147 (J := J) (τ := τ) h hS
  have f148 := m_148 (J := J) (τ := τ) h hS hn hD hbk hB
  have st : F_149 [.ref 131, .int (nI i)] (mk B J τ) = R_149 31 [(0, .ref 131), (1, .int (nI i)), (2, .int (nI L.2.1))] [.int (b2 (frS (S L.2.1)))] (mk B J τ) := by
    rw [e_149]
    by_cases c : pW (S L.2.1) = 1
    · rw [c] at h0
      by_cases d : pT (S L.2.1) = 0
      · have e : b2 (frS (S L.2.1)) = 1 := by unfold frS; simp [c, d, b2]
        rw [tI_z d] at h3
        rw [e]
        simp (disch := first | omega | (simp (disch := omega) only [n_ti, Int32.reduceToInt] <;> omega)) only [l2, h0, h3, n_add, nl_add, nr_add, n_mul, nl_mul, nr_mul, n_sub, nr_dec, n_div, nr_sub_1, nr_sub_2, nr_sub_3, nr_sub_4, nr_sub_7, nr_sub_10, nr_sub_11, nr_sub_20, nr_sub_48, nr_sub_97, nl_sub_3, nl_sub_4, nl_sub_12, nl_sub_24, nl_sub_32, nr_div_2, nr_div_4, z_lt, z_le, z_eq, z_cl, n_ti, Int.toNat_natCast, Int32.reduceToInt, Int32.reduceToNatClampNeg, zc_add, zc_sub, zc_add_1, zc_add_2, zc_add_3, zc_add_4, zc_add_8, zc_add_10, zc_add_12, zc_add_16, zc_add_20, zc_sub_1, zc_sub_2, zc_sub_4, zc_sub_10, zc_sub_20, zc_sub_48, zc_sub_97, zc_mul_4, t_ltZ, f_ltZ, t_leZ, f_leZ, t_eqZ, f_eqZ, t_ltN, f_ltN, t_leN, f_leN, t_eqN, f_eqN, ↓reduceIte, and_true, true_and, and_false, false_and, and_self, or_true, true_or, or_false, false_or, or_self, not_true_eq_false, not_false_eq_true, tu_same, tu_eq, tu_ne, b_V, b_I, b_J]
      · have e : b2 (frS (S L.2.1)) = 0 := by unfold frS; simp [d, b2]
        rw [tI_s d] at h3
        rw [e]
        simp (disch := first | omega | (simp (disch := omega) only [n_ti, Int32.reduceToInt] <;> omega)) only [l2, h0, h3, e_149_30, n_add, nl_add, nr_add, n_mul, nl_mul, nr_mul, n_sub, nr_dec, n_div, nr_sub_1, nr_sub_2, nr_sub_3, nr_sub_4, nr_sub_7, nr_sub_10, nr_sub_11, nr_sub_20, nr_sub_48, nr_sub_97, nl_sub_3, nl_sub_4, nl_sub_12, nl_sub_24, nl_sub_32, nr_div_2, nr_div_4, z_lt, z_le, z_eq, z_cl, n_ti, Int.toNat_natCast, Int32.reduceToInt, Int32.reduceToNatClampNeg, zc_add, zc_sub, zc_add_1, zc_add_2, zc_add_3, zc_add_4, zc_add_8, zc_add_10, zc_add_12, zc_add_16, zc_add_20, zc_sub_1, zc_sub_2, zc_sub_4, zc_sub_10, zc_sub_20, zc_sub_48, zc_sub_97, zc_mul_4, t_ltZ, f_ltZ, t_leZ, f_leZ, t_eqZ, f_eqZ, t_ltN, f_ltN, t_leN, f_leN, t_eqN, f_eqN, ↓reduceIte, and_true, true_and, and_false, false_and, and_self, or_true, true_or, or_false, false_or, or_self, not_true_eq_false, not_false_eq_true, tu_same, tu_eq, tu_ne, b_V, b_I, b_J]
    · have e : b2 (frS (S L.2.1)) = 0 := by unfold frS; simp [c, b2]
      rw [e]
      simp (disch := first | omega | (simp (disch := omega) only [n_ti, Int32.reduceToInt] <;> omega)) only [l2, h0, e_149_30, n_add, nl_add, nr_add, n_mul, nl_mul, nr_mul, n_sub, nr_dec, n_div, nr_sub_1, nr_sub_2, nr_sub_3, nr_sub_4, nr_sub_7, nr_sub_10, nr_sub_11, nr_sub_20, nr_sub_48, nr_sub_97, nl_sub_3, nl_sub_4, nl_sub_12, nl_sub_24, nl_sub_32, nr_div_2, nr_div_4, z_lt, z_le, z_eq, z_cl, n_ti, Int.toNat_natCast, Int32.reduceToInt, Int32.reduceToNatClampNeg, zc_add, zc_sub, zc_add_1, zc_add_2, zc_add_3, zc_add_4, zc_add_8, zc_add_10, zc_add_12, zc_add_16, zc_add_20, zc_sub_1, zc_sub_2, zc_sub_4, zc_sub_10, zc_sub_20, zc_sub_48, zc_sub_97, zc_mul_4, t_ltZ, f_ltZ, t_leZ, f_leZ, t_eqZ, f_eqZ, t_ltN, f_ltN, t_leN, f_leN, t_eqN, f_eqN, ↓reduceIte, and_true, true_and, and_false, false_and, and_self, or_true, true_or, or_false, false_or, or_self, not_true_eq_false, not_false_eq_true, tu_same, tu_eq, tu_ne, b_V, b_I, b_J]
  rw [st]
  rcases o3 with ⟨o4, o5, o6⟩ | ⟨o4, o5, o6⟩
  · rcases o4 with o4 | o4 | o4
    · -- in
      have eL : lawP D mb S E L = (if pW (S L.2.1) ≠ 0 then 1 else if 3 ≤ cnt S then 2 else if mb = 1 ∨ mb = (if L.2.2.2.1 = 0 then 2 else 3) then 3 else if anyF (loP D S) 6 0 = true then 6 else 0) := by
        unfold lawP
        rw [if_pos o4]
      rw [o4, ac_16] at l3
      rw [eL, e_149_31]
      by_cases c1 : pW (S L.2.1) = 0
      case neg =>
        rw [if_pos c1]
        simp (disch := first | omega | (simp (disch := omega) only [n_ti, Int32.reduceToInt] <;> omega)) only [l3, l4, h0, n_add, nl_add, nr_add, n_mul, nl_mul, nr_mul, n_sub, nr_dec, n_div, nr_sub_1, nr_sub_2, nr_sub_3, nr_sub_4, nr_sub_7, nr_sub_10, nr_sub_11, nr_sub_20, nr_sub_48, nr_sub_97, nl_sub_3, nl_sub_4, nl_sub_12, nl_sub_24, nl_sub_32, nr_div_2, nr_div_4, z_lt, z_le, z_eq, z_cl, n_ti, Int.toNat_natCast, Int32.reduceToInt, Int32.reduceToNatClampNeg, zc_add, zc_sub, zc_add_1, zc_add_2, zc_add_3, zc_add_4, zc_add_8, zc_add_10, zc_add_12, zc_add_16, zc_add_20, zc_sub_1, zc_sub_2, zc_sub_4, zc_sub_10, zc_sub_20, zc_sub_48, zc_sub_97, zc_mul_4, t_ltZ, f_ltZ, t_leZ, f_leZ, t_eqZ, f_eqZ, t_ltN, f_ltN, t_leN, f_leN, t_eqN, f_eqN, ↓reduceIte, and_true, true_and, and_false, false_and, and_self, or_true, true_or, or_false, false_or, or_self, not_true_eq_false, not_false_eq_true, tu_same, tu_eq, tu_ne, b_V, b_I, b_J]
        rfl
      rw [if_neg (show ¬ pW (S L.2.1) ≠ 0 by omega)]
      rw [c1] at h0
      by_cases c2 : 3 ≤ cnt S
      · rw [if_pos c2]
        have c2' : cnt S = 3 := by omega
        rw [c2'] at f147
        simp (disch := first | omega | (simp (disch := omega) only [n_ti, Int32.reduceToInt] <;> omega)) only [l3, l4, h0, f147, e_149_87, n_add, nl_add, nr_add, n_mul, nl_mul, nr_mul, n_sub, nr_dec, n_div, nr_sub_1, nr_sub_2, nr_sub_3, nr_sub_4, nr_sub_7, nr_sub_10, nr_sub_11, nr_sub_20, nr_sub_48, nr_sub_97, nl_sub_3, nl_sub_4, nl_sub_12, nl_sub_24, nl_sub_32, nr_div_2, nr_div_4, z_lt, z_le, z_eq, z_cl, n_ti, Int.toNat_natCast, Int32.reduceToInt, Int32.reduceToNatClampNeg, zc_add, zc_sub, zc_add_1, zc_add_2, zc_add_3, zc_add_4, zc_add_8, zc_add_10, zc_add_12, zc_add_16, zc_add_20, zc_sub_1, zc_sub_2, zc_sub_4, zc_sub_10, zc_sub_20, zc_sub_48, zc_sub_97, zc_mul_4, t_ltZ, f_ltZ, t_leZ, f_leZ, t_eqZ, f_eqZ, t_ltN, f_ltN, t_leN, f_leN, t_eqN, f_eqN, ↓reduceIte, and_true, true_and, and_false, false_and, and_self, or_true, true_or, or_false, false_or, or_self, not_true_eq_false, not_false_eq_true, tu_same, tu_eq, tu_ne, b_V, b_I, b_J]
        rfl
      rw [if_neg c2]
      by_cases c3 : mb = 1 ∨ mb = (if L.2.2.2.1 = 0 then 2 else 3)
      · rw [if_pos c3]
        rcases c3 with e | e
        · subst e
          simp (disch := first | omega | (simp (disch := omega) only [n_ti, Int32.reduceToInt] <;> omega)) only [l3, l4, h0, f147, e_149_87, h65, e_149_118, n_add, nl_add, nr_add, n_mul, nl_mul, nr_mul, n_sub, nr_dec, n_div, nr_sub_1, nr_sub_2, nr_sub_3, nr_sub_4, nr_sub_7, nr_sub_10, nr_sub_11, nr_sub_20, nr_sub_48, nr_sub_97, nl_sub_3, nl_sub_4, nl_sub_12, nl_sub_24, nl_sub_32, nr_div_2, nr_div_4, z_lt, z_le, z_eq, z_cl, n_ti, Int.toNat_natCast, Int32.reduceToInt, Int32.reduceToNatClampNeg, zc_add, zc_sub, zc_add_1, zc_add_2, zc_add_3, zc_add_4, zc_add_8, zc_add_10, zc_add_12, zc_add_16, zc_add_20, zc_sub_1, zc_sub_2, zc_sub_4, zc_sub_10, zc_sub_20, zc_sub_48, zc_sub_97, zc_mul_4, t_ltZ, f_ltZ, t_leZ, f_leZ, t_eqZ, f_eqZ, t_ltN, f_ltN, t_leN, f_leN, t_eqN, f_eqN, ↓reduceIte, and_true, true_and, and_false, false_and, and_self, or_true, true_or, or_false, false_or, or_self, not_true_eq_false, not_false_eq_true, tu_same, tu_eq, tu_ne, b_V, b_I, b_J]
          rfl
        · by_cases d : L.2.2.2.1 = 0
          · rw [if_pos d] at e
            subst e
            rw [d] at l4
            simp (disch := first | omega | (simp (disch := omega) only [n_ti, Int32.reduceToInt] <;> omega)) only [l3, l4, h0, f147, e_149_87, h65, e_149_115, e_149_118, n_add, nl_add, nr_add, n_mul, nl_mul, nr_mul, n_sub, nr_dec, n_div, nr_sub_1, nr_sub_2, nr_sub_3, nr_sub_4, nr_sub_7, nr_sub_10, nr_sub_11, nr_sub_20, nr_sub_48, nr_sub_97, nl_sub_3, nl_sub_4, nl_sub_12, nl_sub_24, nl_sub_32, nr_div_2, nr_div_4, z_lt, z_le, z_eq, z_cl, n_ti, Int.toNat_natCast, Int32.reduceToInt, Int32.reduceToNatClampNeg, zc_add, zc_sub, zc_add_1, zc_add_2, zc_add_3, zc_add_4, zc_add_8, zc_add_10, zc_add_12, zc_add_16, zc_add_20, zc_sub_1, zc_sub_2, zc_sub_4, zc_sub_10, zc_sub_20, zc_sub_48, zc_sub_97, zc_mul_4, t_ltZ, f_ltZ, t_leZ, f_leZ, t_eqZ, f_eqZ, t_ltN, f_ltN, t_leN, f_leN, t_eqN, f_eqN, ↓reduceIte, and_true, true_and, and_false, false_and, and_self, or_true, true_or, or_false, false_or, or_self, not_true_eq_false, not_false_eq_true, tu_same, tu_eq, tu_ne, b_V, b_I, b_J]
            rfl
          · rw [if_neg d] at e
            subst e
            simp (disch := first | omega | (simp (disch := omega) only [n_ti, Int32.reduceToInt] <;> omega)) only [l3, l4, h0, f147, e_149_87, h65, e_149_115, e_149_118, n_add, nl_add, nr_add, n_mul, nl_mul, nr_mul, n_sub, nr_dec, n_div, nr_sub_1, nr_sub_2, nr_sub_3, nr_sub_4, nr_sub_7, nr_sub_10, nr_sub_11, nr_sub_20, nr_sub_48, nr_sub_97, nl_sub_3, nl_sub_4, nl_sub_12, nl_sub_24, nl_sub_32, nr_div_2, nr_div_4, z_lt, z_le, z_eq, z_cl, n_ti, Int.toNat_natCast, Int32.reduceToInt, Int32.reduceToNatClampNeg, zc_add, zc_sub, zc_add_1, zc_add_2, zc_add_3, zc_add_4, zc_add_8, zc_add_10, zc_add_12, zc_add_16, zc_add_20, zc_sub_1, zc_sub_2, zc_sub_4, zc_sub_10, zc_sub_20, zc_sub_48, zc_sub_97, zc_mul_4, t_ltZ, f_ltZ, t_leZ, f_leZ, t_eqZ, f_eqZ, t_ltN, f_ltN, t_leN, f_leN, t_eqN, f_eqN, ↓reduceIte, and_true, true_and, and_false, false_and, and_self, or_true, true_or, or_false, false_or, or_self, not_true_eq_false, not_false_eq_true, tu_same, tu_eq, tu_ne, b_V, b_I, b_J]
            rfl
      rw [if_neg c3]
      have n1 : mb ≠ 1 := fun e => c3 (Or.inl e)
      cases hl : anyF (loP D S) 6 0 with
      | true =>
        rw [hl, b2t] at f148
        rw [if_pos rfl]
        by_cases d : L.2.2.2.1 = 0
        · have n2 : mb ≠ 2 := fun e => c3 (Or.inr (by rw [if_pos d]; exact e))
          rw [d] at l4
          simp (disch := first | omega | (simp (disch := omega) only [n_ti, Int32.reduceToInt] <;> omega)) only [l3, l4, h0, f147, e_149_87, h65, e_149_115, f148, e_149_124, e_149_133, n_add, nl_add, nr_add, n_mul, nl_mul, nr_mul, n_sub, nr_dec, n_div, nr_sub_1, nr_sub_2, nr_sub_3, nr_sub_4, nr_sub_7, nr_sub_10, nr_sub_11, nr_sub_20, nr_sub_48, nr_sub_97, nl_sub_3, nl_sub_4, nl_sub_12, nl_sub_24, nl_sub_32, nr_div_2, nr_div_4, z_lt, z_le, z_eq, z_cl, n_ti, Int.toNat_natCast, Int32.reduceToInt, Int32.reduceToNatClampNeg, zc_add, zc_sub, zc_add_1, zc_add_2, zc_add_3, zc_add_4, zc_add_8, zc_add_10, zc_add_12, zc_add_16, zc_add_20, zc_sub_1, zc_sub_2, zc_sub_4, zc_sub_10, zc_sub_20, zc_sub_48, zc_sub_97, zc_mul_4, t_ltZ, f_ltZ, t_leZ, f_leZ, t_eqZ, f_eqZ, t_ltN, f_ltN, t_leN, f_leN, t_eqN, f_eqN, ↓reduceIte, and_true, true_and, and_false, false_and, and_self, or_true, true_or, or_false, false_or, or_self, not_true_eq_false, not_false_eq_true, tu_same, tu_eq, tu_ne, b_V, b_I, b_J]
          rfl
        · have n2 : mb ≠ 3 := fun e => c3 (Or.inr (by rw [if_neg d]; exact e))
          simp (disch := first | omega | (simp (disch := omega) only [n_ti, Int32.reduceToInt] <;> omega)) only [l3, l4, h0, f147, e_149_87, h65, e_149_115, f148, e_149_124, e_149_133, n_add, nl_add, nr_add, n_mul, nl_mul, nr_mul, n_sub, nr_dec, n_div, nr_sub_1, nr_sub_2, nr_sub_3, nr_sub_4, nr_sub_7, nr_sub_10, nr_sub_11, nr_sub_20, nr_sub_48, nr_sub_97, nl_sub_3, nl_sub_4, nl_sub_12, nl_sub_24, nl_sub_32, nr_div_2, nr_div_4, z_lt, z_le, z_eq, z_cl, n_ti, Int.toNat_natCast, Int32.reduceToInt, Int32.reduceToNatClampNeg, zc_add, zc_sub, zc_add_1, zc_add_2, zc_add_3, zc_add_4, zc_add_8, zc_add_10, zc_add_12, zc_add_16, zc_add_20, zc_sub_1, zc_sub_2, zc_sub_4, zc_sub_10, zc_sub_20, zc_sub_48, zc_sub_97, zc_mul_4, t_ltZ, f_ltZ, t_leZ, f_leZ, t_eqZ, f_eqZ, t_ltN, f_ltN, t_leN, f_leN, t_eqN, f_eqN, ↓reduceIte, and_true, true_and, and_false, false_and, and_self, or_true, true_or, or_false, false_or, or_self, not_true_eq_false, not_false_eq_true, tu_same, tu_eq, tu_ne, b_V, b_I, b_J]
          rfl
      | false =>
        rw [hl, b2f] at f148
        rw [if_neg Bool.false_ne_true]
        by_cases d : L.2.2.2.1 = 0
        · have n2 : mb ≠ 2 := fun e => c3 (Or.inr (by rw [if_pos d]; exact e))
          rw [d] at l4
          simp (disch := first | omega | (simp (disch := omega) only [n_ti, Int32.reduceToInt] <;> omega)) only [l3, l4, h0, f147, e_149_87, h65, e_149_115, f148, e_149_124, e_149_133, n_add, nl_add, nr_add, n_mul, nl_mul, nr_mul, n_sub, nr_dec, n_div, nr_sub_1, nr_sub_2, nr_sub_3, nr_sub_4, nr_sub_7, nr_sub_10, nr_sub_11, nr_sub_20, nr_sub_48, nr_sub_97, nl_sub_3, nl_sub_4, nl_sub_12, nl_sub_24, nl_sub_32, nr_div_2, nr_div_4, z_lt, z_le, z_eq, z_cl, n_ti, Int.toNat_natCast, Int32.reduceToInt, Int32.reduceToNatClampNeg, zc_add, zc_sub, zc_add_1, zc_add_2, zc_add_3, zc_add_4, zc_add_8, zc_add_10, zc_add_12, zc_add_16, zc_add_20, zc_sub_1, zc_sub_2, zc_sub_4, zc_sub_10, zc_sub_20, zc_sub_48, zc_sub_97, zc_mul_4, t_ltZ, f_ltZ, t_leZ, f_leZ, t_eqZ, f_eqZ, t_ltN, f_ltN, t_leN, f_leN, t_eqN, f_eqN, ↓reduceIte, and_true, true_and, and_false, false_and, and_self, or_true, true_or, or_false, false_or, or_self, not_true_eq_false, not_false_eq_true, tu_same, tu_eq, tu_ne, b_V, b_I, b_J]
          rfl
        · have n2 : mb ≠ 3 := fun e => c3 (Or.inr (by rw [if_neg d]; exact e))
          simp (disch := first | omega | (simp (disch := omega) only [n_ti, Int32.reduceToInt] <;> omega)) only [l3, l4, h0, f147, e_149_87, h65, e_149_115, f148, e_149_124, e_149_133, n_add, nl_add, nr_add, n_mul, nl_mul, nr_mul, n_sub, nr_dec, n_div, nr_sub_1, nr_sub_2, nr_sub_3, nr_sub_4, nr_sub_7, nr_sub_10, nr_sub_11, nr_sub_20, nr_sub_48, nr_sub_97, nl_sub_3, nl_sub_4, nl_sub_12, nl_sub_24, nl_sub_32, nr_div_2, nr_div_4, z_lt, z_le, z_eq, z_cl, n_ti, Int.toNat_natCast, Int32.reduceToInt, Int32.reduceToNatClampNeg, zc_add, zc_sub, zc_add_1, zc_add_2, zc_add_3, zc_add_4, zc_add_8, zc_add_10, zc_add_12, zc_add_16, zc_add_20, zc_sub_1, zc_sub_2, zc_sub_4, zc_sub_10, zc_sub_20, zc_sub_48, zc_sub_97, zc_mul_4, t_ltZ, f_ltZ, t_leZ, f_leZ, t_eqZ, f_eqZ, t_ltN, f_ltN, t_leN, f_leN, t_eqN, f_eqN, ↓reduceIte, and_true, true_and, and_false, false_and, and_self, or_true, true_or, or_false, false_or, or_self, not_true_eq_false, not_false_eq_true, tu_same, tu_eq, tu_ne, b_V, b_I, b_J]
          rfl
    · -- out
      have eL : lawP D mb S E L = (if frS (S L.2.1) = true then (if pF (S L.2.1) = (if L.2.2.2.1 = 0 then 2 else 1) then 4 else 0) else 1) := by
        unfold lawP
        rw [if_neg (by omega), if_pos o4]
      rw [o4, ac_17] at l3
      rw [eL, e_149_31]
      cases hf : frS (S L.2.1) with
      | false =>
        rw [if_neg Bool.false_ne_true, b2f]
        simp (disch := first | omega | (simp (disch := omega) only [n_ti, Int32.reduceToInt] <;> omega)) only [l3, l4, e_149_166, n_add, nl_add, nr_add, n_mul, nl_mul, nr_mul, n_sub, nr_dec, n_div, nr_sub_1, nr_sub_2, nr_sub_3, nr_sub_4, nr_sub_7, nr_sub_10, nr_sub_11, nr_sub_20, nr_sub_48, nr_sub_97, nl_sub_3, nl_sub_4, nl_sub_12, nl_sub_24, nl_sub_32, nr_div_2, nr_div_4, z_lt, z_le, z_eq, z_cl, n_ti, Int.toNat_natCast, Int32.reduceToInt, Int32.reduceToNatClampNeg, zc_add, zc_sub, zc_add_1, zc_add_2, zc_add_3, zc_add_4, zc_add_8, zc_add_10, zc_add_12, zc_add_16, zc_add_20, zc_sub_1, zc_sub_2, zc_sub_4, zc_sub_10, zc_sub_20, zc_sub_48, zc_sub_97, zc_mul_4, t_ltZ, f_ltZ, t_leZ, f_leZ, t_eqZ, f_eqZ, t_ltN, f_ltN, t_leN, f_leN, t_eqN, f_eqN, ↓reduceIte, and_true, true_and, and_false, false_and, and_self, or_true, true_or, or_false, false_or, or_self, not_true_eq_false, not_false_eq_true, tu_same, tu_eq, tu_ne, b_V, b_I, b_J]
        rfl
      | true =>
        have hf' : pW (S L.2.1) = 1 ∧ pT (S L.2.1) = 0 := by unfold frS at hf; exact of_decide_eq_true hf
        have h15 := (h1 hf'.1).1
        rw [if_pos rfl, b2t]
        by_cases c : pF (S L.2.1) = (if L.2.2.2.1 = 0 then 2 else 1)
        · rw [if_pos c]
          by_cases d : L.2.2.2.1 = 0
          · rw [if_pos d] at c
            rw [c] at h15
            rw [d] at l4
            simp (disch := first | omega | (simp (disch := omega) only [n_ti, Int32.reduceToInt] <;> omega)) only [l3, l4, h15, e_149_158, e_149_166, n_add, nl_add, nr_add, n_mul, nl_mul, nr_mul, n_sub, nr_dec, n_div, nr_sub_1, nr_sub_2, nr_sub_3, nr_sub_4, nr_sub_7, nr_sub_10, nr_sub_11, nr_sub_20, nr_sub_48, nr_sub_97, nl_sub_3, nl_sub_4, nl_sub_12, nl_sub_24, nl_sub_32, nr_div_2, nr_div_4, z_lt, z_le, z_eq, z_cl, n_ti, Int.toNat_natCast, Int32.reduceToInt, Int32.reduceToNatClampNeg, zc_add, zc_sub, zc_add_1, zc_add_2, zc_add_3, zc_add_4, zc_add_8, zc_add_10, zc_add_12, zc_add_16, zc_add_20, zc_sub_1, zc_sub_2, zc_sub_4, zc_sub_10, zc_sub_20, zc_sub_48, zc_sub_97, zc_mul_4, t_ltZ, f_ltZ, t_leZ, f_leZ, t_eqZ, f_eqZ, t_ltN, f_ltN, t_leN, f_leN, t_eqN, f_eqN, ↓reduceIte, and_true, true_and, and_false, false_and, and_self, or_true, true_or, or_false, false_or, or_self, not_true_eq_false, not_false_eq_true, tu_same, tu_eq, tu_ne, b_V, b_I, b_J]
            rfl
          · rw [if_neg d] at c
            rw [c] at h15
            simp (disch := first | omega | (simp (disch := omega) only [n_ti, Int32.reduceToInt] <;> omega)) only [l3, l4, h15, e_149_158, e_149_166, n_add, nl_add, nr_add, n_mul, nl_mul, nr_mul, n_sub, nr_dec, n_div, nr_sub_1, nr_sub_2, nr_sub_3, nr_sub_4, nr_sub_7, nr_sub_10, nr_sub_11, nr_sub_20, nr_sub_48, nr_sub_97, nl_sub_3, nl_sub_4, nl_sub_12, nl_sub_24, nl_sub_32, nr_div_2, nr_div_4, z_lt, z_le, z_eq, z_cl, n_ti, Int.toNat_natCast, Int32.reduceToInt, Int32.reduceToNatClampNeg, zc_add, zc_sub, zc_add_1, zc_add_2, zc_add_3, zc_add_4, zc_add_8, zc_add_10, zc_add_12, zc_add_16, zc_add_20, zc_sub_1, zc_sub_2, zc_sub_4, zc_sub_10, zc_sub_20, zc_sub_48, zc_sub_97, zc_mul_4, t_ltZ, f_ltZ, t_leZ, f_leZ, t_eqZ, f_eqZ, t_ltN, f_ltN, t_leN, f_leN, t_eqN, f_eqN, ↓reduceIte, and_true, true_and, and_false, false_and, and_self, or_true, true_or, or_false, false_or, or_self, not_true_eq_false, not_false_eq_true, tu_same, tu_eq, tu_ne, b_V, b_I, b_J]
            rfl
        · rw [if_neg c]
          by_cases d : L.2.2.2.1 = 0
          · rw [if_pos d] at c
            rw [d] at l4
            simp (disch := first | omega | (simp (disch := omega) only [n_ti, Int32.reduceToInt] <;> omega)) only [l3, l4, h15, e_149_158, e_149_166, n_add, nl_add, nr_add, n_mul, nl_mul, nr_mul, n_sub, nr_dec, n_div, nr_sub_1, nr_sub_2, nr_sub_3, nr_sub_4, nr_sub_7, nr_sub_10, nr_sub_11, nr_sub_20, nr_sub_48, nr_sub_97, nl_sub_3, nl_sub_4, nl_sub_12, nl_sub_24, nl_sub_32, nr_div_2, nr_div_4, z_lt, z_le, z_eq, z_cl, n_ti, Int.toNat_natCast, Int32.reduceToInt, Int32.reduceToNatClampNeg, zc_add, zc_sub, zc_add_1, zc_add_2, zc_add_3, zc_add_4, zc_add_8, zc_add_10, zc_add_12, zc_add_16, zc_add_20, zc_sub_1, zc_sub_2, zc_sub_4, zc_sub_10, zc_sub_20, zc_sub_48, zc_sub_97, zc_mul_4, t_ltZ, f_ltZ, t_leZ, f_leZ, t_eqZ, f_eqZ, t_ltN, f_ltN, t_leN, f_leN, t_eqN, f_eqN, ↓reduceIte, and_true, true_and, and_false, false_and, and_self, or_true, true_or, or_false, false_or, or_self, not_true_eq_false, not_false_eq_true, tu_same, tu_eq, tu_ne, b_V, b_I, b_J]
            rfl
          · rw [if_neg d] at c
            simp (disch := first | omega | (simp (disch := omega) only [n_ti, Int32.reduceToInt] <;> omega)) only [l3, l4, h15, e_149_158, e_149_166, n_add, nl_add, nr_add, n_mul, nl_mul, nr_mul, n_sub, nr_dec, n_div, nr_sub_1, nr_sub_2, nr_sub_3, nr_sub_4, nr_sub_7, nr_sub_10, nr_sub_11, nr_sub_20, nr_sub_48, nr_sub_97, nl_sub_3, nl_sub_4, nl_sub_12, nl_sub_24, nl_sub_32, nr_div_2, nr_div_4, z_lt, z_le, z_eq, z_cl, n_ti, Int.toNat_natCast, Int32.reduceToInt, Int32.reduceToNatClampNeg, zc_add, zc_sub, zc_add_1, zc_add_2, zc_add_3, zc_add_4, zc_add_8, zc_add_10, zc_add_12, zc_add_16, zc_add_20, zc_sub_1, zc_sub_2, zc_sub_4, zc_sub_10, zc_sub_20, zc_sub_48, zc_sub_97, zc_mul_4, t_ltZ, f_ltZ, t_leZ, f_leZ, t_eqZ, f_eqZ, t_ltN, f_ltN, t_leN, f_leN, t_eqN, f_eqN, ↓reduceIte, and_true, true_and, and_false, false_and, and_self, or_true, true_or, or_false, false_or, or_self, not_true_eq_false, not_false_eq_true, tu_same, tu_eq, tu_ne, b_V, b_I, b_J]
            rfl
    · -- takes
      have eL : lawP D mb S E L = (if (pW (S L.2.1) = 0 ∨ frS (S L.2.1) = true) ∧ eK (E L.2.2.2.1) = 0 then 0 else 1) := by
        unfold lawP
        rw [if_neg (by omega), if_neg (by omega), if_neg (by omega)]
      rw [o4, ac_20] at l3
      obtain ⟨t1, -⟩ := hE L.2.2.2.1 (by omega)
      have o7 := (hO L.2.2.2.1 (by omega)).2.1
      have e301 : R_149 301 [(0, .ref 131), (4, .int (nI L.2.2.2.1))] [] (mk B J τ) = some (some (.int (if eK (E L.2.2.2.1) = 0 then 0 else 1)), mk B J τ) := by
        rw [e_149_301]
        by_cases d : eK (E L.2.2.2.1) = 0
        · rw [tI_z d] at t1
          rw [if_pos d]
          simp (disch := first | omega | (simp (disch := omega) only [n_ti, Int32.reduceToInt] <;> omega)) only [t1, e_149_316, n_add, nl_add, nr_add, n_mul, nl_mul, nr_mul, n_sub, nr_dec, n_div, nr_sub_1, nr_sub_2, nr_sub_3, nr_sub_4, nr_sub_7, nr_sub_10, nr_sub_11, nr_sub_20, nr_sub_48, nr_sub_97, nl_sub_3, nl_sub_4, nl_sub_12, nl_sub_24, nl_sub_32, nr_div_2, nr_div_4, z_lt, z_le, z_eq, z_cl, n_ti, Int.toNat_natCast, Int32.reduceToInt, Int32.reduceToNatClampNeg, zc_add, zc_sub, zc_add_1, zc_add_2, zc_add_3, zc_add_4, zc_add_8, zc_add_10, zc_add_12, zc_add_16, zc_add_20, zc_sub_1, zc_sub_2, zc_sub_4, zc_sub_10, zc_sub_20, zc_sub_48, zc_sub_97, zc_mul_4, t_ltZ, f_ltZ, t_leZ, f_leZ, t_eqZ, f_eqZ, t_ltN, f_ltN, t_leN, f_leN, t_eqN, f_eqN, ↓reduceIte, and_true, true_and, and_false, false_and, and_self, or_true, true_or, or_false, false_or, or_self, not_true_eq_false, not_false_eq_true, tu_same, tu_eq, tu_ne, b_V, b_I, b_J]
        · rw [tI_s d] at t1
          rw [if_neg d]
          simp (disch := first | omega | (simp (disch := omega) only [n_ti, Int32.reduceToInt] <;> omega)) only [t1, e_149_311, e_149_316, n_add, nl_add, nr_add, n_mul, nl_mul, nr_mul, n_sub, nr_dec, n_div, nr_sub_1, nr_sub_2, nr_sub_3, nr_sub_4, nr_sub_7, nr_sub_10, nr_sub_11, nr_sub_20, nr_sub_48, nr_sub_97, nl_sub_3, nl_sub_4, nl_sub_12, nl_sub_24, nl_sub_32, nr_div_2, nr_div_4, z_lt, z_le, z_eq, z_cl, n_ti, Int.toNat_natCast, Int32.reduceToInt, Int32.reduceToNatClampNeg, zc_add, zc_sub, zc_add_1, zc_add_2, zc_add_3, zc_add_4, zc_add_8, zc_add_10, zc_add_12, zc_add_16, zc_add_20, zc_sub_1, zc_sub_2, zc_sub_4, zc_sub_10, zc_sub_20, zc_sub_48, zc_sub_97, zc_mul_4, t_ltZ, f_ltZ, t_leZ, f_leZ, t_eqZ, f_eqZ, t_ltN, f_ltN, t_leN, f_leN, t_eqN, f_eqN, ↓reduceIte, and_true, true_and, and_false, false_and, and_self, or_true, true_or, or_false, false_or, or_self, not_true_eq_false, not_false_eq_true, tu_same, tu_eq, tu_ne, b_V, b_I, b_J]
      have en : (nI (if eK (E L.2.2.2.1) = 0 then 0 else 1)) = (if eK (E L.2.2.2.1) = 0 then (0 : Int32) else 1) := by split <;> rfl
      rw [eL, e_149_31]
      by_cases c : pW (S L.2.1) = 0
      · have ee : (if (pW (S L.2.1) = 0 ∨ frS (S L.2.1) = true) ∧ eK (E L.2.2.2.1) = 0 then (0 : Nat) else 1) = (if eK (E L.2.2.2.1) = 0 then 0 else 1) := by
          by_cases d : eK (E L.2.2.2.1) = 0
          · rw [if_pos ⟨Or.inl c, d⟩, if_pos d]
          · rw [if_neg (fun u => d u.2), if_neg d]
        rw [c] at h0
        rw [ee, en]
        simp (disch := first | omega | (simp (disch := omega) only [n_ti, Int32.reduceToInt] <;> omega)) only [l3, l4, h0, e301, n_add, nl_add, nr_add, n_mul, nl_mul, nr_mul, n_sub, nr_dec, n_div, nr_sub_1, nr_sub_2, nr_sub_3, nr_sub_4, nr_sub_7, nr_sub_10, nr_sub_11, nr_sub_20, nr_sub_48, nr_sub_97, nl_sub_3, nl_sub_4, nl_sub_12, nl_sub_24, nl_sub_32, nr_div_2, nr_div_4, z_lt, z_le, z_eq, z_cl, n_ti, Int.toNat_natCast, Int32.reduceToInt, Int32.reduceToNatClampNeg, zc_add, zc_sub, zc_add_1, zc_add_2, zc_add_3, zc_add_4, zc_add_8, zc_add_10, zc_add_12, zc_add_16, zc_add_20, zc_sub_1, zc_sub_2, zc_sub_4, zc_sub_10, zc_sub_20, zc_sub_48, zc_sub_97, zc_mul_4, t_ltZ, f_ltZ, t_leZ, f_leZ, t_eqZ, f_eqZ, t_ltN, f_ltN, t_leN, f_leN, t_eqN, f_eqN, ↓reduceIte, and_true, true_and, and_false, false_and, and_self, or_true, true_or, or_false, false_or, or_self, not_true_eq_false, not_false_eq_true, tu_same, tu_eq, tu_ne, b_V, b_I, b_J]
      · cases hf : frS (S L.2.1) with
        | true =>
          have ee : (if (pW (S L.2.1) = 0 ∨ true = true) ∧ eK (E L.2.2.2.1) = 0 then (0 : Nat) else 1) = (if eK (E L.2.2.2.1) = 0 then 0 else 1) := by
            by_cases d : eK (E L.2.2.2.1) = 0
            · rw [if_pos ⟨Or.inr rfl, d⟩, if_pos d]
            · rw [if_neg (fun u => d u.2), if_neg d]
          rw [ee, en, b2t]
          simp (disch := first | omega | (simp (disch := omega) only [n_ti, Int32.reduceToInt] <;> omega)) only [l3, l4, h0, e301, n_add, nl_add, nr_add, n_mul, nl_mul, nr_mul, n_sub, nr_dec, n_div, nr_sub_1, nr_sub_2, nr_sub_3, nr_sub_4, nr_sub_7, nr_sub_10, nr_sub_11, nr_sub_20, nr_sub_48, nr_sub_97, nl_sub_3, nl_sub_4, nl_sub_12, nl_sub_24, nl_sub_32, nr_div_2, nr_div_4, z_lt, z_le, z_eq, z_cl, n_ti, Int.toNat_natCast, Int32.reduceToInt, Int32.reduceToNatClampNeg, zc_add, zc_sub, zc_add_1, zc_add_2, zc_add_3, zc_add_4, zc_add_8, zc_add_10, zc_add_12, zc_add_16, zc_add_20, zc_sub_1, zc_sub_2, zc_sub_4, zc_sub_10, zc_sub_20, zc_sub_48, zc_sub_97, zc_mul_4, t_ltZ, f_ltZ, t_leZ, f_leZ, t_eqZ, f_eqZ, t_ltN, f_ltN, t_leN, f_leN, t_eqN, f_eqN, ↓reduceIte, and_true, true_and, and_false, false_and, and_self, or_true, true_or, or_false, false_or, or_self, not_true_eq_false, not_false_eq_true, tu_same, tu_eq, tu_ne, b_V, b_I, b_J]
        | false =>
          have ee : (if (pW (S L.2.1) = 0 ∨ false = true) ∧ eK (E L.2.2.2.1) = 0 then (0 : Nat) else 1) = 1 := if_neg (fun u => by rcases u.1 with v | v; exact c v; cases v)
          rw [ee, b2f]
          simp (disch := first | omega | (simp (disch := omega) only [n_ti, Int32.reduceToInt] <;> omega)) only [l3, l4, h0, e_149_311, e_149_316, n_add, nl_add, nr_add, n_mul, nl_mul, nr_mul, n_sub, nr_dec, n_div, nr_sub_1, nr_sub_2, nr_sub_3, nr_sub_4, nr_sub_7, nr_sub_10, nr_sub_11, nr_sub_20, nr_sub_48, nr_sub_97, nl_sub_3, nl_sub_4, nl_sub_12, nl_sub_24, nl_sub_32, nr_div_2, nr_div_4, z_lt, z_le, z_eq, z_cl, n_ti, Int.toNat_natCast, Int32.reduceToInt, Int32.reduceToNatClampNeg, zc_add, zc_sub, zc_add_1, zc_add_2, zc_add_3, zc_add_4, zc_add_8, zc_add_10, zc_add_12, zc_add_16, zc_add_20, zc_sub_1, zc_sub_2, zc_sub_4, zc_sub_10, zc_sub_20, zc_sub_48, zc_sub_97, zc_mul_4, t_ltZ, f_ltZ, t_leZ, f_leZ, t_eqZ, f_eqZ, t_ltN, f_ltN, t_leN, f_leN, t_eqN, f_eqN, ↓reduceIte, and_true, true_and, and_false, false_and, and_self, or_true, true_or, or_false, false_or, or_self, not_true_eq_false, not_false_eq_true, tu_same, tu_eq, tu_ne, b_V, b_I, b_J]
          rfl
  · -- does
    have hx : L.2.2.2.1 < n := o5
    have s97 := s_97 (J := J) (τ := τ) L.2.2.2.2 o6 (hD _ hx) hbk h21 (show L.2.2.2.1 < 12 by omega) (hB.2.2 _ hx)
    have h140 := (hB.2.2 _ hx).2.2.2.2.1
    have h143 := (hB.2.2 _ hx).2.2.2.2.2.1
    have dC1 := (hD _ hx).2.2.2.2.2.2.2.1
    have hfr : frM L.2.2.2.2 (D L.2.2.2.1) ≤ 3 := by
      unfold frM
      have := (hD _ hx).2.2.2.2.1
      split
      · exact this
      · exact mir_le this
    have eL : lawP D mb S E L = (if frS (S L.2.1) = true then (if frM L.2.2.2.2 (D L.2.2.2.1) ≠ 0 ∧ frM L.2.2.2.2 (D L.2.2.2.1) ≠ pF (S L.2.1) then 5 else if (dC (D L.2.2.2.1)).toInt ≠ -1 ∧ (dC (D L.2.2.2.1)).toInt ≠ pD (S L.2.1) then 5 else if (dA (D L.2.2.2.1)).toInt ≠ 0 ∧ 1 < cnt S then 6 else 0) else 1) := by
      unfold lawP
      rw [if_neg (by omega), if_neg (by omega), if_pos o4]
    rw [o4, ac_18] at l3
    rw [eL]
    cases hf : frS (S L.2.1) with
    | false =>
      rw [if_neg Bool.false_ne_true, b2f, e_149_31]
      simp (disch := first | omega | (simp (disch := omega) only [n_ti, Int32.reduceToInt] <;> omega)) only [l3, l4, n_add, nl_add, nr_add, n_mul, nl_mul, nr_mul, n_sub, nr_dec, n_div, nr_sub_1, nr_sub_2, nr_sub_3, nr_sub_4, nr_sub_7, nr_sub_10, nr_sub_11, nr_sub_20, nr_sub_48, nr_sub_97, nl_sub_3, nl_sub_4, nl_sub_12, nl_sub_24, nl_sub_32, nr_div_2, nr_div_4, z_lt, z_le, z_eq, z_cl, n_ti, Int.toNat_natCast, Int32.reduceToInt, Int32.reduceToNatClampNeg, zc_add, zc_sub, zc_add_1, zc_add_2, zc_add_3, zc_add_4, zc_add_8, zc_add_10, zc_add_12, zc_add_16, zc_add_20, zc_sub_1, zc_sub_2, zc_sub_4, zc_sub_10, zc_sub_20, zc_sub_48, zc_sub_97, zc_mul_4, t_ltZ, f_ltZ, t_leZ, f_leZ, t_eqZ, f_eqZ, t_ltN, f_ltN, t_leN, f_leN, t_eqN, f_eqN, ↓reduceIte, and_true, true_and, and_false, false_and, and_self, or_true, true_or, or_false, false_or, or_self, not_true_eq_false, not_false_eq_true, tu_same, tu_eq, tu_ne, b_V, b_I, b_J]
      rfl
    | true =>
      have hf' : pW (S L.2.1) = 1 ∧ pT (S L.2.1) = 0 := by unfold frS at hf; exact of_decide_eq_true hf
      obtain ⟨h15, h16⟩ := h1 hf'.1
      rw [if_pos rfl, b2t]
      have p185 : R_149 31 [(0, .ref 131), (1, .int (nI i)), (2, .int (nI L.2.1))] [.int 1] (mk B J τ) = R_149 185 [(0, .ref 131), (1, .int (nI i)), (2, .int (nI L.2.1)), (4, .int (nI L.2.2.2.1))] [.int (nI (frM L.2.2.2.2 (D L.2.2.2.1)))] (mk B J τ) := by
        rw [e_149_31]
        simp (disch := first | omega | (simp (disch := omega) only [n_ti, Int32.reduceToInt] <;> omega)) only [l3, l4, l5, s97, n_add, nl_add, nr_add, n_mul, nl_mul, nr_mul, n_sub, nr_dec, n_div, nr_sub_1, nr_sub_2, nr_sub_3, nr_sub_4, nr_sub_7, nr_sub_10, nr_sub_11, nr_sub_20, nr_sub_48, nr_sub_97, nl_sub_3, nl_sub_4, nl_sub_12, nl_sub_24, nl_sub_32, nr_div_2, nr_div_4, z_lt, z_le, z_eq, z_cl, n_ti, Int.toNat_natCast, Int32.reduceToInt, Int32.reduceToNatClampNeg, zc_add, zc_sub, zc_add_1, zc_add_2, zc_add_3, zc_add_4, zc_add_8, zc_add_10, zc_add_12, zc_add_16, zc_add_20, zc_sub_1, zc_sub_2, zc_sub_4, zc_sub_10, zc_sub_20, zc_sub_48, zc_sub_97, zc_mul_4, t_ltZ, f_ltZ, t_leZ, f_leZ, t_eqZ, f_eqZ, t_ltN, f_ltN, t_leN, f_leN, t_eqN, f_eqN, ↓reduceIte, and_true, true_and, and_false, false_and, and_self, or_true, true_or, or_false, false_or, or_self, not_true_eq_false, not_false_eq_true, tu_same, tu_eq, tu_ne, b_V, b_I, b_J]
      rw [p185, e_149_185]
      by_cases c1 : frM L.2.2.2.2 (D L.2.2.2.1) ≠ 0 ∧ frM L.2.2.2.2 (D L.2.2.2.1) ≠ pF (S L.2.1)
      · rw [if_pos c1]
        simp (disch := first | omega | (simp (disch := omega) only [n_ti, Int32.reduceToInt] <;> omega)) only [l5, s97, e_149_200, h15, n_add, nl_add, nr_add, n_mul, nl_mul, nr_mul, n_sub, nr_dec, n_div, nr_sub_1, nr_sub_2, nr_sub_3, nr_sub_4, nr_sub_7, nr_sub_10, nr_sub_11, nr_sub_20, nr_sub_48, nr_sub_97, nl_sub_3, nl_sub_4, nl_sub_12, nl_sub_24, nl_sub_32, nr_div_2, nr_div_4, z_lt, z_le, z_eq, z_cl, n_ti, Int.toNat_natCast, Int32.reduceToInt, Int32.reduceToNatClampNeg, zc_add, zc_sub, zc_add_1, zc_add_2, zc_add_3, zc_add_4, zc_add_8, zc_add_10, zc_add_12, zc_add_16, zc_add_20, zc_sub_1, zc_sub_2, zc_sub_4, zc_sub_10, zc_sub_20, zc_sub_48, zc_sub_97, zc_mul_4, t_ltZ, f_ltZ, t_leZ, f_leZ, t_eqZ, f_eqZ, t_ltN, f_ltN, t_leN, f_leN, t_eqN, f_eqN, ↓reduceIte, and_true, true_and, and_false, false_and, and_self, or_true, true_or, or_false, false_or, or_self, not_true_eq_false, not_false_eq_true, tu_same, tu_eq, tu_ne, b_V, b_I, b_J]
        rfl
      rw [if_neg c1]
      have p211 : R_149 31 [(0, .ref 131), (1, .int (nI i)), (2, .int (nI L.2.1))] [.int 1] (mk B J τ) = R_149 211 [(0, .ref 131), (2, .int (nI L.2.1)), (4, .int (nI L.2.2.2.1))] [] (mk B J τ) := by
        rw [p185, e_149_185]
        by_cases d1 : frM L.2.2.2.2 (D L.2.2.2.1) = 0
        · rw [d1]
          simp (disch := first | omega | (simp (disch := omega) only [n_ti, Int32.reduceToInt] <;> omega)) only [n_add, nl_add, nr_add, n_mul, nl_mul, nr_mul, n_sub, nr_dec, n_div, nr_sub_1, nr_sub_2, nr_sub_3, nr_sub_4, nr_sub_7, nr_sub_10, nr_sub_11, nr_sub_20, nr_sub_48, nr_sub_97, nl_sub_3, nl_sub_4, nl_sub_12, nl_sub_24, nl_sub_32, nr_div_2, nr_div_4, z_lt, z_le, z_eq, z_cl, n_ti, Int.toNat_natCast, Int32.reduceToInt, Int32.reduceToNatClampNeg, zc_add, zc_sub, zc_add_1, zc_add_2, zc_add_3, zc_add_4, zc_add_8, zc_add_10, zc_add_12, zc_add_16, zc_add_20, zc_sub_1, zc_sub_2, zc_sub_4, zc_sub_10, zc_sub_20, zc_sub_48, zc_sub_97, zc_mul_4, t_ltZ, f_ltZ, t_leZ, f_leZ, t_eqZ, f_eqZ, t_ltN, f_ltN, t_leN, f_leN, t_eqN, f_eqN, ↓reduceIte, and_true, true_and, and_false, false_and, and_self, or_true, true_or, or_false, false_or, or_self, not_true_eq_false, not_false_eq_true, tu_same, tu_eq, tu_ne, b_V, b_I, b_J]
        · have d2 : frM L.2.2.2.2 (D L.2.2.2.1) = pF (S L.2.1) := by omega
          rw [d2] at s97 d1 ⊢
          simp (disch := first | omega | (simp (disch := omega) only [n_ti, Int32.reduceToInt] <;> omega)) only [l5, s97, e_149_200, h15, n_add, nl_add, nr_add, n_mul, nl_mul, nr_mul, n_sub, nr_dec, n_div, nr_sub_1, nr_sub_2, nr_sub_3, nr_sub_4, nr_sub_7, nr_sub_10, nr_sub_11, nr_sub_20, nr_sub_48, nr_sub_97, nl_sub_3, nl_sub_4, nl_sub_12, nl_sub_24, nl_sub_32, nr_div_2, nr_div_4, z_lt, z_le, z_eq, z_cl, n_ti, Int.toNat_natCast, Int32.reduceToInt, Int32.reduceToNatClampNeg, zc_add, zc_sub, zc_add_1, zc_add_2, zc_add_3, zc_add_4, zc_add_8, zc_add_10, zc_add_12, zc_add_16, zc_add_20, zc_sub_1, zc_sub_2, zc_sub_4, zc_sub_10, zc_sub_20, zc_sub_48, zc_sub_97, zc_mul_4, t_ltZ, f_ltZ, t_leZ, f_leZ, t_eqZ, f_eqZ, t_ltN, f_ltN, t_leN, f_leN, t_eqN, f_eqN, ↓reduceIte, and_true, true_and, and_false, false_and, and_self, or_true, true_or, or_false, false_or, or_self, not_true_eq_false, not_false_eq_true, tu_same, tu_eq, tu_ne, b_V, b_I, b_J]
      rw [← e_149_185, ← p185, p211, e_149_211]
      by_cases c2 : (dC (D L.2.2.2.1)).toInt ≠ -1 ∧ (dC (D L.2.2.2.1)).toInt ≠ pD (S L.2.1)
      · rw [if_pos c2]
        obtain ⟨c4, c5⟩ := c2
        simp (disch := first | omega | (simp (disch := omega) only [n_ti, Int32.reduceToInt] <;> omega)) only [h21, h140, h16, n_add, nl_add, nr_add, n_mul, nl_mul, nr_mul, n_sub, nr_dec, n_div, nr_sub_1, nr_sub_2, nr_sub_3, nr_sub_4, nr_sub_7, nr_sub_10, nr_sub_11, nr_sub_20, nr_sub_48, nr_sub_97, nl_sub_3, nl_sub_4, nl_sub_12, nl_sub_24, nl_sub_32, nr_div_2, nr_div_4, z_lt, z_le, z_eq, z_cl, n_ti, Int.toNat_natCast, Int32.reduceToInt, Int32.reduceToNatClampNeg, zc_add, zc_sub, zc_add_1, zc_add_2, zc_add_3, zc_add_4, zc_add_8, zc_add_10, zc_add_12, zc_add_16, zc_add_20, zc_sub_1, zc_sub_2, zc_sub_4, zc_sub_10, zc_sub_20, zc_sub_48, zc_sub_97, zc_mul_4, t_ltZ, f_ltZ, t_leZ, f_leZ, t_eqZ, f_eqZ, t_ltN, f_ltN, t_leN, f_leN, t_eqN, f_eqN, ↓reduceIte, and_true, true_and, and_false, false_and, and_self, or_true, true_or, or_false, false_or, or_self, not_true_eq_false, not_false_eq_true, tu_same, tu_eq, tu_ne, b_V, b_I, b_J]
        rfl
      rw [if_neg c2]
      have p255 : R_149 211 [(0, .ref 131), (2, .int (nI L.2.1)), (4, .int (nI L.2.2.2.1))] [] (mk B J τ) = R_149 255 [(0, .ref 131), (4, .int (nI L.2.2.2.1))] [] (mk B J τ) := by
        rw [e_149_211]
        by_cases d1 : (dC (D L.2.2.2.1)).toInt = -1
        · simp (disch := first | omega | (simp (disch := omega) only [n_ti, Int32.reduceToInt] <;> omega)) only [h21, h140, n_add, nl_add, nr_add, n_mul, nl_mul, nr_mul, n_sub, nr_dec, n_div, nr_sub_1, nr_sub_2, nr_sub_3, nr_sub_4, nr_sub_7, nr_sub_10, nr_sub_11, nr_sub_20, nr_sub_48, nr_sub_97, nl_sub_3, nl_sub_4, nl_sub_12, nl_sub_24, nl_sub_32, nr_div_2, nr_div_4, z_lt, z_le, z_eq, z_cl, n_ti, Int.toNat_natCast, Int32.reduceToInt, Int32.reduceToNatClampNeg, zc_add, zc_sub, zc_add_1, zc_add_2, zc_add_3, zc_add_4, zc_add_8, zc_add_10, zc_add_12, zc_add_16, zc_add_20, zc_sub_1, zc_sub_2, zc_sub_4, zc_sub_10, zc_sub_20, zc_sub_48, zc_sub_97, zc_mul_4, t_ltZ, f_ltZ, t_leZ, f_leZ, t_eqZ, f_eqZ, t_ltN, f_ltN, t_leN, f_leN, t_eqN, f_eqN, ↓reduceIte, and_true, true_and, and_false, false_and, and_self, or_true, true_or, or_false, false_or, or_self, not_true_eq_false, not_false_eq_true, tu_same, tu_eq, tu_ne, b_V, b_I, b_J]
        · have d2 : (dC (D L.2.2.2.1)).toInt = pD (S L.2.1) := by omega
          simp (disch := first | omega | (simp (disch := omega) only [n_ti, Int32.reduceToInt] <;> omega)) only [h21, h140, h16, n_add, nl_add, nr_add, n_mul, nl_mul, nr_mul, n_sub, nr_dec, n_div, nr_sub_1, nr_sub_2, nr_sub_3, nr_sub_4, nr_sub_7, nr_sub_10, nr_sub_11, nr_sub_20, nr_sub_48, nr_sub_97, nl_sub_3, nl_sub_4, nl_sub_12, nl_sub_24, nl_sub_32, nr_div_2, nr_div_4, z_lt, z_le, z_eq, z_cl, n_ti, Int.toNat_natCast, Int32.reduceToInt, Int32.reduceToNatClampNeg, zc_add, zc_sub, zc_add_1, zc_add_2, zc_add_3, zc_add_4, zc_add_8, zc_add_10, zc_add_12, zc_add_16, zc_add_20, zc_sub_1, zc_sub_2, zc_sub_4, zc_sub_10, zc_sub_20, zc_sub_48, zc_sub_97, zc_mul_4, t_ltZ, f_ltZ, t_leZ, f_leZ, t_eqZ, f_eqZ, t_ltN, f_ltN, t_leN, f_leN, t_eqN, f_eqN, ↓reduceIte, and_true, true_and, and_false, false_and, and_self, or_true, true_or, or_false, false_or, or_self, not_true_eq_false, not_false_eq_true, tu_same, tu_eq, tu_ne, b_V, b_I, b_J]
      rw [← e_149_211, p255, e_149_255]
      rcases dA_z (hD _ hx) with ea | ea
      · have za : ¬ ((dA (D L.2.2.2.1)).toInt ≠ 0 ∧ 1 < cnt S) := by rw [ea]; intro u; exact u.1 rfl
        rw [ea] at h143
        rw [if_neg za]
        simp (disch := first | omega | (simp (disch := omega) only [n_ti, Int32.reduceToInt] <;> omega)) only [h21, h143, e_149_286, e_149_287, n_add, nl_add, nr_add, n_mul, nl_mul, nr_mul, n_sub, nr_dec, n_div, nr_sub_1, nr_sub_2, nr_sub_3, nr_sub_4, nr_sub_7, nr_sub_10, nr_sub_11, nr_sub_20, nr_sub_48, nr_sub_97, nl_sub_3, nl_sub_4, nl_sub_12, nl_sub_24, nl_sub_32, nr_div_2, nr_div_4, z_lt, z_le, z_eq, z_cl, n_ti, Int.toNat_natCast, Int32.reduceToInt, Int32.reduceToNatClampNeg, zc_add, zc_sub, zc_add_1, zc_add_2, zc_add_3, zc_add_4, zc_add_8, zc_add_10, zc_add_12, zc_add_16, zc_add_20, zc_sub_1, zc_sub_2, zc_sub_4, zc_sub_10, zc_sub_20, zc_sub_48, zc_sub_97, zc_mul_4, t_ltZ, f_ltZ, t_leZ, f_leZ, t_eqZ, f_eqZ, t_ltN, f_ltN, t_leN, f_leN, t_eqN, f_eqN, ↓reduceIte, and_true, true_and, and_false, false_and, and_self, or_true, true_or, or_false, false_or, or_self, not_true_eq_false, not_false_eq_true, tu_same, tu_eq, tu_ne, b_V, b_I, b_J]
        rfl
      · have ea' : (dA (D L.2.2.2.1)).toInt ≠ 0 := by rw [ea]; decide
        rw [ea] at h143
        by_cases c3 : 1 < cnt S
        · have zc : (dA (D L.2.2.2.1)).toInt ≠ 0 ∧ 1 < cnt S := ⟨ea', c3⟩
          rw [if_pos zc]
          simp (disch := first | omega | (simp (disch := omega) only [n_ti, Int32.reduceToInt] <;> omega)) only [h21, h143, f147, e_149_277, e_149_287, n_add, nl_add, nr_add, n_mul, nl_mul, nr_mul, n_sub, nr_dec, n_div, nr_sub_1, nr_sub_2, nr_sub_3, nr_sub_4, nr_sub_7, nr_sub_10, nr_sub_11, nr_sub_20, nr_sub_48, nr_sub_97, nl_sub_3, nl_sub_4, nl_sub_12, nl_sub_24, nl_sub_32, nr_div_2, nr_div_4, z_lt, z_le, z_eq, z_cl, n_ti, Int.toNat_natCast, Int32.reduceToInt, Int32.reduceToNatClampNeg, zc_add, zc_sub, zc_add_1, zc_add_2, zc_add_3, zc_add_4, zc_add_8, zc_add_10, zc_add_12, zc_add_16, zc_add_20, zc_sub_1, zc_sub_2, zc_sub_4, zc_sub_10, zc_sub_20, zc_sub_48, zc_sub_97, zc_mul_4, t_ltZ, f_ltZ, t_leZ, f_leZ, t_eqZ, f_eqZ, t_ltN, f_ltN, t_leN, f_leN, t_eqN, f_eqN, ↓reduceIte, and_true, true_and, and_false, false_and, and_self, or_true, true_or, or_false, false_or, or_self, not_true_eq_false, not_false_eq_true, tu_same, tu_eq, tu_ne, b_V, b_I, b_J]
          rfl
        · have zc : ¬ ((dA (D L.2.2.2.1)).toInt ≠ 0 ∧ 1 < cnt S) := fun u => c3 u.2
          rw [if_neg zc]
          simp (disch := first | omega | (simp (disch := omega) only [n_ti, Int32.reduceToInt] <;> omega)) only [h21, h143, f147, e_149_277, e_149_286, e_149_287, n_add, nl_add, nr_add, n_mul, nl_mul, nr_mul, n_sub, nr_dec, n_div, nr_sub_1, nr_sub_2, nr_sub_3, nr_sub_4, nr_sub_7, nr_sub_10, nr_sub_11, nr_sub_20, nr_sub_48, nr_sub_97, nl_sub_3, nl_sub_4, nl_sub_12, nl_sub_24, nl_sub_32, nr_div_2, nr_div_4, z_lt, z_le, z_eq, z_cl, n_ti, Int.toNat_natCast, Int32.reduceToInt, Int32.reduceToNatClampNeg, zc_add, zc_sub, zc_add_1, zc_add_2, zc_add_3, zc_add_4, zc_add_8, zc_add_10, zc_add_12, zc_add_16, zc_add_20, zc_sub_1, zc_sub_2, zc_sub_4, zc_sub_10, zc_sub_20, zc_sub_48, zc_sub_97, zc_mul_4, t_ltZ, f_ltZ, t_leZ, f_leZ, t_eqZ, f_eqZ, t_ltN, f_ltN, t_leN, f_leN, t_eqN, f_eqN, ↓reduceIte, and_true, true_and, and_false, false_and, and_self, or_true, true_or, or_false, false_or, or_self, not_true_eq_false, not_false_eq_true, tu_same, tu_eq, tu_ne, b_V, b_I, b_J]
          rfl
set_option maxHeartbeats 1000000 in
theorem m_151 {B : Nat → Nat → Int32} {J : Nat → Nat → Int64} {τ : tm_Tu} {n b i N : Nat} {S : PS} {E : ES} {L : LD} (h : PsB B b S) (hE : EnB B E) (hfree : L.2.2.1 ≠ 16 → L.2.2.1 ≠ 18 → pT (S L.2.1) = 0) (hw0 : L.2.2.1 = 16 → pT (S L.2.1) = 0) (hb1000 : b ≤ 1000) (hw1 : L.2.2.1 = 18 → pW (S L.2.1) = 1) (hn : n ≤ 12) (h59 : B 131 59 = nI b) (hi : i < 120) (hL : LnB B i L) (hok : LOk n N L) : ∃ B', F_151 [.ref 131, .int (nI i)] (mk B J τ) = some (none, mk B' J τ) ∧ PsB B' b (actP b S E L).1 ∧ EnB B' (actP b S E L).2 ∧ (∀ a k, ¬ (151 ≤ a ∧ a ≤ 157) → a ≠ 172 → a ≠ 174 → B' a k = B a k) := by
  obtain ⟨l1, l2, l3, l4, l5⟩ := hL
  obtain ⟨o1, o2, o3⟩ := hok
  have hp : L.2.1 < 6 := by omega
  obtain ⟨h0, h1, h3, h4⟩ := h L.2.1 hp
  rw [e_151]
  rcases o3 with ⟨o4, o5, o6⟩ | ⟨o4, o5, o6⟩
  · rcases o4 with o4 | o4 | o4
    · have eA : actP b S E L = (updN S L.2.1 (1, (if L.2.2.2.1 = 0 then 1 else 2), 0, 0, 0, 0, 0), E) := if_pos o4
      rw [eA]
      have t0 := hw0 o4
      rw [t0] at h3
      rw [o4, ac_16] at l3
      refine ⟨tm_u (tm_u (tm_u B 151 L.2.1 1) 152 L.2.1 (nI (if L.2.2.2.1 = 0 then 1 else 2))) 153 L.2.1 0, ?_, h.up (fun a k u v => by simp (disch := omega) only [tu_same, tu_eq, tu_ne]) ⟨by simp (disch := omega) only [tu_same, tu_eq, tu_ne]; rfl, fun _ => ⟨by simp (disch := omega) only [tu_same, tu_eq, tu_ne], by simp (disch := omega) only [tu_same, tu_eq, tu_ne]; rfl⟩, by simp (disch := omega) only [h3, tu_same, tu_eq, tu_ne], fun u => absurd rfl u⟩, hE.tr (fun a k u => by simp (disch := omega) only [tu_same, tu_eq, tu_ne]), fun a k u v w => by simp (disch := omega) only [tu_same, tu_eq, tu_ne]⟩
      by_cases d : L.2.2.2.1 = 0
      · rw [if_pos d]
        rw [d] at l4
        simp (disch := first | omega | (simp (disch := omega) only [n_ti, Int32.reduceToInt] <;> omega)) only [l2, l3, l4, e_151_69, e_151_152, n_add, nl_add, nr_add, n_mul, nl_mul, nr_mul, n_sub, nr_dec, n_div, nr_sub_1, nr_sub_2, nr_sub_3, nr_sub_4, nr_sub_7, nr_sub_10, nr_sub_11, nr_sub_20, nr_sub_48, nr_sub_97, nl_sub_3, nl_sub_4, nl_sub_12, nl_sub_24, nl_sub_32, nr_div_2, nr_div_4, z_lt, z_le, z_eq, z_cl, n_ti, Int.toNat_natCast, Int32.reduceToInt, Int32.reduceToNatClampNeg, zc_add, zc_sub, zc_add_1, zc_add_2, zc_add_3, zc_add_4, zc_add_8, zc_add_10, zc_add_12, zc_add_16, zc_add_20, zc_sub_1, zc_sub_2, zc_sub_4, zc_sub_10, zc_sub_20, zc_sub_48, zc_sub_97, zc_mul_4, t_ltZ, f_ltZ, t_leZ, f_leZ, t_eqZ, f_eqZ, t_ltN, f_ltN, t_leN, f_leN, t_eqN, f_eqN, ↓reduceIte, and_true, true_and, and_false, false_and, and_self, or_true, true_or, or_false, false_or, or_self, not_true_eq_false, not_false_eq_true, tu_same, tu_eq, tu_ne, b_V, b_I, b_J]
        rfl
      · rw [if_neg d]
        simp (disch := first | omega | (simp (disch := omega) only [n_ti, Int32.reduceToInt] <;> omega)) only [l2, l3, l4, e_151_69, e_151_152, n_add, nl_add, nr_add, n_mul, nl_mul, nr_mul, n_sub, nr_dec, n_div, nr_sub_1, nr_sub_2, nr_sub_3, nr_sub_4, nr_sub_7, nr_sub_10, nr_sub_11, nr_sub_20, nr_sub_48, nr_sub_97, nl_sub_3, nl_sub_4, nl_sub_12, nl_sub_24, nl_sub_32, nr_div_2, nr_div_4, z_lt, z_le, z_eq, z_cl, n_ti, Int.toNat_natCast, Int32.reduceToInt, Int32.reduceToNatClampNeg, zc_add, zc_sub, zc_add_1, zc_add_2, zc_add_3, zc_add_4, zc_add_8, zc_add_10, zc_add_12, zc_add_16, zc_add_20, zc_sub_1, zc_sub_2, zc_sub_4, zc_sub_10, zc_sub_20, zc_sub_48, zc_sub_97, zc_mul_4, t_ltZ, f_ltZ, t_leZ, f_leZ, t_eqZ, f_eqZ, t_ltN, f_ltN, t_leN, f_leN, t_eqN, f_eqN, ↓reduceIte, and_true, true_and, and_false, false_and, and_self, or_true, true_or, or_false, false_or, or_self, not_true_eq_false, not_false_eq_true, tu_same, tu_eq, tu_ne, b_V, b_I, b_J]
        rfl
    · have eA : actP b S E L = (updN S L.2.1 (0, 0, 0, 0, 0, 0, 0), E) := by
        unfold actP
        rw [if_neg (by omega), if_pos o4]
      rw [eA]
      have t0 := hfree (by omega) (by omega)
      rw [t0] at h3
      rw [o4, ac_17] at l3
      refine ⟨tm_u B 151 L.2.1 0, ?_, h.up (fun a k u v => by simp (disch := omega) only [tu_same, tu_eq, tu_ne]) ⟨by simp (disch := omega) only [tu_same, tu_eq, tu_ne]; rfl, fun u => (by cases u), by simp (disch := omega) only [h3, tu_same, tu_eq, tu_ne], fun u => absurd rfl u⟩, hE.tr (fun a k u => by simp (disch := omega) only [tu_same, tu_eq, tu_ne]), fun a k u v w => by simp (disch := omega) only [tu_same, tu_eq, tu_ne]⟩
      simp (disch := first | omega | (simp (disch := omega) only [n_ti, Int32.reduceToInt] <;> omega)) only [l2, l3, e_151_152, n_add, nl_add, nr_add, n_mul, nl_mul, nr_mul, n_sub, nr_dec, n_div, nr_sub_1, nr_sub_2, nr_sub_3, nr_sub_4, nr_sub_7, nr_sub_10, nr_sub_11, nr_sub_20, nr_sub_48, nr_sub_97, nl_sub_3, nl_sub_4, nl_sub_12, nl_sub_24, nl_sub_32, nr_div_2, nr_div_4, z_lt, z_le, z_eq, z_cl, n_ti, Int.toNat_natCast, Int32.reduceToInt, Int32.reduceToNatClampNeg, zc_add, zc_sub, zc_add_1, zc_add_2, zc_add_3, zc_add_4, zc_add_8, zc_add_10, zc_add_12, zc_add_16, zc_add_20, zc_sub_1, zc_sub_2, zc_sub_4, zc_sub_10, zc_sub_20, zc_sub_48, zc_sub_97, zc_mul_4, t_ltZ, f_ltZ, t_leZ, f_leZ, t_eqZ, f_eqZ, t_ltN, f_ltN, t_leN, f_leN, t_eqN, f_eqN, ↓reduceIte, and_true, true_and, and_false, false_and, and_self, or_true, true_or, or_false, false_or, or_self, not_true_eq_false, not_false_eq_true, tu_same, tu_eq, tu_ne, b_V, b_I, b_J]
    · have eA : actP b S E L = (updN S L.2.1 (4 + L.2.2.2.1, 0, 0, 0, 0, 0, 0), updN E L.2.2.2.1 (eH (E L.2.2.2.1), L.2.1 + 1, 0)) := by
        unfold actP
        rw [if_neg (by omega), if_neg (by omega), if_neg (by omega)]
      rw [eA]
      have t0 := hfree (by omega) (by omega)
      rw [t0] at h3
      rw [o4, ac_20] at l3
      refine ⟨tm_u (tm_u (tm_u B 151 L.2.1 (nI (4 + L.2.2.2.1))) 157 L.2.2.2.1 (nI L.2.1)) 156 L.2.2.2.1 0, ?_, h.up (fun a k u v => by simp (disch := omega) only [tu_same, tu_eq, tu_ne]) ⟨by simp (disch := omega) only [tu_same, tu_eq, tu_ne], fun u => ?_, by simp (disch := omega) only [h3, tu_same, tu_eq, tu_ne], fun u => absurd rfl u⟩, fun q hq => ?_, fun a k u v w => by simp (disch := omega) only [tu_same, tu_eq, tu_ne]⟩
      · simp (disch := first | omega | (simp (disch := omega) only [n_ti, Int32.reduceToInt] <;> omega)) only [l2, l3, l4, e_151_152, n_add, nl_add, nr_add, n_mul, nl_mul, nr_mul, n_sub, nr_dec, n_div, nr_sub_1, nr_sub_2, nr_sub_3, nr_sub_4, nr_sub_7, nr_sub_10, nr_sub_11, nr_sub_20, nr_sub_48, nr_sub_97, nl_sub_3, nl_sub_4, nl_sub_12, nl_sub_24, nl_sub_32, nr_div_2, nr_div_4, z_lt, z_le, z_eq, z_cl, n_ti, Int.toNat_natCast, Int32.reduceToInt, Int32.reduceToNatClampNeg, zc_add, zc_sub, zc_add_1, zc_add_2, zc_add_3, zc_add_4, zc_add_8, zc_add_10, zc_add_12, zc_add_16, zc_add_20, zc_sub_1, zc_sub_2, zc_sub_4, zc_sub_10, zc_sub_20, zc_sub_48, zc_sub_97, zc_mul_4, t_ltZ, f_ltZ, t_leZ, f_leZ, t_eqZ, f_eqZ, t_ltN, f_ltN, t_leN, f_leN, t_eqN, f_eqN, ↓reduceIte, and_true, true_and, and_false, false_and, and_self, or_true, true_or, or_false, false_or, or_self, not_true_eq_false, not_false_eq_true, tu_same, tu_eq, tu_ne, b_V, b_I, b_J]
      · have : 4 + L.2.2.2.1 = 1 := u
        omega
      · show (_ = tI (eK (updN E L.2.2.2.1 (eH (E L.2.2.2.1), L.2.1 + 1, 0) q))) ∧ (eK (updN E L.2.2.2.1 (eH (E L.2.2.2.1), L.2.1 + 1, 0) q) ≠ 0 → _ = nI (eQ (updN E L.2.2.2.1 (eH (E L.2.2.2.1), L.2.1 + 1, 0) q)))
        by_cases eq : q = L.2.2.2.1
        · rw [eq, updN_s]
          exact ⟨by simp (disch := omega) only [tu_same, tu_eq, tu_ne]; rfl, fun _ => by simp (disch := omega) only [tu_same, tu_eq, tu_ne]; rfl⟩
        · rw [updN_n _ _ eq]
          obtain ⟨z1, z2⟩ := hE q hq
          exact ⟨by simp (disch := omega) only [z1, tu_same, tu_eq, tu_ne], fun u => by simp (disch := omega) only [z2 u, tu_same, tu_eq, tu_ne]⟩
  · have eA : actP b S E L = (updN S L.2.1 (pW (S L.2.1), pF (S L.2.1), pD (S L.2.1), L.2.2.2.1 + 1, L.2.2.2.2, b, pX (S L.2.1)), E) := by
      unfold actP
      rw [if_neg (by omega), if_neg (by omega), if_pos o4]
    rw [eA]
    rw [o4, ac_18] at l3
    have ea := nI_and1 L.2.2.2.2 o6
    refine ⟨tm_u (tm_u (tm_u (tm_u B 154 L.2.1 (nI L.2.2.2.1)) 172 L.2.1 (nI L.2.2.2.2)) 155 L.2.1 (nI b)) 174 L.2.1 0, ?_, h.up (fun a k u v => by simp (disch := omega) only [tu_same, tu_eq, tu_ne]) ⟨by simp (disch := omega) only [h0, tu_same, tu_eq, tu_ne], fun u => ⟨by simp (disch := omega) only [tu_same, tu_eq, tu_ne]; exact (h1 u).1, by simp (disch := omega) only [tu_same, tu_eq, tu_ne]; exact (h1 u).2⟩, by simp (disch := omega) only [tu_same, tu_eq, tu_ne]; rfl, fun _ => ⟨by simp (disch := omega) only [tu_same, tu_eq, tu_ne], by simp (disch := omega) only [tu_same, tu_eq, tu_ne], ?_⟩⟩, hE.tr (fun a k u => by simp (disch := omega) only [tu_same, tu_eq, tu_ne]), fun a k u v w => by simp (disch := omega) only [tu_same, tu_eq, tu_ne]⟩
    · simp (disch := first | omega | (simp (disch := omega) only [n_ti, Int32.reduceToInt] <;> omega)) only [l2, l3, l4, l5, h59, ea, e_151_152, n_add, nl_add, nr_add, n_mul, nl_mul, nr_mul, n_sub, nr_dec, n_div, nr_sub_1, nr_sub_2, nr_sub_3, nr_sub_4, nr_sub_7, nr_sub_10, nr_sub_11, nr_sub_20, nr_sub_48, nr_sub_97, nl_sub_3, nl_sub_4, nl_sub_12, nl_sub_24, nl_sub_32, nr_div_2, nr_div_4, z_lt, z_le, z_eq, z_cl, n_ti, Int.toNat_natCast, Int32.reduceToInt, Int32.reduceToNatClampNeg, zc_add, zc_sub, zc_add_1, zc_add_2, zc_add_3, zc_add_4, zc_add_8, zc_add_10, zc_add_12, zc_add_16, zc_add_20, zc_sub_1, zc_sub_2, zc_sub_4, zc_sub_10, zc_sub_20, zc_sub_48, zc_sub_97, zc_mul_4, t_ltZ, f_ltZ, t_leZ, f_leZ, t_eqZ, f_eqZ, t_ltN, f_ltN, t_leN, f_leN, t_eqN, f_eqN, ↓reduceIte, and_true, true_and, and_false, false_and, and_self, or_true, true_or, or_false, false_or, or_self, not_true_eq_false, not_false_eq_true, tu_same, tu_eq, tu_ne, b_V, b_I, b_J]
    · simp (disch := omega) only [tu_same, tu_eq, tu_ne]
      rw [show b - b = 0 by omega]
      rfl
