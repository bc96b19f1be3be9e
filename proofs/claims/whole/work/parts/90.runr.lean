/-! run: misses of a BEAT, breaking off (class) -/
def toQ (D : Nat → TD) (b mo : Nat) (S : PS) (p : Nat) : Bool := itP S p && decide (wm D b (S p) ≠ mo)
def toP (D : Nat → TD) (b : Nat) (S : PS) : Bool := anyF (toQ D b (moP D b S) S) 6 0
def h4P (S : PS) (p : Nat) : Bool := decide (4 ≤ pW (S p))
def haP (mo : Nat) (S : PS) : Nat := if mo = 0 then 0 else fstF (h4P S) 6 0
def hiQ (mo : Nat) (s : SP) (i : Nat) : Bool := decide (pX s / 4 ^ i % 4 ≠ 0) && pasZ (mo : Int) i
def hiP (mo : Nat) (s : SP) : Bool := anyF (hiQ mo s) 4 0
def htP (mo : Nat) (S : PS) (p : Nat) : Bool := decide (pW (S p) = 1) && hiP mo (S p)
def feF (mo b : Nat) (S : PS) : Nat → Nat → ML → ML
  | 0, _, l => l
  | m + 1, j, l => feF mo b S m (j + 1) (if htP mo S j = true then adM l (b, 9, j) else l)
def bkS (s : SP) : SP := (pW s, 0, pD s, 0, 0, 0, pX s)
theorem and_t {a b : Bool} (h1 : a = true) (h2 : b = true) : (a && b) = true := by rw [h1, h2]; rfl
theorem and_f1 {a b : Bool} (h1 : a = false) : (a && b) = false := by rw [h1]; rfl
theorem and_f2 {a b : Bool} (h1 : b = false) : (a && b) = false := by rw [h1]; cases a <;> rfl
theorem anyF_1 {P : Nat → Bool} {m j : Nat} (h : P j = true) : anyF P (m + 1) j = true := if_pos h
theorem anyF_0 {P : Nat → Bool} {m j : Nat} (h : P j = false) : anyF P (m + 1) j = anyF P m (j + 1) := if_neg (by rw [h]; exact Bool.false_ne_true)
theorem fstF_1 {P : Nat → Bool} {m j : Nat} (h : P j = true) : fstF P (m + 1) j = j + 1 := if_pos h
theorem fstF_0 {P : Nat → Bool} {m j : Nat} (h : P j = false) : fstF P (m + 1) j = fstF P m (j + 1) := if_neg (by rw [h]; exact Bool.false_ne_true)
theorem itP_d {S : PS} {p : Nat} : itP S p = decide (pT (S p) ≠ 0) := rfl
/-- what a miss may change (class) -/
def fMi (A A' : Nat → Nat → Int32) : Prop := ∀ a k, ¬ (a = 8 ∧ k = 7) → a ≠ 9 → A' a k = A a k
set_option maxHeartbeats 1000000 in
theorem c_134 {A : Nat → Nat → Int32} {J : Nat → Nat → Int64} {τ : tm_Tu} {cb n b mo f : Nat} {D : Nat → TD} {S : PS} {l : ML} (h : PsA A S) (hS : SOk n D b S) (hn : n ≤ 12) (hb : isB cb) (hD : DOk n D) (hA : BkA A cb n D) (hb1 : b ≤ 1000) (hmo : mo ≤ 3) (hM : MsA A l) (hl : l.1 < 100000) : ∃ A', F_134 [.ref 7, .ref cb, .int (nI f), .int (nI mo), .int (nI b)] (mk A J τ) = some (some (.int (b2 (anyF (toQ D b mo S) 6 0))), mk A' J τ) ∧ MsA A' (if anyF (toQ D b mo S) 6 0 = true then adM l (b, 7, f) else l) ∧ fMi A A' := by
  have key : ∀ m j, j + m = 6 → ∃ A', R_134 3 [(0, .ref 7), (1, .ref cb), (2, .int (nI f)), (3, .int (nI mo)), (4, .int (nI b)), (5, .int (nI j))] [] (mk A J τ) = some (some (.int (b2 (anyF (toQ D b mo S) m j))), mk A' J τ) ∧ MsA A' (if anyF (toQ D b mo S) m j = true then adM l (b, 7, f) else l) ∧ fMi A A' := by
    intro m
    induction m with
    | zero =>
      intro j hj
      refine ⟨A, ?_, hM, fun _ _ _ _ => rfl⟩
      rw [e_134_3]
      simp (disch := first | omega | (simp (disch := omega) only [n_ti, Int32.reduceToInt] <;> omega)) only [n_add, nl_add, nr_add, n_mul, nl_mul, nr_mul, n_sub, nr_dec, n_div, nr_sub_1, nr_sub_2, nr_sub_3, nr_sub_4, nr_sub_7, nr_sub_10, nr_sub_11, nr_sub_20, nr_sub_48, nr_sub_97, nl_sub_3, nl_sub_4, nl_sub_12, nl_sub_24, nl_sub_32, nr_div_2, nr_div_4, z_lt, z_le, z_eq, z_cl, n_ti, Int.toNat_natCast, Int32.reduceToInt, Int32.reduceToNatClampNeg, zc_add, zc_sub, zc_add_1, zc_add_2, zc_add_3, zc_add_4, zc_add_8, zc_add_10, zc_add_12, zc_add_16, zc_add_20, zc_sub_1, zc_sub_2, zc_sub_4, zc_sub_10, zc_sub_20, zc_sub_48, zc_sub_97, zc_mul_4, t_ltZ, f_ltZ, t_leZ, f_leZ, t_eqZ, f_eqZ, t_ltN, f_ltN, t_leN, f_leN, t_eqN, f_eqN, ↓reduceIte, and_true, true_and, and_false, false_and, and_self, or_true, true_or, or_false, false_or, or_self, not_true_eq_false, not_false_eq_true, tu_same, tu_eq, tu_ne, b_V, b_I, b_J]
      rfl
    | succ m ih =>
      intro j hj
      have hp : j < 6 := by omega
      obtain ⟨w1, w2, w3, w4, w5, w6, -⟩ := hS j hp
      have f116 := c_116 (J := J) (τ := τ) hp (h j hp) w1 (by omega) (fun u => (w6 u).1)
      have k1 := j_1 hp τ
      have k2 := j_2 hp
      rw [← itP_d] at f116
      cases hi : itP S j with
      | false =>
        rw [hi, b2f] at f116
        have e : anyF (toQ D b mo S) (m + 1) j = anyF (toQ D b mo S) m (j + 1) := anyF_0 (and_f1 hi)
        rw [e]
        obtain ⟨A', g1, g2, g3⟩ := ih (j + 1) (by omega)
        refine ⟨A', ?_, g2, g3⟩
        rw [← g1, e_134_3]
        simp (disch := first | omega | (simp (disch := omega) only [n_ti, Int32.reduceToInt] <;> omega)) only [k1, k2, f116, e_134_20, e_134_50, n_add, nl_add, nr_add, n_mul, nl_mul, nr_mul, n_sub, nr_dec, n_div, nr_sub_1, nr_sub_2, nr_sub_3, nr_sub_4, nr_sub_7, nr_sub_10, nr_sub_11, nr_sub_20, nr_sub_48, nr_sub_97, nl_sub_3, nl_sub_4, nl_sub_12, nl_sub_24, nl_sub_32, nr_div_2, nr_div_4, z_lt, z_le, z_eq, z_cl, n_ti, Int.toNat_natCast, Int32.reduceToInt, Int32.reduceToNatClampNeg, zc_add, zc_sub, zc_add_1, zc_add_2, zc_add_3, zc_add_4, zc_add_8, zc_add_10, zc_add_12, zc_add_16, zc_add_20, zc_sub_1, zc_sub_2, zc_sub_4, zc_sub_10, zc_sub_20, zc_sub_48, zc_sub_97, zc_mul_4, t_ltZ, f_ltZ, t_leZ, f_leZ, t_eqZ, f_eqZ, t_ltN, f_ltN, t_leN, f_leN, t_eqN, f_eqN, ↓reduceIte, and_true, true_and, and_false, false_and, and_self, or_true, true_or, or_false, false_or, or_self, not_true_eq_false, not_false_eq_true, tu_same, tu_eq, tu_ne, b_V, b_I, b_J]
      | true =>
        rw [hi, b2t] at f116
        have ht : pT (S j) ≠ 0 := of_decide_eq_true hi
        have f130 := c_130 (J := J) (τ := τ) h hS hn hb hD hA hp ht hb1
        have wl := (wm_le (hS j hp) hD ht).1
        by_cases c : wm D b (S j) = mo
        · have e : anyF (toQ D b mo S) (m + 1) j = anyF (toQ D b mo S) m (j + 1) := anyF_0 (and_f2 (decide_eq_false (fun u => u c)))
          rw [e]
          rw [c] at f130
          obtain ⟨A', g1, g2, g3⟩ := ih (j + 1) (by omega)
          refine ⟨A', ?_, g2, g3⟩
          rw [← g1, e_134_3]
          simp (disch := first | omega | (simp (disch := omega) only [n_ti, Int32.reduceToInt] <;> omega)) only [k1, k2, f116, e_134_20, f130, e_134_32, e_134_50, n_add, nl_add, nr_add, n_mul, nl_mul, nr_mul, n_sub, nr_dec, n_div, nr_sub_1, nr_sub_2, nr_sub_3, nr_sub_4, nr_sub_7, nr_sub_10, nr_sub_11, nr_sub_20, nr_sub_48, nr_sub_97, nl_sub_3, nl_sub_4, nl_sub_12, nl_sub_24, nl_sub_32, nr_div_2, nr_div_4, z_lt, z_le, z_eq, z_cl, n_ti, Int.toNat_natCast, Int32.reduceToInt, Int32.reduceToNatClampNeg, zc_add, zc_sub, zc_add_1, zc_add_2, zc_add_3, zc_add_4, zc_add_8, zc_add_10, zc_add_12, zc_add_16, zc_add_20, zc_sub_1, zc_sub_2, zc_sub_4, zc_sub_10, zc_sub_20, zc_sub_48, zc_sub_97, zc_mul_4, t_ltZ, f_ltZ, t_leZ, f_leZ, t_eqZ, f_eqZ, t_ltN, f_ltN, t_leN, f_leN, t_eqN, f_eqN, ↓reduceIte, and_true, true_and, and_false, false_and, and_self, or_true, true_or, or_false, false_or, or_self, not_true_eq_false, not_false_eq_true, tu_same, tu_eq, tu_ne, b_V, b_I, b_J]
        · have e : anyF (toQ D b mo S) (m + 1) j = true := anyF_1 (and_t hi (decide_eq_true c))
          rw [e, if_pos rfl, b2t]
          obtain ⟨A1, p1, p2, p3⟩ := c_125 (J := J) (τ := τ) hM hl b 7 f
          have p1' : F_125 [.ref 8, .int (nI b), .int 7, .int (nI f)] (mk A J τ) = some (none, mk A1 J τ) := p1
          refine ⟨A1, ?_, p2, p3⟩
          rw [e_134_3]
          simp (disch := first | omega | (simp (disch := omega) only [n_ti, Int32.reduceToInt] <;> omega)) only [k1, k2, f116, e_134_20, f130, e_134_32, p1', e_134_48, n_add, nl_add, nr_add, n_mul, nl_mul, nr_mul, n_sub, nr_dec, n_div, nr_sub_1, nr_sub_2, nr_sub_3, nr_sub_4, nr_sub_7, nr_sub_10, nr_sub_11, nr_sub_20, nr_sub_48, nr_sub_97, nl_sub_3, nl_sub_4, nl_sub_12, nl_sub_24, nl_sub_32, nr_div_2, nr_div_4, z_lt, z_le, z_eq, z_cl, n_ti, Int.toNat_natCast, Int32.reduceToInt, Int32.reduceToNatClampNeg, zc_add, zc_sub, zc_add_1, zc_add_2, zc_add_3, zc_add_4, zc_add_8, zc_add_10, zc_add_12, zc_add_16, zc_add_20, zc_sub_1, zc_sub_2, zc_sub_4, zc_sub_10, zc_sub_20, zc_sub_48, zc_sub_97, zc_mul_4, t_ltZ, f_ltZ, t_leZ, f_leZ, t_eqZ, f_eqZ, t_ltN, f_ltN, t_leN, f_leN, t_eqN, f_eqN, ↓reduceIte, and_true, true_and, and_false, false_and, and_self, or_true, true_or, or_false, false_or, or_self, not_true_eq_false, not_false_eq_true, tu_same, tu_eq, tu_ne, b_V, b_I, b_J]
  rw [e_134]
  exact key 6 0 (by omega)
theorem c_134n {A : Nat → Nat → Int32} {J : Nat → Nat → Int64} {τ : tm_Tu} {cb n b mo : Nat} {x : Int32} {D : Nat → TD} {S : PS} (h : PsA A S) (hS : SOk n D b S) (hn : n ≤ 12) (hf : fiP S = 0) : F_134 [.ref 7, .ref cb, .int x, .int (nI mo), .int (nI b)] (mk A J τ) = some (some (.int 0), mk A J τ) := by
  have hz : ∀ p, p < 6 → itP S p = false := fun p hp => by
    rcases fstF_P (itP S) 6 0 with ⟨-, e⟩ | ⟨i, e, -⟩
    · exact e p (by omega) (by omega)
    · have : fstF (itP S) 6 0 = 0 := hf
      omega
  have key : ∀ m j, j + m = 6 → R_134 3 [(0, .ref 7), (1, .ref cb), (2, .int x), (3, .int (nI mo)), (4, .int (nI b)), (5, .int (nI j))] [] (mk A J τ) = some (some (.int 0), mk A J τ) := by
    intro m
    induction m with
    | zero =>
      intro j hj
      rw [e_134_3]
      simp (disch := first | omega | (simp (disch := omega) only [n_ti, Int32.reduceToInt] <;> omega)) only [n_add, nl_add, nr_add, n_mul, nl_mul, nr_mul, n_sub, nr_dec, n_div, nr_sub_1, nr_sub_2, nr_sub_3, nr_sub_4, nr_sub_7, nr_sub_10, nr_sub_11, nr_sub_20, nr_sub_48, nr_sub_97, nl_sub_3, nl_sub_4, nl_sub_12, nl_sub_24, nl_sub_32, nr_div_2, nr_div_4, z_lt, z_le, z_eq, z_cl, n_ti, Int.toNat_natCast, Int32.reduceToInt, Int32.reduceToNatClampNeg, zc_add, zc_sub, zc_add_1, zc_add_2, zc_add_3, zc_add_4, zc_add_8, zc_add_10, zc_add_12, zc_add_16, zc_add_20, zc_sub_1, zc_sub_2, zc_sub_4, zc_sub_10, zc_sub_20, zc_sub_48, zc_sub_97, zc_mul_4, t_ltZ, f_ltZ, t_leZ, f_leZ, t_eqZ, f_eqZ, t_ltN, f_ltN, t_leN, f_leN, t_eqN, f_eqN, ↓reduceIte, and_true, true_and, and_false, false_and, and_self, or_true, true_or, or_false, false_or, or_self, not_true_eq_false, not_false_eq_true, tu_same, tu_eq, tu_ne, b_V, b_I, b_J]
    | succ m ih =>
      intro j hj
      have hp : j < 6 := by omega
      obtain ⟨w1, w2, w3, w4, w5, w6, -⟩ := hS j hp
      have f116 := c_116 (J := J) (τ := τ) hp (h j hp) w1 (by omega) (fun u => (w6 u).1)
      have k1 := j_1 hp τ
      have k2 := j_2 hp
      rw [← itP_d, hz j hp, b2f] at f116
      rw [← ih (j + 1) (by omega), e_134_3]
      simp (disch := first | omega | (simp (disch := omega) only [n_ti, Int32.reduceToInt] <;> omega)) only [k1, k2, f116, e_134_20, e_134_50, n_add, nl_add, nr_add, n_mul, nl_mul, nr_mul, n_sub, nr_dec, n_div, nr_sub_1, nr_sub_2, nr_sub_3, nr_sub_4, nr_sub_7, nr_sub_10, nr_sub_11, nr_sub_20, nr_sub_48, nr_sub_97, nl_sub_3, nl_sub_4, nl_sub_12, nl_sub_24, nl_sub_32, nr_div_2, nr_div_4, z_lt, z_le, z_eq, z_cl, n_ti, Int.toNat_natCast, Int32.reduceToInt, Int32.reduceToNatClampNeg, zc_add, zc_sub, zc_add_1, zc_add_2, zc_add_3, zc_add_4, zc_add_8, zc_add_10, zc_add_12, zc_add_16, zc_add_20, zc_sub_1, zc_sub_2, zc_sub_4, zc_sub_10, zc_sub_20, zc_sub_48, zc_sub_97, zc_mul_4, t_ltZ, f_ltZ, t_leZ, f_leZ, t_eqZ, f_eqZ, t_ltN, f_ltN, t_leN, f_leN, t_eqN, f_eqN, ↓reduceIte, and_true, true_and, and_false, false_and, and_self, or_true, true_or, or_false, false_or, or_self, not_true_eq_false, not_false_eq_true, tu_same, tu_eq, tu_ne, b_V, b_I, b_J]
  rw [e_134]
  exact key 6 0 (by omega)
theorem c_135 {A : Nat → Nat → Int32} {J : Nat → Nat → Int64} {τ : tm_Tu} {n b mo : Nat} {D : Nat → TD} {S : PS} {l : ML} (h : PsA A S) (hS : SOk n D b S) (hmo : mo ≤ 3) (hM : MsA A l) (hl : l.1 < 100000) : ∃ A', F_135 [.ref 7, .int (nI mo), .int (nI b)] (mk A J τ) = some (some (.int (b2 (decide (haP mo S ≠ 0)))), mk A' J τ) ∧ MsA A' (if haP mo S ≠ 0 then adM l (b, 8, haP mo S - 1) else l) ∧ fMi A A' := by
  unfold haP
  by_cases c : mo = 0
  · rw [if_pos c]
    subst c
    refine ⟨A, ?_, hM, fun _ _ _ _ => rfl⟩
    rw [e_135]
    simp (disch := first | omega | (simp (disch := omega) only [n_ti, Int32.reduceToInt] <;> omega)) only [n_add, nl_add, nr_add, n_mul, nl_mul, nr_mul, n_sub, nr_dec, n_div, nr_sub_1, nr_sub_2, nr_sub_3, nr_sub_4, nr_sub_7, nr_sub_10, nr_sub_11, nr_sub_20, nr_sub_48, nr_sub_97, nl_sub_3, nl_sub_4, nl_sub_12, nl_sub_24, nl_sub_32, nr_div_2, nr_div_4, z_lt, z_le, z_eq, z_cl, n_ti, Int.toNat_natCast, Int32.reduceToInt, Int32.reduceToNatClampNeg, zc_add, zc_sub, zc_add_1, zc_add_2, zc_add_3, zc_add_4, zc_add_8, zc_add_10, zc_add_12, zc_add_16, zc_add_20, zc_sub_1, zc_sub_2, zc_sub_4, zc_sub_10, zc_sub_20, zc_sub_48, zc_sub_97, zc_mul_4, t_ltZ, f_ltZ, t_leZ, f_leZ, t_eqZ, f_eqZ, t_ltN, f_ltN, t_leN, f_leN, t_eqN, f_eqN, ↓reduceIte, and_true, true_and, and_false, false_and, and_self, or_true, true_or, or_false, false_or, or_self, not_true_eq_false, not_false_eq_true, tu_same, tu_eq, tu_ne, b_V, b_I, b_J]
    rfl
  · rw [if_neg c]
    have key : ∀ m j, j + m = 6 → ∃ A', R_135 8 [(0, .ref 7), (2, .int (nI b)), (3, .int (nI j))] [] (mk A J τ) = some (some (.int (b2 (decide (fstF (h4P S) m j ≠ 0)))), mk A' J τ) ∧ MsA A' (if fstF (h4P S) m j ≠ 0 then adM l (b, 8, fstF (h4P S) m j - 1) else l) ∧ fMi A A' := by
      intro m
      induction m with
      | zero =>
        intro j hj
        refine ⟨A, ?_, hM, fun _ _ _ _ => rfl⟩
        rw [e_135_8]
        simp (disch := first | omega | (simp (disch := omega) only [n_ti, Int32.reduceToInt] <;> omega)) only [n_add, nl_add, nr_add, n_mul, nl_mul, nr_mul, n_sub, nr_dec, n_div, nr_sub_1, nr_sub_2, nr_sub_3, nr_sub_4, nr_sub_7, nr_sub_10, nr_sub_11, nr_sub_20, nr_sub_48, nr_sub_97, nl_sub_3, nl_sub_4, nl_sub_12, nl_sub_24, nl_sub_32, nr_div_2, nr_div_4, z_lt, z_le, z_eq, z_cl, n_ti, Int.toNat_natCast, Int32.reduceToInt, Int32.reduceToNatClampNeg, zc_add, zc_sub, zc_add_1, zc_add_2, zc_add_3, zc_add_4, zc_add_8, zc_add_10, zc_add_12, zc_add_16, zc_add_20, zc_sub_1, zc_sub_2, zc_sub_4, zc_sub_10, zc_sub_20, zc_sub_48, zc_sub_97, zc_mul_4, t_ltZ, f_ltZ, t_leZ, f_leZ, t_eqZ, f_eqZ, t_ltN, f_ltN, t_leN, f_leN, t_eqN, f_eqN, ↓reduceIte, and_true, true_and, and_false, false_and, and_self, or_true, true_or, or_false, false_or, or_self, not_true_eq_false, not_false_eq_true, tu_same, tu_eq, tu_ne, b_V, b_I, b_J]
        rfl
      | succ m ih =>
        intro j hj
        have hp : j < 6 := by omega
        have w1 := (hS j hp).1
        have h0 := (h j hp).1
        have k1 := j_1 hp τ
        have k2 := j_2 hp
        by_cases d : 4 ≤ pW (S j)
        · have e : fstF (h4P S) (m + 1) j = j + 1 := fstF_1 (decide_eq_true d)
          rw [e, if_pos (by omega)]
          obtain ⟨A1, p1, p2, p3⟩ := c_125 (J := J) (τ := τ) hM hl b 8 j
          have p1' : F_125 [.ref 8, .int (nI b), .int 8, .int (nI j)] (mk A J τ) = some (none, mk A1 J τ) := p1
          refine ⟨A1, ?_, p2, p3⟩
          have e1 : b2 (decide (j + 1 ≠ 0)) = 1 := by simp [b2]
          rw [e1, e_135_8]
          simp (disch := first | omega | (simp (disch := omega) only [n_ti, Int32.reduceToInt] <;> omega)) only [k1, k2, h0, p1', e_135_38, n_add, nl_add, nr_add, n_mul, nl_mul, nr_mul, n_sub, nr_dec, n_div, nr_sub_1, nr_sub_2, nr_sub_3, nr_sub_4, nr_sub_7, nr_sub_10, nr_sub_11, nr_sub_20, nr_sub_48, nr_sub_97, nl_sub_3, nl_sub_4, nl_sub_12, nl_sub_24, nl_sub_32, nr_div_2, nr_div_4, z_lt, z_le, z_eq, z_cl, n_ti, Int.toNat_natCast, Int32.reduceToInt, Int32.reduceToNatClampNeg, zc_add, zc_sub, zc_add_1, zc_add_2, zc_add_3, zc_add_4, zc_add_8, zc_add_10, zc_add_12, zc_add_16, zc_add_20, zc_sub_1, zc_sub_2, zc_sub_4, zc_sub_10, zc_sub_20, zc_sub_48, zc_sub_97, zc_mul_4, t_ltZ, f_ltZ, t_leZ, f_leZ, t_eqZ, f_eqZ, t_ltN, f_ltN, t_leN, f_leN, t_eqN, f_eqN, ↓reduceIte, and_true, true_and, and_false, false_and, and_self, or_true, true_or, or_false, false_or, or_self, not_true_eq_false, not_false_eq_true, tu_same, tu_eq, tu_ne, b_V, b_I, b_J]
        · have e : fstF (h4P S) (m + 1) j = fstF (h4P S) m (j + 1) := fstF_0 (decide_eq_false d)
          rw [e]
          obtain ⟨A', g1, g2, g3⟩ := ih (j + 1) (by omega)
          refine ⟨A', ?_, g2, g3⟩
          rw [← g1, e_135_8]
          simp (disch := first | omega | (simp (disch := omega) only [n_ti, Int32.reduceToInt] <;> omega)) only [k1, k2, h0, n_add, nl_add, nr_add, n_mul, nl_mul, nr_mul, n_sub, nr_dec, n_div, nr_sub_1, nr_sub_2, nr_sub_3, nr_sub_4, nr_sub_7, nr_sub_10, nr_sub_11, nr_sub_20, nr_sub_48, nr_sub_97, nl_sub_3, nl_sub_4, nl_sub_12, nl_sub_24, nl_sub_32, nr_div_2, nr_div_4, z_lt, z_le, z_eq, z_cl, n_ti, Int.toNat_natCast, Int32.reduceToInt, Int32.reduceToNatClampNeg, zc_add, zc_sub, zc_add_1, zc_add_2, zc_add_3, zc_add_4, zc_add_8, zc_add_10, zc_add_12, zc_add_16, zc_add_20, zc_sub_1, zc_sub_2, zc_sub_4, zc_sub_10, zc_sub_20, zc_sub_48, zc_sub_97, zc_mul_4, t_ltZ, f_ltZ, t_leZ, f_leZ, t_eqZ, f_eqZ, t_ltN, f_ltN, t_leN, f_leN, t_eqN, f_eqN, ↓reduceIte, and_true, true_and, and_false, false_and, and_self, or_true, true_or, or_false, false_or, or_self, not_true_eq_false, not_false_eq_true, tu_same, tu_eq, tu_ne, b_V, b_I, b_J]
    obtain ⟨A', g1, g2, g3⟩ := key 6 0 (by omega)
    refine ⟨A', ?_, g2, g3⟩
    rw [← g1, e_135]
    simp (disch := first | omega | (simp (disch := omega) only [n_ti, Int32.reduceToInt] <;> omega)) only [n_add, nl_add, nr_add, n_mul, nl_mul, nr_mul, n_sub, nr_dec, n_div, nr_sub_1, nr_sub_2, nr_sub_3, nr_sub_4, nr_sub_7, nr_sub_10, nr_sub_11, nr_sub_20, nr_sub_48, nr_sub_97, nl_sub_3, nl_sub_4, nl_sub_12, nl_sub_24, nl_sub_32, nr_div_2, nr_div_4, z_lt, z_le, z_eq, z_cl, n_ti, Int.toNat_natCast, Int32.reduceToInt, Int32.reduceToNatClampNeg, zc_add, zc_sub, zc_add_1, zc_add_2, zc_add_3, zc_add_4, zc_add_8, zc_add_10, zc_add_12, zc_add_16, zc_add_20, zc_sub_1, zc_sub_2, zc_sub_4, zc_sub_10, zc_sub_20, zc_sub_48, zc_sub_97, zc_mul_4, t_ltZ, f_ltZ, t_leZ, f_leZ, t_eqZ, f_eqZ, t_ltN, f_ltN, t_leN, f_leN, t_eqN, f_eqN, ↓reduceIte, and_true, true_and, and_false, false_and, and_self, or_true, true_or, or_false, false_or, or_self, not_true_eq_false, not_false_eq_true, tu_same, tu_eq, tu_ne, b_V, b_I, b_J]
    rfl
theorem sh_dg {x i : Nat} (hx : x < 256) (hi : i < 4) : (nI x >>> ((2 * nI i) &&& 31)) &&& 3 = nI (x / 4 ^ i % 4) := by
  have e4 : (4 : Nat) ^ i = 2 ^ (2 * i) := by rw [Nat.pow_mul]
  rw [pk_shrN (by omega) _ (2 * i) (sh2_c ⟨i, hi⟩), n_and3 (Nat.lt_of_le_of_lt (Nat.div_le_self _ _) (by omega)), e4]
theorem c_136 {A : Nat → Nat → Int32} {J : Nat → Nat → Int64} {τ : tm_Tu} {mo p : Nat} {s : SP} (h : JmA A p s) (hp : p < 6) (hx : pX s < 256) (hmo : mo ≤ 3) : F_136 [.ref (18 + p), .int (nI mo)] (mk A J τ) = some (some (.int (b2 (hiP mo s))), mk A J τ) := by
  have h6 := h.2.2.2.2.2.2
  have k2 := j_2 hp
  have key : ∀ m i, i + m = 4 → R_136 2 [(0, .ref (18 + p)), (1, .int (nI mo)), (2, .int (nI i))] [] (mk A J τ) = some (some (.int (b2 (anyF (hiQ mo s) m i))), mk A J τ) := by
    intro m
    induction m with
    | zero =>
      intro i hi
      rw [e_136_2]
      simp (disch := first | omega | (simp (disch := omega) only [n_ti, Int32.reduceToInt] <;> omega)) only [n_add, nl_add, nr_add, n_mul, nl_mul, nr_mul, n_sub, nr_dec, n_div, nr_sub_1, nr_sub_2, nr_sub_3, nr_sub_4, nr_sub_7, nr_sub_10, nr_sub_11, nr_sub_20, nr_sub_48, nr_sub_97, nl_sub_3, nl_sub_4, nl_sub_12, nl_sub_24, nl_sub_32, nr_div_2, nr_div_4, z_lt, z_le, z_eq, z_cl, n_ti, Int.toNat_natCast, Int32.reduceToInt, Int32.reduceToNatClampNeg, zc_add, zc_sub, zc_add_1, zc_add_2, zc_add_3, zc_add_4, zc_add_8, zc_add_10, zc_add_12, zc_add_16, zc_add_20, zc_sub_1, zc_sub_2, zc_sub_4, zc_sub_10, zc_sub_20, zc_sub_48, zc_sub_97, zc_mul_4, t_ltZ, f_ltZ, t_leZ, f_leZ, t_eqZ, f_eqZ, t_ltN, f_ltN, t_leN, f_leN, t_eqN, f_eqN, ↓reduceIte, and_true, true_and, and_false, false_and, and_self, or_true, true_or, or_false, false_or, or_self, not_true_eq_false, not_false_eq_true, tu_same, tu_eq, tu_ne, b_V, b_I, b_J]
      rfl
    | succ m ih =>
      intro i hi
      have hd := sh_dg (i := i) hx (by omega)
      have s102 := s_102 (I := A) (J := J) (τ := τ) (x := nI mo) (t := i) (by omega)
      rw [n_ti (show mo < 2147483648 by omega)] at s102
      have h8 : pX s / 4 ^ i % 4 < 4 := Nat.mod_lt _ (by omega)
      have st : R_136 2 [(0, .ref (18 + p)), (1, .int (nI mo)), (2, .int (nI i))] [] (mk A J τ) = if nI (pX s / 4 ^ i % 4) = 0 then R_136 30 [(0, .ref (18 + p)), (1, .int (nI mo)), (2, .int (nI i))] [] (mk A J τ) else (tm_bI (F_102 [.int (nI mo), .int (nI i)] (mk A J τ)) fun r M => R_136 25 [(0, .ref (18 + p)), (1, .int (nI mo)), (2, .int (nI i))] [.int r] M) := by
        rw [e_136_2, h6, hd]
        rw [if_neg (show ¬ (4 : Int32) ≤ nI i by rw [z_le, n_ti (by omega)]; have : (4 : Int32).toInt = 4 := rfl; omega), if_pos k2]
      rw [st]
      by_cases c : pX s / 4 ^ i % 4 = 0
      · have e : anyF (hiQ mo s) (m + 1) i = anyF (hiQ mo s) m (i + 1) := anyF_0 (and_f1 (decide_eq_false (fun u => u c)))
        rw [e, ← ih (i + 1) (by omega), if_pos (by rw [c]; rfl), e_136_30]
        simp (disch := first | omega | (simp (disch := omega) only [n_ti, Int32.reduceToInt] <;> omega)) only [n_add, nl_add, nr_add, n_mul, nl_mul, nr_mul, n_sub, nr_dec, n_div, nr_sub_1, nr_sub_2, nr_sub_3, nr_sub_4, nr_sub_7, nr_sub_10, nr_sub_11, nr_sub_20, nr_sub_48, nr_sub_97, nl_sub_3, nl_sub_4, nl_sub_12, nl_sub_24, nl_sub_32, nr_div_2, nr_div_4, z_lt, z_le, z_eq, z_cl, n_ti, Int.toNat_natCast, Int32.reduceToInt, Int32.reduceToNatClampNeg, zc_add, zc_sub, zc_add_1, zc_add_2, zc_add_3, zc_add_4, zc_add_8, zc_add_10, zc_add_12, zc_add_16, zc_add_20, zc_sub_1, zc_sub_2, zc_sub_4, zc_sub_10, zc_sub_20, zc_sub_48, zc_sub_97, zc_mul_4, t_ltZ, f_ltZ, t_leZ, f_leZ, t_eqZ, f_eqZ, t_ltN, f_ltN, t_leN, f_leN, t_eqN, f_eqN, ↓reduceIte, and_true, true_and, and_false, false_and, and_self, or_true, true_or, or_false, false_or, or_self, not_true_eq_false, not_false_eq_true, tu_same, tu_eq, tu_ne, b_V, b_I, b_J]
      · rw [if_neg (nI_ne0 (by omega) (by omega)), s102, b_I]
        cases hpz : pasZ (mo : Int) i with
        | true =>
          have e : anyF (hiQ mo s) (m + 1) i = true := anyF_1 (and_t (decide_eq_true c) hpz)
          rw [e, b2t, e_136_25]
          simp (disch := first | omega | (simp (disch := omega) only [n_ti, Int32.reduceToInt] <;> omega)) only [n_add, nl_add, nr_add, n_mul, nl_mul, nr_mul, n_sub, nr_dec, n_div, nr_sub_1, nr_sub_2, nr_sub_3, nr_sub_4, nr_sub_7, nr_sub_10, nr_sub_11, nr_sub_20, nr_sub_48, nr_sub_97, nl_sub_3, nl_sub_4, nl_sub_12, nl_sub_24, nl_sub_32, nr_div_2, nr_div_4, z_lt, z_le, z_eq, z_cl, n_ti, Int.toNat_natCast, Int32.reduceToInt, Int32.reduceToNatClampNeg, zc_add, zc_sub, zc_add_1, zc_add_2, zc_add_3, zc_add_4, zc_add_8, zc_add_10, zc_add_12, zc_add_16, zc_add_20, zc_sub_1, zc_sub_2, zc_sub_4, zc_sub_10, zc_sub_20, zc_sub_48, zc_sub_97, zc_mul_4, t_ltZ, f_ltZ, t_leZ, f_leZ, t_eqZ, f_eqZ, t_ltN, f_ltN, t_leN, f_leN, t_eqN, f_eqN, ↓reduceIte, and_true, true_and, and_false, false_and, and_self, or_true, true_or, or_false, false_or, or_self, not_true_eq_false, not_false_eq_true, tu_same, tu_eq, tu_ne, b_V, b_I, b_J]
        | false =>
          have e : anyF (hiQ mo s) (m + 1) i = anyF (hiQ mo s) m (i + 1) := anyF_0 (and_f2 hpz)
          rw [e, ← ih (i + 1) (by omega), b2f, e_136_25, if_pos rfl, e_136_30]
          simp (disch := first | omega | (simp (disch := omega) only [n_ti, Int32.reduceToInt] <;> omega)) only [n_add, nl_add, nr_add, n_mul, nl_mul, nr_mul, n_sub, nr_dec, n_div, nr_sub_1, nr_sub_2, nr_sub_3, nr_sub_4, nr_sub_7, nr_sub_10, nr_sub_11, nr_sub_20, nr_sub_48, nr_sub_97, nl_sub_3, nl_sub_4, nl_sub_12, nl_sub_24, nl_sub_32, nr_div_2, nr_div_4, z_lt, z_le, z_eq, z_cl, n_ti, Int.toNat_natCast, Int32.reduceToInt, Int32.reduceToNatClampNeg, zc_add, zc_sub, zc_add_1, zc_add_2, zc_add_3, zc_add_4, zc_add_8, zc_add_10, zc_add_12, zc_add_16, zc_add_20, zc_sub_1, zc_sub_2, zc_sub_4, zc_sub_10, zc_sub_20, zc_sub_48, zc_sub_97, zc_mul_4, t_ltZ, f_ltZ, t_leZ, f_leZ, t_eqZ, f_eqZ, t_ltN, f_ltN, t_leN, f_leN, t_eqN, f_eqN, ↓reduceIte, and_true, true_and, and_false, false_and, and_self, or_true, true_or, or_false, false_or, or_self, not_true_eq_false, not_false_eq_true, tu_same, tu_eq, tu_ne, b_V, b_I, b_J]
  rw [e_136]
  exact key 4 0 (by omega)
theorem c_137 {J : Nat → Nat → Int64} {τ : tm_Tu} {n b mo : Nat} {D : Nat → TD} {S : PS} (hS : SOk n D b S) (hmo : mo ≤ 3) : ∀ m j (A : Nat → Nat → Int32) (l : ML) (acc : Bool), j + m = 6 → PsA A S → MsA A l → l.1 < 90000 + j → ∃ A', R_137 5 [(0, .ref 7), (1, .int (nI mo)), (2, .int (nI b)), (3, .int (b2 acc)), (4, .int (nI j))] [] (mk A J τ) = some (some (.int (b2 (acc || anyF (htP mo S) m j))), mk A' J τ) ∧ MsA A' (feF mo b S m j l) ∧ fMi A A' := by
  intro m
  induction m with
  | zero =>
    intro j A l acc hj h hM hl
    refine ⟨A, ?_, hM, fun _ _ _ _ => rfl⟩
    rw [e_137_5]
    have e : (acc || anyF (htP mo S) 0 j) = acc := by cases acc <;> rfl
    rw [e]
    cases acc
    · rw [b2f]
      simp (disch := first | omega | (simp (disch := omega) only [n_ti, Int32.reduceToInt] <;> omega)) only [n_add, nl_add, nr_add, n_mul, nl_mul, nr_mul, n_sub, nr_dec, n_div, nr_sub_1, nr_sub_2, nr_sub_3, nr_sub_4, nr_sub_7, nr_sub_10, nr_sub_11, nr_sub_20, nr_sub_48, nr_sub_97, nl_sub_3, nl_sub_4, nl_sub_12, nl_sub_24, nl_sub_32, nr_div_2, nr_div_4, z_lt, z_le, z_eq, z_cl, n_ti, Int.toNat_natCast, Int32.reduceToInt, Int32.reduceToNatClampNeg, zc_add, zc_sub, zc_add_1, zc_add_2, zc_add_3, zc_add_4, zc_add_8, zc_add_10, zc_add_12, zc_add_16, zc_add_20, zc_sub_1, zc_sub_2, zc_sub_4, zc_sub_10, zc_sub_20, zc_sub_48, zc_sub_97, zc_mul_4, t_ltZ, f_ltZ, t_leZ, f_leZ, t_eqZ, f_eqZ, t_ltN, f_ltN, t_leN, f_leN, t_eqN, f_eqN, ↓reduceIte, and_true, true_and, and_false, false_and, and_self, or_true, true_or, or_false, false_or, or_self, not_true_eq_false, not_false_eq_true, tu_same, tu_eq, tu_ne, b_V, b_I, b_J]
    · rw [b2t]
      simp (disch := first | omega | (simp (disch := omega) only [n_ti, Int32.reduceToInt] <;> omega)) only [n_add, nl_add, nr_add, n_mul, nl_mul, nr_mul, n_sub, nr_dec, n_div, nr_sub_1, nr_sub_2, nr_sub_3, nr_sub_4, nr_sub_7, nr_sub_10, nr_sub_11, nr_sub_20, nr_sub_48, nr_sub_97, nl_sub_3, nl_sub_4, nl_sub_12, nl_sub_24, nl_sub_32, nr_div_2, nr_div_4, z_lt, z_le, z_eq, z_cl, n_ti, Int.toNat_natCast, Int32.reduceToInt, Int32.reduceToNatClampNeg, zc_add, zc_sub, zc_add_1, zc_add_2, zc_add_3, zc_add_4, zc_add_8, zc_add_10, zc_add_12, zc_add_16, zc_add_20, zc_sub_1, zc_sub_2, zc_sub_4, zc_sub_10, zc_sub_20, zc_sub_48, zc_sub_97, zc_mul_4, t_ltZ, f_ltZ, t_leZ, f_leZ, t_eqZ, f_eqZ, t_ltN, f_ltN, t_leN, f_leN, t_eqN, f_eqN, ↓reduceIte, and_true, true_and, and_false, false_and, and_self, or_true, true_or, or_false, false_or, or_self, not_true_eq_false, not_false_eq_true, tu_same, tu_eq, tu_ne, b_V, b_I, b_J]
  | succ m ih =>
    intro j A l acc hj h hM hl
    have hp : j < 6 := by omega
    have w1 := (hS j hp).1
    have h0 := (h j hp).1
    have k1 := j_1 hp τ
    have k2 := j_2 hp
    have f136 := c_136 (J := J) (τ := τ) (h j hp) hp (hS j hp).2.2.2.2.2.2.1 hmo
    have no : htP mo S j = false → R_137 5 [(0, .ref 7), (1, .int (nI mo)), (2, .int (nI b)), (3, .int (b2 acc)), (4, .int (nI j))] [] (mk A J τ) = R_137 54 [(0, .ref 7), (1, .int (nI mo)), (2, .int (nI b)), (3, .int (b2 acc)), (4, .int (nI j))] [] (mk A J τ) → ∃ A', R_137 5 [(0, .ref 7), (1, .int (nI mo)), (2, .int (nI b)), (3, .int (b2 acc)), (4, .int (nI j))] [] (mk A J τ) = some (some (.int (b2 (acc || anyF (htP mo S) (m + 1) j))), mk A' J τ) ∧ MsA A' (feF mo b S (m + 1) j l) ∧ fMi A A' := by
      intro hh st
      obtain ⟨A', g1, g2, g3⟩ := ih (j + 1) A l acc (by omega) h hM (by omega)
      refine ⟨A', ?_, ?_, g3⟩
      · rw [st, anyF_0 hh, ← g1, e_137_54]
        simp (disch := first | omega | (simp (disch := omega) only [n_ti, Int32.reduceToInt] <;> omega)) only [n_add, nl_add, nr_add, n_mul, nl_mul, nr_mul, n_sub, nr_dec, n_div, nr_sub_1, nr_sub_2, nr_sub_3, nr_sub_4, nr_sub_7, nr_sub_10, nr_sub_11, nr_sub_20, nr_sub_48, nr_sub_97, nl_sub_3, nl_sub_4, nl_sub_12, nl_sub_24, nl_sub_32, nr_div_2, nr_div_4, z_lt, z_le, z_eq, z_cl, n_ti, Int.toNat_natCast, Int32.reduceToInt, Int32.reduceToNatClampNeg, zc_add, zc_sub, zc_add_1, zc_add_2, zc_add_3, zc_add_4, zc_add_8, zc_add_10, zc_add_12, zc_add_16, zc_add_20, zc_sub_1, zc_sub_2, zc_sub_4, zc_sub_10, zc_sub_20, zc_sub_48, zc_sub_97, zc_mul_4, t_ltZ, f_ltZ, t_leZ, f_leZ, t_eqZ, f_eqZ, t_ltN, f_ltN, t_leN, f_leN, t_eqN, f_eqN, ↓reduceIte, and_true, true_and, and_false, false_and, and_self, or_true, true_or, or_false, false_or, or_self, not_true_eq_false, not_false_eq_true, tu_same, tu_eq, tu_ne, b_V, b_I, b_J]
      · show MsA A' (feF mo b S m (j + 1) (if htP mo S j = true then adM l (b, 9, j) else l))
        rw [if_neg (by rw [hh]; exact Bool.false_ne_true)]
        exact g2
    by_cases c : pW (S j) = 1
    · rw [c] at h0
      cases hi : hiP mo (S j) with
      | false =>
        rw [hi, b2f] at f136
        refine no (and_f2 hi) ?_
        rw [e_137_5]
        simp (disch := first | omega | (simp (disch := omega) only [n_ti, Int32.reduceToInt] <;> omega)) only [k1, k2, h0, f136, e_137_37, n_add, nl_add, nr_add, n_mul, nl_mul, nr_mul, n_sub, nr_dec, n_div, nr_sub_1, nr_sub_2, nr_sub_3, nr_sub_4, nr_sub_7, nr_sub_10, nr_sub_11, nr_sub_20, nr_sub_48, nr_sub_97, nl_sub_3, nl_sub_4, nl_sub_12, nl_sub_24, nl_sub_32, nr_div_2, nr_div_4, z_lt, z_le, z_eq, z_cl, n_ti, Int.toNat_natCast, Int32.reduceToInt, Int32.reduceToNatClampNeg, zc_add, zc_sub, zc_add_1, zc_add_2, zc_add_3, zc_add_4, zc_add_8, zc_add_10, zc_add_12, zc_add_16, zc_add_20, zc_sub_1, zc_sub_2, zc_sub_4, zc_sub_10, zc_sub_20, zc_sub_48, zc_sub_97, zc_mul_4, t_ltZ, f_ltZ, t_leZ, f_leZ, t_eqZ, f_eqZ, t_ltN, f_ltN, t_leN, f_leN, t_eqN, f_eqN, ↓reduceIte, and_true, true_and, and_false, false_and, and_self, or_true, true_or, or_false, false_or, or_self, not_true_eq_false, not_false_eq_true, tu_same, tu_eq, tu_ne, b_V, b_I, b_J]
      | true =>
        rw [hi, b2t] at f136
        have hh : htP mo S j = true := and_t (decide_eq_true c) hi
        obtain ⟨A1, p1, p2, p3⟩ := c_125 (J := J) (τ := τ) hM (by omega) b 9 j
        have p1' : F_125 [.ref 8, .int (nI b), .int 9, .int (nI j)] (mk A J τ) = some (none, mk A1 J τ) := p1
        obtain ⟨A', g1, g2, g3⟩ := ih (j + 1) A1 (adM l (b, 9, j)) true (by omega) (h.tr (fun a k u v => p3 a k (by omega) (by omega))) p2 (by show l.1 + 1 < _; omega)
        refine ⟨A', ?_, ?_, fun a k u v => (g3 a k u v).trans (p3 a k u v)⟩
        · have e : (acc || anyF (htP mo S) (m + 1) j) = (true || anyF (htP mo S) m (j + 1)) := by rw [anyF_1 hh]; cases acc <;> rfl
          rw [e, ← g1, b2t, e_137_5]
          simp (disch := first | omega | (simp (disch := omega) only [n_ti, Int32.reduceToInt] <;> omega)) only [k1, k2, h0, f136, e_137_37, p1', e_137_52, e_137_54, n_add, nl_add, nr_add, n_mul, nl_mul, nr_mul, n_sub, nr_dec, n_div, nr_sub_1, nr_sub_2, nr_sub_3, nr_sub_4, nr_sub_7, nr_sub_10, nr_sub_11, nr_sub_20, nr_sub_48, nr_sub_97, nl_sub_3, nl_sub_4, nl_sub_12, nl_sub_24, nl_sub_32, nr_div_2, nr_div_4, z_lt, z_le, z_eq, z_cl, n_ti, Int.toNat_natCast, Int32.reduceToInt, Int32.reduceToNatClampNeg, zc_add, zc_sub, zc_add_1, zc_add_2, zc_add_3, zc_add_4, zc_add_8, zc_add_10, zc_add_12, zc_add_16, zc_add_20, zc_sub_1, zc_sub_2, zc_sub_4, zc_sub_10, zc_sub_20, zc_sub_48, zc_sub_97, zc_mul_4, t_ltZ, f_ltZ, t_leZ, f_leZ, t_eqZ, f_eqZ, t_ltN, f_ltN, t_leN, f_leN, t_eqN, f_eqN, ↓reduceIte, and_true, true_and, and_false, false_and, and_self, or_true, true_or, or_false, false_or, or_self, not_true_eq_false, not_false_eq_true, tu_same, tu_eq, tu_ne, b_V, b_I, b_J]
        · show MsA A' (feF mo b S m (j + 1) (if htP mo S j = true then adM l (b, 9, j) else l))
          rw [if_pos hh]
          exact g2
    · refine no (and_f1 (decide_eq_false c)) ?_
      rw [e_137_5]
      simp (disch := first | omega | (simp (disch := omega) only [n_ti, Int32.reduceToInt] <;> omega)) only [k1, k2, h0, n_add, nl_add, nr_add, n_mul, nl_mul, nr_mul, n_sub, nr_dec, n_div, nr_sub_1, nr_sub_2, nr_sub_3, nr_sub_4, nr_sub_7, nr_sub_10, nr_sub_11, nr_sub_20, nr_sub_48, nr_sub_97, nl_sub_3, nl_sub_4, nl_sub_12, nl_sub_24, nl_sub_32, nr_div_2, nr_div_4, z_lt, z_le, z_eq, z_cl, n_ti, Int.toNat_natCast, Int32.reduceToInt, Int32.reduceToNatClampNeg, zc_add, zc_sub, zc_add_1, zc_add_2, zc_add_3, zc_add_4, zc_add_8, zc_add_10, zc_add_12, zc_add_16, zc_add_20, zc_sub_1, zc_sub_2, zc_sub_4, zc_sub_10, zc_sub_20, zc_sub_48, zc_sub_97, zc_mul_4, t_ltZ, f_ltZ, t_leZ, f_leZ, t_eqZ, f_eqZ, t_ltN, f_ltN, t_leN, f_leN, t_eqN, f_eqN, ↓reduceIte, and_true, true_and, and_false, false_and, and_self, or_true, true_or, or_false, false_or, or_self, not_true_eq_false, not_false_eq_true, tu_same, tu_eq, tu_ne, b_V, b_I, b_J]
theorem c_138 {J : Nat → Nat → Int64} {τ : tm_Tu} : ∀ m j (A : Nat → Nat → Int32) (S : PS), j + m = 6 → PsA A S → ∃ A', R_138 2 [(0, .ref 7), (1, .int (nI j))] [] (mk A J τ) = some (none, mk A' J τ) ∧ PsA A' (fun p => if j ≤ p then bkS (S p) else S p) ∧ (∀ a k, ¬ (18 ≤ a ∧ a ≤ 23) → A' a k = A a k) := by
  intro m
  induction m with
  | zero =>
    intro j A S hj h
    refine ⟨A, ?_, fun p hp => ?_, fun _ _ _ => rfl⟩
    · rw [e_138_2]
      simp (disch := first | omega | (simp (disch := omega) only [n_ti, Int32.reduceToInt] <;> omega)) only [n_add, nl_add, nr_add, n_mul, nl_mul, nr_mul, n_sub, nr_dec, n_div, nr_sub_1, nr_sub_2, nr_sub_3, nr_sub_4, nr_sub_7, nr_sub_10, nr_sub_11, nr_sub_20, nr_sub_48, nr_sub_97, nl_sub_3, nl_sub_4, nl_sub_12, nl_sub_24, nl_sub_32, nr_div_2, nr_div_4, z_lt, z_le, z_eq, z_cl, n_ti, Int.toNat_natCast, Int32.reduceToInt, Int32.reduceToNatClampNeg, zc_add, zc_sub, zc_add_1, zc_add_2, zc_add_3, zc_add_4, zc_add_8, zc_add_10, zc_add_12, zc_add_16, zc_add_20, zc_sub_1, zc_sub_2, zc_sub_4, zc_sub_10, zc_sub_20, zc_sub_48, zc_sub_97, zc_mul_4, t_ltZ, f_ltZ, t_leZ, f_leZ, t_eqZ, f_eqZ, t_ltN, f_ltN, t_leN, f_leN, t_eqN, f_eqN, ↓reduceIte, and_true, true_and, and_false, false_and, and_self, or_true, true_or, or_false, false_or, or_self, not_true_eq_false, not_false_eq_true, tu_same, tu_eq, tu_ne, b_V, b_I, b_J]
    · show JmA A p (if j ≤ p then bkS (S p) else S p)
      rw [if_neg (by omega)]
      exact h p hp
  | succ m ih =>
    intro j A S hj h
    have hp : j < 6 := by omega
    have k1 := j_1 hp τ
    have k2 := j_2 hp
    obtain ⟨A1, g1, g2, g3⟩ := c_110 (J := J) (τ := τ) hp (h j hp)
    obtain ⟨y0, y1, y2, y3, y4, y5, y6⟩ := g2
    obtain ⟨A2, p1, p2, p3⟩ := ih (j + 1) (tm_u A1 (18 + j) 1 0) (updN S j (bkS (S j))) (by omega) (h.up (fun a k u v z => by simp (disch := omega) only [tu_same, tu_eq, tu_ne]; exact g3 a k z) ⟨by simp (disch := omega) only [tu_same, tu_eq, tu_ne]; exact y0, by simp (disch := omega) only [tu_same, tu_eq, tu_ne]; rfl, by simp (disch := omega) only [tu_same, tu_eq, tu_ne]; exact y2, by simp (disch := omega) only [tu_same, tu_eq, tu_ne]; exact y3, by simp (disch := omega) only [tu_same, tu_eq, tu_ne]; exact y4, by simp (disch := omega) only [tu_same, tu_eq, tu_ne]; exact y5, by simp (disch := omega) only [tu_same, tu_eq, tu_ne]; exact y6⟩)
    refine ⟨A2, ?_, ?_, fun a k u => ?_⟩
    · rw [← p1, e_138_2]
      simp (disch := first | omega | (simp (disch := omega) only [n_ti, Int32.reduceToInt] <;> omega)) only [k1, k2, g1, e_138_17, n_add, nl_add, nr_add, n_mul, nl_mul, nr_mul, n_sub, nr_dec, n_div, nr_sub_1, nr_sub_2, nr_sub_3, nr_sub_4, nr_sub_7, nr_sub_10, nr_sub_11, nr_sub_20, nr_sub_48, nr_sub_97, nl_sub_3, nl_sub_4, nl_sub_12, nl_sub_24, nl_sub_32, nr_div_2, nr_div_4, z_lt, z_le, z_eq, z_cl, n_ti, Int.toNat_natCast, Int32.reduceToInt, Int32.reduceToNatClampNeg, zc_add, zc_sub, zc_add_1, zc_add_2, zc_add_3, zc_add_4, zc_add_8, zc_add_10, zc_add_12, zc_add_16, zc_add_20, zc_sub_1, zc_sub_2, zc_sub_4, zc_sub_10, zc_sub_20, zc_sub_48, zc_sub_97, zc_mul_4, t_ltZ, f_ltZ, t_leZ, f_leZ, t_eqZ, f_eqZ, t_ltN, f_ltN, t_leN, f_leN, t_eqN, f_eqN, ↓reduceIte, and_true, true_and, and_false, false_and, and_self, or_true, true_or, or_false, false_or, or_self, not_true_eq_false, not_false_eq_true, tu_same, tu_eq, tu_ne, b_V, b_I, b_J]
    · have e : (fun p => if j + 1 ≤ p then bkS (updN S j (bkS (S j)) p) else updN S j (bkS (S j)) p) = (fun p => if j ≤ p then bkS (S p) else S p) := by
        funext p
        by_cases c : p = j
        · subst c
          rw [if_neg (by omega), updN_s, if_pos (Nat.le_refl _)]
        · rw [updN_n _ _ c]
          by_cases d : j ≤ p
          · rw [if_pos (by omega), if_pos d]
          · rw [if_neg (by omega), if_neg d]
      rw [e] at p2
      exact p2
    · rw [p3 a k u]
      simp (disch := omega) only [tu_same, tu_eq, tu_ne]
      exact g3 a k (by omega)
