/-! JOINED: the row (class); the model's tables, its best set and row -/
def fwF (P : Nat → Bool) : Nat → Nat → Nat
  | 0, k => k
  | m + 1, k => if P k = true then k else fwF P m (k + 1)
theorem fwF_P (P : Nat → Bool) : ∀ m k, (∃ w, k ≤ w ∧ w < k + m ∧ P w = true) → k ≤ fwF P m k ∧ fwF P m k < k + m ∧ P (fwF P m k) = true ∧ ∀ j, k ≤ j → j < fwF P m k → P j = false := by
  intro m
  induction m with
  | zero => intro k ⟨w, h1, h2, _⟩; omega
  | succ m ih =>
    intro k ⟨w, h1, h2, h3⟩
    unfold fwF
    by_cases c : P k = true
    · rw [if_pos c]
      exact ⟨Nat.le_refl _, by omega, c, fun j h4 h5 => by omega⟩
    · rw [if_neg c]
      have hw : w ≠ k := fun e => c (e ▸ h3)
      obtain ⟨g1, g2, g3, g4⟩ := ih (k + 1) ⟨w, by omega, by omega, h3⟩
      refine ⟨by omega, by omega, g3, fun j h4 h5 => ?_⟩
      by_cases e : j = k
      · cases hp : P j with
        | false => rfl
        | true => exact absurd (e ▸ hp) c
      · exact g4 j (by omega) h5
def fway (n : Nat) (D : Nat → TD) (rest st : Nat) : Nat := fwF (ledP D (tbl n D (2 ^ n)) rest st) (2 * n) 0
theorem fway_P {n : Nat} {D : Nat → TD} {rest st : Nat} (h0 : rest ≠ 0) (h : rest < 2 ^ n) (hT : tbl n D (2 ^ n) rest st = true) : fway n D rest st < 2 * n ∧ ledP D (tbl n D (2 ^ n)) rest st (fway n D rest st) = true ∧ ∀ j, j < fway n D rest st → ledP D (tbl n D (2 ^ n)) rest st j = false := by
  rw [tbl_fix n D (2 ^ n) rest st h] at hT
  unfold rowOf at hT
  have : decide (rest = 0) = false := by simp [h0]
  rw [this, Bool.false_or, anyw_iff] at hT
  obtain ⟨w, h1, h2⟩ := hT
  obtain ⟨g1, g2, g3, g4⟩ := fwF_P (ledP D (tbl n D (2 ^ n)) rest st) (2 * n) 0 ⟨w, by omega, by omega, h2⟩
  exact ⟨by unfold fway; omega, g3, fun j hj => g4 j (by omega) hj⟩
def rowL (n : Nat) (D : Nat → TD) : Nat → Nat → Nat → List Nat
  | 0, _, _ => []
  | f + 1, rest, st => fway n D rest st :: rowL n D f (rest ^^^ 2 ^ (fway n D rest st / 2)) (nxt D (fway n D rest st) st)
def pc (n s : Nat) : Nat := wsum (fun _ => 1) s n
theorem pc_le (n s : Nat) : pc n s ≤ n := by
  have := wsum_le (fun _ => 1) 1 s n (fun _ _ => Nat.le_refl _)
  unfold pc
  omega
theorem pc_x {n s t : Nat} (h : s.testBit t = true) (ht : t < n) : pc n s = pc n (s ^^^ 2 ^ t) + 1 := by
  have := wsum_x (fun _ => 1) s t h n
  rw [if_pos ht] at this
  exact this
theorem pc_0 {n s : Nat} (hs : s < 2 ^ n) (h : pc n s = 0) : s = 0 := by
  by_cases c : s = 0
  · exact c
  · obtain ⟨t, ht⟩ := Nat.exists_testBit_of_ne_zero c
    have := pc_x ht (lt_tb hs ht)
    omega
theorem led_1 {D : Nat → TD} {T : Nat → Nat → Bool} {set st w : Nat} (h : ledP D T set st w = true) : set.testBit (w / 2) = true ∧ may D w st = true ∧ T (set ^^^ 2 ^ (w / 2)) (nxt D w st) = true := by
  unfold ledP at h
  rw [Bool.and_eq_true, Bool.and_eq_true] at h
  exact h
theorem s_192 {A : Nat → Nat → Int32} {J : Nat → Nat → Int64} {τ : tm_Tu} {n w st : Nat} {D : Nat → TD} (hn : n ≤ 12) (hD : DOk n D) (hw : w < 2 * n) (hs : st < 16) (hW : WyA A D w) : F_192 [.ref 24, .int (nI w), .int (nI st)] (mk A J τ) = some (some (.int (nI (nxt D w st))), mk A J τ) := by
  have h1 := lfw_le hD hw
  have h2 := tuw_le hD hw
  obtain ⟨w1, w2, w3⟩ := hW
  rw [e_192]
  unfold nxt
  have e : (st + tuw D w) % 4 = (st % 4 + tuw D w) % 4 := by omega
  by_cases c : lfw D w = 0
  · rw [if_pos c]
    simp (disch := first | omega | (simp (disch := omega) only [n_ti, Int32.reduceToInt] <;> omega)) only [w2, w3, c, e_192_21, n_and3, e, n_add, nl_add, nr_add, n_mul, nl_mul, nr_mul, n_sub, nr_dec, n_div, nr_sub_1, nr_sub_2, nr_sub_3, nr_sub_4, nr_sub_7, nr_sub_10, nr_sub_11, nr_sub_20, nr_sub_48, nr_sub_97, nl_sub_3, nl_sub_4, nl_sub_12, nl_sub_24, nl_sub_32, nr_div_2, nr_div_4, z_lt, z_le, z_eq, z_cl, n_ti, Int.toNat_natCast, Int32.reduceToInt, Int32.reduceToNatClampNeg, zc_add, zc_sub, zc_add_1, zc_add_2, zc_add_3, zc_add_4, zc_add_8, zc_add_10, zc_add_12, zc_add_16, zc_add_20, zc_sub_1, zc_sub_2, zc_sub_4, zc_sub_10, zc_sub_20, zc_sub_48, zc_sub_97, zc_mul_4, t_ltZ, f_ltZ, t_leZ, f_leZ, t_eqZ, f_eqZ, t_ltN, f_ltN, t_leN, f_leN, t_eqN, f_eqN, ↓reduceIte, and_true, true_and, and_false, false_and, and_self, or_true, true_or, or_false, false_or, or_self, not_true_eq_false, not_false_eq_true, tu_same, tu_eq, tu_ne, b_V, b_I, b_J]
  · rw [if_neg c]
    simp (disch := first | omega | (simp (disch := omega) only [n_ti, Int32.reduceToInt] <;> omega)) only [w2, w3, e_192_21, n_and3, e, n_add, nl_add, nr_add, n_mul, nl_mul, nr_mul, n_sub, nr_dec, n_div, nr_sub_1, nr_sub_2, nr_sub_3, nr_sub_4, nr_sub_7, nr_sub_10, nr_sub_11, nr_sub_20, nr_sub_48, nr_sub_97, nl_sub_3, nl_sub_4, nl_sub_12, nl_sub_24, nl_sub_32, nr_div_2, nr_div_4, z_lt, z_le, z_eq, z_cl, n_ti, Int.toNat_natCast, Int32.reduceToInt, Int32.reduceToNatClampNeg, zc_add, zc_sub, zc_add_1, zc_add_2, zc_add_3, zc_add_4, zc_add_8, zc_add_10, zc_add_12, zc_add_16, zc_add_20, zc_sub_1, zc_sub_2, zc_sub_4, zc_sub_10, zc_sub_20, zc_sub_48, zc_sub_97, zc_mul_4, t_ltZ, f_ltZ, t_leZ, f_leZ, t_eqZ, f_eqZ, t_ltN, f_ltN, t_leN, f_leN, t_eqN, f_eqN, ↓reduceIte, and_true, true_and, and_false, false_and, and_self, or_true, true_or, or_false, false_or, or_self, not_true_eq_false, not_false_eq_true, tu_same, tu_eq, tu_ne, b_V, b_I, b_J]
theorem pw2_lt {t : Nat} (h : t < 12) : 2 ^ t < 4096 := Nat.lt_of_lt_of_le (Nat.pow_lt_pow_right (by omega) h) (Nat.le_refl _)
theorem and_pw {s t : Nat} : (s &&& 2 ^ t = 0) ↔ s.testBit t = false := by
  constructor
  · intro h
    have : (s &&& 2 ^ t).testBit t = false := by rw [h]; exact Nat.zero_testBit t
    rw [Nat.testBit_and, Nat.testBit_two_pow] at this
    simpa using this
  · intro h
    apply Nat.eq_of_testBit_eq
    intro j
    rw [Nat.testBit_and, Nat.testBit_two_pow, Nat.zero_testBit]
    by_cases e : t = j
    · subst e; simp [h]
    · simp [e]
set_option maxHeartbeats 1000000 in
theorem s_193 {A : Nat → Nat → Int32} {J : Nat → Nat → Int64} {τ : tm_Tu} {n rest st : Nat} {D : Nat → TD} (hn : n ≤ 12) (hD : DOk n D) (hA : JnA A J n D) (h0 : rest ≠ 0) (hr : rest < 2 ^ n) (hs : st < 16) (hT : tbl n D (2 ^ n) rest st = true) : F_193 [.ref 24, .int (nI rest), .int (nI st)] (mk A J τ) = some (some (.int (nI (fway n D rest st))), mk A J τ) := by
  have hp := pow_12 hn
  obtain ⟨f1, f2, f3⟩ := fway_P h0 hr hT
  have key : ∀ m w, w + m = fway n D rest st → R_193 2 [(0, .ref 24), (1, .int (nI rest)), (2, .int (nI st)), (3, .int (nI w))] [] (mk A J τ) = some (some (.int (nI (fway n D rest st))), mk A J τ) := by
    intro m
    induction m with
    | zero =>
      intro w hw
      have e : w = fway n D rest st := by omega
      rw [← e] at f1 f2 ⊢
      obtain ⟨b1, b2', b3⟩ := led_1 f2
      have hlt := xor_lt b1
      obtain ⟨⟨v, v1, v2, v3⟩, -⟩ := hA.2.2 _ (Nat.lt_trans hlt hr)
      have s255 := s_255 (A := A) (J := J) (τ := τ) (s := rest ^^^ 2 ^ (w / 2)) (by omega)
      rw [v2] at s255
      have hnx := nxt_lt hD f1 hs
      have hbt := bit_t (s := v) (t := nxt D w st) (by omega) (by omega) (by rw [v3 _ hnx]; exact b3)
      have hWy := hA.2.1 w f1
      have s192 := s_192 (J := J) (τ := τ) hn hD f1 hs hWy
      have hwn := hWy.1
      have hwb : (wnt D w).testBit st = true := by
        unfold wnt
        rw [mskN_bit, b2']
        simp [hs]
      have hwt := bit_t (s := wnt D w) (t := st) (Nat.lt_trans (wnt_lt D w) (by omega)) (by omega) hwb
      have hsh := shl_1 (t := w / 2) (by omega)
      have ha : ¬ (rest &&& 2 ^ (w / 2)) = 0 := fun e => by
        rw [and_pw, b1] at e
        cases e
      have ha2 : rest &&& 2 ^ (w / 2) < 4096 := Nat.lt_of_le_of_lt Nat.and_le_left (by omega)
      rw [e_193_2]
      simp (disch := first | omega | (simp (disch := omega) only [n_ti, Int32.reduceToInt] <;> omega)) only [hsh, i_and, hwn, hwt, e_193_43, i_xor, s255, e_193_58, s192, e_193_64, hbt, n_add, nl_add, nr_add, n_mul, nl_mul, nr_mul, n_sub, nr_dec, n_div, nr_sub_1, nr_sub_2, nr_sub_3, nr_sub_4, nr_sub_7, nr_sub_10, nr_sub_11, nr_sub_20, nr_sub_48, nr_sub_97, nl_sub_3, nl_sub_4, nl_sub_12, nl_sub_24, nl_sub_32, nr_div_2, nr_div_4, z_lt, z_le, z_eq, z_cl, n_ti, Int.toNat_natCast, Int32.reduceToInt, Int32.reduceToNatClampNeg, zc_add, zc_sub, zc_add_1, zc_add_2, zc_add_3, zc_add_4, zc_add_8, zc_add_10, zc_add_12, zc_add_16, zc_add_20, zc_sub_1, zc_sub_2, zc_sub_4, zc_sub_10, zc_sub_20, zc_sub_48, zc_sub_97, zc_mul_4, t_ltZ, f_ltZ, t_leZ, f_leZ, t_eqZ, f_eqZ, t_ltN, f_ltN, t_leN, f_leN, t_eqN, f_eqN, ↓reduceIte, and_true, true_and, and_false, false_and, and_self, or_true, true_or, or_false, false_or, or_self, not_true_eq_false, not_false_eq_true, tu_same, tu_eq, tu_ne, b_V, b_I, b_J]
    | succ m ih =>
      intro w hw
      have hf := f3 w (by omega)
      have hWy := hA.2.1 w (by omega)
      have hwn := hWy.1
      have hsh := shl_1 (t := w / 2) (by omega)
      rw [← ih (w + 1) (by omega), e_193_2]
      cases b1 : rest.testBit (w / 2) with
      | false =>
        have ha : rest &&& 2 ^ (w / 2) = 0 := and_pw.mpr b1
        simp (disch := first | omega | (simp (disch := omega) only [n_ti, Int32.reduceToInt] <;> omega)) only [hsh, i_and, ha, e_193_42, e_193_43, e_193_72, n_add, nl_add, nr_add, n_mul, nl_mul, nr_mul, n_sub, nr_dec, n_div, nr_sub_1, nr_sub_2, nr_sub_3, nr_sub_4, nr_sub_7, nr_sub_10, nr_sub_11, nr_sub_20, nr_sub_48, nr_sub_97, nl_sub_3, nl_sub_4, nl_sub_12, nl_sub_24, nl_sub_32, nr_div_2, nr_div_4, z_lt, z_le, z_eq, z_cl, n_ti, Int.toNat_natCast, Int32.reduceToInt, Int32.reduceToNatClampNeg, zc_add, zc_sub, zc_add_1, zc_add_2, zc_add_3, zc_add_4, zc_add_8, zc_add_10, zc_add_12, zc_add_16, zc_add_20, zc_sub_1, zc_sub_2, zc_sub_4, zc_sub_10, zc_sub_20, zc_sub_48, zc_sub_97, zc_mul_4, t_ltZ, f_ltZ, t_leZ, f_leZ, t_eqZ, f_eqZ, t_ltN, f_ltN, t_leN, f_leN, t_eqN, f_eqN, ↓reduceIte, and_true, true_and, and_false, false_and, and_self, or_true, true_or, or_false, false_or, or_self, not_true_eq_false, not_false_eq_true, tu_same, tu_eq, tu_ne, b_V, b_I, b_J]
      | true =>
        have ha : ¬ (rest &&& 2 ^ (w / 2)) = 0 := fun e => by
          rw [and_pw, b1] at e
          cases e
        have ha2 : rest &&& 2 ^ (w / 2) < 4096 := Nat.lt_of_le_of_lt Nat.and_le_left (by omega)
        cases bm : may D w st with
        | false =>
          have hwb : (wnt D w).testBit st = false := by
            unfold wnt
            rw [mskN_bit, bm]
            simp
          have hwt := bit_f (s := wnt D w) (t := st) (Nat.lt_trans (wnt_lt D w) (by omega)) (by omega) hwb
          simp (disch := first | omega | (simp (disch := omega) only [n_ti, Int32.reduceToInt] <;> omega)) only [hsh, i_and, hwn, hwt, e_193_42, e_193_43, e_193_72, n_add, nl_add, nr_add, n_mul, nl_mul, nr_mul, n_sub, nr_dec, n_div, nr_sub_1, nr_sub_2, nr_sub_3, nr_sub_4, nr_sub_7, nr_sub_10, nr_sub_11, nr_sub_20, nr_sub_48, nr_sub_97, nl_sub_3, nl_sub_4, nl_sub_12, nl_sub_24, nl_sub_32, nr_div_2, nr_div_4, z_lt, z_le, z_eq, z_cl, n_ti, Int.toNat_natCast, Int32.reduceToInt, Int32.reduceToNatClampNeg, zc_add, zc_sub, zc_add_1, zc_add_2, zc_add_3, zc_add_4, zc_add_8, zc_add_10, zc_add_12, zc_add_16, zc_add_20, zc_sub_1, zc_sub_2, zc_sub_4, zc_sub_10, zc_sub_20, zc_sub_48, zc_sub_97, zc_mul_4, t_ltZ, f_ltZ, t_leZ, f_leZ, t_eqZ, f_eqZ, t_ltN, f_ltN, t_leN, f_leN, t_eqN, f_eqN, ↓reduceIte, and_true, true_and, and_false, false_and, and_self, or_true, true_or, or_false, false_or, or_self, not_true_eq_false, not_false_eq_true, tu_same, tu_eq, tu_ne, b_V, b_I, b_J]
        | true =>
          have hwb : (wnt D w).testBit st = true := by
            unfold wnt
            rw [mskN_bit, bm]
            simp [hs]
          have hwt := bit_t (s := wnt D w) (t := st) (Nat.lt_trans (wnt_lt D w) (by omega)) (by omega) hwb
          have hlt := xor_lt b1
          have s192 := s_192 (J := J) (τ := τ) hn hD (show w < 2 * n by omega) hs hWy
          have hnx := nxt_lt hD (show w < 2 * n by omega) hs
          obtain ⟨⟨v, v1, v2, v3⟩, -⟩ := hA.2.2 _ (Nat.lt_trans hlt hr)
          have s255 := s_255 (A := A) (J := J) (τ := τ) (s := rest ^^^ 2 ^ (w / 2)) (by omega)
          rw [v2] at s255
          have hT0 : tbl n D (2 ^ n) (rest ^^^ 2 ^ (w / 2)) (nxt D w st) = false := by
            unfold ledP at hf
            rw [b1, bm] at hf
            simpa using hf
          have hbf := bit_f (s := v) (t := nxt D w st) (by omega) (by omega) (by rw [v3 _ hnx]; exact hT0)
          simp (disch := first | omega | (simp (disch := omega) only [n_ti, Int32.reduceToInt] <;> omega)) only [hsh, i_and, hwn, hwt, e_193_43, i_xor, s255, e_193_58, s192, e_193_64, hbf, e_193_72, n_add, nl_add, nr_add, n_mul, nl_mul, nr_mul, n_sub, nr_dec, n_div, nr_sub_1, nr_sub_2, nr_sub_3, nr_sub_4, nr_sub_7, nr_sub_10, nr_sub_11, nr_sub_20, nr_sub_48, nr_sub_97, nl_sub_3, nl_sub_4, nl_sub_12, nl_sub_24, nl_sub_32, nr_div_2, nr_div_4, z_lt, z_le, z_eq, z_cl, n_ti, Int.toNat_natCast, Int32.reduceToInt, Int32.reduceToNatClampNeg, zc_add, zc_sub, zc_add_1, zc_add_2, zc_add_3, zc_add_4, zc_add_8, zc_add_10, zc_add_12, zc_add_16, zc_add_20, zc_sub_1, zc_sub_2, zc_sub_4, zc_sub_10, zc_sub_20, zc_sub_48, zc_sub_97, zc_mul_4, t_ltZ, f_ltZ, t_leZ, f_leZ, t_eqZ, f_eqZ, t_ltN, f_ltN, t_leN, f_leN, t_eqN, f_eqN, ↓reduceIte, and_true, true_and, and_false, false_and, and_self, or_true, true_or, or_false, false_or, or_self, not_true_eq_false, not_false_eq_true, tu_same, tu_eq, tu_ne, b_V, b_I, b_J]
  rw [e_193]
  exact key (fway n D rest st) 0 (by omega)
theorem l_194 {J : Nat → Nat → Int64} {τ : tm_Tu} {n : Nat} {D : Nat → TD} (hn : n ≤ 12) (hD : DOk n D) : ∀ p rest st len (A : Nat → Nat → Int32), pc n rest = p → rest < 2 ^ n → st < 16 → tbl n D (2 ^ n) rest st = true → len + p ≤ 12 → JnA A J n D → A 24 7 = nI len → ∃ A', R_194 12 [(0, .ref 24), (2, .int (nI rest)), (3, .int (nI st))] [] (mk A J τ) = some (none, mk A' J τ) ∧ A' 24 7 = nI (len + p) ∧ (∀ i, i < p → A' 31 (len + i) = nI ((rowL n D p rest st).getD i 0)) ∧ (∀ a y, ¬ (a = 24 ∧ y = 7) → ¬ (a = 31 ∧ len ≤ y) → A' a y = A a y) := by
  have hp := pow_12 hn
  intro p
  induction p with
  | zero =>
    intro rest st len A h1 h2 h3 h4 h5 hA h7
    have e := pc_0 h2 h1
    subst e
    refine ⟨A, ?_, h7, fun i hi => by omega, fun _ _ _ _ => rfl⟩
    rw [e_194_12]
    simp (disch := first | omega | (simp (disch := omega) only [n_ti, Int32.reduceToInt] <;> omega)) only [e_194_84, n_add, nl_add, nr_add, n_mul, nl_mul, nr_mul, n_sub, nr_dec, n_div, nr_sub_1, nr_sub_2, nr_sub_3, nr_sub_4, nr_sub_7, nr_sub_10, nr_sub_11, nr_sub_20, nr_sub_48, nr_sub_97, nl_sub_3, nl_sub_4, nl_sub_12, nl_sub_24, nl_sub_32, nr_div_2, nr_div_4, z_lt, z_le, z_eq, z_cl, n_ti, Int.toNat_natCast, Int32.reduceToInt, Int32.reduceToNatClampNeg, zc_add, zc_sub, zc_add_1, zc_add_2, zc_add_3, zc_add_4, zc_add_8, zc_add_10, zc_add_12, zc_add_16, zc_add_20, zc_sub_1, zc_sub_2, zc_sub_4, zc_sub_10, zc_sub_20, zc_sub_48, zc_sub_97, zc_mul_4, t_ltZ, f_ltZ, t_leZ, f_leZ, t_eqZ, f_eqZ, t_ltN, f_ltN, t_leN, f_leN, t_eqN, f_eqN, ↓reduceIte, and_true, true_and, and_false, false_and, and_self, or_true, true_or, or_false, false_or, or_self, not_true_eq_false, not_false_eq_true, tu_same, tu_eq, tu_ne, b_V, b_I, b_J]
  | succ p ih =>
    intro rest st len A h1 h2 h3 h4 h5 hA h7
    have h0 : rest ≠ 0 := fun e => by
      rw [e] at h1
      have : pc n 0 = 0 := wsum_0 _ n
      omega
    obtain ⟨f1, f2, f3⟩ := fway_P h0 h2 h4
    obtain ⟨b1, b2', b3⟩ := led_1 f2
    have s193 := s_193 (J := J) (τ := τ) hn hD hA h0 h2 h3 h4
    have hr : rowL n D (p + 1) rest st = fway n D rest st :: rowL n D p (rest ^^^ 2 ^ (fway n D rest st / 2)) (nxt D (fway n D rest st) st) := rfl
    rw [hr]
    generalize fway n D rest st = w at *
    have hlt := xor_lt b1
    have hpx := pc_x b1 (show w / 2 < n by omega)
    have hnx := nxt_lt hD f1 h3
    have hA1 : JnA (tm_u (tm_u A 31 len (nI w)) 24 7 (nI (len + 1))) J n D := hA.tr (fun a k u => by simp (disch := omega) only [tu_same, tu_eq, tu_ne]) (fun _ => rfl)
    have s192 := s_192 (J := J) (τ := τ) hn hD f1 h3 (hA1.2.1 w f1)
    have hsh := shl_1 (t := w / 2) (by omega)
    obtain ⟨A', g1, g2, g3, g4⟩ := ih (rest ^^^ 2 ^ (w / 2)) (nxt D w st) (len + 1) (tm_u (tm_u A 31 len (nI w)) 24 7 (nI (len + 1))) (by omega) (by omega) hnx b3 (by omega) hA1 (by simp (disch := omega) only [tu_same, tu_eq, tu_ne])
    refine ⟨A', ?_, ?_, fun i hi => ?_, fun a y u1 u2 => ?_⟩
    · rw [← g1, e_194_12]
      simp (disch := first | omega | (simp (disch := omega) only [n_ti, Int32.reduceToInt] <;> omega)) only [h7, s193, e_194_34, s192, hsh, i_xor, e_194_80, n_add, nl_add, nr_add, n_mul, nl_mul, nr_mul, n_sub, nr_dec, n_div, nr_sub_1, nr_sub_2, nr_sub_3, nr_sub_4, nr_sub_7, nr_sub_10, nr_sub_11, nr_sub_20, nr_sub_48, nr_sub_97, nl_sub_3, nl_sub_4, nl_sub_12, nl_sub_24, nl_sub_32, nr_div_2, nr_div_4, z_lt, z_le, z_eq, z_cl, n_ti, Int.toNat_natCast, Int32.reduceToInt, Int32.reduceToNatClampNeg, zc_add, zc_sub, zc_add_1, zc_add_2, zc_add_3, zc_add_4, zc_add_8, zc_add_10, zc_add_12, zc_add_16, zc_add_20, zc_sub_1, zc_sub_2, zc_sub_4, zc_sub_10, zc_sub_20, zc_sub_48, zc_sub_97, zc_mul_4, t_ltZ, f_ltZ, t_leZ, f_leZ, t_eqZ, f_eqZ, t_ltN, f_ltN, t_leN, f_leN, t_eqN, f_eqN, ↓reduceIte, and_true, true_and, and_false, false_and, and_self, or_true, true_or, or_false, false_or, or_self, not_true_eq_false, not_false_eq_true, tu_same, tu_eq, tu_ne, b_V, b_I, b_J]
    · rw [g2]; congr 1; omega
    · by_cases e : i = 0
      · subst e
        rw [g4 31 (len + 0) (by omega) (by omega)]
        simp (disch := omega) only [tu_same, tu_eq, tu_ne]
        rfl
      · obtain ⟨j, rfl⟩ : ∃ j, i = j + 1 := ⟨i - 1, by omega⟩
        rw [show len + (j + 1) = len + 1 + j by omega, g3 j (by omega)]
        rfl
    · rw [g4 a y u1 (by omega)]
      simp (disch := omega) only [tu_same, tu_eq, tu_ne]
/-- what choose leaves -/
def RowA (A : Nat → Nat → Int32) (n : Nat) (D : Nat → TD) (N st : Nat) : Prop := A 24 8 = nI (bestS n D N st) ∧ A 24 7 = nI (pc n (bestS n D N st)) ∧ ∀ i, i < pc n (bestS n D N st) → A 31 i = nI ((rowL n D (pc n (bestS n D N st)) (bestS n D N st) st).getD i 0)
def RJoinA (A : Nat → Nat → Int32) (J : Nat → Nat → Int64) (n : Nat) (D : Nat → TD) : Prop := (A 24 10 = 0 ∨ JnA A J n D) ∧ (A 24 9 = -1 ∨ (JnA A J n D ∧ ∃ N st : Nat, N ≤ 200 ∧ st < 16 ∧ A 24 9 = nI (16 * N + st) ∧ RowA A n D N st)) ∧ Z0 A
theorem best_P {n : Nat} {D : Nat → TD} {N st : Nat} : bestS n D N st < 2 ^ n ∧ tbl n D (2 ^ n) (bestS n D N st) st = true := by
  have hp0 : 1 ≤ 2 ^ n := Nat.one_le_two_pow
  refine bst_P n D N st (2 ^ n - 1) 1 0 (by omega) (by omega) (by omega) ?_
  rw [tbl_fix n D (2 ^ n) 0 st (by omega)]
  rfl
theorem s_195 {A : Nat → Nat → Int32} {J : Nat → Nat → Int64} {τ : tm_Tu} {n cb : Nat} {D : Nat → TD} (hn : n ≤ 12) (hb : isB cb) (hD : DOk n D) (hA : BkA A cb n D) (hR : RJoinA A J n D) (N f d : Nat) (hN : N ≤ 200) (hf : f ≤ 3) (hd : d ≤ 3) : ∃ A' J', F_195 [.ref 24, .ref cb, .int (nI N), .int (nI f), .int (nI d)] (mk A J τ) = some (none, mk A' J' τ) ∧ JnA A' J' n D ∧ RJoinA A' J' n D ∧ RowA A' n D N (4 * f + d) ∧ (∀ a y, ¬ (25 ≤ a ∧ a ≤ 31) → ¬ (a = 24 ∧ 7 ≤ y ∧ y ≤ 10) → A' a y = A a y) ∧ (∀ a y, a ≠ 25 → J' a y = J a y) := by
  have hp := pow_12 hn
  have hp0 : 1 ≤ 2 ^ n := Nat.one_le_two_pow
  have tail : ∀ (A : Nat → Nat → Int32) (J : Nat → Nat → Int64), JnA A J n D → Z0 A → ∃ A', R_195 39 [(0, .ref 24), (2, .int (nI N)), (5, .int (nI (4 * f + d))), (6, .int (nI (16 * N + (4 * f + d))))] [] (mk A J τ) = some (none, mk A' J τ) ∧ JnA A' J n D ∧ RJoinA A' J n D ∧ RowA A' n D N (4 * f + d) ∧ (∀ a y, ¬ (a = 31) → ¬ (a = 24 ∧ 7 ≤ y ∧ y ≤ 9) → A' a y = A a y) := by
    intro A J hA hz
    have hA1 : JnA (tm_u A 24 9 (nI (16 * N + (4 * f + d)))) J n D := hA.tr (fun a k u => by simp (disch := omega) only [tu_same, tu_eq, tu_ne]) (fun _ => rfl)
    have s191 := s_191 (J := J) (τ := τ) hn hD hA1 N (4 * f + d) hN (by omega)
    obtain ⟨b1, b2'⟩ := best_P (n := n) (D := D) (N := N) (st := 4 * f + d)
    have hA2 : JnA (tm_u (tm_u (tm_u A 24 9 (nI (16 * N + (4 * f + d)))) 24 8 (nI (bestS n D N (4 * f + d)))) 24 7 0) J n D := hA.tr (fun a k u => by simp (disch := omega) only [tu_same, tu_eq, tu_ne]) (fun _ => rfl)
    obtain ⟨A', g1, g2, g3, g4⟩ := l_194 (J := J) (τ := τ) hn hD (pc n (bestS n D N (4 * f + d))) (bestS n D N (4 * f + d)) (4 * f + d) 0 _ rfl b1 (by omega) b2' (by have := pc_le n (bestS n D N (4 * f + d)); omega) hA2 (by simp (disch := omega) only [tu_same, tu_eq, tu_ne]; rfl)
    have hA' : JnA A' J n D := hA2.tr (fun a k u => g4 a k (by omega) (by omega)) (fun _ => rfl)
    have hRow : RowA A' n D N (4 * f + d) := by
      refine ⟨?_, ?_, fun i hi => ?_⟩
      · rw [g4 24 8 (by omega) (by omega)]
        simp (disch := omega) only [tu_same, tu_eq, tu_ne]
      · rw [g2, Nat.zero_add]
      · have := g3 i hi
        rwa [Nat.zero_add] at this
    have h9 : A' 24 9 = nI (16 * N + (4 * f + d)) := by
      rw [g4 24 9 (by omega) (by omega)]
      simp (disch := omega) only [tu_same, tu_eq, tu_ne]
    refine ⟨A', ?_, hA', ⟨Or.inr hA', Or.inr ⟨hA', N, 4 * f + d, hN, by omega, h9, hRow⟩, hz.tr (fun a y u v => (g4 a y (by omega) (by omega)).trans (by simp (disch := omega) only [tu_same, tu_eq, tu_ne]))⟩, hRow, fun a y u1 u2 => ?_⟩
    · rw [e_195_39]
      simp (disch := first | omega | (simp (disch := omega) only [n_ti, Int32.reduceToInt] <;> omega)) only [s191, e_195_53, e_194, g1, e_195_62, n_add, nl_add, nr_add, n_mul, nl_mul, nr_mul, n_sub, nr_dec, n_div, nr_sub_1, nr_sub_2, nr_sub_3, nr_sub_4, nr_sub_7, nr_sub_10, nr_sub_11, nr_sub_20, nr_sub_48, nr_sub_97, nl_sub_3, nl_sub_4, nl_sub_12, nl_sub_24, nl_sub_32, nr_div_2, nr_div_4, z_lt, z_le, z_eq, z_cl, n_ti, Int.toNat_natCast, Int32.reduceToInt, Int32.reduceToNatClampNeg, zc_add, zc_sub, zc_add_1, zc_add_2, zc_add_3, zc_add_4, zc_add_8, zc_add_10, zc_add_12, zc_add_16, zc_add_20, zc_sub_1, zc_sub_2, zc_sub_4, zc_sub_10, zc_sub_20, zc_sub_48, zc_sub_97, zc_mul_4, t_ltZ, f_ltZ, t_leZ, f_leZ, t_eqZ, f_eqZ, t_ltN, f_ltN, t_leN, f_leN, t_eqN, f_eqN, ↓reduceIte, and_true, true_and, and_false, false_and, and_self, or_true, true_or, or_false, false_or, or_self, not_true_eq_false, not_false_eq_true, tu_same, tu_eq, tu_ne, b_V, b_I, b_J]
    · rw [g4 a y (by omega) (by omega)]
      simp (disch := omega) only [tu_same, tu_eq, tu_ne]
  rcases hR.2.1 with h9 | ⟨hJ, N', st', n1, n2, n3, n4⟩
  · rcases hR.1 with h10 | hJ
    · obtain ⟨A1, J1, p1, p2, pz, p3, pj⟩ := s_190 (J := J) (τ := τ) hn hb hD hA hR.2.2
      obtain ⟨A', g1, g2, g3, g4, g5⟩ := tail A1 J1 p2 pz
      refine ⟨A', J1, ?_, g2, g3, g4, fun a y u1 u2 => ?_, pj⟩
      · rw [← g1, e_195]
        simp (disch := first | omega | (simp (disch := omega) only [n_ti, Int32.reduceToInt] <;> omega)) only [h9, h10, p1, n_add, nl_add, nr_add, n_mul, nl_mul, nr_mul, n_sub, nr_dec, n_div, nr_sub_1, nr_sub_2, nr_sub_3, nr_sub_4, nr_sub_7, nr_sub_10, nr_sub_11, nr_sub_20, nr_sub_48, nr_sub_97, nl_sub_3, nl_sub_4, nl_sub_12, nl_sub_24, nl_sub_32, nr_div_2, nr_div_4, z_lt, z_le, z_eq, z_cl, n_ti, Int.toNat_natCast, Int32.reduceToInt, Int32.reduceToNatClampNeg, zc_add, zc_sub, zc_add_1, zc_add_2, zc_add_3, zc_add_4, zc_add_8, zc_add_10, zc_add_12, zc_add_16, zc_add_20, zc_sub_1, zc_sub_2, zc_sub_4, zc_sub_10, zc_sub_20, zc_sub_48, zc_sub_97, zc_mul_4, t_ltZ, f_ltZ, t_leZ, f_leZ, t_eqZ, f_eqZ, t_ltN, f_ltN, t_leN, f_leN, t_eqN, f_eqN, ↓reduceIte, and_true, true_and, and_false, false_and, and_self, or_true, true_or, or_false, false_or, or_self, not_true_eq_false, not_false_eq_true, tu_same, tu_eq, tu_ne, b_V, b_I, b_J]
      · rw [g5 a y (by omega) (by omega), p3 a y (by omega) (by omega)]
    · obtain ⟨A', g1, g2, g3, g4, g5⟩ := tail A J hJ hR.2.2
      have h10 := hJ.1
      refine ⟨A', J, ?_, g2, g3, g4, fun a y u1 u2 => ?_, fun _ _ _ => rfl⟩
      · rw [← g1, e_195]
        simp (disch := first | omega | (simp (disch := omega) only [n_ti, Int32.reduceToInt] <;> omega)) only [h9, h10, n_add, nl_add, nr_add, n_mul, nl_mul, nr_mul, n_sub, nr_dec, n_div, nr_sub_1, nr_sub_2, nr_sub_3, nr_sub_4, nr_sub_7, nr_sub_10, nr_sub_11, nr_sub_20, nr_sub_48, nr_sub_97, nl_sub_3, nl_sub_4, nl_sub_12, nl_sub_24, nl_sub_32, nr_div_2, nr_div_4, z_lt, z_le, z_eq, z_cl, n_ti, Int.toNat_natCast, Int32.reduceToInt, Int32.reduceToNatClampNeg, zc_add, zc_sub, zc_add_1, zc_add_2, zc_add_3, zc_add_4, zc_add_8, zc_add_10, zc_add_12, zc_add_16, zc_add_20, zc_sub_1, zc_sub_2, zc_sub_4, zc_sub_10, zc_sub_20, zc_sub_48, zc_sub_97, zc_mul_4, t_ltZ, f_ltZ, t_leZ, f_leZ, t_eqZ, f_eqZ, t_ltN, f_ltN, t_leN, f_leN, t_eqN, f_eqN, ↓reduceIte, and_true, true_and, and_false, false_and, and_self, or_true, true_or, or_false, false_or, or_self, not_true_eq_false, not_false_eq_true, tu_same, tu_eq, tu_ne, b_V, b_I, b_J]
      · rw [g5 a y (by omega) (by omega)]
  · have h10 := hJ.1
    by_cases c : 16 * N + (4 * f + d) = 16 * N' + st'
    · have e1 : N' = N := by omega
      have e2 : st' = 4 * f + d := by omega
      subst e1
      subst e2
      refine ⟨A, J, ?_, hJ, hR, n4, fun _ _ _ _ => rfl, fun _ _ _ => rfl⟩
      rw [e_195]
      simp (disch := first | omega | (simp (disch := omega) only [n_ti, Int32.reduceToInt] <;> omega)) only [n3, n_add, nl_add, nr_add, n_mul, nl_mul, nr_mul, n_sub, nr_dec, n_div, nr_sub_1, nr_sub_2, nr_sub_3, nr_sub_4, nr_sub_7, nr_sub_10, nr_sub_11, nr_sub_20, nr_sub_48, nr_sub_97, nl_sub_3, nl_sub_4, nl_sub_12, nl_sub_24, nl_sub_32, nr_div_2, nr_div_4, z_lt, z_le, z_eq, z_cl, n_ti, Int.toNat_natCast, Int32.reduceToInt, Int32.reduceToNatClampNeg, zc_add, zc_sub, zc_add_1, zc_add_2, zc_add_3, zc_add_4, zc_add_8, zc_add_10, zc_add_12, zc_add_16, zc_add_20, zc_sub_1, zc_sub_2, zc_sub_4, zc_sub_10, zc_sub_20, zc_sub_48, zc_sub_97, zc_mul_4, t_ltZ, f_ltZ, t_leZ, f_leZ, t_eqZ, f_eqZ, t_ltN, f_ltN, t_leN, f_leN, t_eqN, f_eqN, ↓reduceIte, and_true, true_and, and_false, false_and, and_self, or_true, true_or, or_false, false_or, or_self, not_true_eq_false, not_false_eq_true, tu_same, tu_eq, tu_ne, b_V, b_I, b_J]
    · obtain ⟨A', g1, g2, g3, g4, g5⟩ := tail A J hJ hR.2.2
      refine ⟨A', J, ?_, g2, g3, g4, fun a y u1 u2 => ?_, fun _ _ _ => rfl⟩
      · rw [← g1, e_195]
        simp (disch := first | omega | (simp (disch := omega) only [n_ti, Int32.reduceToInt] <;> omega)) only [n3, h10, n_add, nl_add, nr_add, n_mul, nl_mul, nr_mul, n_sub, nr_dec, n_div, nr_sub_1, nr_sub_2, nr_sub_3, nr_sub_4, nr_sub_7, nr_sub_10, nr_sub_11, nr_sub_20, nr_sub_48, nr_sub_97, nl_sub_3, nl_sub_4, nl_sub_12, nl_sub_24, nl_sub_32, nr_div_2, nr_div_4, z_lt, z_le, z_eq, z_cl, n_ti, Int.toNat_natCast, Int32.reduceToInt, Int32.reduceToNatClampNeg, zc_add, zc_sub, zc_add_1, zc_add_2, zc_add_3, zc_add_4, zc_add_8, zc_add_10, zc_add_12, zc_add_16, zc_add_20, zc_sub_1, zc_sub_2, zc_sub_4, zc_sub_10, zc_sub_20, zc_sub_48, zc_sub_97, zc_mul_4, t_ltZ, f_ltZ, t_leZ, f_leZ, t_eqZ, f_eqZ, t_ltN, f_ltN, t_leN, f_leN, t_eqN, f_eqN, ↓reduceIte, and_true, true_and, and_false, false_and, and_self, or_true, true_or, or_false, false_or, or_self, not_true_eq_false, not_false_eq_true, tu_same, tu_eq, tu_ne, b_V, b_I, b_J]
      · rw [g5 a y (by omega) (by omega)]
