/-! TOKENS: the model's reader -/
def TxB (B : Nat → Nat → Int32) (s : Nat → Int) (n : Nat) : Prop := n ≤ 1400 ∧ B 131 3 = nI n ∧ ∀ k, k < n → (B 133 k).toInt = s k ∧ -128 ≤ s k ∧ s k ≤ 127
theorem TxB.tr {A A' : Nat → Nat → Int32} {s : Nat → Int} {n : Nat} (h : TxB A s n) (f : ∀ a k, a = 133 ∨ (a = 131 ∧ k = 3) → A' a k = A a k) : TxB A' s n := ⟨h.1, (f _ _ (by omega)).trans h.2.1, fun k hk => by rw [f 133 k (by omega)]; exact h.2.2 k hk⟩
def MoT (s : Nat → Int) (n : Nat) (B : Nat → Nat → Int32) (J : Nat → Nat → Int64) (t : TK) : Prop := B 131 6 = nI (tQ t) ∧ (tK t ≠ 36 → B 131 7 = nI (tE t)) ∧ (tK t < 23 → B 131 8 = 3 ∧ J 131 10 = lN (en256 (wrd (tK t)))) ∧ (tK t = 30 → B 131 8 = 2 ∧ J 131 10 = lN (en256 (tL t))) ∧ (tK t = 31 → B 131 8 = 4 ∧ B 131 9 = nI (tV t)) ∧ (tK t = 32 → B 131 8 = 5) ∧ (tK t = 33 → B 131 8 = 6 ∧ s (tQ t) = 58 ∧ tQ t < n) ∧ (tK t = 34 → B 131 8 = 6 ∧ s (tQ t) = 59 ∧ tQ t < n) ∧ (tK t = 35 → B 131 8 = 0) ∧ (tK t = 36 → B 131 8 = 1)
theorem MoT.tr {s : Nat → Int} {n : Nat} {B B' : Nat → Nat → Int32} {J J' : Nat → Nat → Int64} {t : TK} (h : MoT s n B J t) (f : ∀ k, 6 ≤ k → k ≤ 9 → B' 131 k = B 131 k) (g : J' 131 10 = J 131 10) : MoT s n B' J' t := by
  obtain ⟨h1, h2, h3, h4, h5, h6, h7, h8, h9, h10⟩ := h
  have f8 := f 8 (by omega) (by omega)
  refine ⟨(f _ (by omega) (by omega)).trans h1, fun e => (f _ (by omega) (by omega)).trans (h2 e), fun e => ⟨f8.trans (h3 e).1, g.trans (h3 e).2⟩, fun e => ⟨f8.trans (h4 e).1, g.trans (h4 e).2⟩, fun e => ⟨f8.trans (h5 e).1, (f _ (by omega) (by omega)).trans (h5 e).2⟩, fun e => f8.trans (h6 e), fun e => ⟨f8.trans (h7 e).1, (h7 e).2⟩, fun e => ⟨f8.trans (h8 e).1, (h8 e).2⟩, fun e => f8.trans (h9 e), fun e => f8.trans (h10 e)⟩
def ubt (z : Int) : Nat := (z % 256).toNat
theorem s_55 {B : Nat → Nat → Int32} {J : Nat → Nat → Int64} {τ : tm_Tu} {s : Nat → Int} {n k : Nat} (hT : TxB B s n) (hk : k < n) : F_55 [.ref 131, .int (nI k)] (mk B J τ) = some (some (.int (nI (ubt (s k)))), mk B J τ) := by
  obtain ⟨t1, t2, t3⟩ := hT
  obtain ⟨b1, b2, b3⟩ := t3 k hk
  have e : B 133 k &&& 255 = nI (ubt (s k)) := by
    rw [z_eq, by_and, n_ti (by unfold ubt; omega), b1]
    unfold ubt
    omega
  rw [e_55]
  simp (disch := first | omega | (simp (disch := omega) only [n_ti, Int32.reduceToInt] <;> omega)) only [t2, e, e_55_22, n_add, nl_add, nr_add, n_mul, nl_mul, nr_mul, n_sub, nr_dec, n_div, nr_sub_1, nr_sub_2, nr_sub_3, nr_sub_4, nr_sub_7, nr_sub_10, nr_sub_11, nr_sub_20, nr_sub_48, nr_sub_97, nl_sub_3, nl_sub_4, nl_sub_12, nl_sub_24, nl_sub_32, nr_div_2, nr_div_4, z_lt, z_le, z_eq, z_cl, n_ti, Int.toNat_natCast, Int32.reduceToInt, Int32.reduceToNatClampNeg, zc_add, zc_sub, zc_add_1, zc_add_2, zc_add_3, zc_add_4, zc_add_8, zc_add_10, zc_add_12, zc_add_16, zc_add_20, zc_sub_1, zc_sub_2, zc_sub_4, zc_sub_10, zc_sub_20, zc_sub_48, zc_sub_97, zc_mul_4, t_ltZ, f_ltZ, t_leZ, f_leZ, t_eqZ, f_eqZ, t_ltN, f_ltN, t_leN, f_leN, t_eqN, f_eqN, ↓reduceIte, and_true, true_and, and_false, false_and, and_self, or_true, true_or, or_false, false_or, or_self, not_true_eq_false, not_false_eq_true, tu_same, tu_eq, tu_ne, b_V, b_I, b_J]
theorem s_55o {B : Nat → Nat → Int32} {J : Nat → Nat → Int64} {τ : tm_Tu} {s : Nat → Int} {n k : Nat} (hT : TxB B s n) (hk : n ≤ k) (hk2 : k < 100000) : F_55 [.ref 131, .int (nI k)] (mk B J τ) = some (some (.int 0), mk B J τ) := by
  obtain ⟨t1, t2, t3⟩ := hT
  rw [e_55]
  simp (disch := first | omega | (simp (disch := omega) only [n_ti, Int32.reduceToInt] <;> omega)) only [t2, e_55_22, n_add, nl_add, nr_add, n_mul, nl_mul, nr_mul, n_sub, nr_dec, n_div, nr_sub_1, nr_sub_2, nr_sub_3, nr_sub_4, nr_sub_7, nr_sub_10, nr_sub_11, nr_sub_20, nr_sub_48, nr_sub_97, nl_sub_3, nl_sub_4, nl_sub_12, nl_sub_24, nl_sub_32, nr_div_2, nr_div_4, z_lt, z_le, z_eq, z_cl, n_ti, Int.toNat_natCast, Int32.reduceToInt, Int32.reduceToNatClampNeg, zc_add, zc_sub, zc_add_1, zc_add_2, zc_add_3, zc_add_4, zc_add_8, zc_add_10, zc_add_12, zc_add_16, zc_add_20, zc_sub_1, zc_sub_2, zc_sub_4, zc_sub_10, zc_sub_20, zc_sub_48, zc_sub_97, zc_mul_4, t_ltZ, f_ltZ, t_leZ, f_leZ, t_eqZ, f_eqZ, t_ltN, f_ltN, t_leN, f_leN, t_eqN, f_eqN, ↓reduceIte, and_true, true_and, and_false, false_and, and_self, or_true, true_or, or_false, false_or, or_self, not_true_eq_false, not_false_eq_true, tu_same, tu_eq, tu_ne, b_V, b_I, b_J]
theorem shl8 {a c : Nat} (ha : a < 2 ^ 56) (hc : c < 256) : (lN a <<< ((8 : Int32).toInt64 &&& 63)) ||| (nI c).toInt64 = lN (a * 256 + c) := by
  rw [nI_l (by omega)]
  apply Int64.toBitVec_inj.1
  apply BitVec.eq_of_toNat_eq
  have h1 : (lN a <<< ((8 : Int32).toInt64 &&& 63)).toBitVec = BitVec.ofNat 64 a <<< (8 : Nat) := by
    show (BitVec.ofNat 64 a) <<< (((8 : Int32).toInt64 &&& 63).toBitVec.smod 64) = _
    rw [show (((8 : Int32).toInt64 &&& 63).toBitVec.smod 64) = 8#64 by decide]
    rfl
  show ((lN a <<< ((8 : Int32).toInt64 &&& 63)).toBitVec ||| (lN c).toBitVec).toNat = (BitVec.ofNat 64 (a * 256 + c)).toNat
  rw [h1, BitVec.toNat_or, BitVec.toNat_shiftLeft, BitVec.toNat_ofNat]
  show (a % 2 ^ 64) <<< 8 % 2 ^ 64 ||| (BitVec.ofNat 64 c).toNat = _
  rw [BitVec.toNat_ofNat, BitVec.toNat_ofNat, Nat.mod_eq_of_lt (show a < 2 ^ 64 by omega), Nat.mod_eq_of_lt (show c < 2 ^ 64 by omega), Nat.shiftLeft_eq, Nat.mod_eq_of_lt (show a * 2 ^ 8 < 2 ^ 64 by omega), Nat.mod_eq_of_lt (show a * 256 + c < 2 ^ 64 by omega)]
  have := Nat.two_pow_add_eq_or_of_lt (i := 8) hc a
  rw [Nat.mul_comm a (2 ^ 8), ← this]
theorem dL (z : Int) (h : isL z = true) : 97 ≤ z ∧ z ≤ 122 := by
  unfold isL at h
  rwa [decide_eq_true_iff] at h
theorem dLf (z : Int) (h : isL z = false) : ¬ (97 ≤ z ∧ z ≤ 122) := by
  unfold isL at h
  rwa [decide_eq_false_iff_not] at h
theorem dDt (z : Int) (h : isD z = true) : 48 ≤ z ∧ z ≤ 57 := by
  unfold isD at h
  rwa [decide_eq_true_iff] at h
theorem dDf (z : Int) (h : isD z = false) : ¬ (48 ≤ z ∧ z ≤ 57) := by
  unfold isD at h
  rwa [decide_eq_false_iff_not] at h
theorem dWt (z : Int) (h : isW z = true) : z = 32 ∨ z = 10 := by
  unfold isW at h
  rwa [decide_eq_true_iff] at h
theorem dWf (z : Int) (h : isW z = false) : ¬ (z = 32 ∨ z = 10) := by
  unfold isW at h
  rwa [decide_eq_false_iff_not] at h
theorem ub_e {z : Int} (h1 : -128 ≤ z) (h2 : z ≤ 127) : (0 ≤ z ∧ (ubt z : Int) = z) ∨ (z < 0 ∧ (ubt z : Int) = z + 256) := by
  unfold ubt
  omega
theorem s_56L {I : Nat → Nat → Int32} {J : Nat → Nat → Int64} {τ : tm_Tu} {z : Int} (h1 : -128 ≤ z) (h2 : z ≤ 127) (h : isL z = true) : F_56 [.int (nI (ubt z))] (mk I J τ) = some (some (.int 1), mk I J τ) := by
  have := dL z h
  have e := ub_e h1 h2
  exact s_56t (by rw [n_ti (by omega)]; omega) (by rw [n_ti (by omega)]; omega)
theorem s_56N {I : Nat → Nat → Int32} {J : Nat → Nat → Int64} {τ : tm_Tu} {z : Int} (h1 : -128 ≤ z) (h2 : z ≤ 127) (h : isL z = false) : F_56 [.int (nI (ubt z))] (mk I J τ) = some (some (.int 0), mk I J τ) := by
  have := dLf z h
  have e := ub_e h1 h2
  exact s_56f (by rw [n_ti (by omega)]; omega)
theorem s_56_0 {I : Nat → Nat → Int32} {J : Nat → Nat → Int64} {τ : tm_Tu} : F_56 [.int 0] (mk I J τ) = some (some (.int 0), mk I J τ) := s_56f (Or.inl (by decide))
theorem s_58D {I : Nat → Nat → Int32} {J : Nat → Nat → Int64} {τ : tm_Tu} {z : Int} (h1 : -128 ≤ z) (h2 : z ≤ 127) (h : isD z = true) : F_58 [.int (nI (ubt z))] (mk I J τ) = some (some (.int 1), mk I J τ) := by
  have := dDt z h
  have e := ub_e h1 h2
  rw [e_58]
  simp (disch := first | omega | (simp (disch := omega) only [n_ti, Int32.reduceToInt] <;> omega)) only [e_58_17, n_add, nl_add, nr_add, n_mul, nl_mul, nr_mul, n_sub, nr_dec, n_div, nr_sub_1, nr_sub_2, nr_sub_3, nr_sub_4, nr_sub_7, nr_sub_10, nr_sub_11, nr_sub_20, nr_sub_48, nr_sub_97, nl_sub_3, nl_sub_4, nl_sub_12, nl_sub_24, nl_sub_32, nr_div_2, nr_div_4, z_lt, z_le, z_eq, z_cl, n_ti, Int.toNat_natCast, Int32.reduceToInt, Int32.reduceToNatClampNeg, zc_add, zc_sub, zc_add_1, zc_add_2, zc_add_3, zc_add_4, zc_add_8, zc_add_10, zc_add_12, zc_add_16, zc_add_20, zc_sub_1, zc_sub_2, zc_sub_4, zc_sub_10, zc_sub_20, zc_sub_48, zc_sub_97, zc_mul_4, t_ltZ, f_ltZ, t_leZ, f_leZ, t_eqZ, f_eqZ, t_ltN, f_ltN, t_leN, f_leN, t_eqN, f_eqN, ↓reduceIte, and_true, true_and, and_false, false_and, and_self, or_true, true_or, or_false, false_or, or_self, not_true_eq_false, not_false_eq_true, tu_same, tu_eq, tu_ne, b_V, b_I, b_J]
theorem s_58N {I : Nat → Nat → Int32} {J : Nat → Nat → Int64} {τ : tm_Tu} {z : Int} (h1 : -128 ≤ z) (h2 : z ≤ 127) (h : isD z = false) : F_58 [.int (nI (ubt z))] (mk I J τ) = some (some (.int 0), mk I J τ) := by
  have := dDf z h
  have e := ub_e h1 h2
  rw [e_58]
  by_cases c : ubt z < 48
  · simp (disch := first | omega | (simp (disch := omega) only [n_ti, Int32.reduceToInt] <;> omega)) only [e_58_16, e_58_17, n_add, nl_add, nr_add, n_mul, nl_mul, nr_mul, n_sub, nr_dec, n_div, nr_sub_1, nr_sub_2, nr_sub_3, nr_sub_4, nr_sub_7, nr_sub_10, nr_sub_11, nr_sub_20, nr_sub_48, nr_sub_97, nl_sub_3, nl_sub_4, nl_sub_12, nl_sub_24, nl_sub_32, nr_div_2, nr_div_4, z_lt, z_le, z_eq, z_cl, n_ti, Int.toNat_natCast, Int32.reduceToInt, Int32.reduceToNatClampNeg, zc_add, zc_sub, zc_add_1, zc_add_2, zc_add_3, zc_add_4, zc_add_8, zc_add_10, zc_add_12, zc_add_16, zc_add_20, zc_sub_1, zc_sub_2, zc_sub_4, zc_sub_10, zc_sub_20, zc_sub_48, zc_sub_97, zc_mul_4, t_ltZ, f_ltZ, t_leZ, f_leZ, t_eqZ, f_eqZ, t_ltN, f_ltN, t_leN, f_leN, t_eqN, f_eqN, ↓reduceIte, and_true, true_and, and_false, false_and, and_self, or_true, true_or, or_false, false_or, or_self, not_true_eq_false, not_false_eq_true, tu_same, tu_eq, tu_ne, b_V, b_I, b_J]
  · simp (disch := first | omega | (simp (disch := omega) only [n_ti, Int32.reduceToInt] <;> omega)) only [e_58_16, e_58_17, n_add, nl_add, nr_add, n_mul, nl_mul, nr_mul, n_sub, nr_dec, n_div, nr_sub_1, nr_sub_2, nr_sub_3, nr_sub_4, nr_sub_7, nr_sub_10, nr_sub_11, nr_sub_20, nr_sub_48, nr_sub_97, nl_sub_3, nl_sub_4, nl_sub_12, nl_sub_24, nl_sub_32, nr_div_2, nr_div_4, z_lt, z_le, z_eq, z_cl, n_ti, Int.toNat_natCast, Int32.reduceToInt, Int32.reduceToNatClampNeg, zc_add, zc_sub, zc_add_1, zc_add_2, zc_add_3, zc_add_4, zc_add_8, zc_add_10, zc_add_12, zc_add_16, zc_add_20, zc_sub_1, zc_sub_2, zc_sub_4, zc_sub_10, zc_sub_20, zc_sub_48, zc_sub_97, zc_mul_4, t_ltZ, f_ltZ, t_leZ, f_leZ, t_eqZ, f_eqZ, t_ltN, f_ltN, t_leN, f_leN, t_eqN, f_eqN, ↓reduceIte, and_true, true_and, and_false, false_and, and_self, or_true, true_or, or_false, false_or, or_self, not_true_eq_false, not_false_eq_true, tu_same, tu_eq, tu_ne, b_V, b_I, b_J]
theorem s_58_0 {I : Nat → Nat → Int32} {J : Nat → Nat → Int64} {τ : tm_Tu} : F_58 [.int 0] (mk I J τ) = some (some (.int 0), mk I J τ) := by
  rw [e_58]
  simp (disch := first | omega | (simp (disch := omega) only [n_ti, Int32.reduceToInt] <;> omega)) only [e_58_16, e_58_17, n_add, nl_add, nr_add, n_mul, nl_mul, nr_mul, n_sub, nr_dec, n_div, nr_sub_1, nr_sub_2, nr_sub_3, nr_sub_4, nr_sub_7, nr_sub_10, nr_sub_11, nr_sub_20, nr_sub_48, nr_sub_97, nl_sub_3, nl_sub_4, nl_sub_12, nl_sub_24, nl_sub_32, nr_div_2, nr_div_4, z_lt, z_le, z_eq, z_cl, n_ti, Int.toNat_natCast, Int32.reduceToInt, Int32.reduceToNatClampNeg, zc_add, zc_sub, zc_add_1, zc_add_2, zc_add_3, zc_add_4, zc_add_8, zc_add_10, zc_add_12, zc_add_16, zc_add_20, zc_sub_1, zc_sub_2, zc_sub_4, zc_sub_10, zc_sub_20, zc_sub_48, zc_sub_97, zc_mul_4, t_ltZ, f_ltZ, t_leZ, f_leZ, t_eqZ, f_eqZ, t_ltN, f_ltN, t_leN, f_leN, t_eqN, f_eqN, ↓reduceIte, and_true, true_and, and_false, false_and, and_self, or_true, true_or, or_false, false_or, or_self, not_true_eq_false, not_false_eq_true, tu_same, tu_eq, tu_ne, b_V, b_I, b_J]
theorem m_ws {τ : tm_Tu} {J : Nat → Nat → Int64} {s : Nat → Int} {n E : Nat} (hE : E ≤ n) : ∀ m e (B : Nat → Nat → Int32), e + m = E → (∀ i, e ≤ i → i < E → isW (s i) = true) → (E < n → isW (s E) = false) → TxB B s n → B 131 6 = nI e → ∃ B', R_60 8 [(0, .ref 131)] [] (mk B J τ) = R_60 58 [(0, .ref 131)] [] (mk B' J τ) ∧ B' 131 6 = nI E ∧ (∀ a y, ¬ (a = 131 ∧ y = 6) → B' a y = B a y) := by
  intro m
  induction m with
  | zero =>
    intro e B he hL hN hT h6
    have e' : e = E := by omega
    subst e'
    obtain ⟨t1, t2, t3⟩ := id hT
    refine ⟨B, ?_, h6, fun _ _ _ => rfl⟩
    rw [e_60_8]
    by_cases c : e < n
    · obtain ⟨b1, b2, b3⟩ := t3 e c
      have hn := dWf _ (hN c)
      have hu := ub_e b2 b3
      have s55 := s_55 (J := J) (τ := τ) hT c
      simp (disch := first | omega | (simp (disch := omega) only [n_ti, Int32.reduceToInt] <;> omega)) only [t2, h6, s55, e_60_27, e_60_40, n_add, nl_add, nr_add, n_mul, nl_mul, nr_mul, n_sub, nr_dec, n_div, nr_sub_1, nr_sub_2, nr_sub_3, nr_sub_4, nr_sub_7, nr_sub_10, nr_sub_11, nr_sub_20, nr_sub_48, nr_sub_97, nl_sub_3, nl_sub_4, nl_sub_12, nl_sub_24, nl_sub_32, nr_div_2, nr_div_4, z_lt, z_le, z_eq, z_cl, n_ti, Int.toNat_natCast, Int32.reduceToInt, Int32.reduceToNatClampNeg, zc_add, zc_sub, zc_add_1, zc_add_2, zc_add_3, zc_add_4, zc_add_8, zc_add_10, zc_add_12, zc_add_16, zc_add_20, zc_sub_1, zc_sub_2, zc_sub_4, zc_sub_10, zc_sub_20, zc_sub_48, zc_sub_97, zc_mul_4, t_ltZ, f_ltZ, t_leZ, f_leZ, t_eqZ, f_eqZ, t_ltN, f_ltN, t_leN, f_leN, t_eqN, f_eqN, ↓reduceIte, and_true, true_and, and_false, false_and, and_self, or_true, true_or, or_false, false_or, or_self, not_true_eq_false, not_false_eq_true, tu_same, tu_eq, tu_ne, b_V, b_I, b_J]
    · simp (disch := first | omega | (simp (disch := omega) only [n_ti, Int32.reduceToInt] <;> omega)) only [t2, h6, n_add, nl_add, nr_add, n_mul, nl_mul, nr_mul, n_sub, nr_dec, n_div, nr_sub_1, nr_sub_2, nr_sub_3, nr_sub_4, nr_sub_7, nr_sub_10, nr_sub_11, nr_sub_20, nr_sub_48, nr_sub_97, nl_sub_3, nl_sub_4, nl_sub_12, nl_sub_24, nl_sub_32, nr_div_2, nr_div_4, z_lt, z_le, z_eq, z_cl, n_ti, Int.toNat_natCast, Int32.reduceToInt, Int32.reduceToNatClampNeg, zc_add, zc_sub, zc_add_1, zc_add_2, zc_add_3, zc_add_4, zc_add_8, zc_add_10, zc_add_12, zc_add_16, zc_add_20, zc_sub_1, zc_sub_2, zc_sub_4, zc_sub_10, zc_sub_20, zc_sub_48, zc_sub_97, zc_mul_4, t_ltZ, f_ltZ, t_leZ, f_leZ, t_eqZ, f_eqZ, t_ltN, f_ltN, t_leN, f_leN, t_eqN, f_eqN, ↓reduceIte, and_true, true_and, and_false, false_and, and_self, or_true, true_or, or_false, false_or, or_self, not_true_eq_false, not_false_eq_true, tu_same, tu_eq, tu_ne, b_V, b_I, b_J]
  | succ m ih =>
    intro e B he hL hN hT h6
    obtain ⟨t1, t2, t3⟩ := id hT
    obtain ⟨b1, b2, b3⟩ := t3 e (by omega)
    have hl := dWt _ (hL e (Nat.le_refl _) (by omega))
    have hu := ub_e b2 b3
    have s55 := s_55 (J := J) (τ := τ) hT (show e < n by omega)
    obtain ⟨B', g1, g2, g4⟩ := ih (e + 1) (tm_u B 131 6 (nI (e + 1))) (by omega) (fun i h1 h2 => hL i (by omega) h2) hN (hT.tr (fun a k u => by simp (disch := omega) only [tu_same, tu_eq, tu_ne])) (by simp (disch := omega) only [tu_same, tu_eq, tu_ne])
    refine ⟨B', ?_, g2, fun a y h => (g4 a y h).trans (by simp (disch := omega) only [tu_same, tu_eq, tu_ne])⟩
    rw [← g1, e_60_8]
    by_cases c1 : s e = 32
    · simp (disch := first | omega | (simp (disch := omega) only [n_ti, Int32.reduceToInt] <;> omega)) only [t2, h6, s55, e_60_27, e_60_45, n_add, nl_add, nr_add, n_mul, nl_mul, nr_mul, n_sub, nr_dec, n_div, nr_sub_1, nr_sub_2, nr_sub_3, nr_sub_4, nr_sub_7, nr_sub_10, nr_sub_11, nr_sub_20, nr_sub_48, nr_sub_97, nl_sub_3, nl_sub_4, nl_sub_12, nl_sub_24, nl_sub_32, nr_div_2, nr_div_4, z_lt, z_le, z_eq, z_cl, n_ti, Int.toNat_natCast, Int32.reduceToInt, Int32.reduceToNatClampNeg, zc_add, zc_sub, zc_add_1, zc_add_2, zc_add_3, zc_add_4, zc_add_8, zc_add_10, zc_add_12, zc_add_16, zc_add_20, zc_sub_1, zc_sub_2, zc_sub_4, zc_sub_10, zc_sub_20, zc_sub_48, zc_sub_97, zc_mul_4, t_ltZ, f_ltZ, t_leZ, f_leZ, t_eqZ, f_eqZ, t_ltN, f_ltN, t_leN, f_leN, t_eqN, f_eqN, ↓reduceIte, and_true, true_and, and_false, false_and, and_self, or_true, true_or, or_false, false_or, or_self, not_true_eq_false, not_false_eq_true, tu_same, tu_eq, tu_ne, b_V, b_I, b_J]
    · have c2 : s e = 10 := by omega
      simp (disch := first | omega | (simp (disch := omega) only [n_ti, Int32.reduceToInt] <;> omega)) only [t2, h6, s55, e_60_27, e_60_40, e_60_45, n_add, nl_add, nr_add, n_mul, nl_mul, nr_mul, n_sub, nr_dec, n_div, nr_sub_1, nr_sub_2, nr_sub_3, nr_sub_4, nr_sub_7, nr_sub_10, nr_sub_11, nr_sub_20, nr_sub_48, nr_sub_97, nl_sub_3, nl_sub_4, nl_sub_12, nl_sub_24, nl_sub_32, nr_div_2, nr_div_4, z_lt, z_le, z_eq, z_cl, n_ti, Int.toNat_natCast, Int32.reduceToInt, Int32.reduceToNatClampNeg, zc_add, zc_sub, zc_add_1, zc_add_2, zc_add_3, zc_add_4, zc_add_8, zc_add_10, zc_add_12, zc_add_16, zc_add_20, zc_sub_1, zc_sub_2, zc_sub_4, zc_sub_10, zc_sub_20, zc_sub_48, zc_sub_97, zc_mul_4, t_ltZ, f_ltZ, t_leZ, f_leZ, t_eqZ, f_eqZ, t_ltN, f_ltN, t_leN, f_leN, t_eqN, f_eqN, ↓reduceIte, and_true, true_and, and_false, false_and, and_self, or_true, true_or, or_false, false_or, or_self, not_true_eq_false, not_false_eq_true, tu_same, tu_eq, tu_ne, b_V, b_I, b_J]
theorem m_wd {τ : tm_Tu} {J : Nat → Nat → Int64} {s : Nat → Int} {n E : Nat} (hE : E ≤ n) : ∀ m e (B : Nat → Nat → Int32), e + m = E → (∀ i, e ≤ i → i < E → isL (s i) = true) → (E < n → isL (s E) = false) → TxB B s n → B 131 7 = nI e → ∃ B', R_60 119 [(0, .ref 131)] [] (mk B J τ) = R_60 156 [(0, .ref 131), (2, .int (B' 131 6))] [] (mk B' (tm_u J 131 10 0) τ) ∧ B' 131 7 = nI E ∧ (∀ a y, ¬ (a = 131 ∧ y = 7) → B' a y = B a y) := by
  intro m
  induction m with
  | zero =>
    intro e B he hL hN hT h7
    have e' : e = E := by omega
    subst e'
    obtain ⟨t1, t2, t3⟩ := id hT
    refine ⟨B, ?_, h7, fun _ _ _ => rfl⟩
    rw [e_60_119]
    by_cases c : e < n
    · obtain ⟨b1, b2, b3⟩ := t3 e c
      have s55 := s_55 (J := J) (τ := τ) hT c
      have s56 := s_56N (I := B) (J := J) (τ := τ) b2 b3 (hN c)
      simp (disch := first | omega | (simp (disch := omega) only [n_ti, Int32.reduceToInt] <;> omega)) only [h7, s55, e_60_127, s56, e_60_130, n_add, nl_add, nr_add, n_mul, nl_mul, nr_mul, n_sub, nr_dec, n_div, nr_sub_1, nr_sub_2, nr_sub_3, nr_sub_4, nr_sub_7, nr_sub_10, nr_sub_11, nr_sub_20, nr_sub_48, nr_sub_97, nl_sub_3, nl_sub_4, nl_sub_12, nl_sub_24, nl_sub_32, nr_div_2, nr_div_4, z_lt, z_le, z_eq, z_cl, n_ti, Int.toNat_natCast, Int32.reduceToInt, Int32.reduceToNatClampNeg, zc_add, zc_sub, zc_add_1, zc_add_2, zc_add_3, zc_add_4, zc_add_8, zc_add_10, zc_add_12, zc_add_16, zc_add_20, zc_sub_1, zc_sub_2, zc_sub_4, zc_sub_10, zc_sub_20, zc_sub_48, zc_sub_97, zc_mul_4, t_ltZ, f_ltZ, t_leZ, f_leZ, t_eqZ, f_eqZ, t_ltN, f_ltN, t_leN, f_leN, t_eqN, f_eqN, ↓reduceIte, and_true, true_and, and_false, false_and, and_self, or_true, true_or, or_false, false_or, or_self, not_true_eq_false, not_false_eq_true, tu_same, tu_eq, tu_ne, b_V, b_I, b_J]
    · have s55 := s_55o (J := J) (τ := τ) hT (show n ≤ e by omega) (by omega)
      simp (disch := first | omega | (simp (disch := omega) only [n_ti, Int32.reduceToInt] <;> omega)) only [h7, s55, e_60_127, s_56_0, e_60_130, n_add, nl_add, nr_add, n_mul, nl_mul, nr_mul, n_sub, nr_dec, n_div, nr_sub_1, nr_sub_2, nr_sub_3, nr_sub_4, nr_sub_7, nr_sub_10, nr_sub_11, nr_sub_20, nr_sub_48, nr_sub_97, nl_sub_3, nl_sub_4, nl_sub_12, nl_sub_24, nl_sub_32, nr_div_2, nr_div_4, z_lt, z_le, z_eq, z_cl, n_ti, Int.toNat_natCast, Int32.reduceToInt, Int32.reduceToNatClampNeg, zc_add, zc_sub, zc_add_1, zc_add_2, zc_add_3, zc_add_4, zc_add_8, zc_add_10, zc_add_12, zc_add_16, zc_add_20, zc_sub_1, zc_sub_2, zc_sub_4, zc_sub_10, zc_sub_20, zc_sub_48, zc_sub_97, zc_mul_4, t_ltZ, f_ltZ, t_leZ, f_leZ, t_eqZ, f_eqZ, t_ltN, f_ltN, t_leN, f_leN, t_eqN, f_eqN, ↓reduceIte, and_true, true_and, and_false, false_and, and_self, or_true, true_or, or_false, false_or, or_self, not_true_eq_false, not_false_eq_true, tu_same, tu_eq, tu_ne, b_V, b_I, b_J]
  | succ m ih =>
    intro e B he hL hN hT h7
    obtain ⟨t1, t2, t3⟩ := id hT
    obtain ⟨b1, b2, b3⟩ := t3 e (by omega)
    have s55 := s_55 (J := J) (τ := τ) hT (show e < n by omega)
    have s56 := s_56L (I := B) (J := J) (τ := τ) b2 b3 (hL e (Nat.le_refl _) (by omega))
    obtain ⟨B', g1, g2, g4⟩ := ih (e + 1) (tm_u B 131 7 (nI (e + 1))) (by omega) (fun i h1 h2 => hL i (by omega) h2) hN (hT.tr (fun a k u => by simp (disch := omega) only [tu_same, tu_eq, tu_ne])) (by simp (disch := omega) only [tu_same, tu_eq, tu_ne])
    refine ⟨B', ?_, g2, fun a y h => (g4 a y h).trans (by simp (disch := omega) only [tu_same, tu_eq, tu_ne])⟩
    rw [← g1, e_60_119]
    simp (disch := first | omega | (simp (disch := omega) only [n_ti, Int32.reduceToInt] <;> omega)) only [h7, s55, e_60_127, s56, e_60_130, n_add, nl_add, nr_add, n_mul, nl_mul, nr_mul, n_sub, nr_dec, n_div, nr_sub_1, nr_sub_2, nr_sub_3, nr_sub_4, nr_sub_7, nr_sub_10, nr_sub_11, nr_sub_20, nr_sub_48, nr_sub_97, nl_sub_3, nl_sub_4, nl_sub_12, nl_sub_24, nl_sub_32, nr_div_2, nr_div_4, z_lt, z_le, z_eq, z_cl, n_ti, Int.toNat_natCast, Int32.reduceToInt, Int32.reduceToNatClampNeg, zc_add, zc_sub, zc_add_1, zc_add_2, zc_add_3, zc_add_4, zc_add_8, zc_add_10, zc_add_12, zc_add_16, zc_add_20, zc_sub_1, zc_sub_2, zc_sub_4, zc_sub_10, zc_sub_20, zc_sub_48, zc_sub_97, zc_mul_4, t_ltZ, f_ltZ, t_leZ, f_leZ, t_eqZ, f_eqZ, t_ltN, f_ltN, t_leN, f_leN, t_eqN, f_eqN, ↓reduceIte, and_true, true_and, and_false, false_and, and_self, or_true, true_or, or_false, false_or, or_self, not_true_eq_false, not_false_eq_true, tu_same, tu_eq, tu_ne, b_V, b_I, b_J]
theorem m_nm {τ : tm_Tu} {B : Nat → Nat → Int32} {s : Nat → Int} {n q E : Nat} (hE : E ≤ n) (hL : ∀ i, q ≤ i → i < E → isL (s i) = true) (h8 : E - q ≤ 8) (hT : TxB B s n) (h6 : B 131 6 = nI q) (h7 : B 131 7 = nI E) : ∀ m e (J : Nat → Nat → Int64), e + m = E → q ≤ e → J 131 10 = lN (en256 (lets s q (e - q))) → ∃ J', R_60 156 [(0, .ref 131), (2, .int (nI e))] [] (mk B J τ) = R_60 199 [(0, .ref 131)] [] (mk B J' τ) ∧ J' 131 10 = lN (en256 (lets s q (E - q))) ∧ (∀ a y, ¬ (a = 131 ∧ y = 10) → J' a y = J a y) := by
  obtain ⟨t1, t2, t3⟩ := id hT
  intro m
  induction m with
  | zero =>
    intro e J he hq h10
    have e' : e = E := by omega
    subst e'
    refine ⟨J, ?_, h10, fun _ _ _ => rfl⟩
    rw [e_60_156]
    simp (disch := first | omega | (simp (disch := omega) only [n_ti, Int32.reduceToInt] <;> omega)) only [h7, n_add, nl_add, nr_add, n_mul, nl_mul, nr_mul, n_sub, nr_dec, n_div, nr_sub_1, nr_sub_2, nr_sub_3, nr_sub_4, nr_sub_7, nr_sub_10, nr_sub_11, nr_sub_20, nr_sub_48, nr_sub_97, nl_sub_3, nl_sub_4, nl_sub_12, nl_sub_24, nl_sub_32, nr_div_2, nr_div_4, z_lt, z_le, z_eq, z_cl, n_ti, Int.toNat_natCast, Int32.reduceToInt, Int32.reduceToNatClampNeg, zc_add, zc_sub, zc_add_1, zc_add_2, zc_add_3, zc_add_4, zc_add_8, zc_add_10, zc_add_12, zc_add_16, zc_add_20, zc_sub_1, zc_sub_2, zc_sub_4, zc_sub_10, zc_sub_20, zc_sub_48, zc_sub_97, zc_mul_4, t_ltZ, f_ltZ, t_leZ, f_leZ, t_eqZ, f_eqZ, t_ltN, f_ltN, t_leN, f_leN, t_eqN, f_eqN, ↓reduceIte, and_true, true_and, and_false, false_and, and_self, or_true, true_or, or_false, false_or, or_self, not_true_eq_false, not_false_eq_true, tu_same, tu_eq, tu_ne, b_V, b_I, b_J]
  | succ m ih =>
    intro e J he hq h10
    obtain ⟨b1, b2, b3⟩ := t3 e (by omega)
    have s55 := s_55 (J := J) (τ := τ) hT (show e < n by omega)
    have hl := dL _ (hL e hq (by omega))
    have hu := ub_e b2 b3
    have hle : en256 (lets s q (e - q)) < 2 ^ 56 := by
      have hok : okL (lets s q (e - q)) := lets_mem s q (e - q) (fun i hi => hL (q + i) (by omega) (by omega))
      have g := (en_lt (e - q) _ (lets_len s q (e - q)) hok).2
      have : 256 ^ (e - q) ≤ 256 ^ 7 := Nat.pow_le_pow_right (by omega) (by omega)
      exact Nat.lt_of_lt_of_le g (Nat.le_trans this (by decide))
    have sh := shl8 hle (show ubt (s e) < 256 by omega)
    have el : en256 (lets s q (e + 1 - q)) = en256 (lets s q (e - q)) * 256 + ubt (s e) := by
      rw [show e + 1 - q = (e - q) + 1 by omega]
      show en256 (lets s q (e - q) ++ [(s (q + (e - q))).toNat]) = _
      rw [en256_app, show q + (e - q) = e by omega]
      congr 1
      omega
    obtain ⟨J', g1, g2, g3⟩ := ih (e + 1) (tm_u J 131 10 (lN (en256 (lets s q (e - q)) * 256 + ubt (s e)))) (by omega) (by omega) (by simp (disch := omega) only [el, tu_same, tu_eq, tu_ne])
    refine ⟨J', ?_, g2, fun a y h => (g3 a y h).trans (by simp (disch := omega) only [tu_same, tu_eq, tu_ne])⟩
    rw [← g1, e_60_156]
    simp (disch := first | omega | (simp (disch := omega) only [n_ti, Int32.reduceToInt] <;> omega)) only [h7, h6, s55, e_60_188, h10, sh, n_add, nl_add, nr_add, n_mul, nl_mul, nr_mul, n_sub, nr_dec, n_div, nr_sub_1, nr_sub_2, nr_sub_3, nr_sub_4, nr_sub_7, nr_sub_10, nr_sub_11, nr_sub_20, nr_sub_48, nr_sub_97, nl_sub_3, nl_sub_4, nl_sub_12, nl_sub_24, nl_sub_32, nr_div_2, nr_div_4, z_lt, z_le, z_eq, z_cl, n_ti, Int.toNat_natCast, Int32.reduceToInt, Int32.reduceToNatClampNeg, zc_add, zc_sub, zc_add_1, zc_add_2, zc_add_3, zc_add_4, zc_add_8, zc_add_10, zc_add_12, zc_add_16, zc_add_20, zc_sub_1, zc_sub_2, zc_sub_4, zc_sub_10, zc_sub_20, zc_sub_48, zc_sub_97, zc_mul_4, t_ltZ, f_ltZ, t_leZ, f_leZ, t_eqZ, f_eqZ, t_ltN, f_ltN, t_leN, f_leN, t_eqN, f_eqN, ↓reduceIte, and_true, true_and, and_false, false_and, and_self, or_true, true_or, or_false, false_or, or_self, not_true_eq_false, not_false_eq_true, tu_same, tu_eq, tu_ne, b_V, b_I, b_J]
theorem wc_0 : (500135715691 : Int64) = lN (en256 (wrd 0)) := rfl
theorem wc_1 : (512970880104 : Int64) = lN (en256 (wrd 1)) := rfl
theorem wc_2 : (1717921140 : Int64) = lN (en256 (wrd 2)) := rfl
theorem wc_3 : (427121668979 : Int64) = lN (en256 (wrd 3)) := rfl
theorem wc_4 : (29807 : Int64) = lN (en256 (wrd 4)) := rfl
theorem wc_5 : (7300710 : Int64) = lN (en256 (wrd 5)) := rfl
theorem wc_6 : (1953854062 : Int64) = lN (en256 (wrd 6)) := rfl
theorem wc_7 : (1718775661 : Int64) = lN (en256 (wrd 7)) := rfl
theorem wc_8 : (112568465714791 : Int64) = lN (en256 (wrd 8)) := rfl
theorem wc_9 : (418431069797 : Int64) = lN (en256 (wrd 9)) := rfl
theorem wc_10 : (97 : Int64) = lN (en256 (wrd 10)) := rfl
theorem wc_11 : (98 : Int64) = lN (en256 (wrd 11)) := rfl
theorem wc_12 : (108 : Int64) = lN (en256 (wrd 12)) := rfl
theorem wc_13 : (114 : Int64) = lN (en256 (wrd 13)) := rfl
theorem wc_14 : (422607680627 : Int64) = lN (en256 (wrd 14)) := rfl
theorem wc_15 : (24948 : Int64) = lN (en256 (wrd 15)) := rfl
theorem wc_16 : (26990 : Int64) = lN (en256 (wrd 16)) := rfl
theorem wc_17 : (7304564 : Int64) = lN (en256 (wrd 17)) := rfl
theorem wc_18 : (1685022067 : Int64) = lN (en256 (wrd 18)) := rfl
theorem wc_19 : (7883958458510370148 : Int64) = lN (en256 (wrd 19)) := rfl
theorem wc_20 : (499850634611 : Int64) = lN (en256 (wrd 20)) := rfl
theorem wc_21 : (1818584692 : Int64) = lN (en256 (wrd 21)) := rfl
theorem wc_22 : (491394656372 : Int64) = lN (en256 (wrd 22)) := rfl
theorem s_57 {I : Nat → Nat → Int32} {J : Nat → Nat → Int64} {τ : tm_Tu} {l : List Nat} (hl : l.length ≤ 8) (hok : okL l) : F_57 [.long (lN (en256 l))] (mk I J τ) = some (some (.int (b2 (decide (kow l < 23)))), mk I J τ) := by
  have hz : ∀ k, k < 23 → ((lg_cmp (lN (en256 l)) (lN (en256 (wrd k)))).toInt = 0 ↔ wrd k = l) := fun k hk => by
    obtain ⟨w1, w2⟩ := wrd_okL hk
    rw [lgz, nm_256 hl w1 hok w2]
    exact eq_comm
  have hz0 : (lg_cmp (lN (en256 l)) 500135715691).toInt = 0 ↔ wrd 0 = l := by rw [wc_0]; exact hz 0 (by omega)
  have hz1 : (lg_cmp (lN (en256 l)) 512970880104).toInt = 0 ↔ wrd 1 = l := by rw [wc_1]; exact hz 1 (by omega)
  have hz2 : (lg_cmp (lN (en256 l)) 1717921140).toInt = 0 ↔ wrd 2 = l := by rw [wc_2]; exact hz 2 (by omega)
  have hz3 : (lg_cmp (lN (en256 l)) 427121668979).toInt = 0 ↔ wrd 3 = l := by rw [wc_3]; exact hz 3 (by omega)
  have hz4 : (lg_cmp (lN (en256 l)) 29807).toInt = 0 ↔ wrd 4 = l := by rw [wc_4]; exact hz 4 (by omega)
  have hz5 : (lg_cmp (lN (en256 l)) 7300710).toInt = 0 ↔ wrd 5 = l := by rw [wc_5]; exact hz 5 (by omega)
  have hz6 : (lg_cmp (lN (en256 l)) 1953854062).toInt = 0 ↔ wrd 6 = l := by rw [wc_6]; exact hz 6 (by omega)
  have hz7 : (lg_cmp (lN (en256 l)) 1718775661).toInt = 0 ↔ wrd 7 = l := by rw [wc_7]; exact hz 7 (by omega)
  have hz8 : (lg_cmp (lN (en256 l)) 112568465714791).toInt = 0 ↔ wrd 8 = l := by rw [wc_8]; exact hz 8 (by omega)
  have hz9 : (lg_cmp (lN (en256 l)) 418431069797).toInt = 0 ↔ wrd 9 = l := by rw [wc_9]; exact hz 9 (by omega)
  have hz10 : (lg_cmp (lN (en256 l)) 97).toInt = 0 ↔ wrd 10 = l := by rw [wc_10]; exact hz 10 (by omega)
  have hz11 : (lg_cmp (lN (en256 l)) 98).toInt = 0 ↔ wrd 11 = l := by rw [wc_11]; exact hz 11 (by omega)
  have hz12 : (lg_cmp (lN (en256 l)) 108).toInt = 0 ↔ wrd 12 = l := by rw [wc_12]; exact hz 12 (by omega)
  have hz13 : (lg_cmp (lN (en256 l)) 114).toInt = 0 ↔ wrd 13 = l := by rw [wc_13]; exact hz 13 (by omega)
  have hz14 : (lg_cmp (lN (en256 l)) 422607680627).toInt = 0 ↔ wrd 14 = l := by rw [wc_14]; exact hz 14 (by omega)
  have hz15 : (lg_cmp (lN (en256 l)) 24948).toInt = 0 ↔ wrd 15 = l := by rw [wc_15]; exact hz 15 (by omega)
  have hz16 : (lg_cmp (lN (en256 l)) 26990).toInt = 0 ↔ wrd 16 = l := by rw [wc_16]; exact hz 16 (by omega)
  have hz17 : (lg_cmp (lN (en256 l)) 7304564).toInt = 0 ↔ wrd 17 = l := by rw [wc_17]; exact hz 17 (by omega)
  have hz18 : (lg_cmp (lN (en256 l)) 1685022067).toInt = 0 ↔ wrd 18 = l := by rw [wc_18]; exact hz 18 (by omega)
  have hz19 : (lg_cmp (lN (en256 l)) 7883958458510370148).toInt = 0 ↔ wrd 19 = l := by rw [wc_19]; exact hz 19 (by omega)
  have hz20 : (lg_cmp (lN (en256 l)) 499850634611).toInt = 0 ↔ wrd 20 = l := by rw [wc_20]; exact hz 20 (by omega)
  have hz21 : (lg_cmp (lN (en256 l)) 1818584692).toInt = 0 ↔ wrd 21 = l := by rw [wc_21]; exact hz 21 (by omega)
  have hz22 : (lg_cmp (lN (en256 l)) 491394656372).toInt = 0 ↔ wrd 22 = l := by rw [wc_22]; exact hz 22 (by omega)
  rw [e_57]
  rcases kowF_P l 23 0 rfl with ⟨z1, z2⟩ | ⟨-, z2, z3, z4⟩
  · have hk : kow l = 30 := z1
    rw [hk]
    have f0 : ¬ (lg_cmp (lN (en256 l)) 500135715691).toInt = 0 := fun e => z2 0 (by omega) (by omega) (hz0.mp e)
    have f1 : ¬ (lg_cmp (lN (en256 l)) 512970880104).toInt = 0 := fun e => z2 1 (by omega) (by omega) (hz1.mp e)
    have f2 : ¬ (lg_cmp (lN (en256 l)) 1717921140).toInt = 0 := fun e => z2 2 (by omega) (by omega) (hz2.mp e)
    have f3 : ¬ (lg_cmp (lN (en256 l)) 427121668979).toInt = 0 := fun e => z2 3 (by omega) (by omega) (hz3.mp e)
    have f4 : ¬ (lg_cmp (lN (en256 l)) 29807).toInt = 0 := fun e => z2 4 (by omega) (by omega) (hz4.mp e)
    have f5 : ¬ (lg_cmp (lN (en256 l)) 7300710).toInt = 0 := fun e => z2 5 (by omega) (by omega) (hz5.mp e)
    have f6 : ¬ (lg_cmp (lN (en256 l)) 1953854062).toInt = 0 := fun e => z2 6 (by omega) (by omega) (hz6.mp e)
    have f7 : ¬ (lg_cmp (lN (en256 l)) 1718775661).toInt = 0 := fun e => z2 7 (by omega) (by omega) (hz7.mp e)
    have f8 : ¬ (lg_cmp (lN (en256 l)) 112568465714791).toInt = 0 := fun e => z2 8 (by omega) (by omega) (hz8.mp e)
    have f9 : ¬ (lg_cmp (lN (en256 l)) 418431069797).toInt = 0 := fun e => z2 9 (by omega) (by omega) (hz9.mp e)
    have f10 : ¬ (lg_cmp (lN (en256 l)) 97).toInt = 0 := fun e => z2 10 (by omega) (by omega) (hz10.mp e)
    have f11 : ¬ (lg_cmp (lN (en256 l)) 98).toInt = 0 := fun e => z2 11 (by omega) (by omega) (hz11.mp e)
    have f12 : ¬ (lg_cmp (lN (en256 l)) 108).toInt = 0 := fun e => z2 12 (by omega) (by omega) (hz12.mp e)
    have f13 : ¬ (lg_cmp (lN (en256 l)) 114).toInt = 0 := fun e => z2 13 (by omega) (by omega) (hz13.mp e)
    have f14 : ¬ (lg_cmp (lN (en256 l)) 422607680627).toInt = 0 := fun e => z2 14 (by omega) (by omega) (hz14.mp e)
    have f15 : ¬ (lg_cmp (lN (en256 l)) 24948).toInt = 0 := fun e => z2 15 (by omega) (by omega) (hz15.mp e)
    have f16 : ¬ (lg_cmp (lN (en256 l)) 26990).toInt = 0 := fun e => z2 16 (by omega) (by omega) (hz16.mp e)
    have f17 : ¬ (lg_cmp (lN (en256 l)) 7304564).toInt = 0 := fun e => z2 17 (by omega) (by omega) (hz17.mp e)
    have f18 : ¬ (lg_cmp (lN (en256 l)) 1685022067).toInt = 0 := fun e => z2 18 (by omega) (by omega) (hz18.mp e)
    have f19 : ¬ (lg_cmp (lN (en256 l)) 7883958458510370148).toInt = 0 := fun e => z2 19 (by omega) (by omega) (hz19.mp e)
    have f20 : ¬ (lg_cmp (lN (en256 l)) 499850634611).toInt = 0 := fun e => z2 20 (by omega) (by omega) (hz20.mp e)
    have f21 : ¬ (lg_cmp (lN (en256 l)) 1818584692).toInt = 0 := fun e => z2 21 (by omega) (by omega) (hz21.mp e)
    have f22 : ¬ (lg_cmp (lN (en256 l)) 491394656372).toInt = 0 := fun e => z2 22 (by omega) (by omega) (hz22.mp e)
    simp (disch := first | omega | (simp (disch := omega) only [n_ti, Int32.reduceToInt] <;> omega)) only [f0, f1, f2, f3, f4, f5, f6, f7, f8, f9, f10, f11, f12, f13, f14, f15, f16, f17, f18, f19, f20, f21, f22, e_57_117, e_57_199, b2, n_add, nl_add, nr_add, n_mul, nl_mul, nr_mul, n_sub, nr_dec, n_div, nr_sub_1, nr_sub_2, nr_sub_3, nr_sub_4, nr_sub_7, nr_sub_10, nr_sub_11, nr_sub_20, nr_sub_48, nr_sub_97, nl_sub_3, nl_sub_4, nl_sub_12, nl_sub_24, nl_sub_32, nr_div_2, nr_div_4, z_lt, z_le, z_eq, z_cl, n_ti, Int.toNat_natCast, Int32.reduceToInt, Int32.reduceToNatClampNeg, zc_add, zc_sub, zc_add_1, zc_add_2, zc_add_3, zc_add_4, zc_add_8, zc_add_10, zc_add_12, zc_add_16, zc_add_20, zc_sub_1, zc_sub_2, zc_sub_4, zc_sub_10, zc_sub_20, zc_sub_48, zc_sub_97, zc_mul_4, t_ltZ, f_ltZ, t_leZ, f_leZ, t_eqZ, f_eqZ, t_ltN, f_ltN, t_leN, f_leN, t_eqN, f_eqN, ↓reduceIte, and_true, true_and, and_false, false_and, and_self, or_true, true_or, or_false, false_or, or_self, not_true_eq_false, not_false_eq_true, tu_same, tu_eq, tu_ne, b_V, b_I, b_J]
    rfl
  · have hk : kow l = kowF l 23 0 := rfl
    rw [hk]
    have hb : b2 (decide (kowF l 23 0 < 23)) = 1 := by simp [z2, b2]
    rw [hb]
    generalize kowF l 23 0 = K at *
    have hc : K = 0 ∨ K = 1 ∨ K = 2 ∨ K = 3 ∨ K = 4 ∨ K = 5 ∨ K = 6 ∨ K = 7 ∨ K = 8 ∨ K = 9 ∨ K = 10 ∨ K = 11 ∨ K = 12 ∨ K = 13 ∨ K = 14 ∨ K = 15 ∨ K = 16 ∨ K = 17 ∨ K = 18 ∨ K = 19 ∨ K = 20 ∨ K = 21 ∨ K = 22 := by omega
    rcases hc with rfl | rfl | rfl | rfl | rfl | rfl | rfl | rfl | rfl | rfl | rfl | rfl | rfl | rfl | rfl | rfl | rfl | rfl | rfl | rfl | rfl | rfl | rfl
    · have g := hz0.mpr z3
      simp (disch := first | omega | (simp (disch := omega) only [n_ti, Int32.reduceToInt] <;> omega)) only [g, e_57_112, e_57_117, e_57_194, e_57_199, n_add, nl_add, nr_add, n_mul, nl_mul, nr_mul, n_sub, nr_dec, n_div, nr_sub_1, nr_sub_2, nr_sub_3, nr_sub_4, nr_sub_7, nr_sub_10, nr_sub_11, nr_sub_20, nr_sub_48, nr_sub_97, nl_sub_3, nl_sub_4, nl_sub_12, nl_sub_24, nl_sub_32, nr_div_2, nr_div_4, z_lt, z_le, z_eq, z_cl, n_ti, Int.toNat_natCast, Int32.reduceToInt, Int32.reduceToNatClampNeg, zc_add, zc_sub, zc_add_1, zc_add_2, zc_add_3, zc_add_4, zc_add_8, zc_add_10, zc_add_12, zc_add_16, zc_add_20, zc_sub_1, zc_sub_2, zc_sub_4, zc_sub_10, zc_sub_20, zc_sub_48, zc_sub_97, zc_mul_4, t_ltZ, f_ltZ, t_leZ, f_leZ, t_eqZ, f_eqZ, t_ltN, f_ltN, t_leN, f_leN, t_eqN, f_eqN, ↓reduceIte, and_true, true_and, and_false, false_and, and_self, or_true, true_or, or_false, false_or, or_self, not_true_eq_false, not_false_eq_true, tu_same, tu_eq, tu_ne, b_V, b_I, b_J]
    · have f0 : ¬ (lg_cmp (lN (en256 l)) 500135715691).toInt = 0 := fun e => z4 0 (by omega) (by omega) (hz0.mp e)
      have g := hz1.mpr z3
      simp (disch := first | omega | (simp (disch := omega) only [n_ti, Int32.reduceToInt] <;> omega)) only [f0, g, e_57_112, e_57_117, e_57_194, e_57_199, n_add, nl_add, nr_add, n_mul, nl_mul, nr_mul, n_sub, nr_dec, n_div, nr_sub_1, nr_sub_2, nr_sub_3, nr_sub_4, nr_sub_7, nr_sub_10, nr_sub_11, nr_sub_20, nr_sub_48, nr_sub_97, nl_sub_3, nl_sub_4, nl_sub_12, nl_sub_24, nl_sub_32, nr_div_2, nr_div_4, z_lt, z_le, z_eq, z_cl, n_ti, Int.toNat_natCast, Int32.reduceToInt, Int32.reduceToNatClampNeg, zc_add, zc_sub, zc_add_1, zc_add_2, zc_add_3, zc_add_4, zc_add_8, zc_add_10, zc_add_12, zc_add_16, zc_add_20, zc_sub_1, zc_sub_2, zc_sub_4, zc_sub_10, zc_sub_20, zc_sub_48, zc_sub_97, zc_mul_4, t_ltZ, f_ltZ, t_leZ, f_leZ, t_eqZ, f_eqZ, t_ltN, f_ltN, t_leN, f_leN, t_eqN, f_eqN, ↓reduceIte, and_true, true_and, and_false, false_and, and_self, or_true, true_or, or_false, false_or, or_self, not_true_eq_false, not_false_eq_true, tu_same, tu_eq, tu_ne, b_V, b_I, b_J]
    · have f0 : ¬ (lg_cmp (lN (en256 l)) 500135715691).toInt = 0 := fun e => z4 0 (by omega) (by omega) (hz0.mp e)
      have f1 : ¬ (lg_cmp (lN (en256 l)) 512970880104).toInt = 0 := fun e => z4 1 (by omega) (by omega) (hz1.mp e)
      have g := hz2.mpr z3
      simp (disch := first | omega | (simp (disch := omega) only [n_ti, Int32.reduceToInt] <;> omega)) only [f0, f1, g, e_57_112, e_57_117, e_57_194, e_57_199, n_add, nl_add, nr_add, n_mul, nl_mul, nr_mul, n_sub, nr_dec, n_div, nr_sub_1, nr_sub_2, nr_sub_3, nr_sub_4, nr_sub_7, nr_sub_10, nr_sub_11, nr_sub_20, nr_sub_48, nr_sub_97, nl_sub_3, nl_sub_4, nl_sub_12, nl_sub_24, nl_sub_32, nr_div_2, nr_div_4, z_lt, z_le, z_eq, z_cl, n_ti, Int.toNat_natCast, Int32.reduceToInt, Int32.reduceToNatClampNeg, zc_add, zc_sub, zc_add_1, zc_add_2, zc_add_3, zc_add_4, zc_add_8, zc_add_10, zc_add_12, zc_add_16, zc_add_20, zc_sub_1, zc_sub_2, zc_sub_4, zc_sub_10, zc_sub_20, zc_sub_48, zc_sub_97, zc_mul_4, t_ltZ, f_ltZ, t_leZ, f_leZ, t_eqZ, f_eqZ, t_ltN, f_ltN, t_leN, f_leN, t_eqN, f_eqN, ↓reduceIte, and_true, true_and, and_false, false_and, and_self, or_true, true_or, or_false, false_or, or_self, not_true_eq_false, not_false_eq_true, tu_same, tu_eq, tu_ne, b_V, b_I, b_J]
    · have f0 : ¬ (lg_cmp (lN (en256 l)) 500135715691).toInt = 0 := fun e => z4 0 (by omega) (by omega) (hz0.mp e)
      have f1 : ¬ (lg_cmp (lN (en256 l)) 512970880104).toInt = 0 := fun e => z4 1 (by omega) (by omega) (hz1.mp e)
      have f2 : ¬ (lg_cmp (lN (en256 l)) 1717921140).toInt = 0 := fun e => z4 2 (by omega) (by omega) (hz2.mp e)
      have g := hz3.mpr z3
      simp (disch := first | omega | (simp (disch := omega) only [n_ti, Int32.reduceToInt] <;> omega)) only [f0, f1, f2, g, e_57_112, e_57_117, e_57_194, e_57_199, n_add, nl_add, nr_add, n_mul, nl_mul, nr_mul, n_sub, nr_dec, n_div, nr_sub_1, nr_sub_2, nr_sub_3, nr_sub_4, nr_sub_7, nr_sub_10, nr_sub_11, nr_sub_20, nr_sub_48, nr_sub_97, nl_sub_3, nl_sub_4, nl_sub_12, nl_sub_24, nl_sub_32, nr_div_2, nr_div_4, z_lt, z_le, z_eq, z_cl, n_ti, Int.toNat_natCast, Int32.reduceToInt, Int32.reduceToNatClampNeg, zc_add, zc_sub, zc_add_1, zc_add_2, zc_add_3, zc_add_4, zc_add_8, zc_add_10, zc_add_12, zc_add_16, zc_add_20, zc_sub_1, zc_sub_2, zc_sub_4, zc_sub_10, zc_sub_20, zc_sub_48, zc_sub_97, zc_mul_4, t_ltZ, f_ltZ, t_leZ, f_leZ, t_eqZ, f_eqZ, t_ltN, f_ltN, t_leN, f_leN, t_eqN, f_eqN, ↓reduceIte, and_true, true_and, and_false, false_and, and_self, or_true, true_or, or_false, false_or, or_self, not_true_eq_false, not_false_eq_true, tu_same, tu_eq, tu_ne, b_V, b_I, b_J]
    · have f0 : ¬ (lg_cmp (lN (en256 l)) 500135715691).toInt = 0 := fun e => z4 0 (by omega) (by omega) (hz0.mp e)
      have f1 : ¬ (lg_cmp (lN (en256 l)) 512970880104).toInt = 0 := fun e => z4 1 (by omega) (by omega) (hz1.mp e)
      have f2 : ¬ (lg_cmp (lN (en256 l)) 1717921140).toInt = 0 := fun e => z4 2 (by omega) (by omega) (hz2.mp e)
      have f3 : ¬ (lg_cmp (lN (en256 l)) 427121668979).toInt = 0 := fun e => z4 3 (by omega) (by omega) (hz3.mp e)
      have g := hz4.mpr z3
      simp (disch := first | omega | (simp (disch := omega) only [n_ti, Int32.reduceToInt] <;> omega)) only [f0, f1, f2, f3, g, e_57_112, e_57_117, e_57_194, e_57_199, n_add, nl_add, nr_add, n_mul, nl_mul, nr_mul, n_sub, nr_dec, n_div, nr_sub_1, nr_sub_2, nr_sub_3, nr_sub_4, nr_sub_7, nr_sub_10, nr_sub_11, nr_sub_20, nr_sub_48, nr_sub_97, nl_sub_3, nl_sub_4, nl_sub_12, nl_sub_24, nl_sub_32, nr_div_2, nr_div_4, z_lt, z_le, z_eq, z_cl, n_ti, Int.toNat_natCast, Int32.reduceToInt, Int32.reduceToNatClampNeg, zc_add, zc_sub, zc_add_1, zc_add_2, zc_add_3, zc_add_4, zc_add_8, zc_add_10, zc_add_12, zc_add_16, zc_add_20, zc_sub_1, zc_sub_2, zc_sub_4, zc_sub_10, zc_sub_20, zc_sub_48, zc_sub_97, zc_mul_4, t_ltZ, f_ltZ, t_leZ, f_leZ, t_eqZ, f_eqZ, t_ltN, f_ltN, t_leN, f_leN, t_eqN, f_eqN, ↓reduceIte, and_true, true_and, and_false, false_and, and_self, or_true, true_or, or_false, false_or, or_self, not_true_eq_false, not_false_eq_true, tu_same, tu_eq, tu_ne, b_V, b_I, b_J]
    · have f0 : ¬ (lg_cmp (lN (en256 l)) 500135715691).toInt = 0 := fun e => z4 0 (by omega) (by omega) (hz0.mp e)
      have f1 : ¬ (lg_cmp (lN (en256 l)) 512970880104).toInt = 0 := fun e => z4 1 (by omega) (by omega) (hz1.mp e)
      have f2 : ¬ (lg_cmp (lN (en256 l)) 1717921140).toInt = 0 := fun e => z4 2 (by omega) (by omega) (hz2.mp e)
      have f3 : ¬ (lg_cmp (lN (en256 l)) 427121668979).toInt = 0 := fun e => z4 3 (by omega) (by omega) (hz3.mp e)
      have f4 : ¬ (lg_cmp (lN (en256 l)) 29807).toInt = 0 := fun e => z4 4 (by omega) (by omega) (hz4.mp e)
      have g := hz5.mpr z3
      simp (disch := first | omega | (simp (disch := omega) only [n_ti, Int32.reduceToInt] <;> omega)) only [f0, f1, f2, f3, f4, g, e_57_112, e_57_117, e_57_194, e_57_199, n_add, nl_add, nr_add, n_mul, nl_mul, nr_mul, n_sub, nr_dec, n_div, nr_sub_1, nr_sub_2, nr_sub_3, nr_sub_4, nr_sub_7, nr_sub_10, nr_sub_11, nr_sub_20, nr_sub_48, nr_sub_97, nl_sub_3, nl_sub_4, nl_sub_12, nl_sub_24, nl_sub_32, nr_div_2, nr_div_4, z_lt, z_le, z_eq, z_cl, n_ti, Int.toNat_natCast, Int32.reduceToInt, Int32.reduceToNatClampNeg, zc_add, zc_sub, zc_add_1, zc_add_2, zc_add_3, zc_add_4, zc_add_8, zc_add_10, zc_add_12, zc_add_16, zc_add_20, zc_sub_1, zc_sub_2, zc_sub_4, zc_sub_10, zc_sub_20, zc_sub_48, zc_sub_97, zc_mul_4, t_ltZ, f_ltZ, t_leZ, f_leZ, t_eqZ, f_eqZ, t_ltN, f_ltN, t_leN, f_leN, t_eqN, f_eqN, ↓reduceIte, and_true, true_and, and_false, false_and, and_self, or_true, true_or, or_false, false_or, or_self, not_true_eq_false, not_false_eq_true, tu_same, tu_eq, tu_ne, b_V, b_I, b_J]
    · have f0 : ¬ (lg_cmp (lN (en256 l)) 500135715691).toInt = 0 := fun e => z4 0 (by omega) (by omega) (hz0.mp e)
      have f1 : ¬ (lg_cmp (lN (en256 l)) 512970880104).toInt = 0 := fun e => z4 1 (by omega) (by omega) (hz1.mp e)
      have f2 : ¬ (lg_cmp (lN (en256 l)) 1717921140).toInt = 0 := fun e => z4 2 (by omega) (by omega) (hz2.mp e)
      have f3 : ¬ (lg_cmp (lN (en256 l)) 427121668979).toInt = 0 := fun e => z4 3 (by omega) (by omega) (hz3.mp e)
      have f4 : ¬ (lg_cmp (lN (en256 l)) 29807).toInt = 0 := fun e => z4 4 (by omega) (by omega) (hz4.mp e)
      have f5 : ¬ (lg_cmp (lN (en256 l)) 7300710).toInt = 0 := fun e => z4 5 (by omega) (by omega) (hz5.mp e)
      have g := hz6.mpr z3
      simp (disch := first | omega | (simp (disch := omega) only [n_ti, Int32.reduceToInt] <;> omega)) only [f0, f1, f2, f3, f4, f5, g, e_57_112, e_57_117, e_57_194, e_57_199, n_add, nl_add, nr_add, n_mul, nl_mul, nr_mul, n_sub, nr_dec, n_div, nr_sub_1, nr_sub_2, nr_sub_3, nr_sub_4, nr_sub_7, nr_sub_10, nr_sub_11, nr_sub_20, nr_sub_48, nr_sub_97, nl_sub_3, nl_sub_4, nl_sub_12, nl_sub_24, nl_sub_32, nr_div_2, nr_div_4, z_lt, z_le, z_eq, z_cl, n_ti, Int.toNat_natCast, Int32.reduceToInt, Int32.reduceToNatClampNeg, zc_add, zc_sub, zc_add_1, zc_add_2, zc_add_3, zc_add_4, zc_add_8, zc_add_10, zc_add_12, zc_add_16, zc_add_20, zc_sub_1, zc_sub_2, zc_sub_4, zc_sub_10, zc_sub_20, zc_sub_48, zc_sub_97, zc_mul_4, t_ltZ, f_ltZ, t_leZ, f_leZ, t_eqZ, f_eqZ, t_ltN, f_ltN, t_leN, f_leN, t_eqN, f_eqN, ↓reduceIte, and_true, true_and, and_false, false_and, and_self, or_true, true_or, or_false, false_or, or_self, not_true_eq_false, not_false_eq_true, tu_same, tu_eq, tu_ne, b_V, b_I, b_J]
    · have f0 : ¬ (lg_cmp (lN (en256 l)) 500135715691).toInt = 0 := fun e => z4 0 (by omega) (by omega) (hz0.mp e)
      have f1 : ¬ (lg_cmp (lN (en256 l)) 512970880104).toInt = 0 := fun e => z4 1 (by omega) (by omega) (hz1.mp e)
      have f2 : ¬ (lg_cmp (lN (en256 l)) 1717921140).toInt = 0 := fun e => z4 2 (by omega) (by omega) (hz2.mp e)
      have f3 : ¬ (lg_cmp (lN (en256 l)) 427121668979).toInt = 0 := fun e => z4 3 (by omega) (by omega) (hz3.mp e)
      have f4 : ¬ (lg_cmp (lN (en256 l)) 29807).toInt = 0 := fun e => z4 4 (by omega) (by omega) (hz4.mp e)
      have f5 : ¬ (lg_cmp (lN (en256 l)) 7300710).toInt = 0 := fun e => z4 5 (by omega) (by omega) (hz5.mp e)
      have f6 : ¬ (lg_cmp (lN (en256 l)) 1953854062).toInt = 0 := fun e => z4 6 (by omega) (by omega) (hz6.mp e)
      have g := hz7.mpr z3
      simp (disch := first | omega | (simp (disch := omega) only [n_ti, Int32.reduceToInt] <;> omega)) only [f0, f1, f2, f3, f4, f5, f6, g, e_57_112, e_57_117, e_57_194, e_57_199, n_add, nl_add, nr_add, n_mul, nl_mul, nr_mul, n_sub, nr_dec, n_div, nr_sub_1, nr_sub_2, nr_sub_3, nr_sub_4, nr_sub_7, nr_sub_10, nr_sub_11, nr_sub_20, nr_sub_48, nr_sub_97, nl_sub_3, nl_sub_4, nl_sub_12, nl_sub_24, nl_sub_32, nr_div_2, nr_div_4, z_lt, z_le, z_eq, z_cl, n_ti, Int.toNat_natCast, Int32.reduceToInt, Int32.reduceToNatClampNeg, zc_add, zc_sub, zc_add_1, zc_add_2, zc_add_3, zc_add_4, zc_add_8, zc_add_10, zc_add_12, zc_add_16, zc_add_20, zc_sub_1, zc_sub_2, zc_sub_4, zc_sub_10, zc_sub_20, zc_sub_48, zc_sub_97, zc_mul_4, t_ltZ, f_ltZ, t_leZ, f_leZ, t_eqZ, f_eqZ, t_ltN, f_ltN, t_leN, f_leN, t_eqN, f_eqN, ↓reduceIte, and_true, true_and, and_false, false_and, and_self, or_true, true_or, or_false, false_or, or_self, not_true_eq_false, not_false_eq_true, tu_same, tu_eq, tu_ne, b_V, b_I, b_J]
    · have f0 : ¬ (lg_cmp (lN (en256 l)) 500135715691).toInt = 0 := fun e => z4 0 (by omega) (by omega) (hz0.mp e)
      have f1 : ¬ (lg_cmp (lN (en256 l)) 512970880104).toInt = 0 := fun e => z4 1 (by omega) (by omega) (hz1.mp e)
      have f2 : ¬ (lg_cmp (lN (en256 l)) 1717921140).toInt = 0 := fun e => z4 2 (by omega) (by omega) (hz2.mp e)
      have f3 : ¬ (lg_cmp (lN (en256 l)) 427121668979).toInt = 0 := fun e => z4 3 (by omega) (by omega) (hz3.mp e)
      have f4 : ¬ (lg_cmp (lN (en256 l)) 29807).toInt = 0 := fun e => z4 4 (by omega) (by omega) (hz4.mp e)
      have f5 : ¬ (lg_cmp (lN (en256 l)) 7300710).toInt = 0 := fun e => z4 5 (by omega) (by omega) (hz5.mp e)
      have f6 : ¬ (lg_cmp (lN (en256 l)) 1953854062).toInt = 0 := fun e => z4 6 (by omega) (by omega) (hz6.mp e)
      have f7 : ¬ (lg_cmp (lN (en256 l)) 1718775661).toInt = 0 := fun e => z4 7 (by omega) (by omega) (hz7.mp e)
      have g := hz8.mpr z3
      simp (disch := first | omega | (simp (disch := omega) only [n_ti, Int32.reduceToInt] <;> omega)) only [f0, f1, f2, f3, f4, f5, f6, f7, g, e_57_112, e_57_117, e_57_194, e_57_199, n_add, nl_add, nr_add, n_mul, nl_mul, nr_mul, n_sub, nr_dec, n_div, nr_sub_1, nr_sub_2, nr_sub_3, nr_sub_4, nr_sub_7, nr_sub_10, nr_sub_11, nr_sub_20, nr_sub_48, nr_sub_97, nl_sub_3, nl_sub_4, nl_sub_12, nl_sub_24, nl_sub_32, nr_div_2, nr_div_4, z_lt, z_le, z_eq, z_cl, n_ti, Int.toNat_natCast, Int32.reduceToInt, Int32.reduceToNatClampNeg, zc_add, zc_sub, zc_add_1, zc_add_2, zc_add_3, zc_add_4, zc_add_8, zc_add_10, zc_add_12, zc_add_16, zc_add_20, zc_sub_1, zc_sub_2, zc_sub_4, zc_sub_10, zc_sub_20, zc_sub_48, zc_sub_97, zc_mul_4, t_ltZ, f_ltZ, t_leZ, f_leZ, t_eqZ, f_eqZ, t_ltN, f_ltN, t_leN, f_leN, t_eqN, f_eqN, ↓reduceIte, and_true, true_and, and_false, false_and, and_self, or_true, true_or, or_false, false_or, or_self, not_true_eq_false, not_false_eq_true, tu_same, tu_eq, tu_ne, b_V, b_I, b_J]
    · have f0 : ¬ (lg_cmp (lN (en256 l)) 500135715691).toInt = 0 := fun e => z4 0 (by omega) (by omega) (hz0.mp e)
      have f1 : ¬ (lg_cmp (lN (en256 l)) 512970880104).toInt = 0 := fun e => z4 1 (by omega) (by omega) (hz1.mp e)
      have f2 : ¬ (lg_cmp (lN (en256 l)) 1717921140).toInt = 0 := fun e => z4 2 (by omega) (by omega) (hz2.mp e)
      have f3 : ¬ (lg_cmp (lN (en256 l)) 427121668979).toInt = 0 := fun e => z4 3 (by omega) (by omega) (hz3.mp e)
      have f4 : ¬ (lg_cmp (lN (en256 l)) 29807).toInt = 0 := fun e => z4 4 (by omega) (by omega) (hz4.mp e)
      have f5 : ¬ (lg_cmp (lN (en256 l)) 7300710).toInt = 0 := fun e => z4 5 (by omega) (by omega) (hz5.mp e)
      have f6 : ¬ (lg_cmp (lN (en256 l)) 1953854062).toInt = 0 := fun e => z4 6 (by omega) (by omega) (hz6.mp e)
      have f7 : ¬ (lg_cmp (lN (en256 l)) 1718775661).toInt = 0 := fun e => z4 7 (by omega) (by omega) (hz7.mp e)
      have f8 : ¬ (lg_cmp (lN (en256 l)) 112568465714791).toInt = 0 := fun e => z4 8 (by omega) (by omega) (hz8.mp e)
      have g := hz9.mpr z3
      simp (disch := first | omega | (simp (disch := omega) only [n_ti, Int32.reduceToInt] <;> omega)) only [f0, f1, f2, f3, f4, f5, f6, f7, f8, g, e_57_112, e_57_117, e_57_194, e_57_199, n_add, nl_add, nr_add, n_mul, nl_mul, nr_mul, n_sub, nr_dec, n_div, nr_sub_1, nr_sub_2, nr_sub_3, nr_sub_4, nr_sub_7, nr_sub_10, nr_sub_11, nr_sub_20, nr_sub_48, nr_sub_97, nl_sub_3, nl_sub_4, nl_sub_12, nl_sub_24, nl_sub_32, nr_div_2, nr_div_4, z_lt, z_le, z_eq, z_cl, n_ti, Int.toNat_natCast, Int32.reduceToInt, Int32.reduceToNatClampNeg, zc_add, zc_sub, zc_add_1, zc_add_2, zc_add_3, zc_add_4, zc_add_8, zc_add_10, zc_add_12, zc_add_16, zc_add_20, zc_sub_1, zc_sub_2, zc_sub_4, zc_sub_10, zc_sub_20, zc_sub_48, zc_sub_97, zc_mul_4, t_ltZ, f_ltZ, t_leZ, f_leZ, t_eqZ, f_eqZ, t_ltN, f_ltN, t_leN, f_leN, t_eqN, f_eqN, ↓reduceIte, and_true, true_and, and_false, false_and, and_self, or_true, true_or, or_false, false_or, or_self, not_true_eq_false, not_false_eq_true, tu_same, tu_eq, tu_ne, b_V, b_I, b_J]
    · have f0 : ¬ (lg_cmp (lN (en256 l)) 500135715691).toInt = 0 := fun e => z4 0 (by omega) (by omega) (hz0.mp e)
      have f1 : ¬ (lg_cmp (lN (en256 l)) 512970880104).toInt = 0 := fun e => z4 1 (by omega) (by omega) (hz1.mp e)
      have f2 : ¬ (lg_cmp (lN (en256 l)) 1717921140).toInt = 0 := fun e => z4 2 (by omega) (by omega) (hz2.mp e)
      have f3 : ¬ (lg_cmp (lN (en256 l)) 427121668979).toInt = 0 := fun e => z4 3 (by omega) (by omega) (hz3.mp e)
      have f4 : ¬ (lg_cmp (lN (en256 l)) 29807).toInt = 0 := fun e => z4 4 (by omega) (by omega) (hz4.mp e)
      have f5 : ¬ (lg_cmp (lN (en256 l)) 7300710).toInt = 0 := fun e => z4 5 (by omega) (by omega) (hz5.mp e)
      have f6 : ¬ (lg_cmp (lN (en256 l)) 1953854062).toInt = 0 := fun e => z4 6 (by omega) (by omega) (hz6.mp e)
      have f7 : ¬ (lg_cmp (lN (en256 l)) 1718775661).toInt = 0 := fun e => z4 7 (by omega) (by omega) (hz7.mp e)
      have f8 : ¬ (lg_cmp (lN (en256 l)) 112568465714791).toInt = 0 := fun e => z4 8 (by omega) (by omega) (hz8.mp e)
      have f9 : ¬ (lg_cmp (lN (en256 l)) 418431069797).toInt = 0 := fun e => z4 9 (by omega) (by omega) (hz9.mp e)
      have g := hz10.mpr z3
      simp (disch := first | omega | (simp (disch := omega) only [n_ti, Int32.reduceToInt] <;> omega)) only [f0, f1, f2, f3, f4, f5, f6, f7, f8, f9, g, e_57_112, e_57_117, e_57_194, e_57_199, n_add, nl_add, nr_add, n_mul, nl_mul, nr_mul, n_sub, nr_dec, n_div, nr_sub_1, nr_sub_2, nr_sub_3, nr_sub_4, nr_sub_7, nr_sub_10, nr_sub_11, nr_sub_20, nr_sub_48, nr_sub_97, nl_sub_3, nl_sub_4, nl_sub_12, nl_sub_24, nl_sub_32, nr_div_2, nr_div_4, z_lt, z_le, z_eq, z_cl, n_ti, Int.toNat_natCast, Int32.reduceToInt, Int32.reduceToNatClampNeg, zc_add, zc_sub, zc_add_1, zc_add_2, zc_add_3, zc_add_4, zc_add_8, zc_add_10, zc_add_12, zc_add_16, zc_add_20, zc_sub_1, zc_sub_2, zc_sub_4, zc_sub_10, zc_sub_20, zc_sub_48, zc_sub_97, zc_mul_4, t_ltZ, f_ltZ, t_leZ, f_leZ, t_eqZ, f_eqZ, t_ltN, f_ltN, t_leN, f_leN, t_eqN, f_eqN, ↓reduceIte, and_true, true_and, and_false, false_and, and_self, or_true, true_or, or_false, false_or, or_self, not_true_eq_false, not_false_eq_true, tu_same, tu_eq, tu_ne, b_V, b_I, b_J]
    · have f0 : ¬ (lg_cmp (lN (en256 l)) 500135715691).toInt = 0 := fun e => z4 0 (by omega) (by omega) (hz0.mp e)
      have f1 : ¬ (lg_cmp (lN (en256 l)) 512970880104).toInt = 0 := fun e => z4 1 (by omega) (by omega) (hz1.mp e)
      have f2 : ¬ (lg_cmp (lN (en256 l)) 1717921140).toInt = 0 := fun e => z4 2 (by omega) (by omega) (hz2.mp e)
      have f3 : ¬ (lg_cmp (lN (en256 l)) 427121668979).toInt = 0 := fun e => z4 3 (by omega) (by omega) (hz3.mp e)
      have f4 : ¬ (lg_cmp (lN (en256 l)) 29807).toInt = 0 := fun e => z4 4 (by omega) (by omega) (hz4.mp e)
      have f5 : ¬ (lg_cmp (lN (en256 l)) 7300710).toInt = 0 := fun e => z4 5 (by omega) (by omega) (hz5.mp e)
      have f6 : ¬ (lg_cmp (lN (en256 l)) 1953854062).toInt = 0 := fun e => z4 6 (by omega) (by omega) (hz6.mp e)
      have f7 : ¬ (lg_cmp (lN (en256 l)) 1718775661).toInt = 0 := fun e => z4 7 (by omega) (by omega) (hz7.mp e)
      have f8 : ¬ (lg_cmp (lN (en256 l)) 112568465714791).toInt = 0 := fun e => z4 8 (by omega) (by omega) (hz8.mp e)
      have f9 : ¬ (lg_cmp (lN (en256 l)) 418431069797).toInt = 0 := fun e => z4 9 (by omega) (by omega) (hz9.mp e)
      have f10 : ¬ (lg_cmp (lN (en256 l)) 97).toInt = 0 := fun e => z4 10 (by omega) (by omega) (hz10.mp e)
      have g := hz11.mpr z3
      simp (disch := first | omega | (simp (disch := omega) only [n_ti, Int32.reduceToInt] <;> omega)) only [f0, f1, f2, f3, f4, f5, f6, f7, f8, f9, f10, g, e_57_112, e_57_117, e_57_194, e_57_199, n_add, nl_add, nr_add, n_mul, nl_mul, nr_mul, n_sub, nr_dec, n_div, nr_sub_1, nr_sub_2, nr_sub_3, nr_sub_4, nr_sub_7, nr_sub_10, nr_sub_11, nr_sub_20, nr_sub_48, nr_sub_97, nl_sub_3, nl_sub_4, nl_sub_12, nl_sub_24, nl_sub_32, nr_div_2, nr_div_4, z_lt, z_le, z_eq, z_cl, n_ti, Int.toNat_natCast, Int32.reduceToInt, Int32.reduceToNatClampNeg, zc_add, zc_sub, zc_add_1, zc_add_2, zc_add_3, zc_add_4, zc_add_8, zc_add_10, zc_add_12, zc_add_16, zc_add_20, zc_sub_1, zc_sub_2, zc_sub_4, zc_sub_10, zc_sub_20, zc_sub_48, zc_sub_97, zc_mul_4, t_ltZ, f_ltZ, t_leZ, f_leZ, t_eqZ, f_eqZ, t_ltN, f_ltN, t_leN, f_leN, t_eqN, f_eqN, ↓reduceIte, and_true, true_and, and_false, false_and, and_self, or_true, true_or, or_false, false_or, or_self, not_true_eq_false, not_false_eq_true, tu_same, tu_eq, tu_ne, b_V, b_I, b_J]
    · have f0 : ¬ (lg_cmp (lN (en256 l)) 500135715691).toInt = 0 := fun e => z4 0 (by omega) (by omega) (hz0.mp e)
      have f1 : ¬ (lg_cmp (lN (en256 l)) 512970880104).toInt = 0 := fun e => z4 1 (by omega) (by omega) (hz1.mp e)
      have f2 : ¬ (lg_cmp (lN (en256 l)) 1717921140).toInt = 0 := fun e => z4 2 (by omega) (by omega) (hz2.mp e)
      have f3 : ¬ (lg_cmp (lN (en256 l)) 427121668979).toInt = 0 := fun e => z4 3 (by omega) (by omega) (hz3.mp e)
      have f4 : ¬ (lg_cmp (lN (en256 l)) 29807).toInt = 0 := fun e => z4 4 (by omega) (by omega) (hz4.mp e)
      have f5 : ¬ (lg_cmp (lN (en256 l)) 7300710).toInt = 0 := fun e => z4 5 (by omega) (by omega) (hz5.mp e)
      have f6 : ¬ (lg_cmp (lN (en256 l)) 1953854062).toInt = 0 := fun e => z4 6 (by omega) (by omega) (hz6.mp e)
      have f7 : ¬ (lg_cmp (lN (en256 l)) 1718775661).toInt = 0 := fun e => z4 7 (by omega) (by omega) (hz7.mp e)
      have f8 : ¬ (lg_cmp (lN (en256 l)) 112568465714791).toInt = 0 := fun e => z4 8 (by omega) (by omega) (hz8.mp e)
      have f9 : ¬ (lg_cmp (lN (en256 l)) 418431069797).toInt = 0 := fun e => z4 9 (by omega) (by omega) (hz9.mp e)
      have f10 : ¬ (lg_cmp (lN (en256 l)) 97).toInt = 0 := fun e => z4 10 (by omega) (by omega) (hz10.mp e)
      have f11 : ¬ (lg_cmp (lN (en256 l)) 98).toInt = 0 := fun e => z4 11 (by omega) (by omega) (hz11.mp e)
      have g := hz12.mpr z3
      simp (disch := first | omega | (simp (disch := omega) only [n_ti, Int32.reduceToInt] <;> omega)) only [f0, f1, f2, f3, f4, f5, f6, f7, f8, f9, f10, f11, g, e_57_112, e_57_117, e_57_194, e_57_199, n_add, nl_add, nr_add, n_mul, nl_mul, nr_mul, n_sub, nr_dec, n_div, nr_sub_1, nr_sub_2, nr_sub_3, nr_sub_4, nr_sub_7, nr_sub_10, nr_sub_11, nr_sub_20, nr_sub_48, nr_sub_97, nl_sub_3, nl_sub_4, nl_sub_12, nl_sub_24, nl_sub_32, nr_div_2, nr_div_4, z_lt, z_le, z_eq, z_cl, n_ti, Int.toNat_natCast, Int32.reduceToInt, Int32.reduceToNatClampNeg, zc_add, zc_sub, zc_add_1, zc_add_2, zc_add_3, zc_add_4, zc_add_8, zc_add_10, zc_add_12, zc_add_16, zc_add_20, zc_sub_1, zc_sub_2, zc_sub_4, zc_sub_10, zc_sub_20, zc_sub_48, zc_sub_97, zc_mul_4, t_ltZ, f_ltZ, t_leZ, f_leZ, t_eqZ, f_eqZ, t_ltN, f_ltN, t_leN, f_leN, t_eqN, f_eqN, ↓reduceIte, and_true, true_and, and_false, false_and, and_self, or_true, true_or, or_false, false_or, or_self, not_true_eq_false, not_false_eq_true, tu_same, tu_eq, tu_ne, b_V, b_I, b_J]
    · have f0 : ¬ (lg_cmp (lN (en256 l)) 500135715691).toInt = 0 := fun e => z4 0 (by omega) (by omega) (hz0.mp e)
      have f1 : ¬ (lg_cmp (lN (en256 l)) 512970880104).toInt = 0 := fun e => z4 1 (by omega) (by omega) (hz1.mp e)
      have f2 : ¬ (lg_cmp (lN (en256 l)) 1717921140).toInt = 0 := fun e => z4 2 (by omega) (by omega) (hz2.mp e)
      have f3 : ¬ (lg_cmp (lN (en256 l)) 427121668979).toInt = 0 := fun e => z4 3 (by omega) (by omega) (hz3.mp e)
      have f4 : ¬ (lg_cmp (lN (en256 l)) 29807).toInt = 0 := fun e => z4 4 (by omega) (by omega) (hz4.mp e)
      have f5 : ¬ (lg_cmp (lN (en256 l)) 7300710).toInt = 0 := fun e => z4 5 (by omega) (by omega) (hz5.mp e)
      have f6 : ¬ (lg_cmp (lN (en256 l)) 1953854062).toInt = 0 := fun e => z4 6 (by omega) (by omega) (hz6.mp e)
      have f7 : ¬ (lg_cmp (lN (en256 l)) 1718775661).toInt = 0 := fun e => z4 7 (by omega) (by omega) (hz7.mp e)
      have f8 : ¬ (lg_cmp (lN (en256 l)) 112568465714791).toInt = 0 := fun e => z4 8 (by omega) (by omega) (hz8.mp e)
      have f9 : ¬ (lg_cmp (lN (en256 l)) 418431069797).toInt = 0 := fun e => z4 9 (by omega) (by omega) (hz9.mp e)
      have f10 : ¬ (lg_cmp (lN (en256 l)) 97).toInt = 0 := fun e => z4 10 (by omega) (by omega) (hz10.mp e)
      have f11 : ¬ (lg_cmp (lN (en256 l)) 98).toInt = 0 := fun e => z4 11 (by omega) (by omega) (hz11.mp e)
      have f12 : ¬ (lg_cmp (lN (en256 l)) 108).toInt = 0 := fun e => z4 12 (by omega) (by omega) (hz12.mp e)
      have g := hz13.mpr z3
      simp (disch := first | omega | (simp (disch := omega) only [n_ti, Int32.reduceToInt] <;> omega)) only [f0, f1, f2, f3, f4, f5, f6, f7, f8, f9, f10, f11, f12, g, e_57_112, e_57_117, e_57_194, e_57_199, n_add, nl_add, nr_add, n_mul, nl_mul, nr_mul, n_sub, nr_dec, n_div, nr_sub_1, nr_sub_2, nr_sub_3, nr_sub_4, nr_sub_7, nr_sub_10, nr_sub_11, nr_sub_20, nr_sub_48, nr_sub_97, nl_sub_3, nl_sub_4, nl_sub_12, nl_sub_24, nl_sub_32, nr_div_2, nr_div_4, z_lt, z_le, z_eq, z_cl, n_ti, Int.toNat_natCast, Int32.reduceToInt, Int32.reduceToNatClampNeg, zc_add, zc_sub, zc_add_1, zc_add_2, zc_add_3, zc_add_4, zc_add_8, zc_add_10, zc_add_12, zc_add_16, zc_add_20, zc_sub_1, zc_sub_2, zc_sub_4, zc_sub_10, zc_sub_20, zc_sub_48, zc_sub_97, zc_mul_4, t_ltZ, f_ltZ, t_leZ, f_leZ, t_eqZ, f_eqZ, t_ltN, f_ltN, t_leN, f_leN, t_eqN, f_eqN, ↓reduceIte, and_true, true_and, and_false, false_and, and_self, or_true, true_or, or_false, false_or, or_self, not_true_eq_false, not_false_eq_true, tu_same, tu_eq, tu_ne, b_V, b_I, b_J]
    · have f0 : ¬ (lg_cmp (lN (en256 l)) 500135715691).toInt = 0 := fun e => z4 0 (by omega) (by omega) (hz0.mp e)
      have f1 : ¬ (lg_cmp (lN (en256 l)) 512970880104).toInt = 0 := fun e => z4 1 (by omega) (by omega) (hz1.mp e)
      have f2 : ¬ (lg_cmp (lN (en256 l)) 1717921140).toInt = 0 := fun e => z4 2 (by omega) (by omega) (hz2.mp e)
      have f3 : ¬ (lg_cmp (lN (en256 l)) 427121668979).toInt = 0 := fun e => z4 3 (by omega) (by omega) (hz3.mp e)
      have f4 : ¬ (lg_cmp (lN (en256 l)) 29807).toInt = 0 := fun e => z4 4 (by omega) (by omega) (hz4.mp e)
      have f5 : ¬ (lg_cmp (lN (en256 l)) 7300710).toInt = 0 := fun e => z4 5 (by omega) (by omega) (hz5.mp e)
      have f6 : ¬ (lg_cmp (lN (en256 l)) 1953854062).toInt = 0 := fun e => z4 6 (by omega) (by omega) (hz6.mp e)
      have f7 : ¬ (lg_cmp (lN (en256 l)) 1718775661).toInt = 0 := fun e => z4 7 (by omega) (by omega) (hz7.mp e)
      have f8 : ¬ (lg_cmp (lN (en256 l)) 112568465714791).toInt = 0 := fun e => z4 8 (by omega) (by omega) (hz8.mp e)
      have f9 : ¬ (lg_cmp (lN (en256 l)) 418431069797).toInt = 0 := fun e => z4 9 (by omega) (by omega) (hz9.mp e)
      have f10 : ¬ (lg_cmp (lN (en256 l)) 97).toInt = 0 := fun e => z4 10 (by omega) (by omega) (hz10.mp e)
      have f11 : ¬ (lg_cmp (lN (en256 l)) 98).toInt = 0 := fun e => z4 11 (by omega) (by omega) (hz11.mp e)
      have f12 : ¬ (lg_cmp (lN (en256 l)) 108).toInt = 0 := fun e => z4 12 (by omega) (by omega) (hz12.mp e)
      have f13 : ¬ (lg_cmp (lN (en256 l)) 114).toInt = 0 := fun e => z4 13 (by omega) (by omega) (hz13.mp e)
      have g := hz14.mpr z3
      simp (disch := first | omega | (simp (disch := omega) only [n_ti, Int32.reduceToInt] <;> omega)) only [f0, f1, f2, f3, f4, f5, f6, f7, f8, f9, f10, f11, f12, f13, g, e_57_112, e_57_117, e_57_194, e_57_199, n_add, nl_add, nr_add, n_mul, nl_mul, nr_mul, n_sub, nr_dec, n_div, nr_sub_1, nr_sub_2, nr_sub_3, nr_sub_4, nr_sub_7, nr_sub_10, nr_sub_11, nr_sub_20, nr_sub_48, nr_sub_97, nl_sub_3, nl_sub_4, nl_sub_12, nl_sub_24, nl_sub_32, nr_div_2, nr_div_4, z_lt, z_le, z_eq, z_cl, n_ti, Int.toNat_natCast, Int32.reduceToInt, Int32.reduceToNatClampNeg, zc_add, zc_sub, zc_add_1, zc_add_2, zc_add_3, zc_add_4, zc_add_8, zc_add_10, zc_add_12, zc_add_16, zc_add_20, zc_sub_1, zc_sub_2, zc_sub_4, zc_sub_10, zc_sub_20, zc_sub_48, zc_sub_97, zc_mul_4, t_ltZ, f_ltZ, t_leZ, f_leZ, t_eqZ, f_eqZ, t_ltN, f_ltN, t_leN, f_leN, t_eqN, f_eqN, ↓reduceIte, and_true, true_and, and_false, false_and, and_self, or_true, true_or, or_false, false_or, or_self, not_true_eq_false, not_false_eq_true, tu_same, tu_eq, tu_ne, b_V, b_I, b_J]
    · have f0 : ¬ (lg_cmp (lN (en256 l)) 500135715691).toInt = 0 := fun e => z4 0 (by omega) (by omega) (hz0.mp e)
      have f1 : ¬ (lg_cmp (lN (en256 l)) 512970880104).toInt = 0 := fun e => z4 1 (by omega) (by omega) (hz1.mp e)
      have f2 : ¬ (lg_cmp (lN (en256 l)) 1717921140).toInt = 0 := fun e => z4 2 (by omega) (by omega) (hz2.mp e)
      have f3 : ¬ (lg_cmp (lN (en256 l)) 427121668979).toInt = 0 := fun e => z4 3 (by omega) (by omega) (hz3.mp e)
      have f4 : ¬ (lg_cmp (lN (en256 l)) 29807).toInt = 0 := fun e => z4 4 (by omega) (by omega) (hz4.mp e)
      have f5 : ¬ (lg_cmp (lN (en256 l)) 7300710).toInt = 0 := fun e => z4 5 (by omega) (by omega) (hz5.mp e)
      have f6 : ¬ (lg_cmp (lN (en256 l)) 1953854062).toInt = 0 := fun e => z4 6 (by omega) (by omega) (hz6.mp e)
      have f7 : ¬ (lg_cmp (lN (en256 l)) 1718775661).toInt = 0 := fun e => z4 7 (by omega) (by omega) (hz7.mp e)
      have f8 : ¬ (lg_cmp (lN (en256 l)) 112568465714791).toInt = 0 := fun e => z4 8 (by omega) (by omega) (hz8.mp e)
      have f9 : ¬ (lg_cmp (lN (en256 l)) 418431069797).toInt = 0 := fun e => z4 9 (by omega) (by omega) (hz9.mp e)
      have f10 : ¬ (lg_cmp (lN (en256 l)) 97).toInt = 0 := fun e => z4 10 (by omega) (by omega) (hz10.mp e)
      have f11 : ¬ (lg_cmp (lN (en256 l)) 98).toInt = 0 := fun e => z4 11 (by omega) (by omega) (hz11.mp e)
      have f12 : ¬ (lg_cmp (lN (en256 l)) 108).toInt = 0 := fun e => z4 12 (by omega) (by omega) (hz12.mp e)
      have f13 : ¬ (lg_cmp (lN (en256 l)) 114).toInt = 0 := fun e => z4 13 (by omega) (by omega) (hz13.mp e)
      have f14 : ¬ (lg_cmp (lN (en256 l)) 422607680627).toInt = 0 := fun e => z4 14 (by omega) (by omega) (hz14.mp e)
      have g := hz15.mpr z3
      simp (disch := first | omega | (simp (disch := omega) only [n_ti, Int32.reduceToInt] <;> omega)) only [f0, f1, f2, f3, f4, f5, f6, f7, f8, f9, f10, f11, f12, f13, f14, g, e_57_112, e_57_117, e_57_194, e_57_199, n_add, nl_add, nr_add, n_mul, nl_mul, nr_mul, n_sub, nr_dec, n_div, nr_sub_1, nr_sub_2, nr_sub_3, nr_sub_4, nr_sub_7, nr_sub_10, nr_sub_11, nr_sub_20, nr_sub_48, nr_sub_97, nl_sub_3, nl_sub_4, nl_sub_12, nl_sub_24, nl_sub_32, nr_div_2, nr_div_4, z_lt, z_le, z_eq, z_cl, n_ti, Int.toNat_natCast, Int32.reduceToInt, Int32.reduceToNatClampNeg, zc_add, zc_sub, zc_add_1, zc_add_2, zc_add_3, zc_add_4, zc_add_8, zc_add_10, zc_add_12, zc_add_16, zc_add_20, zc_sub_1, zc_sub_2, zc_sub_4, zc_sub_10, zc_sub_20, zc_sub_48, zc_sub_97, zc_mul_4, t_ltZ, f_ltZ, t_leZ, f_leZ, t_eqZ, f_eqZ, t_ltN, f_ltN, t_leN, f_leN, t_eqN, f_eqN, ↓reduceIte, and_true, true_and, and_false, false_and, and_self, or_true, true_or, or_false, false_or, or_self, not_true_eq_false, not_false_eq_true, tu_same, tu_eq, tu_ne, b_V, b_I, b_J]
    · have f0 : ¬ (lg_cmp (lN (en256 l)) 500135715691).toInt = 0 := fun e => z4 0 (by omega) (by omega) (hz0.mp e)
      have f1 : ¬ (lg_cmp (lN (en256 l)) 512970880104).toInt = 0 := fun e => z4 1 (by omega) (by omega) (hz1.mp e)
      have f2 : ¬ (lg_cmp (lN (en256 l)) 1717921140).toInt = 0 := fun e => z4 2 (by omega) (by omega) (hz2.mp e)
      have f3 : ¬ (lg_cmp (lN (en256 l)) 427121668979).toInt = 0 := fun e => z4 3 (by omega) (by omega) (hz3.mp e)
      have f4 : ¬ (lg_cmp (lN (en256 l)) 29807).toInt = 0 := fun e => z4 4 (by omega) (by omega) (hz4.mp e)
      have f5 : ¬ (lg_cmp (lN (en256 l)) 7300710).toInt = 0 := fun e => z4 5 (by omega) (by omega) (hz5.mp e)
      have f6 : ¬ (lg_cmp (lN (en256 l)) 1953854062).toInt = 0 := fun e => z4 6 (by omega) (by omega) (hz6.mp e)
      have f7 : ¬ (lg_cmp (lN (en256 l)) 1718775661).toInt = 0 := fun e => z4 7 (by omega) (by omega) (hz7.mp e)
      have f8 : ¬ (lg_cmp (lN (en256 l)) 112568465714791).toInt = 0 := fun e => z4 8 (by omega) (by omega) (hz8.mp e)
      have f9 : ¬ (lg_cmp (lN (en256 l)) 418431069797).toInt = 0 := fun e => z4 9 (by omega) (by omega) (hz9.mp e)
      have f10 : ¬ (lg_cmp (lN (en256 l)) 97).toInt = 0 := fun e => z4 10 (by omega) (by omega) (hz10.mp e)
      have f11 : ¬ (lg_cmp (lN (en256 l)) 98).toInt = 0 := fun e => z4 11 (by omega) (by omega) (hz11.mp e)
      have f12 : ¬ (lg_cmp (lN (en256 l)) 108).toInt = 0 := fun e => z4 12 (by omega) (by omega) (hz12.mp e)
      have f13 : ¬ (lg_cmp (lN (en256 l)) 114).toInt = 0 := fun e => z4 13 (by omega) (by omega) (hz13.mp e)
      have f14 : ¬ (lg_cmp (lN (en256 l)) 422607680627).toInt = 0 := fun e => z4 14 (by omega) (by omega) (hz14.mp e)
      have f15 : ¬ (lg_cmp (lN (en256 l)) 24948).toInt = 0 := fun e => z4 15 (by omega) (by omega) (hz15.mp e)
      have g := hz16.mpr z3
      simp (disch := first | omega | (simp (disch := omega) only [n_ti, Int32.reduceToInt] <;> omega)) only [f0, f1, f2, f3, f4, f5, f6, f7, f8, f9, f10, f11, f12, f13, f14, f15, g, e_57_112, e_57_117, e_57_194, e_57_199, n_add, nl_add, nr_add, n_mul, nl_mul, nr_mul, n_sub, nr_dec, n_div, nr_sub_1, nr_sub_2, nr_sub_3, nr_sub_4, nr_sub_7, nr_sub_10, nr_sub_11, nr_sub_20, nr_sub_48, nr_sub_97, nl_sub_3, nl_sub_4, nl_sub_12, nl_sub_24, nl_sub_32, nr_div_2, nr_div_4, z_lt, z_le, z_eq, z_cl, n_ti, Int.toNat_natCast, Int32.reduceToInt, Int32.reduceToNatClampNeg, zc_add, zc_sub, zc_add_1, zc_add_2, zc_add_3, zc_add_4, zc_add_8, zc_add_10, zc_add_12, zc_add_16, zc_add_20, zc_sub_1, zc_sub_2, zc_sub_4, zc_sub_10, zc_sub_20, zc_sub_48, zc_sub_97, zc_mul_4, t_ltZ, f_ltZ, t_leZ, f_leZ, t_eqZ, f_eqZ, t_ltN, f_ltN, t_leN, f_leN, t_eqN, f_eqN, ↓reduceIte, and_true, true_and, and_false, false_and, and_self, or_true, true_or, or_false, false_or, or_self, not_true_eq_false, not_false_eq_true, tu_same, tu_eq, tu_ne, b_V, b_I, b_J]
    · have f0 : ¬ (lg_cmp (lN (en256 l)) 500135715691).toInt = 0 := fun e => z4 0 (by omega) (by omega) (hz0.mp e)
      have f1 : ¬ (lg_cmp (lN (en256 l)) 512970880104).toInt = 0 := fun e => z4 1 (by omega) (by omega) (hz1.mp e)
      have f2 : ¬ (lg_cmp (lN (en256 l)) 1717921140).toInt = 0 := fun e => z4 2 (by omega) (by omega) (hz2.mp e)
      have f3 : ¬ (lg_cmp (lN (en256 l)) 427121668979).toInt = 0 := fun e => z4 3 (by omega) (by omega) (hz3.mp e)
      have f4 : ¬ (lg_cmp (lN (en256 l)) 29807).toInt = 0 := fun e => z4 4 (by omega) (by omega) (hz4.mp e)
      have f5 : ¬ (lg_cmp (lN (en256 l)) 7300710).toInt = 0 := fun e => z4 5 (by omega) (by omega) (hz5.mp e)
      have f6 : ¬ (lg_cmp (lN (en256 l)) 1953854062).toInt = 0 := fun e => z4 6 (by omega) (by omega) (hz6.mp e)
      have f7 : ¬ (lg_cmp (lN (en256 l)) 1718775661).toInt = 0 := fun e => z4 7 (by omega) (by omega) (hz7.mp e)
      have f8 : ¬ (lg_cmp (lN (en256 l)) 112568465714791).toInt = 0 := fun e => z4 8 (by omega) (by omega) (hz8.mp e)
      have f9 : ¬ (lg_cmp (lN (en256 l)) 418431069797).toInt = 0 := fun e => z4 9 (by omega) (by omega) (hz9.mp e)
      have f10 : ¬ (lg_cmp (lN (en256 l)) 97).toInt = 0 := fun e => z4 10 (by omega) (by omega) (hz10.mp e)
      have f11 : ¬ (lg_cmp (lN (en256 l)) 98).toInt = 0 := fun e => z4 11 (by omega) (by omega) (hz11.mp e)
      have f12 : ¬ (lg_cmp (lN (en256 l)) 108).toInt = 0 := fun e => z4 12 (by omega) (by omega) (hz12.mp e)
      have f13 : ¬ (lg_cmp (lN (en256 l)) 114).toInt = 0 := fun e => z4 13 (by omega) (by omega) (hz13.mp e)
      have f14 : ¬ (lg_cmp (lN (en256 l)) 422607680627).toInt = 0 := fun e => z4 14 (by omega) (by omega) (hz14.mp e)
      have f15 : ¬ (lg_cmp (lN (en256 l)) 24948).toInt = 0 := fun e => z4 15 (by omega) (by omega) (hz15.mp e)
      have f16 : ¬ (lg_cmp (lN (en256 l)) 26990).toInt = 0 := fun e => z4 16 (by omega) (by omega) (hz16.mp e)
      have g := hz17.mpr z3
      simp (disch := first | omega | (simp (disch := omega) only [n_ti, Int32.reduceToInt] <;> omega)) only [f0, f1, f2, f3, f4, f5, f6, f7, f8, f9, f10, f11, f12, f13, f14, f15, f16, g, e_57_112, e_57_117, e_57_194, e_57_199, n_add, nl_add, nr_add, n_mul, nl_mul, nr_mul, n_sub, nr_dec, n_div, nr_sub_1, nr_sub_2, nr_sub_3, nr_sub_4, nr_sub_7, nr_sub_10, nr_sub_11, nr_sub_20, nr_sub_48, nr_sub_97, nl_sub_3, nl_sub_4, nl_sub_12, nl_sub_24, nl_sub_32, nr_div_2, nr_div_4, z_lt, z_le, z_eq, z_cl, n_ti, Int.toNat_natCast, Int32.reduceToInt, Int32.reduceToNatClampNeg, zc_add, zc_sub, zc_add_1, zc_add_2, zc_add_3, zc_add_4, zc_add_8, zc_add_10, zc_add_12, zc_add_16, zc_add_20, zc_sub_1, zc_sub_2, zc_sub_4, zc_sub_10, zc_sub_20, zc_sub_48, zc_sub_97, zc_mul_4, t_ltZ, f_ltZ, t_leZ, f_leZ, t_eqZ, f_eqZ, t_ltN, f_ltN, t_leN, f_leN, t_eqN, f_eqN, ↓reduceIte, and_true, true_and, and_false, false_and, and_self, or_true, true_or, or_false, false_or, or_self, not_true_eq_false, not_false_eq_true, tu_same, tu_eq, tu_ne, b_V, b_I, b_J]
    · have f0 : ¬ (lg_cmp (lN (en256 l)) 500135715691).toInt = 0 := fun e => z4 0 (by omega) (by omega) (hz0.mp e)
      have f1 : ¬ (lg_cmp (lN (en256 l)) 512970880104).toInt = 0 := fun e => z4 1 (by omega) (by omega) (hz1.mp e)
      have f2 : ¬ (lg_cmp (lN (en256 l)) 1717921140).toInt = 0 := fun e => z4 2 (by omega) (by omega) (hz2.mp e)
      have f3 : ¬ (lg_cmp (lN (en256 l)) 427121668979).toInt = 0 := fun e => z4 3 (by omega) (by omega) (hz3.mp e)
      have f4 : ¬ (lg_cmp (lN (en256 l)) 29807).toInt = 0 := fun e => z4 4 (by omega) (by omega) (hz4.mp e)
      have f5 : ¬ (lg_cmp (lN (en256 l)) 7300710).toInt = 0 := fun e => z4 5 (by omega) (by omega) (hz5.mp e)
      have f6 : ¬ (lg_cmp (lN (en256 l)) 1953854062).toInt = 0 := fun e => z4 6 (by omega) (by omega) (hz6.mp e)
      have f7 : ¬ (lg_cmp (lN (en256 l)) 1718775661).toInt = 0 := fun e => z4 7 (by omega) (by omega) (hz7.mp e)
      have f8 : ¬ (lg_cmp (lN (en256 l)) 112568465714791).toInt = 0 := fun e => z4 8 (by omega) (by omega) (hz8.mp e)
      have f9 : ¬ (lg_cmp (lN (en256 l)) 418431069797).toInt = 0 := fun e => z4 9 (by omega) (by omega) (hz9.mp e)
      have f10 : ¬ (lg_cmp (lN (en256 l)) 97).toInt = 0 := fun e => z4 10 (by omega) (by omega) (hz10.mp e)
      have f11 : ¬ (lg_cmp (lN (en256 l)) 98).toInt = 0 := fun e => z4 11 (by omega) (by omega) (hz11.mp e)
      have f12 : ¬ (lg_cmp (lN (en256 l)) 108).toInt = 0 := fun e => z4 12 (by omega) (by omega) (hz12.mp e)
      have f13 : ¬ (lg_cmp (lN (en256 l)) 114).toInt = 0 := fun e => z4 13 (by omega) (by omega) (hz13.mp e)
      have f14 : ¬ (lg_cmp (lN (en256 l)) 422607680627).toInt = 0 := fun e => z4 14 (by omega) (by omega) (hz14.mp e)
      have f15 : ¬ (lg_cmp (lN (en256 l)) 24948).toInt = 0 := fun e => z4 15 (by omega) (by omega) (hz15.mp e)
      have f16 : ¬ (lg_cmp (lN (en256 l)) 26990).toInt = 0 := fun e => z4 16 (by omega) (by omega) (hz16.mp e)
      have f17 : ¬ (lg_cmp (lN (en256 l)) 7304564).toInt = 0 := fun e => z4 17 (by omega) (by omega) (hz17.mp e)
      have g := hz18.mpr z3
      simp (disch := first | omega | (simp (disch := omega) only [n_ti, Int32.reduceToInt] <;> omega)) only [f0, f1, f2, f3, f4, f5, f6, f7, f8, f9, f10, f11, f12, f13, f14, f15, f16, f17, g, e_57_112, e_57_117, e_57_194, e_57_199, n_add, nl_add, nr_add, n_mul, nl_mul, nr_mul, n_sub, nr_dec, n_div, nr_sub_1, nr_sub_2, nr_sub_3, nr_sub_4, nr_sub_7, nr_sub_10, nr_sub_11, nr_sub_20, nr_sub_48, nr_sub_97, nl_sub_3, nl_sub_4, nl_sub_12, nl_sub_24, nl_sub_32, nr_div_2, nr_div_4, z_lt, z_le, z_eq, z_cl, n_ti, Int.toNat_natCast, Int32.reduceToInt, Int32.reduceToNatClampNeg, zc_add, zc_sub, zc_add_1, zc_add_2, zc_add_3, zc_add_4, zc_add_8, zc_add_10, zc_add_12, zc_add_16, zc_add_20, zc_sub_1, zc_sub_2, zc_sub_4, zc_sub_10, zc_sub_20, zc_sub_48, zc_sub_97, zc_mul_4, t_ltZ, f_ltZ, t_leZ, f_leZ, t_eqZ, f_eqZ, t_ltN, f_ltN, t_leN, f_leN, t_eqN, f_eqN, ↓reduceIte, and_true, true_and, and_false, false_and, and_self, or_true, true_or, or_false, false_or, or_self, not_true_eq_false, not_false_eq_true, tu_same, tu_eq, tu_ne, b_V, b_I, b_J]
    · have f0 : ¬ (lg_cmp (lN (en256 l)) 500135715691).toInt = 0 := fun e => z4 0 (by omega) (by omega) (hz0.mp e)
      have f1 : ¬ (lg_cmp (lN (en256 l)) 512970880104).toInt = 0 := fun e => z4 1 (by omega) (by omega) (hz1.mp e)
      have f2 : ¬ (lg_cmp (lN (en256 l)) 1717921140).toInt = 0 := fun e => z4 2 (by omega) (by omega) (hz2.mp e)
      have f3 : ¬ (lg_cmp (lN (en256 l)) 427121668979).toInt = 0 := fun e => z4 3 (by omega) (by omega) (hz3.mp e)
      have f4 : ¬ (lg_cmp (lN (en256 l)) 29807).toInt = 0 := fun e => z4 4 (by omega) (by omega) (hz4.mp e)
      have f5 : ¬ (lg_cmp (lN (en256 l)) 7300710).toInt = 0 := fun e => z4 5 (by omega) (by omega) (hz5.mp e)
      have f6 : ¬ (lg_cmp (lN (en256 l)) 1953854062).toInt = 0 := fun e => z4 6 (by omega) (by omega) (hz6.mp e)
      have f7 : ¬ (lg_cmp (lN (en256 l)) 1718775661).toInt = 0 := fun e => z4 7 (by omega) (by omega) (hz7.mp e)
      have f8 : ¬ (lg_cmp (lN (en256 l)) 112568465714791).toInt = 0 := fun e => z4 8 (by omega) (by omega) (hz8.mp e)
      have f9 : ¬ (lg_cmp (lN (en256 l)) 418431069797).toInt = 0 := fun e => z4 9 (by omega) (by omega) (hz9.mp e)
      have f10 : ¬ (lg_cmp (lN (en256 l)) 97).toInt = 0 := fun e => z4 10 (by omega) (by omega) (hz10.mp e)
      have f11 : ¬ (lg_cmp (lN (en256 l)) 98).toInt = 0 := fun e => z4 11 (by omega) (by omega) (hz11.mp e)
      have f12 : ¬ (lg_cmp (lN (en256 l)) 108).toInt = 0 := fun e => z4 12 (by omega) (by omega) (hz12.mp e)
      have f13 : ¬ (lg_cmp (lN (en256 l)) 114).toInt = 0 := fun e => z4 13 (by omega) (by omega) (hz13.mp e)
      have f14 : ¬ (lg_cmp (lN (en256 l)) 422607680627).toInt = 0 := fun e => z4 14 (by omega) (by omega) (hz14.mp e)
      have f15 : ¬ (lg_cmp (lN (en256 l)) 24948).toInt = 0 := fun e => z4 15 (by omega) (by omega) (hz15.mp e)
      have f16 : ¬ (lg_cmp (lN (en256 l)) 26990).toInt = 0 := fun e => z4 16 (by omega) (by omega) (hz16.mp e)
      have f17 : ¬ (lg_cmp (lN (en256 l)) 7304564).toInt = 0 := fun e => z4 17 (by omega) (by omega) (hz17.mp e)
      have f18 : ¬ (lg_cmp (lN (en256 l)) 1685022067).toInt = 0 := fun e => z4 18 (by omega) (by omega) (hz18.mp e)
      have g := hz19.mpr z3
      simp (disch := first | omega | (simp (disch := omega) only [n_ti, Int32.reduceToInt] <;> omega)) only [f0, f1, f2, f3, f4, f5, f6, f7, f8, f9, f10, f11, f12, f13, f14, f15, f16, f17, f18, g, e_57_112, e_57_117, e_57_194, e_57_199, n_add, nl_add, nr_add, n_mul, nl_mul, nr_mul, n_sub, nr_dec, n_div, nr_sub_1, nr_sub_2, nr_sub_3, nr_sub_4, nr_sub_7, nr_sub_10, nr_sub_11, nr_sub_20, nr_sub_48, nr_sub_97, nl_sub_3, nl_sub_4, nl_sub_12, nl_sub_24, nl_sub_32, nr_div_2, nr_div_4, z_lt, z_le, z_eq, z_cl, n_ti, Int.toNat_natCast, Int32.reduceToInt, Int32.reduceToNatClampNeg, zc_add, zc_sub, zc_add_1, zc_add_2, zc_add_3, zc_add_4, zc_add_8, zc_add_10, zc_add_12, zc_add_16, zc_add_20, zc_sub_1, zc_sub_2, zc_sub_4, zc_sub_10, zc_sub_20, zc_sub_48, zc_sub_97, zc_mul_4, t_ltZ, f_ltZ, t_leZ, f_leZ, t_eqZ, f_eqZ, t_ltN, f_ltN, t_leN, f_leN, t_eqN, f_eqN, ↓reduceIte, and_true, true_and, and_false, false_and, and_self, or_true, true_or, or_false, false_or, or_self, not_true_eq_false, not_false_eq_true, tu_same, tu_eq, tu_ne, b_V, b_I, b_J]
    · have f0 : ¬ (lg_cmp (lN (en256 l)) 500135715691).toInt = 0 := fun e => z4 0 (by omega) (by omega) (hz0.mp e)
      have f1 : ¬ (lg_cmp (lN (en256 l)) 512970880104).toInt = 0 := fun e => z4 1 (by omega) (by omega) (hz1.mp e)
      have f2 : ¬ (lg_cmp (lN (en256 l)) 1717921140).toInt = 0 := fun e => z4 2 (by omega) (by omega) (hz2.mp e)
      have f3 : ¬ (lg_cmp (lN (en256 l)) 427121668979).toInt = 0 := fun e => z4 3 (by omega) (by omega) (hz3.mp e)
      have f4 : ¬ (lg_cmp (lN (en256 l)) 29807).toInt = 0 := fun e => z4 4 (by omega) (by omega) (hz4.mp e)
      have f5 : ¬ (lg_cmp (lN (en256 l)) 7300710).toInt = 0 := fun e => z4 5 (by omega) (by omega) (hz5.mp e)
      have f6 : ¬ (lg_cmp (lN (en256 l)) 1953854062).toInt = 0 := fun e => z4 6 (by omega) (by omega) (hz6.mp e)
      have f7 : ¬ (lg_cmp (lN (en256 l)) 1718775661).toInt = 0 := fun e => z4 7 (by omega) (by omega) (hz7.mp e)
      have f8 : ¬ (lg_cmp (lN (en256 l)) 112568465714791).toInt = 0 := fun e => z4 8 (by omega) (by omega) (hz8.mp e)
      have f9 : ¬ (lg_cmp (lN (en256 l)) 418431069797).toInt = 0 := fun e => z4 9 (by omega) (by omega) (hz9.mp e)
      have f10 : ¬ (lg_cmp (lN (en256 l)) 97).toInt = 0 := fun e => z4 10 (by omega) (by omega) (hz10.mp e)
      have f11 : ¬ (lg_cmp (lN (en256 l)) 98).toInt = 0 := fun e => z4 11 (by omega) (by omega) (hz11.mp e)
      have f12 : ¬ (lg_cmp (lN (en256 l)) 108).toInt = 0 := fun e => z4 12 (by omega) (by omega) (hz12.mp e)
      have f13 : ¬ (lg_cmp (lN (en256 l)) 114).toInt = 0 := fun e => z4 13 (by omega) (by omega) (hz13.mp e)
      have f14 : ¬ (lg_cmp (lN (en256 l)) 422607680627).toInt = 0 := fun e => z4 14 (by omega) (by omega) (hz14.mp e)
      have f15 : ¬ (lg_cmp (lN (en256 l)) 24948).toInt = 0 := fun e => z4 15 (by omega) (by omega) (hz15.mp e)
      have f16 : ¬ (lg_cmp (lN (en256 l)) 26990).toInt = 0 := fun e => z4 16 (by omega) (by omega) (hz16.mp e)
      have f17 : ¬ (lg_cmp (lN (en256 l)) 7304564).toInt = 0 := fun e => z4 17 (by omega) (by omega) (hz17.mp e)
      have f18 : ¬ (lg_cmp (lN (en256 l)) 1685022067).toInt = 0 := fun e => z4 18 (by omega) (by omega) (hz18.mp e)
      have f19 : ¬ (lg_cmp (lN (en256 l)) 7883958458510370148).toInt = 0 := fun e => z4 19 (by omega) (by omega) (hz19.mp e)
      have g := hz20.mpr z3
      simp (disch := first | omega | (simp (disch := omega) only [n_ti, Int32.reduceToInt] <;> omega)) only [f0, f1, f2, f3, f4, f5, f6, f7, f8, f9, f10, f11, f12, f13, f14, f15, f16, f17, f18, f19, g, e_57_112, e_57_117, e_57_194, e_57_199, n_add, nl_add, nr_add, n_mul, nl_mul, nr_mul, n_sub, nr_dec, n_div, nr_sub_1, nr_sub_2, nr_sub_3, nr_sub_4, nr_sub_7, nr_sub_10, nr_sub_11, nr_sub_20, nr_sub_48, nr_sub_97, nl_sub_3, nl_sub_4, nl_sub_12, nl_sub_24, nl_sub_32, nr_div_2, nr_div_4, z_lt, z_le, z_eq, z_cl, n_ti, Int.toNat_natCast, Int32.reduceToInt, Int32.reduceToNatClampNeg, zc_add, zc_sub, zc_add_1, zc_add_2, zc_add_3, zc_add_4, zc_add_8, zc_add_10, zc_add_12, zc_add_16, zc_add_20, zc_sub_1, zc_sub_2, zc_sub_4, zc_sub_10, zc_sub_20, zc_sub_48, zc_sub_97, zc_mul_4, t_ltZ, f_ltZ, t_leZ, f_leZ, t_eqZ, f_eqZ, t_ltN, f_ltN, t_leN, f_leN, t_eqN, f_eqN, ↓reduceIte, and_true, true_and, and_false, false_and, and_self, or_true, true_or, or_false, false_or, or_self, not_true_eq_false, not_false_eq_true, tu_same, tu_eq, tu_ne, b_V, b_I, b_J]
    · have f0 : ¬ (lg_cmp (lN (en256 l)) 500135715691).toInt = 0 := fun e => z4 0 (by omega) (by omega) (hz0.mp e)
      have f1 : ¬ (lg_cmp (lN (en256 l)) 512970880104).toInt = 0 := fun e => z4 1 (by omega) (by omega) (hz1.mp e)
      have f2 : ¬ (lg_cmp (lN (en256 l)) 1717921140).toInt = 0 := fun e => z4 2 (by omega) (by omega) (hz2.mp e)
      have f3 : ¬ (lg_cmp (lN (en256 l)) 427121668979).toInt = 0 := fun e => z4 3 (by omega) (by omega) (hz3.mp e)
      have f4 : ¬ (lg_cmp (lN (en256 l)) 29807).toInt = 0 := fun e => z4 4 (by omega) (by omega) (hz4.mp e)
      have f5 : ¬ (lg_cmp (lN (en256 l)) 7300710).toInt = 0 := fun e => z4 5 (by omega) (by omega) (hz5.mp e)
      have f6 : ¬ (lg_cmp (lN (en256 l)) 1953854062).toInt = 0 := fun e => z4 6 (by omega) (by omega) (hz6.mp e)
      have f7 : ¬ (lg_cmp (lN (en256 l)) 1718775661).toInt = 0 := fun e => z4 7 (by omega) (by omega) (hz7.mp e)
      have f8 : ¬ (lg_cmp (lN (en256 l)) 112568465714791).toInt = 0 := fun e => z4 8 (by omega) (by omega) (hz8.mp e)
      have f9 : ¬ (lg_cmp (lN (en256 l)) 418431069797).toInt = 0 := fun e => z4 9 (by omega) (by omega) (hz9.mp e)
      have f10 : ¬ (lg_cmp (lN (en256 l)) 97).toInt = 0 := fun e => z4 10 (by omega) (by omega) (hz10.mp e)
      have f11 : ¬ (lg_cmp (lN (en256 l)) 98).toInt = 0 := fun e => z4 11 (by omega) (by omega) (hz11.mp e)
      have f12 : ¬ (lg_cmp (lN (en256 l)) 108).toInt = 0 := fun e => z4 12 (by omega) (by omega) (hz12.mp e)
      have f13 : ¬ (lg_cmp (lN (en256 l)) 114).toInt = 0 := fun e => z4 13 (by omega) (by omega) (hz13.mp e)
      have f14 : ¬ (lg_cmp (lN (en256 l)) 422607680627).toInt = 0 := fun e => z4 14 (by omega) (by omega) (hz14.mp e)
      have f15 : ¬ (lg_cmp (lN (en256 l)) 24948).toInt = 0 := fun e => z4 15 (by omega) (by omega) (hz15.mp e)
      have f16 : ¬ (lg_cmp (lN (en256 l)) 26990).toInt = 0 := fun e => z4 16 (by omega) (by omega) (hz16.mp e)
      have f17 : ¬ (lg_cmp (lN (en256 l)) 7304564).toInt = 0 := fun e => z4 17 (by omega) (by omega) (hz17.mp e)
      have f18 : ¬ (lg_cmp (lN (en256 l)) 1685022067).toInt = 0 := fun e => z4 18 (by omega) (by omega) (hz18.mp e)
      have f19 : ¬ (lg_cmp (lN (en256 l)) 7883958458510370148).toInt = 0 := fun e => z4 19 (by omega) (by omega) (hz19.mp e)
      have f20 : ¬ (lg_cmp (lN (en256 l)) 499850634611).toInt = 0 := fun e => z4 20 (by omega) (by omega) (hz20.mp e)
      have g := hz21.mpr z3
      simp (disch := first | omega | (simp (disch := omega) only [n_ti, Int32.reduceToInt] <;> omega)) only [f0, f1, f2, f3, f4, f5, f6, f7, f8, f9, f10, f11, f12, f13, f14, f15, f16, f17, f18, f19, f20, g, e_57_112, e_57_117, e_57_194, e_57_199, n_add, nl_add, nr_add, n_mul, nl_mul, nr_mul, n_sub, nr_dec, n_div, nr_sub_1, nr_sub_2, nr_sub_3, nr_sub_4, nr_sub_7, nr_sub_10, nr_sub_11, nr_sub_20, nr_sub_48, nr_sub_97, nl_sub_3, nl_sub_4, nl_sub_12, nl_sub_24, nl_sub_32, nr_div_2, nr_div_4, z_lt, z_le, z_eq, z_cl, n_ti, Int.toNat_natCast, Int32.reduceToInt, Int32.reduceToNatClampNeg, zc_add, zc_sub, zc_add_1, zc_add_2, zc_add_3, zc_add_4, zc_add_8, zc_add_10, zc_add_12, zc_add_16, zc_add_20, zc_sub_1, zc_sub_2, zc_sub_4, zc_sub_10, zc_sub_20, zc_sub_48, zc_sub_97, zc_mul_4, t_ltZ, f_ltZ, t_leZ, f_leZ, t_eqZ, f_eqZ, t_ltN, f_ltN, t_leN, f_leN, t_eqN, f_eqN, ↓reduceIte, and_true, true_and, and_false, false_and, and_self, or_true, true_or, or_false, false_or, or_self, not_true_eq_false, not_false_eq_true, tu_same, tu_eq, tu_ne, b_V, b_I, b_J]
    · have f0 : ¬ (lg_cmp (lN (en256 l)) 500135715691).toInt = 0 := fun e => z4 0 (by omega) (by omega) (hz0.mp e)
      have f1 : ¬ (lg_cmp (lN (en256 l)) 512970880104).toInt = 0 := fun e => z4 1 (by omega) (by omega) (hz1.mp e)
      have f2 : ¬ (lg_cmp (lN (en256 l)) 1717921140).toInt = 0 := fun e => z4 2 (by omega) (by omega) (hz2.mp e)
      have f3 : ¬ (lg_cmp (lN (en256 l)) 427121668979).toInt = 0 := fun e => z4 3 (by omega) (by omega) (hz3.mp e)
      have f4 : ¬ (lg_cmp (lN (en256 l)) 29807).toInt = 0 := fun e => z4 4 (by omega) (by omega) (hz4.mp e)
      have f5 : ¬ (lg_cmp (lN (en256 l)) 7300710).toInt = 0 := fun e => z4 5 (by omega) (by omega) (hz5.mp e)
      have f6 : ¬ (lg_cmp (lN (en256 l)) 1953854062).toInt = 0 := fun e => z4 6 (by omega) (by omega) (hz6.mp e)
      have f7 : ¬ (lg_cmp (lN (en256 l)) 1718775661).toInt = 0 := fun e => z4 7 (by omega) (by omega) (hz7.mp e)
      have f8 : ¬ (lg_cmp (lN (en256 l)) 112568465714791).toInt = 0 := fun e => z4 8 (by omega) (by omega) (hz8.mp e)
      have f9 : ¬ (lg_cmp (lN (en256 l)) 418431069797).toInt = 0 := fun e => z4 9 (by omega) (by omega) (hz9.mp e)
      have f10 : ¬ (lg_cmp (lN (en256 l)) 97).toInt = 0 := fun e => z4 10 (by omega) (by omega) (hz10.mp e)
      have f11 : ¬ (lg_cmp (lN (en256 l)) 98).toInt = 0 := fun e => z4 11 (by omega) (by omega) (hz11.mp e)
      have f12 : ¬ (lg_cmp (lN (en256 l)) 108).toInt = 0 := fun e => z4 12 (by omega) (by omega) (hz12.mp e)
      have f13 : ¬ (lg_cmp (lN (en256 l)) 114).toInt = 0 := fun e => z4 13 (by omega) (by omega) (hz13.mp e)
      have f14 : ¬ (lg_cmp (lN (en256 l)) 422607680627).toInt = 0 := fun e => z4 14 (by omega) (by omega) (hz14.mp e)
      have f15 : ¬ (lg_cmp (lN (en256 l)) 24948).toInt = 0 := fun e => z4 15 (by omega) (by omega) (hz15.mp e)
      have f16 : ¬ (lg_cmp (lN (en256 l)) 26990).toInt = 0 := fun e => z4 16 (by omega) (by omega) (hz16.mp e)
      have f17 : ¬ (lg_cmp (lN (en256 l)) 7304564).toInt = 0 := fun e => z4 17 (by omega) (by omega) (hz17.mp e)
      have f18 : ¬ (lg_cmp (lN (en256 l)) 1685022067).toInt = 0 := fun e => z4 18 (by omega) (by omega) (hz18.mp e)
      have f19 : ¬ (lg_cmp (lN (en256 l)) 7883958458510370148).toInt = 0 := fun e => z4 19 (by omega) (by omega) (hz19.mp e)
      have f20 : ¬ (lg_cmp (lN (en256 l)) 499850634611).toInt = 0 := fun e => z4 20 (by omega) (by omega) (hz20.mp e)
      have f21 : ¬ (lg_cmp (lN (en256 l)) 1818584692).toInt = 0 := fun e => z4 21 (by omega) (by omega) (hz21.mp e)
      have g := hz22.mpr z3
      simp (disch := first | omega | (simp (disch := omega) only [n_ti, Int32.reduceToInt] <;> omega)) only [f0, f1, f2, f3, f4, f5, f6, f7, f8, f9, f10, f11, f12, f13, f14, f15, f16, f17, f18, f19, f20, f21, g, e_57_112, e_57_117, e_57_194, e_57_199, n_add, nl_add, nr_add, n_mul, nl_mul, nr_mul, n_sub, nr_dec, n_div, nr_sub_1, nr_sub_2, nr_sub_3, nr_sub_4, nr_sub_7, nr_sub_10, nr_sub_11, nr_sub_20, nr_sub_48, nr_sub_97, nl_sub_3, nl_sub_4, nl_sub_12, nl_sub_24, nl_sub_32, nr_div_2, nr_div_4, z_lt, z_le, z_eq, z_cl, n_ti, Int.toNat_natCast, Int32.reduceToInt, Int32.reduceToNatClampNeg, zc_add, zc_sub, zc_add_1, zc_add_2, zc_add_3, zc_add_4, zc_add_8, zc_add_10, zc_add_12, zc_add_16, zc_add_20, zc_sub_1, zc_sub_2, zc_sub_4, zc_sub_10, zc_sub_20, zc_sub_48, zc_sub_97, zc_mul_4, t_ltZ, f_ltZ, t_leZ, f_leZ, t_eqZ, f_eqZ, t_ltN, f_ltN, t_leN, f_leN, t_eqN, f_eqN, ↓reduceIte, and_true, true_and, and_false, false_and, and_self, or_true, true_or, or_false, false_or, or_self, not_true_eq_false, not_false_eq_true, tu_same, tu_eq, tu_ne, b_V, b_I, b_J]
