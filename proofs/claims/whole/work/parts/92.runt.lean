/-! run: a BEAT (class) -/
def pkS (s : SP) : Nat := pW s + pF s * 2 ^ 3 + pD s * 2 ^ 5 + pT s * 2 ^ 7 + pX s * 2 ^ 11
def pkOk (s : SP) : Prop := pW s ≤ 5 ∧ pF s ≤ 3 ∧ pD s ≤ 3 ∧ pT s ≤ 12 ∧ pX s < 256
theorem or_sh {x v : Nat} (k : Nat) (s : Int32) (hs : (s.toBitVec.smod 32).toNat = k) (hx : x < 2 ^ k) (hv : v * 2 ^ k < 2 ^ 32) : nI x ||| (nI v <<< s) = nI (x + v * 2 ^ k) := by
  rw [pk_shlN _ k hs hv, i_or]
  have g := Nat.two_pow_add_eq_or_of_lt hx v
  rw [Nat.or_comm, Nat.mul_comm v, ← g, Nat.add_comm]
theorem tI_1 (t : Nat) : tI t + 1 = nI t := by
  cases t with
  | zero => decide
  | succ k => exact nI_1 k
theorem pk_c {s : SP} (h : pkOk s) : ((((nI (pW s) ||| (nI (pF s) <<< 3)) ||| (nI (pD s) <<< 5)) ||| ((tI (pT s) + 1) <<< 7)) ||| (nI (pX s) <<< 11) : Int32) = nI (pkS s) := by
  obtain ⟨h1, h2, h3, h4, h5⟩ := h
  unfold pkS
  rw [tI_1, or_sh 3 3 (by decide) (by omega) (by omega), or_sh 5 5 (by decide) (by omega) (by omega), or_sh 7 7 (by decide) (by omega) (by omega), or_sh 11 11 (by decide) (by omega) (by omega)]
def RcA (A : Nat → Nat → Int32) (q : Nat) (R : Nat → Nat × PS) : Prop := ∀ c, c < q → A 11 c = nI (R c).1 ∧ ∀ p, p < 6 → A 12 (c * 6 + p) = nI (pkS ((R c).2 p))
theorem RcA.tr {A A' : Nat → Nat → Int32} {q : Nat} {R : Nat → Nat × PS} (h : RcA A q R) (f : ∀ a k, a = 11 ∨ a = 12 → A' a k = A a k) : RcA A' q R := fun c hc => ⟨(f _ _ (by omega)).trans (h c hc).1, fun p hp => (f _ _ (by omega)).trans ((h c hc).2 p hp)⟩
theorem c_127 {A : Nat → Nat → Int32} {J : Nat → Nat → Int64} {τ : tm_Tu} {b N mo stl : Nat} {S : PS} {R : Nat → Nat × PS} (h : PsA A S) (hS : ∀ p, p < 6 → pkOk (S p)) (h86 : A 8 6 = nI N) (hN : N ≤ 200) (hb : b < N) (hmo : mo ≤ 4) (hR : RcA A b R) (hs : A 8 10 = nI stl) : ∃ A', F_127 [.ref 8, .int (nI b), .int (nI mo), .ref 14] (mk A J τ) = some (none, mk A' J τ) ∧ RcA A' (b + 1) (updN R b (mo, S)) ∧ A' 8 10 = nI (if mo = 4 then stl + 1 else stl) ∧ (∀ a k, a ≠ 11 → a ≠ 12 → ¬ (a = 8 ∧ k = 10) → A' a k = A a k) := by
  have key : ∀ m j (A : Nat → Nat → Int32), j + m = 6 → PsA A S → ∃ A', R_127 38 [(0, .ref 8), (1, .int (nI b)), (3, .ref 14), (4, .int (nI j))] [] (mk A J τ) = some (none, mk A' J τ) ∧ (∀ p, j ≤ p → p < 6 → A' 12 (b * 6 + p) = nI (pkS (S p))) ∧ (∀ a k, ¬ (a = 12 ∧ b * 6 + j ≤ k ∧ k < b * 6 + 6) → A' a k = A a k) := by
    intro m
    induction m with
    | zero =>
      intro j A hj hP
      refine ⟨A, ?_, fun p u v => by omega, fun _ _ _ => rfl⟩
      rw [e_127_38]
      simp (disch := first | omega | (simp (disch := omega) only [n_ti, Int32.reduceToInt] <;> omega)) only [e_127_117, n_add, nl_add, nr_add, n_mul, nl_mul, nr_mul, n_sub, nr_dec, n_div, nr_sub_1, nr_sub_2, nr_sub_3, nr_sub_4, nr_sub_7, nr_sub_10, nr_sub_11, nr_sub_20, nr_sub_48, nr_sub_97, nl_sub_3, nl_sub_4, nl_sub_12, nl_sub_24, nl_sub_32, nr_div_2, nr_div_4, z_lt, z_le, z_eq, z_cl, n_ti, Int.toNat_natCast, Int32.reduceToInt, Int32.reduceToNatClampNeg, zc_add, zc_sub, zc_add_1, zc_add_2, zc_add_3, zc_add_4, zc_add_8, zc_add_10, zc_add_12, zc_add_16, zc_add_20, zc_sub_1, zc_sub_2, zc_sub_4, zc_sub_10, zc_sub_20, zc_sub_48, zc_sub_97, zc_mul_4, t_ltZ, f_ltZ, t_leZ, f_leZ, t_eqZ, f_eqZ, t_ltN, f_ltN, t_leN, f_leN, t_eqN, f_eqN, ↓reduceIte, and_true, true_and, and_false, false_and, and_self, or_true, true_or, or_false, false_or, or_self, not_true_eq_false, not_false_eq_true, tu_same, tu_eq, tu_ne, b_V, b_I, b_J]
    | succ m ih =>
      intro j A hj hP
      have hp : j < 6 := by omega
      obtain ⟨h0, h1, h2, h3, h4, h5, h6⟩ := hP j hp
      have k1 := j_1 hp τ
      have k2 := j_2 hp
      have pk := pk_c (hS j hp)
      obtain ⟨A', g1, g2, g3⟩ := ih (j + 1) (tm_u A 12 (b * 6 + j) (nI (pkS (S j)))) (by omega) (hP.tr (fun a k u v => by simp (disch := omega) only [tu_same, tu_eq, tu_ne]))
      refine ⟨A', ?_, fun p u v => ?_, fun a k u => ?_⟩
      · rw [← g1, e_127_38]
        simp (disch := first | omega | (simp (disch := omega) only [n_ti, Int32.reduceToInt] <;> omega)) only [k1, k2, h0, h1, h2, h3, h6, pk, n_add, nl_add, nr_add, n_mul, nl_mul, nr_mul, n_sub, nr_dec, n_div, nr_sub_1, nr_sub_2, nr_sub_3, nr_sub_4, nr_sub_7, nr_sub_10, nr_sub_11, nr_sub_20, nr_sub_48, nr_sub_97, nl_sub_3, nl_sub_4, nl_sub_12, nl_sub_24, nl_sub_32, nr_div_2, nr_div_4, z_lt, z_le, z_eq, z_cl, n_ti, Int.toNat_natCast, Int32.reduceToInt, Int32.reduceToNatClampNeg, zc_add, zc_sub, zc_add_1, zc_add_2, zc_add_3, zc_add_4, zc_add_8, zc_add_10, zc_add_12, zc_add_16, zc_add_20, zc_sub_1, zc_sub_2, zc_sub_4, zc_sub_10, zc_sub_20, zc_sub_48, zc_sub_97, zc_mul_4, t_ltZ, f_ltZ, t_leZ, f_leZ, t_eqZ, f_eqZ, t_ltN, f_ltN, t_leN, f_leN, t_eqN, f_eqN, ↓reduceIte, and_true, true_and, and_false, false_and, and_self, or_true, true_or, or_false, false_or, or_self, not_true_eq_false, not_false_eq_true, tu_same, tu_eq, tu_ne, b_V, b_I, b_J]
      · by_cases e : p = j
        · subst e
          rw [g3 _ _ (by omega)]
          simp (disch := omega) only [tu_same, tu_eq, tu_ne]
        · exact g2 p (by omega) v
      · rw [g3 a k (by omega)]
        simp (disch := omega) only [tu_same, tu_eq, tu_ne]
  have fin : ∀ A1 : Nat → Nat → Int32, (∀ a k, ¬ (a = 11 ∧ k = b) → ¬ (a = 8 ∧ k = 10) → A1 a k = A a k) → A1 11 b = nI mo → A1 8 10 = nI (if mo = 4 then stl + 1 else stl) → F_127 [.ref 8, .int (nI b), .int (nI mo), .ref 14] (mk A J τ) = R_127 35 [(0, .ref 8), (1, .int (nI b)), (3, .ref 14)] [] (mk A1 J τ) → ∃ A', F_127 [.ref 8, .int (nI b), .int (nI mo), .ref 14] (mk A J τ) = some (none, mk A' J τ) ∧ RcA A' (b + 1) (updN R b (mo, S)) ∧ A' 8 10 = nI (if mo = 4 then stl + 1 else stl) ∧ (∀ a k, a ≠ 11 → a ≠ 12 → ¬ (a = 8 ∧ k = 10) → A' a k = A a k) := by
    intro A1 f1 f2 f3 f4
    obtain ⟨A', g1, g2, g3⟩ := key 6 0 A1 (by omega) (h.tr (fun a k u v => f1 a k (by omega) (by omega)))
    refine ⟨A', ?_, fun c hc => ?_, (g3 _ _ (by omega)).trans f3, fun a k u v w => (g3 a k (by omega)).trans (f1 a k (by omega) w)⟩
    · rw [f4, e_127_35]
      exact g1
    · by_cases e : c = b
      · subst e
        rw [updN_s]
        exact ⟨(g3 _ _ (by omega)).trans f2, fun p hp => g2 p (by omega) hp⟩
      · rw [updN_n _ _ e]
        obtain ⟨u1, u2⟩ := hR c (by omega)
        refine ⟨(g3 _ _ (by omega)).trans ((f1 _ _ (by omega) (by omega)).trans u1), fun p hp => ?_⟩
        rw [g3 _ _ (by omega), f1 _ _ (by omega) (by omega)]
        exact u2 p hp
  by_cases c : mo = 4
  · subst c
    refine fin (tm_u (tm_u A 11 b (nI 4)) 8 10 (nI (stl + 1))) (fun a k u v => by simp (disch := omega) only [tu_same, tu_eq, tu_ne]) (by simp (disch := omega) only [tu_same, tu_eq, tu_ne]) (by simp (disch := omega) only [tu_same, tu_eq, tu_ne]; rfl) ?_
    rw [e_127]
    simp (disch := first | omega | (simp (disch := omega) only [n_ti, Int32.reduceToInt] <;> omega)) only [h86, hs, n_add, nl_add, nr_add, n_mul, nl_mul, nr_mul, n_sub, nr_dec, n_div, nr_sub_1, nr_sub_2, nr_sub_3, nr_sub_4, nr_sub_7, nr_sub_10, nr_sub_11, nr_sub_20, nr_sub_48, nr_sub_97, nl_sub_3, nl_sub_4, nl_sub_12, nl_sub_24, nl_sub_32, nr_div_2, nr_div_4, z_lt, z_le, z_eq, z_cl, n_ti, Int.toNat_natCast, Int32.reduceToInt, Int32.reduceToNatClampNeg, zc_add, zc_sub, zc_add_1, zc_add_2, zc_add_3, zc_add_4, zc_add_8, zc_add_10, zc_add_12, zc_add_16, zc_add_20, zc_sub_1, zc_sub_2, zc_sub_4, zc_sub_10, zc_sub_20, zc_sub_48, zc_sub_97, zc_mul_4, t_ltZ, f_ltZ, t_leZ, f_leZ, t_eqZ, f_eqZ, t_ltN, f_ltN, t_leN, f_leN, t_eqN, f_eqN, ↓reduceIte, and_true, true_and, and_false, false_and, and_self, or_true, true_or, or_false, false_or, or_self, not_true_eq_false, not_false_eq_true, tu_same, tu_eq, tu_ne, b_V, b_I, b_J]
  · refine fin (tm_u A 11 b (nI mo)) (fun a k u v => by simp (disch := omega) only [tu_same, tu_eq, tu_ne]) (by simp (disch := omega) only [tu_same, tu_eq, tu_ne]) (by simp (disch := omega) only [hs, tu_same, tu_eq, tu_ne]; rw [if_neg c]) ?_
    rw [e_127]
    simp (disch := first | omega | (simp (disch := omega) only [n_ti, Int32.reduceToInt] <;> omega)) only [h86, hs, n_add, nl_add, nr_add, n_mul, nl_mul, nr_mul, n_sub, nr_dec, n_div, nr_sub_1, nr_sub_2, nr_sub_3, nr_sub_4, nr_sub_7, nr_sub_10, nr_sub_11, nr_sub_20, nr_sub_48, nr_sub_97, nl_sub_3, nl_sub_4, nl_sub_12, nl_sub_24, nl_sub_32, nr_div_2, nr_div_4, z_lt, z_le, z_eq, z_cl, n_ti, Int.toNat_natCast, Int32.reduceToInt, Int32.reduceToNatClampNeg, zc_add, zc_sub, zc_add_1, zc_add_2, zc_add_3, zc_add_4, zc_add_8, zc_add_10, zc_add_12, zc_add_16, zc_add_20, zc_sub_1, zc_sub_2, zc_sub_4, zc_sub_10, zc_sub_20, zc_sub_48, zc_sub_97, zc_mul_4, t_ltZ, f_ltZ, t_leZ, f_leZ, t_eqZ, f_eqZ, t_ltN, f_ltN, t_leN, f_leN, t_eqN, f_eqN, ↓reduceIte, and_true, true_and, and_false, false_and, and_self, or_true, true_or, or_false, false_or, or_self, not_true_eq_false, not_false_eq_true, tu_same, tu_eq, tu_ne, b_V, b_I, b_J]
def sdS (s : SP) : SP := (pW s, pF s, pD s, pT s, pM s, pG s, 0)
def sdF (S : PS) : PS := fun p => sdS (S p)
theorem c_128 {A : Nat → Nat → Int32} {J : Nat → Nat → Int64} {τ : tm_Tu} {b N stl : Nat} {S : PS} {R : Nat → Nat × PS} (h : PsA A S) (hS : ∀ p, p < 6 → pkOk (S p)) (h86 : A 8 6 = nI N) (hN : N ≤ 200) (hb : b < N) (hR : RcA A b R) (hs : A 8 10 = nI stl) : ∃ A', F_128 [.ref 7, .int (nI b)] (mk A J τ) = some (none, mk A' J τ) ∧ PsA A' (sdF S) ∧ RcA A' (b + 1) (updN R b (4, sdF S)) ∧ A' 8 10 = nI (stl + 1) ∧ (∀ a k, a ≠ 11 → a ≠ 12 → ¬ (a = 8 ∧ k = 10) → ¬ (18 ≤ a ∧ a ≤ 23) → A' a k = A a k) := by
  have key : ∀ m j (A : Nat → Nat → Int32) (T : PS), j + m = 6 → PsA A T → (∀ p, p < j → T p = sdS (S p)) → (∀ p, j ≤ p → T p = S p) → A 8 6 = nI N → RcA A b R → A 8 10 = nI stl → ∃ A', R_128 2 [(0, .ref 7), (1, .int (nI b)), (2, .int (nI j))] [] (mk A J τ) = some (none, mk A' J τ) ∧ PsA A' (sdF S) ∧ RcA A' (b + 1) (updN R b (4, sdF S)) ∧ A' 8 10 = nI (stl + 1) ∧ (∀ a k, a ≠ 11 → a ≠ 12 → ¬ (a = 8 ∧ k = 10) → ¬ (18 ≤ a ∧ a ≤ 23) → A' a k = A a k) := by
    intro m
    induction m with
    | zero =>
      intro j A T hj hP t1 t2 h86 hR hs
      have hP' : PsA A (sdF S) := fun p hp => by
        have := hP p hp
        rw [t1 p (by omega)] at this
        exact this
      obtain ⟨A', g1, g2, g3, g4⟩ := c_127 (J := J) (τ := τ) (mo := 4) hP' (fun p hp => ⟨(hS p hp).1, (hS p hp).2.1, (hS p hp).2.2.1, (hS p hp).2.2.2.1, by show 0 < 256; omega⟩) h86 hN hb (by omega) hR hs
      have g1' : F_127 [.ref 8, .int (nI b), .int 4, .ref 14] (mk A J τ) = some (none, mk A' J τ) := g1
      rw [if_pos rfl] at g3
      refine ⟨A', ?_, hP'.tr (fun a k u v => g4 a k (by omega) (by omega) (by omega)), g2, g3, fun a k u v w z => g4 a k u v w⟩
      rw [e_128_2]
      simp (disch := first | omega | (simp (disch := omega) only [n_ti, Int32.reduceToInt] <;> omega)) only [g1', e_128_37, n_add, nl_add, nr_add, n_mul, nl_mul, nr_mul, n_sub, nr_dec, n_div, nr_sub_1, nr_sub_2, nr_sub_3, nr_sub_4, nr_sub_7, nr_sub_10, nr_sub_11, nr_sub_20, nr_sub_48, nr_sub_97, nl_sub_3, nl_sub_4, nl_sub_12, nl_sub_24, nl_sub_32, nr_div_2, nr_div_4, z_lt, z_le, z_eq, z_cl, n_ti, Int.toNat_natCast, Int32.reduceToInt, Int32.reduceToNatClampNeg, zc_add, zc_sub, zc_add_1, zc_add_2, zc_add_3, zc_add_4, zc_add_8, zc_add_10, zc_add_12, zc_add_16, zc_add_20, zc_sub_1, zc_sub_2, zc_sub_4, zc_sub_10, zc_sub_20, zc_sub_48, zc_sub_97, zc_mul_4, t_ltZ, f_ltZ, t_leZ, f_leZ, t_eqZ, f_eqZ, t_ltN, f_ltN, t_leN, f_leN, t_eqN, f_eqN, ↓reduceIte, and_true, true_and, and_false, false_and, and_self, or_true, true_or, or_false, false_or, or_self, not_true_eq_false, not_false_eq_true, tu_same, tu_eq, tu_ne, b_V, b_I, b_J]
    | succ m ih =>
      intro j A T hj hP t1 t2 h86 hR hs
      have hp : j < 6 := by omega
      have k1 := j_1 hp τ
      have k2 := j_2 hp
      obtain ⟨h0, h1, h2, h3, h4, h5, h6⟩ := hP j hp
      rw [t2 j (Nat.le_refl _)] at h0 h1 h2 h3 h4 h5 h6
      obtain ⟨A', g1, g2, g3, g4, g5⟩ := ih (j + 1) (tm_u A (18 + j) 6 0) (updN T j (sdS (S j))) (by omega) (hP.up (fun a k u v z => by simp (disch := omega) only [tu_same, tu_eq, tu_ne]) ⟨by simp (disch := omega) only [tu_same, tu_eq, tu_ne]; exact h0, by simp (disch := omega) only [tu_same, tu_eq, tu_ne]; exact h1, by simp (disch := omega) only [tu_same, tu_eq, tu_ne]; exact h2, by simp (disch := omega) only [tu_same, tu_eq, tu_ne]; exact h3, by simp (disch := omega) only [tu_same, tu_eq, tu_ne]; exact h4, by simp (disch := omega) only [tu_same, tu_eq, tu_ne]; exact h5, by simp (disch := omega) only [tu_same, tu_eq, tu_ne]; rfl⟩) (fun p hp' => by
        by_cases e : p = j
        · subst e; rw [updN_s]
        · rw [updN_n _ _ e]; exact t1 p (by omega)) (fun p hp' => by rw [updN_n _ _ (by omega)]; exact t2 p (by omega)) (by simp (disch := omega) only [h86, tu_same, tu_eq, tu_ne]) (hR.tr (fun a k u => by simp (disch := omega) only [tu_same, tu_eq, tu_ne])) (by simp (disch := omega) only [hs, tu_same, tu_eq, tu_ne])
      refine ⟨A', ?_, g2, g3, g4, fun a k u v w z => ?_⟩
      · rw [← g1, e_128_2]
        simp (disch := first | omega | (simp (disch := omega) only [n_ti, Int32.reduceToInt] <;> omega)) only [k1, k2, n_add, nl_add, nr_add, n_mul, nl_mul, nr_mul, n_sub, nr_dec, n_div, nr_sub_1, nr_sub_2, nr_sub_3, nr_sub_4, nr_sub_7, nr_sub_10, nr_sub_11, nr_sub_20, nr_sub_48, nr_sub_97, nl_sub_3, nl_sub_4, nl_sub_12, nl_sub_24, nl_sub_32, nr_div_2, nr_div_4, z_lt, z_le, z_eq, z_cl, n_ti, Int.toNat_natCast, Int32.reduceToInt, Int32.reduceToNatClampNeg, zc_add, zc_sub, zc_add_1, zc_add_2, zc_add_3, zc_add_4, zc_add_8, zc_add_10, zc_add_12, zc_add_16, zc_add_20, zc_sub_1, zc_sub_2, zc_sub_4, zc_sub_10, zc_sub_20, zc_sub_48, zc_sub_97, zc_mul_4, t_ltZ, f_ltZ, t_leZ, f_leZ, t_eqZ, f_eqZ, t_ltN, f_ltN, t_leN, f_leN, t_eqN, f_eqN, ↓reduceIte, and_true, true_and, and_false, false_and, and_self, or_true, true_or, or_false, false_or, or_self, not_true_eq_false, not_false_eq_true, tu_same, tu_eq, tu_ne, b_V, b_I, b_J]
      · rw [g5 a k u v w z]
        simp (disch := omega) only [tu_same, tu_eq, tu_ne]
  rw [e_128]
  exact key 6 0 A S (by omega) h (fun p hp => by omega) (fun p hp => rfl) h86 hR hs
def brP (D : Nat → TD) (b : Nat) (S : PS) : Bool := anyF (toQ D b (moP D b S) (stF D b S 0)) 6 0 || (decide (haP (moP D b S) (stF D b S 0) ≠ 0) || anyF (htP (moP D b S) (stF D b S 0)) 6 0)
def mlP (D : Nat → TD) (b : Nat) (S : PS) (l : ML) : ML := if anyF (toQ D b (moP D b S) (stF D b S 0)) 6 0 = true then adM l (b, 7, fiP S - 1) else if haP (moP D b S) (stF D b S 0) ≠ 0 then adM l (b, 8, haP (moP D b S) (stF D b S 0) - 1) else feF (moP D b S) b (stF D b S 0) 6 0 l
def s2P (D : Nat → TD) (b : Nat) (S : PS) (l : DL) : PS × DL := if brP D b S = true then (fun p => if 0 ≤ p then bkS (stF D b S 0 p) else stF D b S 0 p, l) else enF D b 6 0 (stF D b S 0, l)
def s3P (D : Nat → TD) (b : Nat) (S : PS) (E : ES) (l : DL) : PS × ES := chA ((s2P D b S l).1, E)
theorem mo_le {n b : Nat} {D : Nat → TD} {S : PS} (hS : SOk n D b S) (hD : DOk n D) : moP D b S ≤ 3 := by
  unfold moP
  rcases fstF_P (itP S) 6 0 with ⟨e, -⟩ | ⟨i, e, i1, i2, i3, -⟩
  · have e' : fiP S = 0 := e
    rw [e', if_pos rfl]; omega
  · have e' : fiP S = i + 1 := e
    rw [e', if_neg (by omega)]
    exact (wm_le (hS i (by omega)) hD (of_decide_eq_true i3)).1
theorem st_ok {n b : Nat} {D : Nat → TD} {S : PS} (hS : SOk n D b S) (hD : DOk n D) : SOk n D b (stF D b S 0) := fun p hp => by
  unfold stF
  rw [if_pos (Nat.zero_le _)]
  exact (stS_ok (hS p hp) hD).1
theorem fi_st {D : Nat → TD} {b : Nat} {S : PS} : fiP (stF D b S 0) = fiP S := by
  have e : itP (stF D b S 0) = itP S := by
    funext p
    unfold itP stF stS
    rw [if_pos (Nat.zero_le _)]
    by_cases c : pW (S p) = 1
    · rw [if_pos c]
      by_cases d : pT (S p) = 0
      · rw [if_pos d]
      · rw [if_neg d]
    · rw [if_neg c]
  unfold fiP
  rw [e]
/-- what a BEAT may change (class) -/
def fRn (A A' : Nat → Nat → Int32) : Prop := ∀ a k, ¬ (a = 7 ∧ k = 5) → ¬ (a = 8 ∧ 7 ≤ k) → ¬ (9 ≤ a ∧ a ≤ 13) → ¬ (15 ≤ a ∧ a ≤ 23) → A' a k = A a k
set_option maxHeartbeats 2000000 in
theorem c_143 {A : Nat → Nat → Int32} {J : Nat → Nat → Int64} {τ : tm_Tu} {cb n b N stl c : Nat} {D : Nat → TD} {S : PS} {E : ES} {m : ML} {l : DL} {R : Nat → Nat × PS} (h : PsA A S) (hE : EnA A E) (hM : MsA A m) (hL : DnA A l) (hR : RcA A b R) (hs : A 8 10 = nI stl) (hS : SOk n D b S) (hB : EBd E) (hn : n ≤ 12) (hb : isB cb) (hD : DOk n D) (hA : BkA A cb n D) (h86 : A 8 6 = nI N) (hN : N ≤ 200) (hbN : b < N) (hm : m.1 < 80000) (hl : lBd l c) (hc : c ≤ 20000) (hpk : ∀ p, p < 6 → pkOk ((s3P D b S E l).1 p)) : ∃ A', F_143 [.ref 7, .ref cb, .int (nI b)] (mk A J τ) = some (some (.int (b2 (brP D b S))), mk A' J τ) ∧ PsA A' (s3P D b S E l).1 ∧ EnA A' (s3P D b S E l).2 ∧ MsA A' (mlP D b S m) ∧ DnA A' (s2P D b S l).2 ∧ RcA A' (b + 1) (updN R b (moP D b S, (s3P D b S E l).1)) ∧ A' 8 10 = nI stl ∧ A' 7 5 = nI (moP D b S) ∧ fRn A A' := by
  have hb43 : 43 ≤ cb := by unfold isB at hb; omega
  have hmo := mo_le hS hD
  have hS1 := st_ok hS hD
  have f129 := c_129 (J := J) (τ := τ) h hS hn
  have f130 := c_130m (J := J) (τ := τ) h hS hn hb hD hA (show b ≤ 1000 by omega)
  obtain ⟨A1, a1, a2, a3⟩ := c_133 (J := J) (τ := τ) hn hb hD (show b ≤ 1000 by omega) 6 0 A S (by omega) h (fun p hp _ => hS p hp) hA
  have f133 : F_133 [.ref 7, .ref cb, .int (nI b)] (mk A J τ) = some (none, mk A1 J τ) := by rw [e_133]; exact a1
  obtain ⟨mo, emo⟩ : ∃ x, x = moP D b S := ⟨_, rfl⟩
  obtain ⟨S1, eS1⟩ : ∃ x, x = stF D b S 0 := ⟨_, rfl⟩
  unfold brP mlP s3P s2P brP at *
  rw [← emo] at f130 hmo hpk ⊢
  rw [← eS1] at a2 hS1 hpk ⊢
  have hA1 : BkA A1 cb n D := hA.tr hn (fun a k u v => a3 a k (by omega))
  have hM1 : MsA A1 m := hM.tr (fun a k u => a3 a k (by omega))
  have hfi : fiP S1 = fiP S := by rw [eS1]; exact fi_st
  have pre : F_143 [.ref 7, .ref cb, .int (nI b)] (mk A J τ) = R_143 20 [(0, .ref 7), (1, .ref cb), (2, .int (nI b)), (3, .int (tI (fiP S))), (4, .int (nI mo))] [] (mk A1 J τ) := by
    rw [e_143]
    simp (disch := first | omega | (simp (disch := omega) only [n_ti, Int32.reduceToInt] <;> omega)) only [f129, e_143_4, f130, e_143_12, f133, n_add, nl_add, nr_add, n_mul, nl_mul, nr_mul, n_sub, nr_dec, n_div, nr_sub_1, nr_sub_2, nr_sub_3, nr_sub_4, nr_sub_7, nr_sub_10, nr_sub_11, nr_sub_20, nr_sub_48, nr_sub_97, nl_sub_3, nl_sub_4, nl_sub_12, nl_sub_24, nl_sub_32, nr_div_2, nr_div_4, z_lt, z_le, z_eq, z_cl, n_ti, Int.toNat_natCast, Int32.reduceToInt, Int32.reduceToNatClampNeg, zc_add, zc_sub, zc_add_1, zc_add_2, zc_add_3, zc_add_4, zc_add_8, zc_add_10, zc_add_12, zc_add_16, zc_add_20, zc_sub_1, zc_sub_2, zc_sub_4, zc_sub_10, zc_sub_20, zc_sub_48, zc_sub_97, zc_mul_4, t_ltZ, f_ltZ, t_leZ, f_leZ, t_eqZ, f_eqZ, t_ltN, f_ltN, t_leN, f_leN, t_eqN, f_eqN, ↓reduceIte, and_true, true_and, and_false, false_and, and_self, or_true, true_or, or_false, false_or, or_self, not_true_eq_false, not_false_eq_true, tu_same, tu_eq, tu_ne, b_V, b_I, b_J]
  -- the misses
  have miss : ∃ A2, F_143 [.ref 7, .ref cb, .int (nI b)] (mk A J τ) = R_143 57 [(0, .ref 7), (1, .ref cb), (2, .int (nI b)), (4, .int (nI mo))] [.int (b2 (anyF (toQ D b mo S1) 6 0 || (decide (haP mo S1 ≠ 0) || anyF (htP mo S1) 6 0)))] (mk A2 J τ) ∧ MsA A2 (if anyF (toQ D b mo S1) 6 0 = true then adM m (b, 7, fiP S - 1) else if haP mo S1 ≠ 0 then adM m (b, 8, haP mo S1 - 1) else feF mo b S1 6 0 m) ∧ fMi A1 A2 := by
    have t134 : ∃ A2, F_134 [.ref 7, .ref cb, .int (tI (fiP S)), .int (nI mo), .int (nI b)] (mk A1 J τ) = some (some (.int (b2 (anyF (toQ D b mo S1) 6 0))), mk A2 J τ) ∧ MsA A2 (if anyF (toQ D b mo S1) 6 0 = true then adM m (b, 7, fiP S - 1) else m) ∧ fMi A1 A2 := by
      by_cases z : fiP S = 0
      · have f := c_134n (J := J) (τ := τ) (cb := cb) (b := b) (mo := mo) (x := tI (fiP S)) a2 hS1 hn (hfi.trans z)
        have e : anyF (toQ D b mo S1) 6 0 = false := anyF_f.mpr (fun i u v => by
          rcases fstF_P (itP S1) 6 0 with ⟨-, e⟩ | ⟨i', e, -⟩
          · exact and_f1 (e i u v)
          · have : fstF (itP S1) 6 0 = 0 := hfi.trans z
            omega)
        rw [e]
        exact ⟨A1, f, hM1, fun _ _ _ _ => rfl⟩
      · rw [tI_s z]
        exact c_134 (J := J) (τ := τ) (f := fiP S - 1) a2 hS1 hn hb hD hA1 (by omega) hmo hM1 (by omega)
    obtain ⟨A2, g1, g2, g3⟩ := t134
    cases ht : anyF (toQ D b mo S1) 6 0 with
    | true =>
      rw [ht, b2t] at g1
      rw [ht] at g2
      refine ⟨A2, ?_, g2, g3⟩
      rw [pre, e_143_20, Bool.true_or, b2t]
      simp (disch := first | omega | (simp (disch := omega) only [n_ti, Int32.reduceToInt] <;> omega)) only [g1, e_143_29, e_143_52, n_add, nl_add, nr_add, n_mul, nl_mul, nr_mul, n_sub, nr_dec, n_div, nr_sub_1, nr_sub_2, nr_sub_3, nr_sub_4, nr_sub_7, nr_sub_10, nr_sub_11, nr_sub_20, nr_sub_48, nr_sub_97, nl_sub_3, nl_sub_4, nl_sub_12, nl_sub_24, nl_sub_32, nr_div_2, nr_div_4, z_lt, z_le, z_eq, z_cl, n_ti, Int.toNat_natCast, Int32.reduceToInt, Int32.reduceToNatClampNeg, zc_add, zc_sub, zc_add_1, zc_add_2, zc_add_3, zc_add_4, zc_add_8, zc_add_10, zc_add_12, zc_add_16, zc_add_20, zc_sub_1, zc_sub_2, zc_sub_4, zc_sub_10, zc_sub_20, zc_sub_48, zc_sub_97, zc_mul_4, t_ltZ, f_ltZ, t_leZ, f_leZ, t_eqZ, f_eqZ, t_ltN, f_ltN, t_leN, f_leN, t_eqN, f_eqN, ↓reduceIte, and_true, true_and, and_false, false_and, and_self, or_true, true_or, or_false, false_or, or_self, not_true_eq_false, not_false_eq_true, tu_same, tu_eq, tu_ne, b_V, b_I, b_J]
    | false =>
      rw [ht, b2f] at g1
      rw [ht] at g2
      rw [if_neg Bool.false_ne_true] at g2 ⊢
      rw [Bool.false_or]
      have a2' : PsA A2 S1 := a2.tr (fun a k u v => g3 a k (by omega) (by omega))
      obtain ⟨A3, p1, p2, p3⟩ := c_135 (J := J) (τ := τ) (b := b) a2' hS1 hmo g2 (by omega)
      by_cases hh : haP mo S1 ≠ 0
      · have e : b2 (decide (haP mo S1 ≠ 0)) = 1 := by rw [decide_eq_true hh]; rfl
        rw [e] at p1
        rw [if_pos hh] at p2 ⊢
        refine ⟨A3, ?_, p2, fun a k u v => (p3 a k u v).trans (g3 a k u v)⟩
        rw [pre, e_143_20, decide_eq_true hh, Bool.true_or, b2t]
        simp (disch := first | omega | (simp (disch := omega) only [n_ti, Int32.reduceToInt] <;> omega)) only [g1, e_143_29, p1, e_143_39, e_143_52, n_add, nl_add, nr_add, n_mul, nl_mul, nr_mul, n_sub, nr_dec, n_div, nr_sub_1, nr_sub_2, nr_sub_3, nr_sub_4, nr_sub_7, nr_sub_10, nr_sub_11, nr_sub_20, nr_sub_48, nr_sub_97, nl_sub_3, nl_sub_4, nl_sub_12, nl_sub_24, nl_sub_32, nr_div_2, nr_div_4, z_lt, z_le, z_eq, z_cl, n_ti, Int.toNat_natCast, Int32.reduceToInt, Int32.reduceToNatClampNeg, zc_add, zc_sub, zc_add_1, zc_add_2, zc_add_3, zc_add_4, zc_add_8, zc_add_10, zc_add_12, zc_add_16, zc_add_20, zc_sub_1, zc_sub_2, zc_sub_4, zc_sub_10, zc_sub_20, zc_sub_48, zc_sub_97, zc_mul_4, t_ltZ, f_ltZ, t_leZ, f_leZ, t_eqZ, f_eqZ, t_ltN, f_ltN, t_leN, f_leN, t_eqN, f_eqN, ↓reduceIte, and_true, true_and, and_false, false_and, and_self, or_true, true_or, or_false, false_or, or_self, not_true_eq_false, not_false_eq_true, tu_same, tu_eq, tu_ne, b_V, b_I, b_J]
      · have e : b2 (decide (haP mo S1 ≠ 0)) = 0 := by rw [decide_eq_false hh]; rfl
        rw [e] at p1
        rw [if_neg hh] at p2 ⊢
        rw [decide_eq_false hh, Bool.false_or]
        obtain ⟨A4, q1, q2, q3⟩ := c_137 (J := J) (τ := τ) (b := b) hS1 hmo 6 0 A3 m false (by omega) (a2'.tr (fun a k u v => p3 a k (by omega) (by omega))) p2 (by omega)
        have f137 : F_137 [.ref 7, .int (nI mo), .int (nI b)] (mk A3 J τ) = some (some (.int (b2 (anyF (htP mo S1) 6 0))), mk A4 J τ) := by
          rw [e_137]
          rw [Bool.false_or] at q1
          exact q1
        refine ⟨A4, ?_, q2, fun a k u v => (q3 a k u v).trans ((p3 a k u v).trans (g3 a k u v))⟩
        rw [pre, e_143_20]
        cases hf : anyF (htP mo S1) 6 0 with
        | true =>
          rw [hf, b2t] at f137
          rw [b2t]
          simp (disch := first | omega | (simp (disch := omega) only [n_ti, Int32.reduceToInt] <;> omega)) only [g1, e_143_29, p1, e_143_39, f137, e_143_49, e_143_52, n_add, nl_add, nr_add, n_mul, nl_mul, nr_mul, n_sub, nr_dec, n_div, nr_sub_1, nr_sub_2, nr_sub_3, nr_sub_4, nr_sub_7, nr_sub_10, nr_sub_11, nr_sub_20, nr_sub_48, nr_sub_97, nl_sub_3, nl_sub_4, nl_sub_12, nl_sub_24, nl_sub_32, nr_div_2, nr_div_4, z_lt, z_le, z_eq, z_cl, n_ti, Int.toNat_natCast, Int32.reduceToInt, Int32.reduceToNatClampNeg, zc_add, zc_sub, zc_add_1, zc_add_2, zc_add_3, zc_add_4, zc_add_8, zc_add_10, zc_add_12, zc_add_16, zc_add_20, zc_sub_1, zc_sub_2, zc_sub_4, zc_sub_10, zc_sub_20, zc_sub_48, zc_sub_97, zc_mul_4, t_ltZ, f_ltZ, t_leZ, f_leZ, t_eqZ, f_eqZ, t_ltN, f_ltN, t_leN, f_leN, t_eqN, f_eqN, ↓reduceIte, and_true, true_and, and_false, false_and, and_self, or_true, true_or, or_false, false_or, or_self, not_true_eq_false, not_false_eq_true, tu_same, tu_eq, tu_ne, b_V, b_I, b_J]
        | false =>
          rw [hf, b2f] at f137
          rw [b2f]
          simp (disch := first | omega | (simp (disch := omega) only [n_ti, Int32.reduceToInt] <;> omega)) only [g1, e_143_29, p1, e_143_39, f137, e_143_49, n_add, nl_add, nr_add, n_mul, nl_mul, nr_mul, n_sub, nr_dec, n_div, nr_sub_1, nr_sub_2, nr_sub_3, nr_sub_4, nr_sub_7, nr_sub_10, nr_sub_11, nr_sub_20, nr_sub_48, nr_sub_97, nl_sub_3, nl_sub_4, nl_sub_12, nl_sub_24, nl_sub_32, nr_div_2, nr_div_4, z_lt, z_le, z_eq, z_cl, n_ti, Int.toNat_natCast, Int32.reduceToInt, Int32.reduceToNatClampNeg, zc_add, zc_sub, zc_add_1, zc_add_2, zc_add_3, zc_add_4, zc_add_8, zc_add_10, zc_add_12, zc_add_16, zc_add_20, zc_sub_1, zc_sub_2, zc_sub_4, zc_sub_10, zc_sub_20, zc_sub_48, zc_sub_97, zc_mul_4, t_ltZ, f_ltZ, t_leZ, f_leZ, t_eqZ, f_eqZ, t_ltN, f_ltN, t_leN, f_leN, t_eqN, f_eqN, ↓reduceIte, and_true, true_and, and_false, false_and, and_self, or_true, true_or, or_false, false_or, or_self, not_true_eq_false, not_false_eq_true, tu_same, tu_eq, tu_ne, b_V, b_I, b_J]
  obtain ⟨A2, m1, m2, m3⟩ := miss
  obtain ⟨br, ebr⟩ : ∃ x, x = (anyF (toQ D b mo S1) 6 0 || (decide (haP mo S1 ≠ 0) || anyF (htP mo S1) 6 0)) := ⟨_, rfl⟩
  rw [← ebr] at m1 hpk ⊢
  have a2' : PsA A2 S1 := a2.tr (fun a k u v => m3 a k (by omega) (by omega))
  have hL2 : DnA A2 l := hL.tr (fun a k u => by rw [m3 a k (by omega) (by omega)]; exact a3 a k (by omega))
  have hA2 : BkA A2 cb n D := hA1.tr hn (fun a k u v => m3 a k (by omega) (by omega))
  -- breaking off, or ends of tricks
  have mid : ∃ A3, F_143 [.ref 7, .ref cb, .int (nI b)] (mk A J τ) = R_143 77 [(0, .ref 7), (2, .int (nI b)), (4, .int (nI mo)), (5, .int (b2 br))] [] (mk A3 J τ) ∧ PsA A3 (if br = true then (fun p => if 0 ≤ p then bkS (S1 p) else S1 p, l) else enF D b 6 0 (S1, l)).1 ∧ DnA A3 (if br = true then (fun p => if 0 ≤ p then bkS (S1 p) else S1 p, l) else enF D b 6 0 (S1, l)).2 ∧ (∀ a k, ¬ (18 ≤ a ∧ a ≤ 23) → ¬ (a = 8 ∧ (k = 8 ∨ k = 9)) → a ≠ 10 → a ≠ 13 → A3 a k = A2 a k) := by
    cases hbr : br with
    | true =>
      rw [if_pos rfl]
      obtain ⟨A3, p1, p2, p3⟩ := c_138 (J := J) (τ := τ) 6 0 A2 S1 (by omega) a2'
      have f138 : F_138 [.ref 7] (mk A2 J τ) = some (none, mk A3 J τ) := by rw [e_138]; exact p1
      refine ⟨A3, ?_, p2, hL2.tr (fun a k u => p3 a k (by omega)), fun a k u v w z => p3 a k u⟩
      rw [m1, hbr, b2t, e_143_57]
      simp (disch := first | omega | (simp (disch := omega) only [n_ti, Int32.reduceToInt] <;> omega)) only [f138, e_143_68, n_add, nl_add, nr_add, n_mul, nl_mul, nr_mul, n_sub, nr_dec, n_div, nr_sub_1, nr_sub_2, nr_sub_3, nr_sub_4, nr_sub_7, nr_sub_10, nr_sub_11, nr_sub_20, nr_sub_48, nr_sub_97, nl_sub_3, nl_sub_4, nl_sub_12, nl_sub_24, nl_sub_32, nr_div_2, nr_div_4, z_lt, z_le, z_eq, z_cl, n_ti, Int.toNat_natCast, Int32.reduceToInt, Int32.reduceToNatClampNeg, zc_add, zc_sub, zc_add_1, zc_add_2, zc_add_3, zc_add_4, zc_add_8, zc_add_10, zc_add_12, zc_add_16, zc_add_20, zc_sub_1, zc_sub_2, zc_sub_4, zc_sub_10, zc_sub_20, zc_sub_48, zc_sub_97, zc_mul_4, t_ltZ, f_ltZ, t_leZ, f_leZ, t_eqZ, f_eqZ, t_ltN, f_ltN, t_leN, f_leN, t_eqN, f_eqN, ↓reduceIte, and_true, true_and, and_false, false_and, and_self, or_true, true_or, or_false, false_or, or_self, not_true_eq_false, not_false_eq_true, tu_same, tu_eq, tu_ne, b_V, b_I, b_J]
    | false =>
      rw [if_neg Bool.false_ne_true]
      obtain ⟨A3, p1, p2, p3, p4⟩ := c_141 (J := J) (τ := τ) hn hb hD (show b ≤ 1000 by omega) 6 0 A2 S1 l (by omega) a2' (fun p hp _ => hS1 p hp) hA2 hL2 (hl.le (by omega))
      have f141 : F_141 [.ref 7, .ref cb, .int (nI b)] (mk A2 J τ) = some (none, mk A3 J τ) := by rw [e_141]; exact p1
      refine ⟨A3, ?_, p2, p3, p4⟩
      rw [m1, hbr, b2f, e_143_57]
      simp (disch := first | omega | (simp (disch := omega) only [n_ti, Int32.reduceToInt] <;> omega)) only [f141, n_add, nl_add, nr_add, n_mul, nl_mul, nr_mul, n_sub, nr_dec, n_div, nr_sub_1, nr_sub_2, nr_sub_3, nr_sub_4, nr_sub_7, nr_sub_10, nr_sub_11, nr_sub_20, nr_sub_48, nr_sub_97, nl_sub_3, nl_sub_4, nl_sub_12, nl_sub_24, nl_sub_32, nr_div_2, nr_div_4, z_lt, z_le, z_eq, z_cl, n_ti, Int.toNat_natCast, Int32.reduceToInt, Int32.reduceToNatClampNeg, zc_add, zc_sub, zc_add_1, zc_add_2, zc_add_3, zc_add_4, zc_add_8, zc_add_10, zc_add_12, zc_add_16, zc_add_20, zc_sub_1, zc_sub_2, zc_sub_4, zc_sub_10, zc_sub_20, zc_sub_48, zc_sub_97, zc_mul_4, t_ltZ, f_ltZ, t_leZ, f_leZ, t_eqZ, f_eqZ, t_ltN, f_ltN, t_leN, f_leN, t_eqN, f_eqN, ↓reduceIte, and_true, true_and, and_false, false_and, and_self, or_true, true_or, or_false, false_or, or_self, not_true_eq_false, not_false_eq_true, tu_same, tu_eq, tu_ne, b_V, b_I, b_J]
  obtain ⟨A3, n1, n2, n3, n4⟩ := mid
  obtain ⟨X2, eX2⟩ : ∃ x, x = (if br = true then (fun p => if 0 ≤ p then bkS (S1 p) else S1 p, l) else enF D b 6 0 (S1, l)) := ⟨_, rfl⟩
  rw [← eX2] at n2 n3 hpk ⊢
  have hE3 : EnA A3 E := hE.tr (fun a k u v => by rw [n4 a k (by omega) (by omega) (by omega) (by omega), m3 a k (by omega) (by omega)]; exact a3 a k (by omega))
  obtain ⟨A4, o1, o2, o3, o4⟩ := c_142 (J := J) (τ := τ) n2 hE3 hB
  have F4 : ∀ a k, ¬ (15 ≤ a ∧ a ≤ 23) → ¬ (a = 8 ∧ (k = 7 ∨ k = 8 ∨ k = 9)) → a ≠ 9 → a ≠ 10 → a ≠ 13 → A4 a k = A a k := fun a k u1 u2 u3 u4 u5 => by
    rw [o4 a k u1, n4 a k (by omega) (by omega) u4 u5, m3 a k (by omega) u3]
    exact a3 a k (by omega)
  obtain ⟨A5, r1, r2, r3, r4⟩ := c_127 (J := J) (τ := τ) (N := N) (mo := mo) (stl := stl) o2 hpk ((F4 _ _ (by omega) (by omega) (by omega) (by omega) (by omega)).trans h86) hN hbN (by omega) (hR.tr (fun a k u => F4 a k (by omega) (by omega) (by omega) (by omega) (by omega))) ((F4 _ _ (by omega) (by omega) (by omega) (by omega) (by omega)).trans hs)
  rw [if_neg (show ¬ mo = 4 by omega)] at r3
  refine ⟨tm_u A5 7 5 (nI mo), ?_, ?_, ?_, ?_, ?_, ?_, ?_, ?_, ?_⟩
  · have hbb : b2 br = 0 ∨ b2 br = 1 := by
      cases br
      · exact Or.inl rfl
      · exact Or.inr rfl
    rw [n1, e_143_77]
    rcases hbb with e | e <;> rw [e] <;> simp (disch := first | omega | (simp (disch := omega) only [n_ti, Int32.reduceToInt] <;> omega)) only [o1, e_143_81, r1, e_143_95, n_add, nl_add, nr_add, n_mul, nl_mul, nr_mul, n_sub, nr_dec, n_div, nr_sub_1, nr_sub_2, nr_sub_3, nr_sub_4, nr_sub_7, nr_sub_10, nr_sub_11, nr_sub_20, nr_sub_48, nr_sub_97, nl_sub_3, nl_sub_4, nl_sub_12, nl_sub_24, nl_sub_32, nr_div_2, nr_div_4, z_lt, z_le, z_eq, z_cl, n_ti, Int.toNat_natCast, Int32.reduceToInt, Int32.reduceToNatClampNeg, zc_add, zc_sub, zc_add_1, zc_add_2, zc_add_3, zc_add_4, zc_add_8, zc_add_10, zc_add_12, zc_add_16, zc_add_20, zc_sub_1, zc_sub_2, zc_sub_4, zc_sub_10, zc_sub_20, zc_sub_48, zc_sub_97, zc_mul_4, t_ltZ, f_ltZ, t_leZ, f_leZ, t_eqZ, f_eqZ, t_ltN, f_ltN, t_leN, f_leN, t_eqN, f_eqN, ↓reduceIte, and_true, true_and, and_false, false_and, and_self, or_true, true_or, or_false, false_or, or_self, not_true_eq_false, not_false_eq_true, tu_same, tu_eq, tu_ne, b_V, b_I, b_J]
  · exact o2.tr (fun a k u v => by simp (disch := omega) only [tu_same, tu_eq, tu_ne]; exact r4 a k (by omega) (by omega) (by omega))
  · exact o3.tr (fun a k u v => by simp (disch := omega) only [tu_same, tu_eq, tu_ne]; exact r4 a k (by omega) (by omega) (by omega))
  · exact m2.tr (fun a k u => by simp (disch := omega) only [tu_same, tu_eq, tu_ne]; rw [r4 a k (by omega) (by omega) (by omega), o4 a k (by omega), n4 a k (by omega) (by omega) (by omega) (by omega)])
  · exact n3.tr (fun a k u => by simp (disch := omega) only [tu_same, tu_eq, tu_ne]; rw [r4 a k (by omega) (by omega) (by omega), o4 a k (by omega)])
  · exact r2.tr (fun a k u => by simp (disch := omega) only [tu_same, tu_eq, tu_ne])
  · simp (disch := omega) only [tu_same, tu_eq, tu_ne]
    exact r3
  · simp (disch := omega) only [tu_same, tu_eq, tu_ne]
  · intro a k u1 u2 u3 u4
    simp (disch := omega) only [tu_same, tu_eq, tu_ne]
    rw [r4 a k (by omega) (by omega) (by omega)]
    exact F4 a k u4 (by omega) (by omega) (by omega) (by omega)
