/-! JOINED: sets of STANDS, four in a long; sums of tricks by halves (class) -/
def stJ (J : Nat → Nat → Int64) (s : Nat) : Nat := dg (J 25 (s / 4)) (16 * (s % 4)) 16
theorem stJ_lt (J : Nat → Nat → Int64) (s : Nat) : stJ J s < 65536 := dg_lt _ _ 16
theorem s_255 {A : Nat → Nat → Int32} {J : Nat → Nat → Int64} {τ : tm_Tu} {s : Nat} (hs : s < 4096) : F_255 [.ref 24, .int (nI s)] (mk A J τ) = some (some (.int (nI (stJ J s))), mk A J τ) := by
  have e : s - s / 4 * 4 = s % 4 := by omega
  have r : (J 25 (s / 4) >>> ((nI (16 * (s % 4))).toInt64 &&& 63)).toInt32 &&& 65535 = nI (stJ J s) := dg_rd (J 25 (s / 4)) (k := 16 * (s % 4)) (w := 16) (by omega) (by omega) (by omega)
  rw [e_255]
  simp (disch := first | omega | (simp (disch := omega) only [n_ti, Int32.reduceToInt] <;> omega)) only [e, r, n_add, nl_add, nr_add, n_mul, nl_mul, nr_mul, n_sub, nr_dec, n_div, nr_sub_1, nr_sub_2, nr_sub_3, nr_sub_4, nr_sub_7, nr_sub_10, nr_sub_11, nr_sub_20, nr_sub_48, nr_sub_97, nl_sub_3, nl_sub_4, nl_sub_12, nl_sub_24, nl_sub_32, nr_div_2, nr_div_4, z_lt, z_le, z_eq, z_cl, n_ti, Int.toNat_natCast, Int32.reduceToInt, Int32.reduceToNatClampNeg, zc_add, zc_sub, zc_add_1, zc_add_2, zc_add_3, zc_add_4, zc_add_8, zc_add_10, zc_add_12, zc_add_16, zc_add_20, zc_sub_1, zc_sub_2, zc_sub_4, zc_sub_10, zc_sub_20, zc_sub_48, zc_sub_97, zc_mul_4, t_ltZ, f_ltZ, t_leZ, f_leZ, t_eqZ, f_eqZ, t_ltN, f_ltN, t_leN, f_leN, t_eqN, f_eqN, ↓reduceIte, and_true, true_and, and_false, false_and, and_self, or_true, true_or, or_false, false_or, or_self, not_true_eq_false, not_false_eq_true, tu_same, tu_eq, tu_ne, b_V, b_I, b_J]
theorem s_254 {A : Nat → Nat → Int32} {J : Nat → Nat → Int64} {τ : tm_Tu} {s v : Nat} (hs : s < 4096) (hv : v < 65536) : ∃ J', F_254 [.ref 24, .int (nI s), .int (nI v)] (mk A J τ) = some (none, mk A J' τ) ∧ stJ J' s = v ∧ (∀ s', s' ≠ s → stJ J' s' = stJ J s') ∧ (∀ a y, a ≠ 25 → J' a y = J a y) := by
  have e : s - s / 4 * 4 = s % 4 := by omega
  obtain ⟨u1, u2⟩ := st_wr (J 25 (s / 4)) (k := 16 * (s % 4)) (g := v) (by omega) hv
  refine ⟨tm_u J 25 (s / 4) ((J 25 (s / 4) &&& ((65535 <<< ((nI (16 * (s % 4))).toInt64 &&& 63)) ^^^ (-1))) ||| ((nI v).toInt64 <<< ((nI (16 * (s % 4))).toInt64 &&& 63))), ?_, ?_, fun s' hs' => ?_, fun a y h => tu_ne (by omega)⟩
  · rw [e_254]
    simp (disch := first | omega | (simp (disch := omega) only [n_ti, Int32.reduceToInt] <;> omega)) only [e, n_add, nl_add, nr_add, n_mul, nl_mul, nr_mul, n_sub, nr_dec, n_div, nr_sub_1, nr_sub_2, nr_sub_3, nr_sub_4, nr_sub_7, nr_sub_10, nr_sub_11, nr_sub_20, nr_sub_48, nr_sub_97, nl_sub_3, nl_sub_4, nl_sub_12, nl_sub_24, nl_sub_32, nr_div_2, nr_div_4, z_lt, z_le, z_eq, z_cl, n_ti, Int.toNat_natCast, Int32.reduceToInt, Int32.reduceToNatClampNeg, zc_add, zc_sub, zc_add_1, zc_add_2, zc_add_3, zc_add_4, zc_add_8, zc_add_10, zc_add_12, zc_add_16, zc_add_20, zc_sub_1, zc_sub_2, zc_sub_4, zc_sub_10, zc_sub_20, zc_sub_48, zc_sub_97, zc_mul_4, t_ltZ, f_ltZ, t_leZ, f_leZ, t_eqZ, f_eqZ, t_ltN, f_ltN, t_leN, f_leN, t_eqN, f_eqN, ↓reduceIte, and_true, true_and, and_false, false_and, and_self, or_true, true_or, or_false, false_or, or_self, not_true_eq_false, not_false_eq_true, tu_same, tu_eq, tu_ne, b_V, b_I, b_J]
  · unfold stJ
    rw [tu_same]
    exact u1
  · unfold stJ
    by_cases c : s' / 4 = s / 4
    · rw [c, tu_same]
      exact u2 (16 * (s' % 4)) (by omega) (by omega)
    · rw [tu_ne (by omega)]
def sm (A : Nat → Nat → Int32) (a s : Nat) : Int32 := A a (s % 64) + A a (64 + s / 64)
theorem sh_26 : ∀ a : Fin 28, 26 ≤ a.val → kdm a.val = 1 ∧ (tm_sh a.val).2 = 128 := by decide +kernel
theorem s_256 {A : Nat → Nat → Int32} {J : Nat → Nat → Int64} {τ : tm_Tu} {s a : Nat} (ha : a = 26 ∨ a = 27) (hs : s < 4096) : F_256 [.ref a, .int (nI s)] (mk A J τ) = some (some (.int (sm A a s)), mk A J τ) := by
  obtain ⟨k1, k2⟩ := sh_26 ⟨a, by omega⟩ (show 26 ≤ a by omega)
  dsimp only at k1 k2
  have d1 : nI s - nI s / 64 * 64 = nI (s % 64) := by
    have e : nI s / 64 * 64 = nI (s / 64 * 64) := by
      rw [nr_div_64 (by omega)]
      exact pk_mul (s / 64) 64
    rw [e, n_sub (by omega), show s - s / 64 * 64 = s % 64 by omega]
  have d2 : 64 + nI s / 64 = nI (64 + s / 64) := by rw [nr_div_64 (by omega), nl_add]
  have h1 : ¬ nI s < 0 := by rw [z_lt, n_ti (by omega)]; show ¬ ((s : Int) < 0); omega
  have h2 : ¬ 4096 ≤ nI s := by rw [show (4096 : Int32) = nI 4096 from rfl, n_le (by omega) (by omega)]; omega
  have h3 : ¬ a = 1 := by omega
  have h4 : 1 ≤ kdm a ∧ kdm a ≤ 6 := by omega
  have h5 : (128 : Int32) ≤ Int32.ofNat (tm_sh a).2 := by rw [k2]; decide
  have h6 : 0 ≤ nI (s % 64) ∧ (nI (s % 64)).toNatClampNeg < (tm_sh a).2 := ⟨nI_pos' (by omega), by rw [n_cl (by omega), k2]; omega⟩
  have h7 : 0 ≤ nI (64 + s / 64) ∧ (nI (64 + s / 64)).toNatClampNeg < (tm_sh a).2 := ⟨nI_pos' (by omega), by rw [n_cl (by omega), k2]; omega⟩
  rw [e_256, d1, d2, if_neg h1, if_neg h2, if_neg h3, if_pos h4, if_pos h5, if_neg h3, if_pos k1, if_pos h6, if_neg h3, if_pos k1, if_pos h7, n_cl (by omega), n_cl (by omega)]
  rfl
def hsm (f : Nat → Nat) (n off m : Nat) : Nat := wsum (fun t => if off + t < n then f (off + t) else 0) m 6
theorem wsum_n (f : Nat → Nat) (s n : Nat) : ∀ m, wsum (fun t => if t < n then f t else 0) s (n + m) = wsum f s n := by
  have h0 : ∀ k, k ≤ n → wsum (fun t => if t < n then f t else 0) s k = wsum f s k := by
    intro k
    induction k with
    | zero => intro _; rfl
    | succ k ih =>
      intro hk
      show wsum _ s k + (if s.testBit k = true then (if k < n then f k else 0) else 0) = wsum f s k + (if s.testBit k = true then f k else 0)
      rw [ih (by omega), if_pos (show k < n by omega)]
  intro m
  induction m with
  | zero => exact h0 n (Nat.le_refl _)
  | succ m ih =>
    show wsum _ s (n + m) + (if s.testBit (n + m) = true then (if n + m < n then f (n + m) else 0) else 0) = _
    rw [ih, if_neg (show ¬ n + m < n by omega)]
    split <;> rfl
theorem wsum_mod (g : Nat → Nat) (s : Nat) : ∀ k, k ≤ 6 → wsum g (s % 64) k = wsum g s k := by
  intro k
  induction k with
  | zero => intro _; rfl
  | succ k ih =>
    intro hk
    unfold wsum
    rw [ih (by omega), show (64 : Nat) = 2 ^ 6 from rfl, Nat.testBit_mod_two_pow]
    simp [show k < 6 by omega]
theorem wsum_hi (g : Nat → Nat) (s : Nat) : ∀ m, wsum g s (6 + m) = wsum g s 6 + wsum (fun t => g (6 + t)) (s / 64) m := by
  intro m
  induction m with
  | zero => rfl
  | succ m ih =>
    have e : (s / 64).testBit m = s.testBit (6 + m) := by
      show (s / 2 ^ 6).testBit m = _
      rw [Nat.testBit_div_two_pow, Nat.add_comm m 6]
    show wsum g s (6 + m) + (if s.testBit (6 + m) = true then g (6 + m) else 0) = wsum g s 6 + (wsum (fun t => g (6 + t)) (s / 64) m + (if (s / 64).testBit m = true then g (6 + m) else 0))
    rw [ih, e]
    omega
theorem wsum_hsm (f : Nat → Nat) {n : Nat} (s : Nat) (hn : n ≤ 12) : wsum f s n = hsm f n 0 (s % 64) + hsm f n 6 (s / 64) := by
  have h1 := wsum_n f s n (12 - n)
  rw [show n + (12 - n) = 6 + 6 by omega, wsum_hi, ← wsum_mod _ s 6 (by omega)] at h1
  unfold hsm
  simp only [Nat.zero_add]
  exact h1.symm
def Z0 (A : Nat → Nat → Int32) : Prop := ∀ a y, (a = 26 ∨ a = 27) → (y = 0 ∨ y = 64) → A a y = 0
theorem Z0.tr {A A' : Nat → Nat → Int32} (h : Z0 A) (f : ∀ a y, (a = 26 ∨ a = 27) → (y = 0 ∨ y = 64) → A' a y = A a y) : Z0 A' := fun a y u v => (f a y u v).trans (h a y u v)
def Hs (A : Nat → Nat → Int32) (n : Nat) (D : Nat → TD) (off pl m : Nat) : Prop := A 26 (pl + m) = nI (hsm (fun t => dW (D t)) n off m) ∧ A 27 (pl + m) = nI (hsm (fun t => dQ (D t)) n off m)
set_option maxHeartbeats 1000000 in
theorem s_253 {A : Nat → Nat → Int32} {J : Nat → Nat → Int64} {τ : tm_Tu} {n cb : Nat} {D : Nat → TD} (hn : n ≤ 12) (hb : isB cb) (hD : DOk n D) (hA : BkA A cb n D) (hz : Z0 A) (off pl : Nat) (ho : (off = 0 ∧ pl = 0) ∨ (off = 6 ∧ pl = 64)) : ∃ A', F_253 [.ref 24, .ref cb, .int (nI off), .int (nI pl)] (mk A J τ) = some (none, mk A' J τ) ∧ (∀ m, m < 64 → Hs A' n D off pl m) ∧ (∀ a y, ¬ ((a = 26 ∨ a = 27) ∧ pl < y ∧ y < pl + 64) → A' a y = A a y) := by
  obtain ⟨k1, k2, k3, k4⟩ := bk_1 hb τ
  have hb43 : 43 ≤ cb := by unfold isB at hb; omega
  have key : ∀ r k (A : Nat → Nat → Int32), k + r = 64 → 1 ≤ k → BkA A cb n D → (∀ m, m < k → Hs A n D off pl m) → ∃ A', R_253 3 [(0, .ref 24), (1, .ref cb), (2, .int (nI off)), (3, .int (nI pl)), (4, .int (nI k))] [] (mk A J τ) = some (none, mk A' J τ) ∧ (∀ m, m < 64 → Hs A' n D off pl m) ∧ (∀ a y, ¬ ((a = 26 ∨ a = 27) ∧ pl < y ∧ y < pl + 64) → A' a y = A a y) := by
    intro r
    induction r with
    | zero =>
      intro k A hk h1 hA hS
      have e : k = 64 := by omega
      subst e
      refine ⟨A, ?_, hS, fun _ _ _ => rfl⟩
      rw [e_253_3]
      simp (disch := first | omega | (simp (disch := omega) only [n_ti, Int32.reduceToInt] <;> omega)) only [n_add, nl_add, nr_add, n_mul, nl_mul, nr_mul, n_sub, nr_dec, n_div, nr_sub_1, nr_sub_2, nr_sub_3, nr_sub_4, nr_sub_7, nr_sub_10, nr_sub_11, nr_sub_20, nr_sub_48, nr_sub_97, nl_sub_3, nl_sub_4, nl_sub_12, nl_sub_24, nl_sub_32, nr_div_2, nr_div_4, z_lt, z_le, z_eq, z_cl, n_ti, Int.toNat_natCast, Int32.reduceToInt, Int32.reduceToNatClampNeg, zc_add, zc_sub, zc_add_1, zc_add_2, zc_add_3, zc_add_4, zc_add_8, zc_add_10, zc_add_12, zc_add_16, zc_add_20, zc_sub_1, zc_sub_2, zc_sub_4, zc_sub_10, zc_sub_20, zc_sub_48, zc_sub_97, zc_mul_4, t_ltZ, f_ltZ, t_leZ, f_leZ, t_eqZ, f_eqZ, t_ltN, f_ltN, t_leN, f_leN, t_eqN, f_eqN, ↓reduceIte, and_true, true_and, and_false, false_and, and_self, or_true, true_or, or_false, false_or, or_self, not_true_eq_false, not_false_eq_true, tu_same, tu_eq, tu_ne, b_V, b_I, b_J]
    | succ r ih =>
      intro k A hk h1 hA hS
      obtain ⟨t0, z1, z2, z3, z4⟩ := tz_s (s := k) (by omega) (by omega)
      rw [nr_sub_1 (by omega)] at z4
      have ht6 : t0 < 6 := lt_tb (n := 6) (by omega) z3
      have hlt := xor_lt z3
      obtain ⟨w1, w2⟩ := hS _ hlt
      have hw : hsm (fun t => dW (D t)) n off k = hsm (fun t => dW (D t)) n off (k ^^^ 2 ^ t0) + _ := wsum_x _ k t0 z3 6
      have hq : hsm (fun t => dQ (D t)) n off k = hsm (fun t => dQ (D t)) n off (k ^^^ 2 ^ t0) + _ := wsum_x _ k t0 z3 6
      rw [if_pos ht6] at hw hq
      have A1A : BkA (tm_u (tm_u A 26 (pl + k) (nI (hsm (fun t => dW (D t)) n off k))) 27 (pl + k) (nI (hsm (fun t => dQ (D t)) n off k))) cb n D := hA.tr hn (fun a k u v => by simp (disch := omega) only [tu_same, tu_eq, tu_ne])
      obtain ⟨A', g1, g2, g3⟩ := ih (k + 1) (tm_u (tm_u A 26 (pl + k) (nI (hsm (fun t => dW (D t)) n off k))) 27 (pl + k) (nI (hsm (fun t => dQ (D t)) n off k))) (by omega) (by omega) A1A (fun m hm => by
        by_cases e : m = k
        · subst e
          exact ⟨by simp (disch := omega) only [tu_same, tu_eq, tu_ne], by simp (disch := omega) only [tu_same, tu_eq, tu_ne]⟩
        · obtain ⟨h1, h2⟩ := hS m (by omega)
          exact ⟨by simp (disch := omega) only [h1, tu_same, tu_eq, tu_ne], by simp (disch := omega) only [h2, tu_same, tu_eq, tu_ne]⟩)
      refine ⟨A', ?_, g2, fun a y h => (g3 a y h).trans (by simp (disch := omega) only [tu_same, tu_eq, tu_ne])⟩
      rw [← g1, e_253_3]
      by_cases c : off + t0 < n
      · have a84 := s_84t (J := J) (τ := τ) hb hn hA.1 c
        have k5 := bk_2 hb (show off + t0 < 12 by omega) τ
        have hT : isT (cb + 2 + 3 * (off + t0)) := ⟨cb, off + t0, hb, by omega, rfl⟩
        have k6 := (bk_3 hT τ).1
        obtain ⟨q1, q2, -⟩ := hA.2 (off + t0) c
        rw [if_pos c] at hw hq
        simp (disch := first | omega | (simp (disch := omega) only [n_ti, Int32.reduceToInt] <;> omega)) only [s_187, z2, e_253_16, k1, a84, z4, e_253_36, k2, k3, k4, k5, k6, w1, q2, ← hw, e_253_72, q1, w2, ← hq, e_253_108, n_add, nl_add, nr_add, n_mul, nl_mul, nr_mul, n_sub, nr_dec, n_div, nr_sub_1, nr_sub_2, nr_sub_3, nr_sub_4, nr_sub_7, nr_sub_10, nr_sub_11, nr_sub_20, nr_sub_48, nr_sub_97, nl_sub_3, nl_sub_4, nl_sub_12, nl_sub_24, nl_sub_32, nr_div_2, nr_div_4, z_lt, z_le, z_eq, z_cl, n_ti, Int.toNat_natCast, Int32.reduceToInt, Int32.reduceToNatClampNeg, zc_add, zc_sub, zc_add_1, zc_add_2, zc_add_3, zc_add_4, zc_add_8, zc_add_10, zc_add_12, zc_add_16, zc_add_20, zc_sub_1, zc_sub_2, zc_sub_4, zc_sub_10, zc_sub_20, zc_sub_48, zc_sub_97, zc_mul_4, t_ltZ, f_ltZ, t_leZ, f_leZ, t_eqZ, f_eqZ, t_ltN, f_ltN, t_leN, f_leN, t_eqN, f_eqN, ↓reduceIte, and_true, true_and, and_false, false_and, and_self, or_true, true_or, or_false, false_or, or_self, not_true_eq_false, not_false_eq_true, tu_same, tu_eq, tu_ne, b_V, b_I, b_J]
      · have a84 := s_84f (J := J) (τ := τ) (x := nI (off + t0)) hb hn hA.1 (Or.inr (by rw [n_ti (by omega)]; omega))
        rw [if_neg c] at hw hq
        simp (disch := first | omega | (simp (disch := omega) only [n_ti, Int32.reduceToInt] <;> omega)) only [s_187, z2, e_253_16, k1, a84, z4, e_253_36, w1, ← hw, e_253_72, w2, ← hq, e_253_108, n_add, nl_add, nr_add, n_mul, nl_mul, nr_mul, n_sub, nr_dec, n_div, nr_sub_1, nr_sub_2, nr_sub_3, nr_sub_4, nr_sub_7, nr_sub_10, nr_sub_11, nr_sub_20, nr_sub_48, nr_sub_97, nl_sub_3, nl_sub_4, nl_sub_12, nl_sub_24, nl_sub_32, nr_div_2, nr_div_4, z_lt, z_le, z_eq, z_cl, n_ti, Int.toNat_natCast, Int32.reduceToInt, Int32.reduceToNatClampNeg, zc_add, zc_sub, zc_add_1, zc_add_2, zc_add_3, zc_add_4, zc_add_8, zc_add_10, zc_add_12, zc_add_16, zc_add_20, zc_sub_1, zc_sub_2, zc_sub_4, zc_sub_10, zc_sub_20, zc_sub_48, zc_sub_97, zc_mul_4, t_ltZ, f_ltZ, t_leZ, f_leZ, t_eqZ, f_eqZ, t_ltN, f_ltN, t_leN, f_leN, t_eqN, f_eqN, ↓reduceIte, and_true, true_and, and_false, false_and, and_self, or_true, true_or, or_false, false_or, or_self, not_true_eq_false, not_false_eq_true, tu_same, tu_eq, tu_ne, b_V, b_I, b_J]
  obtain ⟨A', g1, g2, g3⟩ := key 63 1 A (by omega) (by omega) hA (fun m hm => by
    have e : m = 0 := by omega
    subst e
    unfold Hs hsm
    rw [wsum_0, wsum_0]
    exact ⟨hz 26 _ (by omega) (by omega), hz 27 _ (by omega) (by omega)⟩)
  refine ⟨A', ?_, g2, g3⟩
  rw [e_253]
  exact g1
