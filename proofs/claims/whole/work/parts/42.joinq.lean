/-! JOINED: prepare; the best set; the row (class) -/
def JnA (A : Nat → Nat → Int32) (J : Nat → Nat → Int64) (n : Nat) (D : Nat → TD) : Prop := A 24 10 = nI (2 ^ n) ∧ (∀ w, w < 2 * n → WyA A D w) ∧ ∀ s, s < 2 ^ n → (∃ v : Nat, v < 65536 ∧ stJ J s = v ∧ ∀ st, st < 16 → v.testBit st = tbl n D (2 ^ n) s st) ∧ sm A 26 s = nI (wsum (fun t => dW (D t)) s n) ∧ sm A 27 s = nI (wsum (fun t => dQ (D t)) s n)
theorem WyA.tr {A A' : Nat → Nat → Int32} {D : Nat → TD} {w : Nat} (h : WyA A D w) (f : ∀ a, 28 ≤ a → a ≤ 30 → A' a w = A a w) : WyA A' D w := ⟨(f _ (by omega) (by omega)).trans h.1, (f _ (by omega) (by omega)).trans h.2.1, (f _ (by omega) (by omega)).trans h.2.2⟩
theorem JnA.tr {A A' : Nat → Nat → Int32} {J J' : Nat → Nat → Int64} {n : Nat} {D : Nat → TD} (h : JnA A J n D) (f : ∀ a k, (25 ≤ a ∧ a ≤ 30) ∨ (a = 24 ∧ k = 10) → A' a k = A a k) (g : ∀ k, J' 25 k = J 25 k) : JnA A' J' n D := by
  refine ⟨(f _ _ (by omega)).trans h.1, fun w hw => (h.2.1 w hw).tr (fun a u v => f a w (by omega)), fun s hs => ?_⟩
  obtain ⟨⟨v, h1, h2, h3⟩, h4, h5⟩ := h.2.2 s hs
  refine ⟨⟨v, h1, ?_, h3⟩, ?_, ?_⟩
  · unfold stJ at h2 ⊢
    rw [g]
    exact h2
  · unfold sm at h4 ⊢
    rw [f 26 _ (by omega), f 26 _ (by omega)]
    exact h4
  · unfold sm at h5 ⊢
    rw [f 27 _ (by omega), f 27 _ (by omega)]
    exact h5
theorem l_190a {J : Nat → Nat → Int64} {τ : tm_Tu} {n cb : Nat} {D : Nat → TD} (hn : n ≤ 12) (hb : isB cb) (hD : DOk n D) : ∀ m t (A : Nat → Nat → Int32), t + m = n → BkA A cb n D → (∀ w, w < 2 * t → WyA A D w) → ∃ A', R_190 2 [(0, .ref 24), (1, .ref cb), (2, .int (nI t))] [] (mk A J τ) = R_190 52 [(0, .ref 24), (1, .ref cb)] [] (mk A' J τ) ∧ (∀ w, w < 2 * n → WyA A' D w) ∧ (∀ a y, ¬ (28 ≤ a ∧ a ≤ 30) → A' a y = A a y) := by
  obtain ⟨k1, k2, k3, k4⟩ := bk_1 hb τ
  have hb43 : 43 ≤ cb := by unfold isB at hb; omega
  intro m
  induction m with
  | zero =>
    intro t A ht hA hW
    have e : t = n := by omega
    subst e
    have h1 := hA.1
    refine ⟨A, ?_, hW, fun _ _ _ => rfl⟩
    rw [e_190_2]
    simp (disch := first | omega | (simp (disch := omega) only [n_ti, Int32.reduceToInt] <;> omega)) only [k1, h1, n_add, nl_add, nr_add, n_mul, nl_mul, nr_mul, n_sub, nr_dec, n_div, nr_sub_1, nr_sub_2, nr_sub_3, nr_sub_4, nr_sub_7, nr_sub_10, nr_sub_11, nr_sub_20, nr_sub_48, nr_sub_97, nl_sub_3, nl_sub_4, nl_sub_12, nl_sub_24, nl_sub_32, nr_div_2, nr_div_4, z_lt, z_le, z_eq, z_cl, n_ti, Int.toNat_natCast, Int32.reduceToInt, Int32.reduceToNatClampNeg, zc_add, zc_sub, zc_add_1, zc_add_2, zc_add_3, zc_add_4, zc_add_8, zc_add_10, zc_add_12, zc_add_16, zc_add_20, zc_sub_1, zc_sub_2, zc_sub_4, zc_sub_10, zc_sub_20, zc_sub_48, zc_sub_97, zc_mul_4, t_ltZ, f_ltZ, t_leZ, f_leZ, t_eqZ, f_eqZ, t_ltN, f_ltN, t_leN, f_leN, t_eqN, f_eqN, ↓reduceIte, and_true, true_and, and_false, false_and, and_self, or_true, true_or, or_false, false_or, or_self, not_true_eq_false, not_false_eq_true, tu_same, tu_eq, tu_ne, b_V, b_I, b_J]
  | succ m ih =>
    intro t A ht hA hW
    have h1 := hA.1
    have k5 := bk_2 hb (show t < 12 by omega) τ
    have hT : isT (cb + 2 + 3 * t) := ⟨cb, t, hb, by omega, rfl⟩
    obtain ⟨A1, p1, p2, p3⟩ := s_186 (J := J) (τ := τ) (t := t) (mi := 0) hn (by omega) (by omega) hT hD (hA.2 t (by omega))
    have hA1 : BkA A1 cb n D := hA.tr hn (fun a k u v => p3 a k (by omega))
    obtain ⟨A2, q1, q2, q3⟩ := s_186 (J := J) (τ := τ) (t := t) (mi := 1) hn (by omega) (by omega) hT hD (hA1.2 t (by omega))
    have hA2 : BkA A2 cb n D := hA1.tr hn (fun a k u v => q3 a k (by omega))
    obtain ⟨A', g1, g2, g3⟩ := ih (t + 1) A2 (by omega) hA2 (fun w hw => by
      by_cases c1 : w = 2 * t + 1
      · rw [c1]; exact q2
      · by_cases c2 : w = 2 * t
        · rw [c2]; exact p2.tr (fun a u v => q3 a _ (by omega))
        · exact ((hW w (by omega)).tr (A' := A1) (fun a u v => p3 a _ (by omega))).tr (fun a u v => q3 a _ (by omega)))
    have p1' : F_186 [.ref 24, .ref (cb + 2 + 3 * t), .int (nI (2 * t)), .int 0] (mk A J τ) = some (none, mk A1 J τ) := p1
    have q1' : F_186 [.ref 24, .ref (cb + 2 + 3 * t), .int (nI (2 * t + 1)), .int 1] (mk A1 J τ) = some (none, mk A2 J τ) := q1
    refine ⟨A', ?_, g2, fun a y h => ?_⟩
    · rw [← g1, e_190_2]
      simp (disch := first | omega | (simp (disch := omega) only [n_ti, Int32.reduceToInt] <;> omega)) only [k1, h1, k2, k3, k4, k5, p1', e_190_30, q1', e_190_46, n_add, nl_add, nr_add, n_mul, nl_mul, nr_mul, n_sub, nr_dec, n_div, nr_sub_1, nr_sub_2, nr_sub_3, nr_sub_4, nr_sub_7, nr_sub_10, nr_sub_11, nr_sub_20, nr_sub_48, nr_sub_97, nl_sub_3, nl_sub_4, nl_sub_12, nl_sub_24, nl_sub_32, nr_div_2, nr_div_4, z_lt, z_le, z_eq, z_cl, n_ti, Int.toNat_natCast, Int32.reduceToInt, Int32.reduceToNatClampNeg, zc_add, zc_sub, zc_add_1, zc_add_2, zc_add_3, zc_add_4, zc_add_8, zc_add_10, zc_add_12, zc_add_16, zc_add_20, zc_sub_1, zc_sub_2, zc_sub_4, zc_sub_10, zc_sub_20, zc_sub_48, zc_sub_97, zc_mul_4, t_ltZ, f_ltZ, t_leZ, f_leZ, t_eqZ, f_eqZ, t_ltN, f_ltN, t_leN, f_leN, t_eqN, f_eqN, ↓reduceIte, and_true, true_and, and_false, false_and, and_self, or_true, true_or, or_false, false_or, or_self, not_true_eq_false, not_false_eq_true, tu_same, tu_eq, tu_ne, b_V, b_I, b_J]
    · rw [g3 a y h, q3 a y (by omega), p3 a y (by omega)]
theorem l_190b {A : Nat → Nat → Int32} {τ : tm_Tu} {n cb : Nat} {D : Nat → TD} (hn : n ≤ 12) (hb : isB cb) (hD : DOk n D) (hA : BkA A cb n D) (h10 : A 24 10 = nI (2 ^ n)) (hW : ∀ w, w < 2 * n → WyA A D w) (hS : ∀ s, s < 2 ^ n → sm A 26 s = nI (wsum (fun t => dW (D t)) s n) ∧ sm A 27 s = nI (wsum (fun t => dQ (D t)) s n)) : ∀ m k (J : Nat → Nat → Int64), k + m = 2 ^ n → 1 ≤ k → (∀ s, s < k → ∃ v : Nat, v < 65536 ∧ stJ J s = v ∧ ∀ st, st < 16 → v.testBit st = tbl n D (2 ^ n) s st) → ∃ J', R_190 93 [(0, .ref 24), (1, .ref cb), (2, .int (nI k))] [] (mk A J τ) = some (none, mk A J' τ) ∧ JnA A J' n D ∧ (∀ a y, a ≠ 25 → J' a y = J a y) := by
  obtain ⟨k1, k2, k3, k4⟩ := bk_1 hb τ
  have hp := pow_12 hn
  have hc0 := hA.1
  intro m
  induction m with
  | zero =>
    intro k J hk _ hB
    have e : k = 2 ^ n := by omega
    refine ⟨J, ?_, ⟨h10, hW, fun s hs => ⟨hB s (by omega), hS s hs⟩⟩, fun _ _ _ => rfl⟩
    rw [e_190_93, e]
    simp (disch := first | omega | (simp (disch := omega) only [n_ti, Int32.reduceToInt] <;> omega)) only [h10, n_add, nl_add, nr_add, n_mul, nl_mul, nr_mul, n_sub, nr_dec, n_div, nr_sub_1, nr_sub_2, nr_sub_3, nr_sub_4, nr_sub_7, nr_sub_10, nr_sub_11, nr_sub_20, nr_sub_48, nr_sub_97, nl_sub_3, nl_sub_4, nl_sub_12, nl_sub_24, nl_sub_32, nr_div_2, nr_div_4, z_lt, z_le, z_eq, z_cl, n_ti, Int.toNat_natCast, Int32.reduceToInt, Int32.reduceToNatClampNeg, zc_add, zc_sub, zc_add_1, zc_add_2, zc_add_3, zc_add_4, zc_add_8, zc_add_10, zc_add_12, zc_add_16, zc_add_20, zc_sub_1, zc_sub_2, zc_sub_4, zc_sub_10, zc_sub_20, zc_sub_48, zc_sub_97, zc_mul_4, t_ltZ, f_ltZ, t_leZ, f_leZ, t_eqZ, f_eqZ, t_ltN, f_ltN, t_leN, f_leN, t_eqN, f_eqN, ↓reduceIte, and_true, true_and, and_false, false_and, and_self, or_true, true_or, or_false, false_or, or_self, not_true_eq_false, not_false_eq_true, tu_same, tu_eq, tu_ne, b_V, b_I, b_J]
  | succ m ih =>
    intro k J hk h1k hB
    obtain ⟨r, r1, r2, r3⟩ := s_189 (A := A) (J := J) (τ := τ) (set := k) (T := tbl n D (2 ^ n)) hn hD (by omega) hW hB
    obtain ⟨J1, p1, p2, p3, p4⟩ := s_254 (A := A) (J := J) (τ := τ) (s := k) (v := r) (by omega) r1
    obtain ⟨J', g1, g2, g3⟩ := ih (k + 1) J1 (by omega) (by omega) (fun s hs => by
      by_cases e : s = k
      · subst e
        refine ⟨r, r1, p2, fun st hst => ?_⟩
        rw [r3 st hst, tbl_fix n D (2 ^ n) s st (by omega)]
        unfold rowOf
        have : decide (s = 0) = false := by simp; omega
        rw [this, Bool.false_or]
      · obtain ⟨v, h1, h2, h3⟩ := hB s (by omega)
        exact ⟨v, h1, (p3 s e).trans h2, h3⟩)
    refine ⟨J', ?_, g2, fun a y h => (g3 a y h).trans (p4 a y h)⟩
    rw [← g1, e_190_93]
    simp (disch := first | omega | (simp (disch := omega) only [n_ti, Int32.reduceToInt] <;> omega)) only [h10, k1, hc0, r2, e_190_112, p1, e_190_115, n_add, nl_add, nr_add, n_mul, nl_mul, nr_mul, n_sub, nr_dec, n_div, nr_sub_1, nr_sub_2, nr_sub_3, nr_sub_4, nr_sub_7, nr_sub_10, nr_sub_11, nr_sub_20, nr_sub_48, nr_sub_97, nl_sub_3, nl_sub_4, nl_sub_12, nl_sub_24, nl_sub_32, nr_div_2, nr_div_4, z_lt, z_le, z_eq, z_cl, n_ti, Int.toNat_natCast, Int32.reduceToInt, Int32.reduceToNatClampNeg, zc_add, zc_sub, zc_add_1, zc_add_2, zc_add_3, zc_add_4, zc_add_8, zc_add_10, zc_add_12, zc_add_16, zc_add_20, zc_sub_1, zc_sub_2, zc_sub_4, zc_sub_10, zc_sub_20, zc_sub_48, zc_sub_97, zc_mul_4, t_ltZ, f_ltZ, t_leZ, f_leZ, t_eqZ, f_eqZ, t_ltN, f_ltN, t_leN, f_leN, t_eqN, f_eqN, ↓reduceIte, and_true, true_and, and_false, false_and, and_self, or_true, true_or, or_false, false_or, or_self, not_true_eq_false, not_false_eq_true, tu_same, tu_eq, tu_ne, b_V, b_I, b_J]
theorem s_190 {A : Nat → Nat → Int32} {J : Nat → Nat → Int64} {τ : tm_Tu} {n cb : Nat} {D : Nat → TD} (hn : n ≤ 12) (hb : isB cb) (hD : DOk n D) (hA : BkA A cb n D) (hz : Z0 A) : ∃ A' J', F_190 [.ref 24, .ref cb] (mk A J τ) = some (none, mk A' J' τ) ∧ JnA A' J' n D ∧ Z0 A' ∧ (∀ a y, ¬ (25 ≤ a ∧ a ≤ 30) → ¬ (a = 24 ∧ y = 10) → A' a y = A a y) ∧ (∀ a y, a ≠ 25 → J' a y = J a y) := by
  obtain ⟨k1, k2, k3, k4⟩ := bk_1 hb τ
  have hb43 : 43 ≤ cb := by unfold isB at hb; omega
  have hp := pow_12 hn
  have hp0 : 1 ≤ 2 ^ n := Nat.one_le_two_pow
  obtain ⟨A1, p1, p2, p3⟩ := l_190a (J := J) (τ := τ) hn hb hD n 0 A (by omega) hA (fun w hw => by omega)
  have hA1 : BkA A1 cb n D := hA.tr hn (fun a k u v => p3 a k (by omega))
  obtain ⟨A2, u1, u2, u3⟩ := s_253 (J := J) (τ := τ) hn hb hD hA1 (hz.tr (fun a y u v => p3 a y (by omega))) 0 0 (by omega)
  have hA2 : BkA A2 cb n D := hA1.tr hn (fun a k u v => u3 a k (by omega))
  have hz2 : Z0 A2 := hz.tr (fun a y u v => (u3 a y (by omega)).trans (p3 a y (by omega)))
  obtain ⟨A3, v1, v2, v3⟩ := s_253 (J := J) (τ := τ) hn hb hD hA2 hz2 6 64 (by omega)
  have hA3 : BkA A3 cb n D := hA2.tr hn (fun a k u v => v3 a k (by omega))
  have hz3 : Z0 A3 := hz2.tr (fun a y u v => v3 a y (by omega))
  have hc3 := hA3.1
  have hA4 : BkA (tm_u A3 24 10 (nI (2 ^ n))) cb n D := hA3.tr hn (fun a k u v => by simp (disch := omega) only [tu_same, tu_eq, tu_ne])
  have f13 : ∀ a y, ¬ (a = 26 ∨ a = 27) → A3 a y = A1 a y := fun a y h => by rw [v3 a y (by omega), u3 a y (by omega)]
  have hS : ∀ s, s < 2 ^ n → sm (tm_u A3 24 10 (nI (2 ^ n))) 26 s = nI (wsum (fun t => dW (D t)) s n) ∧ sm (tm_u A3 24 10 (nI (2 ^ n))) 27 s = nI (wsum (fun t => dQ (D t)) s n) := fun s hs => by
    have a1 := (u2 (s % 64) (by omega)).1
    have a2 := (u2 (s % 64) (by omega)).2
    have b1 := (v2 (s / 64) (by omega)).1
    have b2 := (v2 (s / 64) (by omega)).2
    rw [Nat.zero_add] at a1 a2
    rw [← v3 26 (s % 64) (by omega)] at a1
    rw [← v3 27 (s % 64) (by omega)] at a2
    rw [wsum_hsm _ s hn, wsum_hsm _ s hn, ← n_add, ← n_add]
    refine ⟨?_, ?_⟩
    · unfold sm
      rw [tu_ne (by omega), tu_ne (by omega), a1, b1]
    · unfold sm
      rw [tu_ne (by omega), tu_ne (by omega), a2, b2]
  obtain ⟨J1, w1, w2, w3, w4⟩ := s_254 (A := tm_u A3 24 10 (nI (2 ^ n))) (J := J) (τ := τ) (s := 0) (v := 65535) (by omega) (by omega)
  obtain ⟨J', g1, g2, g3⟩ := l_190b (A := tm_u A3 24 10 (nI (2 ^ n))) (τ := τ) hn hb hD hA4 (by simp (disch := omega) only [tu_same, tu_eq, tu_ne]) (fun w hw => (p2 w hw).tr (fun a u v => by simp (disch := omega) only [tu_same, tu_eq, tu_ne]; exact f13 a w (by omega))) hS (2 ^ n - 1) 1 J1 (by omega) (by omega) (fun s hs => by
    have e : s = 0 := by omega
    subst e
    refine ⟨65535, by omega, w2, fun st hst => ?_⟩
    rw [tbl_fix n D (2 ^ n) 0 st (by omega)]
    have := (uM_b ⟨0, by omega⟩ ⟨st, hst⟩).2.2
    dsimp only at this
    rw [this]
    rfl)
  have p1' : R_190 2 [(0, .ref 24), (1, .ref cb), (2, .int 0)] [] (mk A J τ) = R_190 52 [(0, .ref 24), (1, .ref cb)] [] (mk A1 J τ) := p1
  have u1' : F_253 [.ref 24, .ref cb, .int 0, .int 0] (mk A1 J τ) = some (none, mk A2 J τ) := u1
  have v1' : F_253 [.ref 24, .ref cb, .int 6, .int 64] (mk A2 J τ) = some (none, mk A3 J τ) := v1
  have w1' : F_254 [.ref 24, .int 0, .int 65535] (mk (tm_u A3 24 10 (nI (2 ^ n))) J τ) = some (none, mk (tm_u A3 24 10 (nI (2 ^ n))) J1 τ) := w1
  have hsh := shl_1 (t := n) (by omega)
  have g1' : R_190 93 [(0, .ref 24), (1, .ref cb), (2, .int 1)] [] (mk (tm_u A3 24 10 (nI (2 ^ n))) J1 τ) = some (none, mk (tm_u A3 24 10 (nI (2 ^ n))) J' τ) := g1
  have hmin : (if (4096 : Int32) < nI (2 ^ n) then (4096 : Int32) else nI (2 ^ n)) = nI (2 ^ n) := by
    have : ¬ (4096 : Int32) < nI (2 ^ n) := by
      rw [show (4096 : Int32) = nI 4096 from rfl, n_lt (by omega) (by omega)]
      omega
    rw [if_neg this]
  refine ⟨tm_u A3 24 10 (nI (2 ^ n)), J', ?_, g2, hz3.tr (fun a y u v => by simp (disch := omega) only [tu_same, tu_eq, tu_ne]), fun a y h1 h2 => ?_, fun a y h => (g3 a y h).trans (w4 a y h)⟩
  · rw [e_190, p1', e_190_52, u1', b_V, e_190_59, v1', b_V, e_190_68, if_pos k1, hc3, hsh, hmin, w1', b_V, e_190_91, g1']
  · simp (disch := omega) only [tu_same, tu_eq, tu_ne]
    rw [f13 a y (by omega)]
    exact p3 a y (by omega)
/-! the best set -/
def bst (n : Nat) (D : Nat → TD) (N st : Nat) : Nat → Nat → Nat → Nat
  | 0, _, c => c
  | m + 1, k, c => bst n D N st m (k + 1) (if tbl n D (2 ^ n) k st = true ∧ wsum (fun t => dQ (D t)) k n ≤ N ∧ (wsum (fun t => dW (D t)) c n < wsum (fun t => dW (D t)) k n ∨ wsum (fun t => dW (D t)) k n = wsum (fun t => dW (D t)) c n ∧ wsum (fun t => dQ (D t)) k n < wsum (fun t => dQ (D t)) c n) then k else c)
theorem bst_P (n : Nat) (D : Nat → TD) (N st : Nat) : ∀ m k c, k + m = 2 ^ n → 1 ≤ k → c < 2 ^ n → tbl n D (2 ^ n) c st = true → bst n D N st m k c < 2 ^ n ∧ tbl n D (2 ^ n) (bst n D N st m k c) st = true := by
  intro m
  induction m with
  | zero => intro k c _ _ h1 h2; exact ⟨h1, h2⟩
  | succ m ih =>
    intro k c hk h0 h1 h2
    unfold bst
    by_cases h : tbl n D (2 ^ n) k st = true ∧ wsum (fun t => dQ (D t)) k n ≤ N ∧ (wsum (fun t => dW (D t)) c n < wsum (fun t => dW (D t)) k n ∨ wsum (fun t => dW (D t)) k n = wsum (fun t => dW (D t)) c n ∧ wsum (fun t => dQ (D t)) k n < wsum (fun t => dQ (D t)) c n)
    · rw [if_pos h]; exact ih (k + 1) k (by omega) (by omega) (by omega) h.1
    · rw [if_neg h]; exact ih (k + 1) c (by omega) (by omega) h1 h2
def bestS (n : Nat) (D : Nat → TD) (N st : Nat) : Nat := bst n D N st (2 ^ n - 1) 1 0
set_option maxHeartbeats 1000000 in
theorem s_191 {A : Nat → Nat → Int32} {J : Nat → Nat → Int64} {τ : tm_Tu} {n : Nat} {D : Nat → TD} (hn : n ≤ 12) (hD : DOk n D) (hA : JnA A J n D) (N st : Nat) (hN : N ≤ 200) (hs : st < 16) : F_191 [.ref 24, .int (nI N), .int (nI st)] (mk A J τ) = some (some (.int (nI (bestS n D N st))), mk A J τ) := by
  have hp := pow_12 hn
  have hp0 : 1 ≤ 2 ^ n := Nat.one_le_two_pow
  have h10 := hA.1
  have bw : ∀ s, wsum (fun t => dW (D t)) s n ≤ 999 * 12 := fun s => Nat.le_trans (wsum_le _ 999 s n (fun t ht => (hD t ht).2.2.1)) (Nat.mul_le_mul_left _ hn)
  have bq : ∀ s, wsum (fun t => dQ (D t)) s n ≤ 8 * 12 := fun s => Nat.le_trans (wsum_le _ 8 s n (fun t ht => (hD t ht).2.1)) (Nat.mul_le_mul_left _ hn)
  have key : ∀ m k c, k + m = 2 ^ n → 1 ≤ k → c < 2 ^ n → R_191 11 [(0, .ref 24), (1, .int (nI N)), (2, .int (nI st)), (3, .int (nI c)), (4, .int (nI (wsum (fun t => dW (D t)) c n))), (5, .int (nI (wsum (fun t => dQ (D t)) c n))), (6, .int (nI k))] [] (mk A J τ) = some (some (.int (nI (bst n D N st m k c))), mk A J τ) := by
    intro m
    induction m with
    | zero =>
      intro k c hk h1 hc
      rw [e_191_11]
      simp (disch := first | omega | (simp (disch := omega) only [n_ti, Int32.reduceToInt] <;> omega)) only [h10, n_add, nl_add, nr_add, n_mul, nl_mul, nr_mul, n_sub, nr_dec, n_div, nr_sub_1, nr_sub_2, nr_sub_3, nr_sub_4, nr_sub_7, nr_sub_10, nr_sub_11, nr_sub_20, nr_sub_48, nr_sub_97, nl_sub_3, nl_sub_4, nl_sub_12, nl_sub_24, nl_sub_32, nr_div_2, nr_div_4, z_lt, z_le, z_eq, z_cl, n_ti, Int.toNat_natCast, Int32.reduceToInt, Int32.reduceToNatClampNeg, zc_add, zc_sub, zc_add_1, zc_add_2, zc_add_3, zc_add_4, zc_add_8, zc_add_10, zc_add_12, zc_add_16, zc_add_20, zc_sub_1, zc_sub_2, zc_sub_4, zc_sub_10, zc_sub_20, zc_sub_48, zc_sub_97, zc_mul_4, t_ltZ, f_ltZ, t_leZ, f_leZ, t_eqZ, f_eqZ, t_ltN, f_ltN, t_leN, f_leN, t_eqN, f_eqN, ↓reduceIte, and_true, true_and, and_false, false_and, and_self, or_true, true_or, or_false, false_or, or_self, not_true_eq_false, not_false_eq_true, tu_same, tu_eq, tu_ne, b_V, b_I, b_J]
      rfl
    | succ m ih =>
      intro k c hk h1 hc
      obtain ⟨⟨v, v1, v2, v3⟩, v4, v5⟩ := hA.2.2 k (by omega)
      have t1 := s_256 (A := A) (J := J) (τ := τ) (s := k) (a := 26) (Or.inl rfl) (by omega)
      have t2 := s_256 (A := A) (J := J) (τ := τ) (s := k) (a := 27) (Or.inr rfl) (by omega)
      have t3 := s_255 (A := A) (J := J) (τ := τ) (s := k) (by omega)
      rw [v4] at t1
      rw [v5] at t2
      rw [v2] at t3
      have ihk := ih (k + 1) k (by omega) (by omega) (by omega)
      have ihc := ih (k + 1) c (by omega) (by omega) hc
      have w1 := bw k
      have w2 := bw c
      have q1 := bq k
      have q2 := bq c
      have v3' := v3 st hs
      unfold bst
      generalize wsum (fun t => dW (D t)) k n = wk at *
      generalize wsum (fun t => dW (D t)) c n = wc at *
      generalize wsum (fun t => dQ (D t)) k n = qk at *
      generalize wsum (fun t => dQ (D t)) c n = qc at *
      cases hb : tbl n D (2 ^ n) k st with
      | false =>
        rw [hb] at v3'
        have hbf := bit_f (s := v) (t := st) (by omega) (by omega) v3'
        have e : (if false = true ∧ qk ≤ N ∧ (wc < wk ∨ wk = wc ∧ qk < qc) then k else c) = c := if_neg (fun h => by cases h.1)
        rw [e, ← ihc, e_191_11]
        simp (disch := first | omega | (simp (disch := omega) only [n_ti, Int32.reduceToInt] <;> omega)) only [h10, t2, e_191_29, t3, e_191_37, hbf, t1, e_191_62, e_191_85, e_191_96, n_add, nl_add, nr_add, n_mul, nl_mul, nr_mul, n_sub, nr_dec, n_div, nr_sub_1, nr_sub_2, nr_sub_3, nr_sub_4, nr_sub_7, nr_sub_10, nr_sub_11, nr_sub_20, nr_sub_48, nr_sub_97, nl_sub_3, nl_sub_4, nl_sub_12, nl_sub_24, nl_sub_32, nr_div_2, nr_div_4, z_lt, z_le, z_eq, z_cl, n_ti, Int.toNat_natCast, Int32.reduceToInt, Int32.reduceToNatClampNeg, zc_add, zc_sub, zc_add_1, zc_add_2, zc_add_3, zc_add_4, zc_add_8, zc_add_10, zc_add_12, zc_add_16, zc_add_20, zc_sub_1, zc_sub_2, zc_sub_4, zc_sub_10, zc_sub_20, zc_sub_48, zc_sub_97, zc_mul_4, t_ltZ, f_ltZ, t_leZ, f_leZ, t_eqZ, f_eqZ, t_ltN, f_ltN, t_leN, f_leN, t_eqN, f_eqN, ↓reduceIte, and_true, true_and, and_false, false_and, and_self, or_true, true_or, or_false, false_or, or_self, not_true_eq_false, not_false_eq_true, tu_same, tu_eq, tu_ne, b_V, b_I, b_J]
      | true =>
        rw [hb] at v3'
        have hbt := bit_t (s := v) (t := st) (by omega) (by omega) v3'
        by_cases d1 : qk ≤ N
        · by_cases d2 : wc < wk
          · have e : (if true = true ∧ qk ≤ N ∧ (wc < wk ∨ wk = wc ∧ qk < qc) then k else c) = k := if_pos ⟨rfl, d1, Or.inl d2⟩
            rw [e, ← ihk, e_191_11]
            simp (disch := first | omega | (simp (disch := omega) only [n_ti, Int32.reduceToInt] <;> omega)) only [h10, t2, e_191_29, t3, e_191_37, hbt, t1, e_191_62, e_191_85, e_191_96, n_add, nl_add, nr_add, n_mul, nl_mul, nr_mul, n_sub, nr_dec, n_div, nr_sub_1, nr_sub_2, nr_sub_3, nr_sub_4, nr_sub_7, nr_sub_10, nr_sub_11, nr_sub_20, nr_sub_48, nr_sub_97, nl_sub_3, nl_sub_4, nl_sub_12, nl_sub_24, nl_sub_32, nr_div_2, nr_div_4, z_lt, z_le, z_eq, z_cl, n_ti, Int.toNat_natCast, Int32.reduceToInt, Int32.reduceToNatClampNeg, zc_add, zc_sub, zc_add_1, zc_add_2, zc_add_3, zc_add_4, zc_add_8, zc_add_10, zc_add_12, zc_add_16, zc_add_20, zc_sub_1, zc_sub_2, zc_sub_4, zc_sub_10, zc_sub_20, zc_sub_48, zc_sub_97, zc_mul_4, t_ltZ, f_ltZ, t_leZ, f_leZ, t_eqZ, f_eqZ, t_ltN, f_ltN, t_leN, f_leN, t_eqN, f_eqN, ↓reduceIte, and_true, true_and, and_false, false_and, and_self, or_true, true_or, or_false, false_or, or_self, not_true_eq_false, not_false_eq_true, tu_same, tu_eq, tu_ne, b_V, b_I, b_J]
          · by_cases d3 : wk = wc
            · by_cases d4 : qk < qc
              · have e : (if true = true ∧ qk ≤ N ∧ (wc < wk ∨ wk = wc ∧ qk < qc) then k else c) = k := if_pos ⟨rfl, d1, Or.inr ⟨d3, d4⟩⟩
                rw [e, ← ihk, e_191_11]
                simp (disch := first | omega | (simp (disch := omega) only [n_ti, Int32.reduceToInt] <;> omega)) only [h10, t2, e_191_29, t3, e_191_37, hbt, t1, e_191_62, e_191_85, e_191_96, n_add, nl_add, nr_add, n_mul, nl_mul, nr_mul, n_sub, nr_dec, n_div, nr_sub_1, nr_sub_2, nr_sub_3, nr_sub_4, nr_sub_7, nr_sub_10, nr_sub_11, nr_sub_20, nr_sub_48, nr_sub_97, nl_sub_3, nl_sub_4, nl_sub_12, nl_sub_24, nl_sub_32, nr_div_2, nr_div_4, z_lt, z_le, z_eq, z_cl, n_ti, Int.toNat_natCast, Int32.reduceToInt, Int32.reduceToNatClampNeg, zc_add, zc_sub, zc_add_1, zc_add_2, zc_add_3, zc_add_4, zc_add_8, zc_add_10, zc_add_12, zc_add_16, zc_add_20, zc_sub_1, zc_sub_2, zc_sub_4, zc_sub_10, zc_sub_20, zc_sub_48, zc_sub_97, zc_mul_4, t_ltZ, f_ltZ, t_leZ, f_leZ, t_eqZ, f_eqZ, t_ltN, f_ltN, t_leN, f_leN, t_eqN, f_eqN, ↓reduceIte, and_true, true_and, and_false, false_and, and_self, or_true, true_or, or_false, false_or, or_self, not_true_eq_false, not_false_eq_true, tu_same, tu_eq, tu_ne, b_V, b_I, b_J]
              · have e : (if true = true ∧ qk ≤ N ∧ (wc < wk ∨ wk = wc ∧ qk < qc) then k else c) = c := if_neg (by omega)
                rw [e, ← ihc, e_191_11]
                simp (disch := first | omega | (simp (disch := omega) only [n_ti, Int32.reduceToInt] <;> omega)) only [h10, t2, e_191_29, t3, e_191_37, hbt, t1, e_191_62, e_191_85, e_191_96, n_add, nl_add, nr_add, n_mul, nl_mul, nr_mul, n_sub, nr_dec, n_div, nr_sub_1, nr_sub_2, nr_sub_3, nr_sub_4, nr_sub_7, nr_sub_10, nr_sub_11, nr_sub_20, nr_sub_48, nr_sub_97, nl_sub_3, nl_sub_4, nl_sub_12, nl_sub_24, nl_sub_32, nr_div_2, nr_div_4, z_lt, z_le, z_eq, z_cl, n_ti, Int.toNat_natCast, Int32.reduceToInt, Int32.reduceToNatClampNeg, zc_add, zc_sub, zc_add_1, zc_add_2, zc_add_3, zc_add_4, zc_add_8, zc_add_10, zc_add_12, zc_add_16, zc_add_20, zc_sub_1, zc_sub_2, zc_sub_4, zc_sub_10, zc_sub_20, zc_sub_48, zc_sub_97, zc_mul_4, t_ltZ, f_ltZ, t_leZ, f_leZ, t_eqZ, f_eqZ, t_ltN, f_ltN, t_leN, f_leN, t_eqN, f_eqN, ↓reduceIte, and_true, true_and, and_false, false_and, and_self, or_true, true_or, or_false, false_or, or_self, not_true_eq_false, not_false_eq_true, tu_same, tu_eq, tu_ne, b_V, b_I, b_J]
            · have e : (if true = true ∧ qk ≤ N ∧ (wc < wk ∨ wk = wc ∧ qk < qc) then k else c) = c := if_neg (by omega)
              rw [e, ← ihc, e_191_11]
              simp (disch := first | omega | (simp (disch := omega) only [n_ti, Int32.reduceToInt] <;> omega)) only [h10, t2, e_191_29, t3, e_191_37, hbt, t1, e_191_62, e_191_85, e_191_96, n_add, nl_add, nr_add, n_mul, nl_mul, nr_mul, n_sub, nr_dec, n_div, nr_sub_1, nr_sub_2, nr_sub_3, nr_sub_4, nr_sub_7, nr_sub_10, nr_sub_11, nr_sub_20, nr_sub_48, nr_sub_97, nl_sub_3, nl_sub_4, nl_sub_12, nl_sub_24, nl_sub_32, nr_div_2, nr_div_4, z_lt, z_le, z_eq, z_cl, n_ti, Int.toNat_natCast, Int32.reduceToInt, Int32.reduceToNatClampNeg, zc_add, zc_sub, zc_add_1, zc_add_2, zc_add_3, zc_add_4, zc_add_8, zc_add_10, zc_add_12, zc_add_16, zc_add_20, zc_sub_1, zc_sub_2, zc_sub_4, zc_sub_10, zc_sub_20, zc_sub_48, zc_sub_97, zc_mul_4, t_ltZ, f_ltZ, t_leZ, f_leZ, t_eqZ, f_eqZ, t_ltN, f_ltN, t_leN, f_leN, t_eqN, f_eqN, ↓reduceIte, and_true, true_and, and_false, false_and, and_self, or_true, true_or, or_false, false_or, or_self, not_true_eq_false, not_false_eq_true, tu_same, tu_eq, tu_ne, b_V, b_I, b_J]
        · have e : (if true = true ∧ qk ≤ N ∧ (wc < wk ∨ wk = wc ∧ qk < qc) then k else c) = c := if_neg (by omega)
          rw [e, ← ihc, e_191_11]
          simp (disch := first | omega | (simp (disch := omega) only [n_ti, Int32.reduceToInt] <;> omega)) only [h10, t2, e_191_29, t3, e_191_37, hbt, t1, e_191_62, e_191_85, e_191_96, n_add, nl_add, nr_add, n_mul, nl_mul, nr_mul, n_sub, nr_dec, n_div, nr_sub_1, nr_sub_2, nr_sub_3, nr_sub_4, nr_sub_7, nr_sub_10, nr_sub_11, nr_sub_20, nr_sub_48, nr_sub_97, nl_sub_3, nl_sub_4, nl_sub_12, nl_sub_24, nl_sub_32, nr_div_2, nr_div_4, z_lt, z_le, z_eq, z_cl, n_ti, Int.toNat_natCast, Int32.reduceToInt, Int32.reduceToNatClampNeg, zc_add, zc_sub, zc_add_1, zc_add_2, zc_add_3, zc_add_4, zc_add_8, zc_add_10, zc_add_12, zc_add_16, zc_add_20, zc_sub_1, zc_sub_2, zc_sub_4, zc_sub_10, zc_sub_20, zc_sub_48, zc_sub_97, zc_mul_4, t_ltZ, f_ltZ, t_leZ, f_leZ, t_eqZ, f_eqZ, t_ltN, f_ltN, t_leN, f_leN, t_eqN, f_eqN, ↓reduceIte, and_true, true_and, and_false, false_and, and_self, or_true, true_or, or_false, false_or, or_self, not_true_eq_false, not_false_eq_true, tu_same, tu_eq, tu_ne, b_V, b_I, b_J]
  have k0 := key (2 ^ n - 1) 1 0 (by omega) (by omega) (by omega)
  rw [wsum_0, wsum_0] at k0
  rw [e_191]
  exact k0
