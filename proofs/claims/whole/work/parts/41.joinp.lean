/-! JOINED: the class's tables are made -/
theorem clf_cases (P : Nat → Bool) : ∀ m k, clf P m k = -1 ∨ ∃ j, k ≤ j ∧ j < k + m ∧ clf P m k = nI j := by
  intro m
  induction m with
  | zero => intro k; exact Or.inl rfl
  | succ m ih =>
    intro k
    show (if P k = true then nI k else clf P m (k + 1)) = -1 ∨ ∃ j, k ≤ j ∧ j < k + (m + 1) ∧ (if P k = true then nI k else clf P m (k + 1)) = nI j
    by_cases c : P k = true
    · rw [if_pos c]; exact Or.inr ⟨k, by omega, by omega, rfl⟩
    · rw [if_neg c]
      rcases ih (k + 1) with e | ⟨j, h1, h2, h3⟩
      · exact Or.inl e
      · exact Or.inr ⟨j, by omega, by omega, h3⟩
theorem clash_cases {D : TD} (h : TDok D) : (clash D = -1 ∧ (clash D).toInt < 0) ∨ ((clash D).toInt ≠ -1 ∧ 0 ≤ (clash D).toInt) := by
  have h8 := h.2.1
  rcases clf_cases (clP D) (4 * dQ D) 0 with e | ⟨j, h1, h2, h3⟩
  · refine Or.inl ⟨e, ?_⟩
    show (clf (clP D) (4 * dQ D) 0).toInt < 0
    rw [e]; decide
  · have e : (clash D).toInt = j := by
      show (clf (clP D) (4 * dQ D) 0).toInt = _
      rw [h3, n_ti (by omega)]
    refine Or.inr ⟨?_, ?_⟩ <;> omega
theorem lfw_le {n : Nat} {D : Nat → TD} (h : DOk n D) {w : Nat} (hw : w < 2 * n) : lfw D w ≤ 3 := lf_le _ (fun k hk => dnM_le (h _ (by omega)) hk)
theorem tuM_le {mi : Nat} {D : TD} (h : TDok D) : tuM mi D ≤ 3 := by
  have := h.2.2.2.1
  unfold tuM
  by_cases c : mi = 0
  · rw [if_pos c]; exact this
  · rw [if_neg c]; omega
theorem tuw_le {n : Nat} {D : Nat → TD} (h : DOk n D) {w : Nat} (hw : w < 2 * n) : tuw D w ≤ 3 := tuM_le (h _ (by omega))
theorem nxt_lt {n : Nat} {D : Nat → TD} (h : DOk n D) {w st : Nat} (hw : w < 2 * n) (hs : st < 16) : nxt D w st < 16 := by
  have h1 := lfw_le h hw
  unfold nxt
  by_cases c : lfw D w = 0
  · rw [if_pos c]; omega
  · rw [if_neg c]; omega
def WyA (A : Nat → Nat → Int32) (D : Nat → TD) (w : Nat) : Prop := A 28 w = nI (wnt D w) ∧ A 29 w = nI (lfw D w) ∧ A 30 w = nI (tuw D w)
theorem wnt_lt (D : Nat → TD) (w : Nat) : wnt D w < 65536 := mskN_lt _ 16
theorem sa_bit {n : Nat} {D : Nat → TD} (h : DOk n D) {w v st : Nat} (hw : w < 2 * n) (hs : st < 16) : (tl (tuw D w) (lfw D w) v &&& wnt D w).testBit st = (may D w st && v.testBit (nxt D w st)) := by
  have h1 := lfw_le h hw
  have h2 := tuw_le h hw
  unfold wnt
  rw [Nat.testBit_and, tl_bit (by omega) (by omega) hs, mskN_bit]
  have e : decide (st < 16) = true := by simp [hs]
  rw [e, Bool.true_and, Bool.and_comm]
  rfl
theorem s_186 {A : Nat → Nat → Int32} {J : Nat → Nat → Int64} {τ : tm_Tu} {c t mi n : Nat} {D : Nat → TD} (hn : n ≤ 12) (ht : t < n) (hm : mi ≤ 1) (hc : isT c) (hD : DOk n D) (hA : TrA A c (D t)) : ∃ A', F_186 [.ref 24, .ref c, .int (nI (2 * t + mi)), .int (nI mi)] (mk A J τ) = some (none, mk A' J τ) ∧ WyA A' D (2 * t + mi) ∧ (∀ a y, ¬ ((a = 28 ∨ a = 29 ∨ a = 30) ∧ y = 2 * t + mi) → A' a y = A a y) := by
  have k1 := (bk_3 hc τ).1
  have k8 := (bk_3 hc τ).2.2.2.2.2.2.2.1
  have hDt := hD t ht
  have e2 : (2 * t + mi) / 2 = t := by omega
  have e3 : (2 * t + mi) % 2 = mi := by omega
  have e4 : lfw D (2 * t + mi) = lf (dnM mi (D t)) (4 * dQ (D t)) := by unfold lfw; rw [e2, e3]
  have e5 : tuw D (2 * t + mi) = tuM mi (D t) := by unfold tuw; rw [e2, e3]
  generalize hw : 2 * t + mi = w at *
  have hw24 : w < 24 := by omega
  have A1 : TrA (tm_u A 28 w 0) c (D t) := hA.tr (fun a k u v => by simp (disch := omega) only [tu_same, tu_eq, tu_ne])
  have s1 := s_89 (J := J) (τ := τ) mi hm hc hDt A1
  rw [← e4] at s1
  have A2 : TrA (tm_u (tm_u A 28 w 0) 29 w (nI (lfw D w))) c (D t) := A1.tr (fun a k u v => by simp (disch := omega) only [tu_same, tu_eq, tu_ne])
  have s2 := s_85 (J := J) (τ := τ) mi hm hc hDt A2
  rw [← e5] at s2
  have A3 : TrA (tm_u (tm_u (tm_u A 28 w 0) 29 w (nI (lfw D w))) 30 w (nI (tuw D w))) c (D t) := A2.tr (fun a k u v => by simp (disch := omega) only [tu_same, tu_eq, tu_ne])
  have s3 := s_103 (J := J) (τ := τ) hc hDt A3
  rcases clash_cases hDt with ⟨c1, c2⟩ | ⟨c1, c2⟩
  · obtain ⟨A', g1, g2, g3⟩ := l_186 (J := J) (τ := τ) (may D w) hw24 hm hc hDt (fun st hs => by
      unfold may
      rw [e2, e3]
      simp only [c2, true_and]) 16 0 _ (by omega) A3 (by simp (disch := omega) only [tu_same, tu_eq, tu_ne]; rfl)
    refine ⟨A', ?_, ⟨g2, ?_, ?_⟩, fun a y h => (g3 a y (by omega)).trans (by simp (disch := omega) only [tu_same, tu_eq, tu_ne])⟩
    · have g1' : R_186 55 [(0, .ref 24), (1, .ref c), (2, .int (nI w)), (3, .int (nI mi)), (4, .int 0)] [] (mk (tm_u (tm_u (tm_u A 28 w 0) 29 w (nI (lfw D w))) 30 w (nI (tuw D w))) J τ) = some (none, mk A' J τ) := g1
      rw [e_186]
      simp (disch := first | omega | (simp (disch := omega) only [n_ti, Int32.reduceToInt] <;> omega)) only [k1, s1, e_186_31, s2, e_186_42, s3, e_186_47, c1, g1', n_add, nl_add, nr_add, n_mul, nl_mul, nr_mul, n_sub, nr_dec, n_div, nr_sub_1, nr_sub_2, nr_sub_3, nr_sub_4, nr_sub_7, nr_sub_10, nr_sub_11, nr_sub_20, nr_sub_48, nr_sub_97, nl_sub_3, nl_sub_4, nl_sub_12, nl_sub_24, nl_sub_32, nr_div_2, nr_div_4, z_lt, z_le, z_eq, z_cl, n_ti, Int.toNat_natCast, Int32.reduceToInt, Int32.reduceToNatClampNeg, zc_add, zc_sub, zc_add_1, zc_add_2, zc_add_3, zc_add_4, zc_add_8, zc_add_10, zc_add_12, zc_add_16, zc_add_20, zc_sub_1, zc_sub_2, zc_sub_4, zc_sub_10, zc_sub_20, zc_sub_48, zc_sub_97, zc_mul_4, t_ltZ, f_ltZ, t_leZ, f_leZ, t_eqZ, f_eqZ, t_ltN, f_ltN, t_leN, f_leN, t_eqN, f_eqN, ↓reduceIte, and_true, true_and, and_false, false_and, and_self, or_true, true_or, or_false, false_or, or_self, not_true_eq_false, not_false_eq_true, tu_same, tu_eq, tu_ne, b_V, b_I, b_J]
    · rw [g3 29 w (by omega)]
      simp (disch := omega) only [tu_same, tu_eq, tu_ne]
    · rw [g3 30 w (by omega)]
      simp (disch := omega) only [tu_same, tu_eq, tu_ne]
  · refine ⟨tm_u (tm_u (tm_u A 28 w 0) 29 w (nI (lfw D w))) 30 w (nI (tuw D w)), ?_, ⟨?_, ?_, ?_⟩, fun a y h => by simp (disch := omega) only [tu_same, tu_eq, tu_ne]⟩
    · rw [e_186]
      simp (disch := first | omega | (simp (disch := omega) only [n_ti, Int32.reduceToInt] <;> omega)) only [k1, s1, e_186_31, s2, e_186_42, s3, e_186_47, n_add, nl_add, nr_add, n_mul, nl_mul, nr_mul, n_sub, nr_dec, n_div, nr_sub_1, nr_sub_2, nr_sub_3, nr_sub_4, nr_sub_7, nr_sub_10, nr_sub_11, nr_sub_20, nr_sub_48, nr_sub_97, nl_sub_3, nl_sub_4, nl_sub_12, nl_sub_24, nl_sub_32, nr_div_2, nr_div_4, z_lt, z_le, z_eq, z_cl, n_ti, Int.toNat_natCast, Int32.reduceToInt, Int32.reduceToNatClampNeg, zc_add, zc_sub, zc_add_1, zc_add_2, zc_add_3, zc_add_4, zc_add_8, zc_add_10, zc_add_12, zc_add_16, zc_add_20, zc_sub_1, zc_sub_2, zc_sub_4, zc_sub_10, zc_sub_20, zc_sub_48, zc_sub_97, zc_mul_4, t_ltZ, f_ltZ, t_leZ, f_leZ, t_eqZ, f_eqZ, t_ltN, f_ltN, t_leN, f_leN, t_eqN, f_eqN, ↓reduceIte, and_true, true_and, and_false, false_and, and_self, or_true, true_or, or_false, false_or, or_self, not_true_eq_false, not_false_eq_true, tu_same, tu_eq, tu_ne, b_V, b_I, b_J]
    · have z : wnt D w = 0 := by
        have hz : ∀ k, mskN (may D w) k = 0 := by
          intro k
          induction k with
          | zero => rfl
          | succ k ih =>
            have : may D w k = false := by
              unfold may
              rw [e2]
              simp
              intro h; omega
            show (if may D w k = true then _ else mskN (may D w) k) = 0
            rw [this, if_neg Bool.false_ne_true, ih]
        exact hz 16
      rw [z]
      simp (disch := omega) only [tu_same, tu_eq, tu_ne]
      rfl
    · simp (disch := omega) only [tu_same, tu_eq, tu_ne]
    · simp (disch := omega) only [tu_same, tu_eq, tu_ne]
theorem s_189 {A : Nat → Nat → Int32} {J : Nat → Nat → Int64} {τ : tm_Tu} {n set : Nat} {D : Nat → TD} {T : Nat → Nat → Bool} (hn : n ≤ 12) (hD : DOk n D) (hset : set < 4096) (hW : ∀ w, w < 2 * n → WyA A D w) (hB : ∀ s, s < set → ∃ v : Nat, v < 65536 ∧ stJ J s = v ∧ ∀ st, st < 16 → v.testBit st = T s st) : ∃ r : Nat, r < 65536 ∧ F_189 [.ref 24, .int (nI set), .int (nI n)] (mk A J τ) = some (some (.int (nI r)), mk A J τ) ∧ ∀ st, st < 16 → r.testBit st = anyw (ledP D T set st) (2 * n) := by
  have key : ∀ m t r, t + m = n → r < 65536 → (∀ st, st < 16 → r.testBit st = anyw (ledP D T set st) (2 * t)) → ∃ r' : Nat, r' < 65536 ∧ R_189 5 [(0, .ref 24), (1, .int (nI set)), (2, .int (nI n)), (3, .int (nI r)), (4, .int (nI t))] [] (mk A J τ) = some (some (.int (nI r')), mk A J τ) ∧ ∀ st, st < 16 → r'.testBit st = anyw (ledP D T set st) (2 * n) := by
    intro m
    induction m with
    | zero =>
      intro t r ht hr hb
      have e : t = n := by omega
      subst e
      refine ⟨r, hr, ?_, hb⟩
      rw [e_189_5]
      simp (disch := first | omega | (simp (disch := omega) only [n_ti, Int32.reduceToInt] <;> omega)) only [e_189_79, n_add, nl_add, nr_add, n_mul, nl_mul, nr_mul, n_sub, nr_dec, n_div, nr_sub_1, nr_sub_2, nr_sub_3, nr_sub_4, nr_sub_7, nr_sub_10, nr_sub_11, nr_sub_20, nr_sub_48, nr_sub_97, nl_sub_3, nl_sub_4, nl_sub_12, nl_sub_24, nl_sub_32, nr_div_2, nr_div_4, z_lt, z_le, z_eq, z_cl, n_ti, Int.toNat_natCast, Int32.reduceToInt, Int32.reduceToNatClampNeg, zc_add, zc_sub, zc_add_1, zc_add_2, zc_add_3, zc_add_4, zc_add_8, zc_add_10, zc_add_12, zc_add_16, zc_add_20, zc_sub_1, zc_sub_2, zc_sub_4, zc_sub_10, zc_sub_20, zc_sub_48, zc_sub_97, zc_mul_4, t_ltZ, f_ltZ, t_leZ, f_leZ, t_eqZ, f_eqZ, t_ltN, f_ltN, t_leN, f_leN, t_eqN, f_eqN, ↓reduceIte, and_true, true_and, and_false, false_and, and_self, or_true, true_or, or_false, false_or, or_self, not_true_eq_false, not_false_eq_true, tu_same, tu_eq, tu_ne, b_V, b_I, b_J]
    | succ m ih =>
      intro t r ht hr hb
      have hany : ∀ st, anyw (ledP D T set st) (2 * (t + 1)) = ((anyw (ledP D T set st) (2 * t) || ledP D T set st (2 * t)) || ledP D T set st (2 * t + 1)) := fun st => rfl
      have d1 : (2 * t) / 2 = t := by omega
      have d2 : (2 * t + 1) / 2 = t := by omega
      have hsh := shl_1 (t := t) (by omega)
      rw [e_189_5]
      cases hbit : set.testBit t with
      | false =>
        obtain ⟨r', g1, g2, g3⟩ := ih (t + 1) r (by omega) hr (fun st hs => by
          rw [hany, hb st hs]
          unfold ledP
          rw [d1, d2, hbit]
          simp)
        refine ⟨r', g1, ?_, g3⟩
        have hbf := bit_f (s := set) (t := t) (by omega) (by omega) hbit
        rw [← g2]
        simp (disch := first | omega | (simp (disch := omega) only [n_ti, Int32.reduceToInt] <;> omega)) only [hbf, e_189_73, n_add, nl_add, nr_add, n_mul, nl_mul, nr_mul, n_sub, nr_dec, n_div, nr_sub_1, nr_sub_2, nr_sub_3, nr_sub_4, nr_sub_7, nr_sub_10, nr_sub_11, nr_sub_20, nr_sub_48, nr_sub_97, nl_sub_3, nl_sub_4, nl_sub_12, nl_sub_24, nl_sub_32, nr_div_2, nr_div_4, z_lt, z_le, z_eq, z_cl, n_ti, Int.toNat_natCast, Int32.reduceToInt, Int32.reduceToNatClampNeg, zc_add, zc_sub, zc_add_1, zc_add_2, zc_add_3, zc_add_4, zc_add_8, zc_add_10, zc_add_12, zc_add_16, zc_add_20, zc_sub_1, zc_sub_2, zc_sub_4, zc_sub_10, zc_sub_20, zc_sub_48, zc_sub_97, zc_mul_4, t_ltZ, f_ltZ, t_leZ, f_leZ, t_eqZ, f_eqZ, t_ltN, f_ltN, t_leN, f_leN, t_eqN, f_eqN, ↓reduceIte, and_true, true_and, and_false, false_and, and_self, or_true, true_or, or_false, false_or, or_self, not_true_eq_false, not_false_eq_true, tu_same, tu_eq, tu_ne, b_V, b_I, b_J]
      | true =>
        have hlt := xor_lt hbit
        have hbt := bit_t (s := set) (t := t) (by omega) (by omega) hbit
        obtain ⟨v, v1, v2, v3⟩ := hB _ hlt
        have s255 := s_255 (A := A) (J := J) (τ := τ) (s := set ^^^ 2 ^ t) (by omega)
        rw [v2] at s255
        by_cases cv : v = 0
        · obtain ⟨r', g1, g2, g3⟩ := ih (t + 1) r (by omega) hr (fun st hs => by
            rw [hany, hb st hs]
            unfold ledP
            rw [d1, d2, ← v3 _ (nxt_lt hD (by omega) hs), ← v3 _ (nxt_lt hD (by omega) hs), cv]
            simp)
          refine ⟨r', g1, ?_, g3⟩
          rw [cv] at s255
          rw [← g2]
          simp (disch := first | omega | (simp (disch := omega) only [n_ti, Int32.reduceToInt] <;> omega)) only [hbt, hsh, i_xor, s255, e_189_40, e_189_73, n_add, nl_add, nr_add, n_mul, nl_mul, nr_mul, n_sub, nr_dec, n_div, nr_sub_1, nr_sub_2, nr_sub_3, nr_sub_4, nr_sub_7, nr_sub_10, nr_sub_11, nr_sub_20, nr_sub_48, nr_sub_97, nl_sub_3, nl_sub_4, nl_sub_12, nl_sub_24, nl_sub_32, nr_div_2, nr_div_4, z_lt, z_le, z_eq, z_cl, n_ti, Int.toNat_natCast, Int32.reduceToInt, Int32.reduceToNatClampNeg, zc_add, zc_sub, zc_add_1, zc_add_2, zc_add_3, zc_add_4, zc_add_8, zc_add_10, zc_add_12, zc_add_16, zc_add_20, zc_sub_1, zc_sub_2, zc_sub_4, zc_sub_10, zc_sub_20, zc_sub_48, zc_sub_97, zc_mul_4, t_ltZ, f_ltZ, t_leZ, f_leZ, t_eqZ, f_eqZ, t_ltN, f_ltN, t_leN, f_leN, t_eqN, f_eqN, ↓reduceIte, and_true, true_and, and_false, false_and, and_self, or_true, true_or, or_false, false_or, or_self, not_true_eq_false, not_false_eq_true, tu_same, tu_eq, tu_ne, b_V, b_I, b_J]
        · obtain ⟨w1, w2, w3⟩ := hW (2 * t) (by omega)
          obtain ⟨w4, w5, w6⟩ := hW (2 * t + 1) (by omega)
          have l1 := lfw_le hD (w := 2 * t) (by omega)
          have l2 := lfw_le hD (w := 2 * t + 1) (by omega)
          have l3 := tuw_le hD (w := 2 * t) (by omega)
          have l4 := tuw_le hD (w := 2 * t + 1) (by omega)
          have s1 := s_188 (J := J) (τ := τ) (w := 2 * t) (v := v) (by omega) v1 (by omega) (by omega) w2 w3 w1
          have s2 := s_188 (J := J) (τ := τ) (w := 2 * t + 1) (v := v) (by omega) v1 (by omega) (by omega) w5 w6 w4
          have z1 : tl (tuw D (2 * t)) (lfw D (2 * t)) v &&& wnt D (2 * t) < 65536 := Nat.lt_of_le_of_lt Nat.and_le_right (wnt_lt _ _)
          have z2 : tl (tuw D (2 * t + 1)) (lfw D (2 * t + 1)) v &&& wnt D (2 * t + 1) < 65536 := Nat.lt_of_le_of_lt Nat.and_le_right (wnt_lt _ _)
          have b1 := fun st hs => sa_bit hD (w := 2 * t) (v := v) (st := st) (by omega) hs
          have b2 := fun st hs => sa_bit hD (w := 2 * t + 1) (v := v) (st := st) (by omega) hs
          generalize tl (tuw D (2 * t)) (lfw D (2 * t)) v &&& wnt D (2 * t) = p1 at *
          generalize tl (tuw D (2 * t + 1)) (lfw D (2 * t + 1)) v &&& wnt D (2 * t + 1) = p2 at *
          obtain ⟨r', g1, g2, g3⟩ := ih (t + 1) (r ||| (p1 ||| p2)) (by omega) (Nat.or_lt_two_pow (n := 16) hr (Nat.or_lt_two_pow (n := 16) z1 z2)) (fun st hs => by
            rw [hany, Nat.testBit_or, Nat.testBit_or, hb st hs, b1 st hs, b2 st hs]
            unfold ledP
            rw [d1, d2, ← v3 _ (nxt_lt hD (by omega) hs), ← v3 _ (nxt_lt hD (by omega) hs), hbit]
            simp [Bool.or_assoc])
          refine ⟨r', g1, ?_, g3⟩
          rw [← g2]
          simp (disch := first | omega | (simp (disch := omega) only [n_ti, Int32.reduceToInt] <;> omega)) only [hbt, hsh, i_xor, s255, e_189_40, s1, e_189_58, s2, e_189_70, e_189_73, i_or, n_add, nl_add, nr_add, n_mul, nl_mul, nr_mul, n_sub, nr_dec, n_div, nr_sub_1, nr_sub_2, nr_sub_3, nr_sub_4, nr_sub_7, nr_sub_10, nr_sub_11, nr_sub_20, nr_sub_48, nr_sub_97, nl_sub_3, nl_sub_4, nl_sub_12, nl_sub_24, nl_sub_32, nr_div_2, nr_div_4, z_lt, z_le, z_eq, z_cl, n_ti, Int.toNat_natCast, Int32.reduceToInt, Int32.reduceToNatClampNeg, zc_add, zc_sub, zc_add_1, zc_add_2, zc_add_3, zc_add_4, zc_add_8, zc_add_10, zc_add_12, zc_add_16, zc_add_20, zc_sub_1, zc_sub_2, zc_sub_4, zc_sub_10, zc_sub_20, zc_sub_48, zc_sub_97, zc_mul_4, t_ltZ, f_ltZ, t_leZ, f_leZ, t_eqZ, f_eqZ, t_ltN, f_ltN, t_leN, f_leN, t_eqN, f_eqN, ↓reduceIte, and_true, true_and, and_false, false_and, and_self, or_true, true_or, or_false, false_or, or_self, not_true_eq_false, not_false_eq_true, tu_same, tu_eq, tu_ne, b_V, b_I, b_J]
  obtain ⟨r, h1, h2, h3⟩ := key n 0 0 (by omega) (by omega) (fun st _ => by simp [anyw])
  refine ⟨r, h1, ?_, h3⟩
  rw [e_189]
  exact h2
