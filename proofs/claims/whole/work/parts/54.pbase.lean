/-! reading: what both readers offer -/
def TokOk (s : Nat → Int) (n : Nat) (t : TK) : Prop := tQ t ≤ n ∧ (tK t ≠ 36 → tE t ≤ n) ∧ (tK t ≠ 35 → tK t ≠ 36 → tQ t < tE t) ∧ (tK t < 23 ∨ 30 ≤ tK t ∧ tK t ≤ 36) ∧ (tK t = 31 → tV t ≤ 999) ∧ (tK t = 32 → 4 ≤ tV t ∧ tV t ≤ 32 ∧ tV t % 4 = 0 ∧ tE t = tQ t + tV t + 2 ∧ ∀ i, i < tV t → isF (s (tQ t + 1 + i)) = true) ∧ (tK t < 23 ∨ tK t = 30 → (tL t).length ≤ 8 ∧ okL (tL t))
theorem numF_le (s : Nat → Int) (q : Nat) : ∀ m, (∀ i, i < m → isD (s (q + i)) = true) → numF s q m < 10 ^ m := by
  intro m
  induction m with
  | zero => intro _; exact Nat.one_pos
  | succ m ih =>
    intro h
    have h1 := ih (fun i hi => h i (by omega))
    have h2 := dDt _ (h m (by omega))
    show numF s q m * 10 + ((s (q + m)).toNat - 48) < 10 ^ (m + 1)
    rw [Nat.pow_succ]
    omega
theorem tok_ok {s : Nat → Int} {n p : Nat} (hp : p ≤ n) : TokOk s n (tok s n p) ∧ p ≤ tQ (tok s n p) := by
  obtain ⟨w1, w2, w3, w4⟩ := sc_P (fun k => isW (s k)) (n - p) p
  have ht : tok s n p = tkA s n (sc (fun k => isW (s k)) (n - p) p) := rfl
  rw [ht]
  generalize sc (fun k => isW (s k)) (n - p) p = q at *
  unfold tkA
  by_cases c0 : n ≤ q
  · rw [if_pos c0]
    refine ⟨⟨by show q ≤ n; omega, fun _ => Nat.le_refl _, fun h => absurd rfl h, Or.inr ⟨by show 30 ≤ 35; omega, by show 35 ≤ 36; omega⟩, fun h => ?_, fun h => ?_, fun h => ?_⟩, w1⟩
    all_goals (simp [tK] at h)
  · rw [if_neg c0]
    have bad : TokOk s n (q, 36, 0, [], n) ∧ p ≤ tQ (q, 36, 0, [], n) := by
      refine ⟨⟨by show q ≤ n; omega, fun h => absurd rfl h, fun _ h => absurd rfl h, Or.inr ⟨by show 30 ≤ 36; omega, Nat.le_refl _⟩, fun h => ?_, fun h => ?_, fun h => ?_⟩, w1⟩
      all_goals (simp [tK] at h)
    cases hl : isL (s q) with
    | true =>
      rw [if_pos rfl]
      obtain ⟨v1, v2, v3, v4⟩ := sc_P (fun k => isL (s k)) (n - q) q
      generalize sc (fun k => isL (s k)) (n - q) q = E at *
      have hE : q < E := by
        by_cases c : E = q
        · have := v4 (by omega)
          rw [c, hl] at this
          cases this
        · omega
      unfold tkW
      by_cases c8 : 8 < E - q
      · rw [if_pos c8]; exact bad
      · rw [if_neg c8]
        have hok : okL (lets s q (E - q)) := lets_mem s q (E - q) (fun i hi => v3 (q + i) (by omega) (by omega))
        have hlen := lets_len s q (E - q)
        have hk : kow (lets s q (E - q)) < 23 ∨ kow (lets s q (E - q)) = 30 := by
          rcases kowF_P (lets s q (E - q)) 23 0 rfl with ⟨y1, -⟩ | ⟨-, y2, -⟩
          · exact Or.inr y1
          · exact Or.inl y2
        refine ⟨⟨by show q ≤ n; omega, fun _ => by show E ≤ n; omega, fun _ _ => hE, by show kow (lets s q (E - q)) < 23 ∨ 30 ≤ kow (lets s q (E - q)) ∧ kow (lets s q (E - q)) ≤ 36; omega, fun h => ?_, fun h => ?_, fun _ => ⟨by show (lets s q (E - q)).length ≤ 8; omega, hok⟩⟩, w1⟩
        · change kow (lets s q (E - q)) = 31 at h; omega
        · change kow (lets s q (E - q)) = 32 at h; omega
    | false =>
      rw [if_neg Bool.false_ne_true]
      cases hd : isD (s q) with
      | true =>
        rw [if_pos rfl]
        obtain ⟨v1, v2, v3, v4⟩ := sc_P (fun k => isD (s k)) (n - q) q
        generalize sc (fun k => isD (s k)) (n - q) q = E at *
        have hE : q < E := by
          by_cases c : E = q
          · have := v4 (by omega)
            rw [c, hd] at this
            cases this
          · omega
        unfold tkN
        by_cases cb : 3 < E - q ∨ (E < n ∧ isL (s E) = true)
        · rw [if_pos cb]; exact bad
        · rw [if_neg cb]
          have c3 : ¬ 3 < E - q := fun h => cb (Or.inl h)
          have hv := numF_le s q (E - q) (fun i hi => v3 (q + i) (by omega) (by omega))
          have hp3 : 10 ^ (E - q) ≤ 10 ^ 3 := Nat.pow_le_pow_right (by omega) (by omega)
          refine ⟨⟨by show q ≤ n; omega, fun _ => by show E ≤ n; omega, fun _ _ => hE, Or.inr ⟨by show 30 ≤ 31; omega, by show 31 ≤ 36; omega⟩, fun _ => by show numF s q (E - q) ≤ 999; omega, fun h => ?_, fun h => ?_⟩, w1⟩
          all_goals (simp [tK] at h)
      | false =>
        rw [if_neg Bool.false_ne_true]
        by_cases cq : s q = 34
        · rw [if_pos cq]
          obtain ⟨v1, v2, v3, v4⟩ := sc_P (fun k => isF (s k)) (n - (q + 1)) (q + 1)
          generalize sc (fun k => isF (s k)) (n - (q + 1)) (q + 1) = E at *
          unfold tkS
          by_cases cc : (E < n ∧ s E = 34) ∧ 4 ≤ E - (q + 1) ∧ E - (q + 1) ≤ 32 ∧ (E - (q + 1)) % 4 = 0
          · rw [if_pos cc]
            refine ⟨⟨by show q ≤ n; omega, fun _ => by show E + 1 ≤ n; omega, fun _ _ => by show q < E + 1; omega, Or.inr ⟨by show 30 ≤ 32; omega, by show 32 ≤ 36; omega⟩, fun h => ?_, fun _ => ⟨cc.2.1, cc.2.2.1, cc.2.2.2, by show E + 1 = q + (E - (q + 1)) + 2; omega, fun i hi => v3 _ (by show q + 1 ≤ q + 1 + i; omega) (by have : i < E - (q + 1) := hi; show q + 1 + i < E; omega)⟩, fun h => ?_⟩, w1⟩
            all_goals (simp [tK] at h)
          · rw [if_neg cc]; exact bad
        · rw [if_neg cq]
          unfold tkM
          by_cases c1 : s q = 58
          · rw [if_pos c1]
            refine ⟨⟨by show q ≤ n; omega, fun _ => by show q + 1 ≤ n; omega, fun _ _ => by show q < q + 1; omega, Or.inr ⟨by show 30 ≤ 33; omega, by show 33 ≤ 36; omega⟩, fun h => ?_, fun h => ?_, fun h => ?_⟩, w1⟩
            all_goals (simp [tK] at h)
          · rw [if_neg c1]
            by_cases c2 : s q = 59
            · rw [if_pos c2]
              refine ⟨⟨by show q ≤ n; omega, fun _ => by show q + 1 ≤ n; omega, fun _ _ => by show q < q + 1; omega, Or.inr ⟨by show 30 ≤ 34; omega, by show 34 ≤ 36; omega⟩, fun h => ?_, fun h => ?_, fun h => ?_⟩, w1⟩
              all_goals (simp [tK] at h)
            · rw [if_neg c2]; exact bad
def nx (s : Nat → Int) (n : Nat) (t : TK) : TK := tok s n (tE t)
def flt (t : TK) (why : Nat) : Nat × Nat := (if tK t = 36 then 1 else why, tQ t)
def nf (t : TK) (lo hi : Nat) : Option (Nat × Nat) := if tK t = 31 then (if tV t < lo ∨ hi < tV t then some (flt t 4) else none) else some (flt t 2)
/-- the class stands at token t -/
def ClS (s : Nat → Int) (n : Nat) (A : Nat → Nat → Int32) (J : Nat → Nat → Int64) (t : TK) : Prop := TxA A s n ∧ ClT A J t ∧ WLt J ∧ TokOk s n t
theorem ClS.tr {s : Nat → Int} {n : Nat} {A A' : Nat → Nat → Int32} {J J' : Nat → Nat → Int64} {t : TK} (h : ClS s n A J t) (f : ∀ a k, a = 3 ∨ (a = 4 ∧ (k = 2 ∨ k = 3 ∨ k = 6 ∨ k = 7 ∨ k = 8)) → A' a k = A a k) (g : ∀ a k, (a = 4 ∧ k = 9) ∨ a = 6 → J' a k = J a k) : ClS s n A' J' t := ⟨h.1.tr (fun a k u => f a k (by omega)), h.2.1.tr (fun k u => f 4 k (by omega)) (g _ _ (by omega)), fun k hk => (g 6 k (by omega)).trans (h.2.2.1 k hk), h.2.2.2⟩
def clF (A A' : Nat → Nat → Int32) (J J' : Nat → Nat → Int64) : Prop := (∀ a y, ¬ (a = 4 ∧ (y = 3 ∨ y = 6 ∨ y = 7 ∨ y = 8)) → A' a y = A a y) ∧ (∀ a y, ¬ (a = 4 ∧ y = 9) → J' a y = J a y)
theorem c_adv {τ : tm_Tu} (hτ : τ.2.2.2.2 = 3) {s : Nat → Int} {n : Nat} {A : Nat → Nat → Int32} {J : Nat → Nat → Int64} {t : TK} (h : ClS s n A J t) (hk : tK t ≠ 36) : ∃ A' J', F_28 [.ref 4] (mk A J τ) = some (none, mk A' J' τ) ∧ ClS s n A' J' (nx s n t) ∧ clF A A' J J' := by
  obtain ⟨h1, h2, h3, h4⟩ := h
  have he := h4.2.1 hk
  obtain ⟨A', J', g1, g2, g3, g4⟩ := s_28 hτ h1 he (h2.2.2.1 hk) h3
  exact ⟨A', J', g1, ⟨h1.tr (fun a k u => g3 a k (by omega)), g2, fun k hk => (g4 6 k (by omega)).trans (h3 k hk), (tok_ok he).1⟩, g3, g4⟩
theorem c_ref {τ : tm_Tu} {s : Nat → Int} {n : Nat} {A : Nat → Nat → Int32} {J : Nat → Nat → Int64} {t : TK} (h : ClS s n A J t) (why : Nat) : F_30 [.ref 4, .int (nI why)] (mk A J τ) = some (some (.int 0), mk (tm_u (tm_u A 4 4 (nI (flt t why).1)) 4 5 (nI (flt t why).2)) J τ) := by
  obtain ⟨h1, ⟨k1, k2, -⟩, h3, h4⟩ := h
  have hq := h4.1
  have hn := h1.1
  have hK := h4.2.2.2.1
  unfold flt
  rw [e_30]
  by_cases c : tK t = 36
  · rw [if_pos c]
    simp (disch := first | omega | (simp (disch := omega) only [n_ti, Int32.reduceToInt] <;> omega)) only [k2, c, e_30_15, k1, n_add, nl_add, nr_add, n_mul, nl_mul, nr_mul, n_sub, nr_dec, n_div, nr_sub_1, nr_sub_2, nr_sub_3, nr_sub_4, nr_sub_7, nr_sub_10, nr_sub_11, nr_sub_20, nr_sub_48, nr_sub_97, nl_sub_3, nl_sub_4, nl_sub_12, nl_sub_24, nl_sub_32, nr_div_2, nr_div_4, z_lt, z_le, z_eq, z_cl, n_ti, Int.toNat_natCast, Int32.reduceToInt, Int32.reduceToNatClampNeg, zc_add, zc_sub, zc_add_1, zc_add_2, zc_add_3, zc_add_4, zc_add_8, zc_add_10, zc_add_12, zc_add_16, zc_add_20, zc_sub_1, zc_sub_2, zc_sub_4, zc_sub_10, zc_sub_20, zc_sub_48, zc_sub_97, zc_mul_4, t_ltZ, f_ltZ, t_leZ, f_leZ, t_eqZ, f_eqZ, t_ltN, f_ltN, t_leN, f_leN, t_eqN, f_eqN, ↓reduceIte, and_true, true_and, and_false, false_and, and_self, or_true, true_or, or_false, false_or, or_self, not_true_eq_false, not_false_eq_true, tu_same, tu_eq, tu_ne, b_V, b_I, b_J]
    rfl
  · rw [if_neg c]
    simp (disch := first | omega | (simp (disch := omega) only [n_ti, Int32.reduceToInt] <;> omega)) only [k2, e_30_15, k1, n_add, nl_add, nr_add, n_mul, nl_mul, nr_mul, n_sub, nr_dec, n_div, nr_sub_1, nr_sub_2, nr_sub_3, nr_sub_4, nr_sub_7, nr_sub_10, nr_sub_11, nr_sub_20, nr_sub_48, nr_sub_97, nl_sub_3, nl_sub_4, nl_sub_12, nl_sub_24, nl_sub_32, nr_div_2, nr_div_4, z_lt, z_le, z_eq, z_cl, n_ti, Int.toNat_natCast, Int32.reduceToInt, Int32.reduceToNatClampNeg, zc_add, zc_sub, zc_add_1, zc_add_2, zc_add_3, zc_add_4, zc_add_8, zc_add_10, zc_add_12, zc_add_16, zc_add_20, zc_sub_1, zc_sub_2, zc_sub_4, zc_sub_10, zc_sub_20, zc_sub_48, zc_sub_97, zc_mul_4, t_ltZ, f_ltZ, t_leZ, f_leZ, t_eqZ, f_eqZ, t_ltN, f_ltN, t_leN, f_leN, t_eqN, f_eqN, ↓reduceIte, and_true, true_and, and_false, false_and, and_self, or_true, true_or, or_false, false_or, or_self, not_true_eq_false, not_false_eq_true, tu_same, tu_eq, tu_ne, b_V, b_I, b_J]
theorem c_num {τ : tm_Tu} {s : Nat → Int} {n lo hi : Nat} {A : Nat → Nat → Int32} {J : Nat → Nat → Int64} {t : TK} (h : ClS s n A J t) (h1 : lo < 100000) (h2 : hi < 100000) : F_36 [.ref 4, .int (nI lo), .int (nI hi)] (mk A J τ) = match nf t lo hi with
    | none => some (some (.int 1), mk A J τ)
    | some f => some (some (.int 0), mk (tm_u (tm_u A 4 4 (nI f.1)) 4 5 (nI f.2)) J τ) := by
  have r2 : F_30 [.ref 4, .int 2] (mk A J τ) = _ := c_ref (τ := τ) h 2
  have r4 : F_30 [.ref 4, .int 4] (mk A J τ) = _ := c_ref (τ := τ) h 4
  obtain ⟨-, ⟨-, k2, -, k4, -⟩, -, h4⟩ := h
  have hK := h4.2.2.2.1
  unfold nf
  rw [e_36]
  by_cases c : tK t = 31
  · have k8 := k4 (Or.inl c)
    have hv := h4.2.2.2.2.1 c
    rw [if_pos c]
    by_cases c1 : tV t < lo ∨ hi < tV t
    · rw [if_pos c1]
      by_cases c2 : tV t < lo
      · simp (disch := first | omega | (simp (disch := omega) only [n_ti, Int32.reduceToInt] <;> omega)) only [k2, c, k8, e_36_31, r4, e_36_36, e_36_44, n_add, nl_add, nr_add, n_mul, nl_mul, nr_mul, n_sub, nr_dec, n_div, nr_sub_1, nr_sub_2, nr_sub_3, nr_sub_4, nr_sub_7, nr_sub_10, nr_sub_11, nr_sub_20, nr_sub_48, nr_sub_97, nl_sub_3, nl_sub_4, nl_sub_12, nl_sub_24, nl_sub_32, nr_div_2, nr_div_4, z_lt, z_le, z_eq, z_cl, n_ti, Int.toNat_natCast, Int32.reduceToInt, Int32.reduceToNatClampNeg, zc_add, zc_sub, zc_add_1, zc_add_2, zc_add_3, zc_add_4, zc_add_8, zc_add_10, zc_add_12, zc_add_16, zc_add_20, zc_sub_1, zc_sub_2, zc_sub_4, zc_sub_10, zc_sub_20, zc_sub_48, zc_sub_97, zc_mul_4, t_ltZ, f_ltZ, t_leZ, f_leZ, t_eqZ, f_eqZ, t_ltN, f_ltN, t_leN, f_leN, t_eqN, f_eqN, ↓reduceIte, and_true, true_and, and_false, false_and, and_self, or_true, true_or, or_false, false_or, or_self, not_true_eq_false, not_false_eq_true, tu_same, tu_eq, tu_ne, b_V, b_I, b_J]
      · simp (disch := first | omega | (simp (disch := omega) only [n_ti, Int32.reduceToInt] <;> omega)) only [k2, c, k8, e_36_31, r4, e_36_36, e_36_44, n_add, nl_add, nr_add, n_mul, nl_mul, nr_mul, n_sub, nr_dec, n_div, nr_sub_1, nr_sub_2, nr_sub_3, nr_sub_4, nr_sub_7, nr_sub_10, nr_sub_11, nr_sub_20, nr_sub_48, nr_sub_97, nl_sub_3, nl_sub_4, nl_sub_12, nl_sub_24, nl_sub_32, nr_div_2, nr_div_4, z_lt, z_le, z_eq, z_cl, n_ti, Int.toNat_natCast, Int32.reduceToInt, Int32.reduceToNatClampNeg, zc_add, zc_sub, zc_add_1, zc_add_2, zc_add_3, zc_add_4, zc_add_8, zc_add_10, zc_add_12, zc_add_16, zc_add_20, zc_sub_1, zc_sub_2, zc_sub_4, zc_sub_10, zc_sub_20, zc_sub_48, zc_sub_97, zc_mul_4, t_ltZ, f_ltZ, t_leZ, f_leZ, t_eqZ, f_eqZ, t_ltN, f_ltN, t_leN, f_leN, t_eqN, f_eqN, ↓reduceIte, and_true, true_and, and_false, false_and, and_self, or_true, true_or, or_false, false_or, or_self, not_true_eq_false, not_false_eq_true, tu_same, tu_eq, tu_ne, b_V, b_I, b_J]
    · rw [if_neg c1]
      simp (disch := first | omega | (simp (disch := omega) only [n_ti, Int32.reduceToInt] <;> omega)) only [k2, c, k8, e_36_39, e_36_44, n_add, nl_add, nr_add, n_mul, nl_mul, nr_mul, n_sub, nr_dec, n_div, nr_sub_1, nr_sub_2, nr_sub_3, nr_sub_4, nr_sub_7, nr_sub_10, nr_sub_11, nr_sub_20, nr_sub_48, nr_sub_97, nl_sub_3, nl_sub_4, nl_sub_12, nl_sub_24, nl_sub_32, nr_div_2, nr_div_4, z_lt, z_le, z_eq, z_cl, n_ti, Int.toNat_natCast, Int32.reduceToInt, Int32.reduceToNatClampNeg, zc_add, zc_sub, zc_add_1, zc_add_2, zc_add_3, zc_add_4, zc_add_8, zc_add_10, zc_add_12, zc_add_16, zc_add_20, zc_sub_1, zc_sub_2, zc_sub_4, zc_sub_10, zc_sub_20, zc_sub_48, zc_sub_97, zc_mul_4, t_ltZ, f_ltZ, t_leZ, f_leZ, t_eqZ, f_eqZ, t_ltN, f_ltN, t_leN, f_leN, t_eqN, f_eqN, ↓reduceIte, and_true, true_and, and_false, false_and, and_self, or_true, true_or, or_false, false_or, or_self, not_true_eq_false, not_false_eq_true, tu_same, tu_eq, tu_ne, b_V, b_I, b_J]
  · rw [if_neg c]
    simp (disch := first | omega | (simp (disch := omega) only [n_ti, Int32.reduceToInt] <;> omega)) only [k2, r2, e_36_14, n_add, nl_add, nr_add, n_mul, nl_mul, nr_mul, n_sub, nr_dec, n_div, nr_sub_1, nr_sub_2, nr_sub_3, nr_sub_4, nr_sub_7, nr_sub_10, nr_sub_11, nr_sub_20, nr_sub_48, nr_sub_97, nl_sub_3, nl_sub_4, nl_sub_12, nl_sub_24, nl_sub_32, nr_div_2, nr_div_4, z_lt, z_le, z_eq, z_cl, n_ti, Int.toNat_natCast, Int32.reduceToInt, Int32.reduceToNatClampNeg, zc_add, zc_sub, zc_add_1, zc_add_2, zc_add_3, zc_add_4, zc_add_8, zc_add_10, zc_add_12, zc_add_16, zc_add_20, zc_sub_1, zc_sub_2, zc_sub_4, zc_sub_10, zc_sub_20, zc_sub_48, zc_sub_97, zc_mul_4, t_ltZ, f_ltZ, t_leZ, f_leZ, t_eqZ, f_eqZ, t_ltN, f_ltN, t_leN, f_leN, t_eqN, f_eqN, ↓reduceIte, and_true, true_and, and_false, false_and, and_self, or_true, true_or, or_false, false_or, or_self, not_true_eq_false, not_false_eq_true, tu_same, tu_eq, tu_ne, b_V, b_I, b_J]
theorem c_pass {τ : tm_Tu} (hτ : τ.2.2.2.2 = 3) {s : Nat → Int} {n w : Nat} {A : Nat → Nat → Int32} {J : Nat → Nat → Int64} {t : TK} (h : ClS s n A J t) (hw : w < 36) : (tK t = w ∧ ∃ A' J', F_31 [.ref 4, .int (nI w)] (mk A J τ) = some (some (.int 1), mk A' J' τ) ∧ ClS s n A' J' (nx s n t) ∧ clF A A' J J') ∨ (tK t ≠ w ∧ F_31 [.ref 4, .int (nI w)] (mk A J τ) = some (some (.int 0), mk (tm_u (tm_u A 4 4 (nI (flt t 2).1)) 4 5 (nI (flt t 2).2)) J τ)) := by
  have r2 : F_30 [.ref 4, .int 2] (mk A J τ) = _ := c_ref (τ := τ) h 2
  have k2 := h.2.1.2.1
  have hK := h.2.2.2.2.2.2.1
  by_cases c : tK t = w
  · obtain ⟨A', J', g1, g2, g3⟩ := c_adv hτ h (by omega)
    refine Or.inl ⟨c, A', J', ?_, g2, g3⟩
    rw [e_31]
    simp (disch := first | omega | (simp (disch := omega) only [n_ti, Int32.reduceToInt] <;> omega)) only [k2, c, g1, e_31_18, n_add, nl_add, nr_add, n_mul, nl_mul, nr_mul, n_sub, nr_dec, n_div, nr_sub_1, nr_sub_2, nr_sub_3, nr_sub_4, nr_sub_7, nr_sub_10, nr_sub_11, nr_sub_20, nr_sub_48, nr_sub_97, nl_sub_3, nl_sub_4, nl_sub_12, nl_sub_24, nl_sub_32, nr_div_2, nr_div_4, z_lt, z_le, z_eq, z_cl, n_ti, Int.toNat_natCast, Int32.reduceToInt, Int32.reduceToNatClampNeg, zc_add, zc_sub, zc_add_1, zc_add_2, zc_add_3, zc_add_4, zc_add_8, zc_add_10, zc_add_12, zc_add_16, zc_add_20, zc_sub_1, zc_sub_2, zc_sub_4, zc_sub_10, zc_sub_20, zc_sub_48, zc_sub_97, zc_mul_4, t_ltZ, f_ltZ, t_leZ, f_leZ, t_eqZ, f_eqZ, t_ltN, f_ltN, t_leN, f_leN, t_eqN, f_eqN, ↓reduceIte, and_true, true_and, and_false, false_and, and_self, or_true, true_or, or_false, false_or, or_self, not_true_eq_false, not_false_eq_true, tu_same, tu_eq, tu_ne, b_V, b_I, b_J]
  · refine Or.inr ⟨c, ?_⟩
    rw [e_31]
    simp (disch := first | omega | (simp (disch := omega) only [n_ti, Int32.reduceToInt] <;> omega)) only [k2, r2, e_31_13, n_add, nl_add, nr_add, n_mul, nl_mul, nr_mul, n_sub, nr_dec, n_div, nr_sub_1, nr_sub_2, nr_sub_3, nr_sub_4, nr_sub_7, nr_sub_10, nr_sub_11, nr_sub_20, nr_sub_48, nr_sub_97, nl_sub_3, nl_sub_4, nl_sub_12, nl_sub_24, nl_sub_32, nr_div_2, nr_div_4, z_lt, z_le, z_eq, z_cl, n_ti, Int.toNat_natCast, Int32.reduceToInt, Int32.reduceToNatClampNeg, zc_add, zc_sub, zc_add_1, zc_add_2, zc_add_3, zc_add_4, zc_add_8, zc_add_10, zc_add_12, zc_add_16, zc_add_20, zc_sub_1, zc_sub_2, zc_sub_4, zc_sub_10, zc_sub_20, zc_sub_48, zc_sub_97, zc_mul_4, t_ltZ, f_ltZ, t_leZ, f_leZ, t_eqZ, f_eqZ, t_ltN, f_ltN, t_leN, f_leN, t_eqN, f_eqN, ↓reduceIte, and_true, true_and, and_false, false_and, and_self, or_true, true_or, or_false, false_or, or_self, not_true_eq_false, not_false_eq_true, tu_same, tu_eq, tu_ne, b_V, b_I, b_J]
