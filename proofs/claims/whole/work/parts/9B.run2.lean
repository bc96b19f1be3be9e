/-! run: how it begins; run, class and model alike -/
def S0 : PS := fun p => (if p < 2 then 2 + p else 0, 0, 0, 0, 0, 0, 0)
def E0 : ES := fun e => (e, 0, 0)
def Rz0 : RS := ((S0, E0, (0, fun _ => (0, 0, 0))), ((0, fun _ => (0, 0, 0, 0, 0)), 0, fun _ => 0), 0, 0, 0, (fun _ => (0, fun _ => zz)), 0)
theorem inv_0 {n k : Nat} {D : Nat → TD} {L : Nat → LD} : Inv n D k L 0 Rz0 := by
  refine ⟨⟨fun p hp => ⟨?_, Nat.zero_le _, Nat.zero_le _, Nat.zero_le _, Nat.zero_le _, fun u => absurd rfl u, by show 0 < 256; omega, Nat.zero_le _⟩, fun e he => ⟨?_, by show 0 ≤ 6; omega, by show 0 ≤ 1; omega, fun p hp => ?_, fun p hp => ?_⟩, by decide, Nat.zero_le _⟩, by show 0 ≤ 3; omega, fun u => absurd rfl u, by show 0 ≤ 20; omega, Nat.zero_le _, fun j _ _ => Nat.zero_le _, ⟨Nat.zero_le _, fun t => Nat.zero_le _⟩, Nat.le_refl _, fun c hc => by omega⟩
  · show (if p < 2 then 2 + p else 0) ≤ 5
    split <;> omega
  · show e < 6
    omega
  · show (if p < 2 then 2 + p else 0) = 2 + e ↔ p = e
    split <;> omega
  · show (if p < 2 then 2 + p else 0) = 4 + e ↔ p + 1 = 0
    split <;> omega
set_option maxHeartbeats 1000000 in
theorem c_112 {A : Nat → Nat → Int32} {J : Nat → Nat → Int64} {τ : tm_Tu} : ∃ A', F_112 [.ref 7] (mk A J τ) = some (none, mk A' J τ) ∧ PsA A' S0 ∧ EnA A' E0 ∧ A' 7 5 = nI 0 ∧ (∀ a k, ¬ (15 ≤ a ∧ a ≤ 23) → ¬ (a = 7 ∧ k = 5) → A' a k = A a k) := by
  have loop : ∀ m j (A1 : Nat → Nat → Int32), j + m = 6 → (∀ p, p < j → JmA A1 p (S0 p)) → (∀ a k, ¬ (18 ≤ a ∧ a ≤ 23) → A1 a k = A a k) → ∃ A2, R_112 2 [(0, .ref 7), (1, .int (nI j))] [] (mk A1 J τ) = R_112 37 [(0, .ref 7), (1, .int 0)] [] (mk A2 J τ) ∧ PsA A2 S0 ∧ (∀ a k, ¬ (18 ≤ a ∧ a ≤ 23) → A2 a k = A a k) := by
    intro m
    induction m with
    | zero =>
      intro j A1 hj h f
      refine ⟨A1, ?_, fun p hp => h p (by omega), f⟩
      rw [e_112_2]
      simp (disch := first | omega | (simp (disch := omega) only [n_ti, Int32.reduceToInt] <;> omega)) only [n_add, nl_add, nr_add, n_mul, nl_mul, nr_mul, n_sub, nr_dec, n_div, nr_sub_1, nr_sub_2, nr_sub_3, nr_sub_4, nr_sub_7, nr_sub_10, nr_sub_11, nr_sub_20, nr_sub_48, nr_sub_97, nl_sub_3, nl_sub_4, nl_sub_12, nl_sub_24, nl_sub_32, nr_div_2, nr_div_4, z_lt, z_le, z_eq, z_cl, n_ti, Int.toNat_natCast, Int32.reduceToInt, Int32.reduceToNatClampNeg, zc_add, zc_sub, zc_add_1, zc_add_2, zc_add_3, zc_add_4, zc_add_8, zc_add_10, zc_add_12, zc_add_16, zc_add_20, zc_sub_1, zc_sub_2, zc_sub_4, zc_sub_10, zc_sub_20, zc_sub_48, zc_sub_97, zc_mul_4, t_ltZ, f_ltZ, t_leZ, f_leZ, t_eqZ, f_eqZ, t_ltN, f_ltN, t_leN, f_leN, t_eqN, f_eqN, ↓reduceIte, and_true, true_and, and_false, false_and, and_self, or_true, true_or, or_false, false_or, or_self, not_true_eq_false, not_false_eq_true, tu_same, tu_eq, tu_ne, b_V, b_I, b_J]
    | succ m ih =>
      intro j A1 hj h f
      have hp : j < 6 := by omega
      have k1 := j_1 hp τ
      have k2 := j_2 hp
      obtain ⟨A2, g1, g2, g3⟩ := c_111 (A := A1) (J := J) (τ := τ) (w := if j < 2 then 2 + j else 0) hp
      obtain ⟨A3, p1, p2, p3⟩ := ih (j + 1) A2 (by omega) (fun p hp' => by
        by_cases e : p = j
        · subst e; exact g2
        · exact (h p (by omega)).tr (fun k => g3 _ k (by omega))) (fun a k u => (g3 a k (by omega)).trans (f a k u))
      refine ⟨A3, ?_, p2, p3⟩
      rw [← p1, e_112_2]
      by_cases c : j < 2
      · rw [if_pos c] at g1
        simp (disch := first | omega | (simp (disch := omega) only [n_ti, Int32.reduceToInt] <;> omega)) only [k1, k2, e_112_26, g1, e_112_29, n_add, nl_add, nr_add, n_mul, nl_mul, nr_mul, n_sub, nr_dec, n_div, nr_sub_1, nr_sub_2, nr_sub_3, nr_sub_4, nr_sub_7, nr_sub_10, nr_sub_11, nr_sub_20, nr_sub_48, nr_sub_97, nl_sub_3, nl_sub_4, nl_sub_12, nl_sub_24, nl_sub_32, nr_div_2, nr_div_4, z_lt, z_le, z_eq, z_cl, n_ti, Int.toNat_natCast, Int32.reduceToInt, Int32.reduceToNatClampNeg, zc_add, zc_sub, zc_add_1, zc_add_2, zc_add_3, zc_add_4, zc_add_8, zc_add_10, zc_add_12, zc_add_16, zc_add_20, zc_sub_1, zc_sub_2, zc_sub_4, zc_sub_10, zc_sub_20, zc_sub_48, zc_sub_97, zc_mul_4, t_ltZ, f_ltZ, t_leZ, f_leZ, t_eqZ, f_eqZ, t_ltN, f_ltN, t_leN, f_leN, t_eqN, f_eqN, ↓reduceIte, and_true, true_and, and_false, false_and, and_self, or_true, true_or, or_false, false_or, or_self, not_true_eq_false, not_false_eq_true, tu_same, tu_eq, tu_ne, b_V, b_I, b_J]
      · rw [if_neg c] at g1
        have g1' : F_111 [.ref (18 + j), .int 0] (mk A1 J τ) = some (none, mk A2 J τ) := g1
        simp (disch := first | omega | (simp (disch := omega) only [n_ti, Int32.reduceToInt] <;> omega)) only [k1, k2, e_112_26, g1', e_112_29, n_add, nl_add, nr_add, n_mul, nl_mul, nr_mul, n_sub, nr_dec, n_div, nr_sub_1, nr_sub_2, nr_sub_3, nr_sub_4, nr_sub_7, nr_sub_10, nr_sub_11, nr_sub_20, nr_sub_48, nr_sub_97, nl_sub_3, nl_sub_4, nl_sub_12, nl_sub_24, nl_sub_32, nr_div_2, nr_div_4, z_lt, z_le, z_eq, z_cl, n_ti, Int.toNat_natCast, Int32.reduceToInt, Int32.reduceToNatClampNeg, zc_add, zc_sub, zc_add_1, zc_add_2, zc_add_3, zc_add_4, zc_add_8, zc_add_10, zc_add_12, zc_add_16, zc_add_20, zc_sub_1, zc_sub_2, zc_sub_4, zc_sub_10, zc_sub_20, zc_sub_48, zc_sub_97, zc_mul_4, t_ltZ, f_ltZ, t_leZ, f_leZ, t_eqZ, f_eqZ, t_ltN, f_ltN, t_leN, f_leN, t_eqN, f_eqN, ↓reduceIte, and_true, true_and, and_false, false_and, and_self, or_true, true_or, or_false, false_or, or_self, not_true_eq_false, not_false_eq_true, tu_same, tu_eq, tu_ne, b_V, b_I, b_J]
  obtain ⟨A2, g1, g2, g3⟩ := loop 6 0 A (by omega) (fun p hp => by omega) (fun _ _ _ => rfl)
  have g1' : R_112 2 [(0, .ref 7), (1, .int 0)] [] (mk A J τ) = R_112 37 [(0, .ref 7), (1, .int 0)] [] (mk A2 J τ) := g1
  have s0 : R_112 37 [(0, .ref 7), (1, .int (nI 0))] [] (mk A2 J τ) = R_112 37 [(0, .ref 7), (1, .int (nI 1))] [] (mk (tm_u (tm_u A2 15 0 (nI 0)) 16 0 (-1)) J τ) := by
    rw [e_112_37]
    simp (disch := first | omega | (simp (disch := omega) only [n_ti, Int32.reduceToInt] <;> omega)) only [n_add, nl_add, nr_add, n_mul, nl_mul, nr_mul, n_sub, nr_dec, n_div, nr_sub_1, nr_sub_2, nr_sub_3, nr_sub_4, nr_sub_7, nr_sub_10, nr_sub_11, nr_sub_20, nr_sub_48, nr_sub_97, nl_sub_3, nl_sub_4, nl_sub_12, nl_sub_24, nl_sub_32, nr_div_2, nr_div_4, z_lt, z_le, z_eq, z_cl, n_ti, Int.toNat_natCast, Int32.reduceToInt, Int32.reduceToNatClampNeg, zc_add, zc_sub, zc_add_1, zc_add_2, zc_add_3, zc_add_4, zc_add_8, zc_add_10, zc_add_12, zc_add_16, zc_add_20, zc_sub_1, zc_sub_2, zc_sub_4, zc_sub_10, zc_sub_20, zc_sub_48, zc_sub_97, zc_mul_4, t_ltZ, f_ltZ, t_leZ, f_leZ, t_eqZ, f_eqZ, t_ltN, f_ltN, t_leN, f_leN, t_eqN, f_eqN, ↓reduceIte, and_true, true_and, and_false, false_and, and_self, or_true, true_or, or_false, false_or, or_self, not_true_eq_false, not_false_eq_true, tu_same, tu_eq, tu_ne, b_V, b_I, b_J]
  have s0' : R_112 37 [(0, .ref 7), (1, .int 0)] [] (mk A2 J τ) = R_112 37 [(0, .ref 7), (1, .int (nI 1))] [] (mk (tm_u (tm_u A2 15 0 (nI 0)) 16 0 (-1)) J τ) := s0
  obtain ⟨A3, e3⟩ : ∃ z, z = tm_u (tm_u A2 15 0 (nI 0)) 16 0 (-1) := ⟨_, rfl⟩
  rw [← e3] at s0'
  have s1 : R_112 37 [(0, .ref 7), (1, .int (nI 1))] [] (mk A3 J τ) = some (none, mk (tm_u (tm_u (tm_u A3 15 1 (nI 1)) 16 1 (-1)) 7 5 0) J τ) := by
    have s2 : ∀ A4 : Nat → Nat → Int32, R_112 37 [(0, .ref 7), (1, .int (nI 2))] [] (mk A4 J τ) = some (none, mk (tm_u A4 7 5 0) J τ) := fun A4 => by
      rw [e_112_37]
      simp (disch := first | omega | (simp (disch := omega) only [n_ti, Int32.reduceToInt] <;> omega)) only [n_add, nl_add, nr_add, n_mul, nl_mul, nr_mul, n_sub, nr_dec, n_div, nr_sub_1, nr_sub_2, nr_sub_3, nr_sub_4, nr_sub_7, nr_sub_10, nr_sub_11, nr_sub_20, nr_sub_48, nr_sub_97, nl_sub_3, nl_sub_4, nl_sub_12, nl_sub_24, nl_sub_32, nr_div_2, nr_div_4, z_lt, z_le, z_eq, z_cl, n_ti, Int.toNat_natCast, Int32.reduceToInt, Int32.reduceToNatClampNeg, zc_add, zc_sub, zc_add_1, zc_add_2, zc_add_3, zc_add_4, zc_add_8, zc_add_10, zc_add_12, zc_add_16, zc_add_20, zc_sub_1, zc_sub_2, zc_sub_4, zc_sub_10, zc_sub_20, zc_sub_48, zc_sub_97, zc_mul_4, t_ltZ, f_ltZ, t_leZ, f_leZ, t_eqZ, f_eqZ, t_ltN, f_ltN, t_leN, f_leN, t_eqN, f_eqN, ↓reduceIte, and_true, true_and, and_false, false_and, and_self, or_true, true_or, or_false, false_or, or_self, not_true_eq_false, not_false_eq_true, tu_same, tu_eq, tu_ne, b_V, b_I, b_J]
    rw [e_112_37]
    simp (disch := first | omega | (simp (disch := omega) only [n_ti, Int32.reduceToInt] <;> omega)) only [s2, n_add, nl_add, nr_add, n_mul, nl_mul, nr_mul, n_sub, nr_dec, n_div, nr_sub_1, nr_sub_2, nr_sub_3, nr_sub_4, nr_sub_7, nr_sub_10, nr_sub_11, nr_sub_20, nr_sub_48, nr_sub_97, nl_sub_3, nl_sub_4, nl_sub_12, nl_sub_24, nl_sub_32, nr_div_2, nr_div_4, z_lt, z_le, z_eq, z_cl, n_ti, Int.toNat_natCast, Int32.reduceToInt, Int32.reduceToNatClampNeg, zc_add, zc_sub, zc_add_1, zc_add_2, zc_add_3, zc_add_4, zc_add_8, zc_add_10, zc_add_12, zc_add_16, zc_add_20, zc_sub_1, zc_sub_2, zc_sub_4, zc_sub_10, zc_sub_20, zc_sub_48, zc_sub_97, zc_mul_4, t_ltZ, f_ltZ, t_leZ, f_leZ, t_eqZ, f_eqZ, t_ltN, f_ltN, t_leN, f_leN, t_eqN, f_eqN, ↓reduceIte, and_true, true_and, and_false, false_and, and_self, or_true, true_or, or_false, false_or, or_self, not_true_eq_false, not_false_eq_true, tu_same, tu_eq, tu_ne, b_V, b_I, b_J]
  refine ⟨tm_u (tm_u (tm_u A3 15 1 (nI 1)) 16 1 (-1)) 7 5 0, ?_, g2.tr (fun a k u v => by simp (disch := omega) only [tu_same, tu_eq, tu_ne]; rw [e3]; simp (disch := omega) only [tu_same, tu_eq, tu_ne]), fun e he => ?_, by simp (disch := omega) only [tu_same, tu_eq, tu_ne]; rfl, fun a k u v => by simp (disch := omega) only [tu_same, tu_eq, tu_ne]; rw [e3]; simp (disch := omega) only [tu_same, tu_eq, tu_ne]; exact g3 a k (by omega)⟩
  · rw [e_112, g1', s0', s1]
  · have : e = 0 ∨ e = 1 := by omega
    rcases this with c | c <;> subst c
    · refine ⟨?_, ?_, ?_⟩
      · simp (disch := omega) only [tu_same, tu_eq, tu_ne]; rw [e3]; simp (disch := omega) only [tu_same, tu_eq, tu_ne]; rfl
      · simp (disch := omega) only [tu_same, tu_eq, tu_ne]; rw [e3]; simp (disch := omega) only [tu_same, tu_eq, tu_ne]; rfl
      · exact fun u => absurd rfl u
    · refine ⟨?_, ?_, ?_⟩
      · simp (disch := omega) only [tu_same, tu_eq, tu_ne]; rfl
      · simp (disch := omega) only [tu_same, tu_eq, tu_ne]; rfl
      · exact fun u => absurd rfl u
theorem k13 : kdm 13 = 1 ∧ (tm_sh 13).2 = 12 := by decide +kernel
theorem c_113 {A : Nat → Nat → Int32} {J : Nat → Nat → Int64} {τ : tm_Tu} {N : Nat} (hN : N ≤ 200) : ∃ A', F_113 [.ref 8, .int (nI N)] (mk A J τ) = some (none, mk A' J τ) ∧ A' 8 5 = 1 ∧ A' 8 6 = nI N ∧ A' 8 7 = nI 0 ∧ A' 8 8 = nI 0 ∧ A' 8 9 = nI 0 ∧ A' 8 10 = nI 0 ∧ (∀ t, t < 12 → A' 13 t = nI 0) ∧ (∀ a k, ¬ (a = 8 ∧ 5 ≤ k ∧ k ≤ 10) → a ≠ 13 → A' a k = A a k) := by
  have hif : (if (200 : Int32) < nI N then (200 : Int32) else nI N) = nI N := by
    simp (disch := first | omega | (simp (disch := omega) only [n_ti, Int32.reduceToInt] <;> omega)) only [n_add, nl_add, nr_add, n_mul, nl_mul, nr_mul, n_sub, nr_dec, n_div, nr_sub_1, nr_sub_2, nr_sub_3, nr_sub_4, nr_sub_7, nr_sub_10, nr_sub_11, nr_sub_20, nr_sub_48, nr_sub_97, nl_sub_3, nl_sub_4, nl_sub_12, nl_sub_24, nl_sub_32, nr_div_2, nr_div_4, z_lt, z_le, z_eq, z_cl, n_ti, Int.toNat_natCast, Int32.reduceToInt, Int32.reduceToNatClampNeg, zc_add, zc_sub, zc_add_1, zc_add_2, zc_add_3, zc_add_4, zc_add_8, zc_add_10, zc_add_12, zc_add_16, zc_add_20, zc_sub_1, zc_sub_2, zc_sub_4, zc_sub_10, zc_sub_20, zc_sub_48, zc_sub_97, zc_mul_4, t_ltZ, f_ltZ, t_leZ, f_leZ, t_eqZ, f_eqZ, t_ltN, f_ltN, t_leN, f_leN, t_eqN, f_eqN, ↓reduceIte, and_true, true_and, and_false, false_and, and_self, or_true, true_or, or_false, false_or, or_self, not_true_eq_false, not_false_eq_true, tu_same, tu_eq, tu_ne, b_V, b_I, b_J]
  obtain ⟨A', g1, g2, g3⟩ := c_33 (τ := τ) (J := J) (a := 13) (L := 12) (by omega) k13.1 k13.2 (by omega) (tm_u (tm_u (tm_u (tm_u (tm_u (tm_u A 8 5 1) 8 6 (nI N)) 8 7 0) 8 8 0) 8 9 0) 8 10 0)
  refine ⟨A', ?_, ?_, ?_, ?_, ?_, ?_, ?_, fun t ht => g2 t ht, fun a k u v => ?_⟩
  · rw [e_113, hif]
    simp (disch := first | omega | (simp (disch := omega) only [n_ti, Int32.reduceToInt] <;> omega)) only [g1, e_113_44, n_add, nl_add, nr_add, n_mul, nl_mul, nr_mul, n_sub, nr_dec, n_div, nr_sub_1, nr_sub_2, nr_sub_3, nr_sub_4, nr_sub_7, nr_sub_10, nr_sub_11, nr_sub_20, nr_sub_48, nr_sub_97, nl_sub_3, nl_sub_4, nl_sub_12, nl_sub_24, nl_sub_32, nr_div_2, nr_div_4, z_lt, z_le, z_eq, z_cl, n_ti, Int.toNat_natCast, Int32.reduceToInt, Int32.reduceToNatClampNeg, zc_add, zc_sub, zc_add_1, zc_add_2, zc_add_3, zc_add_4, zc_add_8, zc_add_10, zc_add_12, zc_add_16, zc_add_20, zc_sub_1, zc_sub_2, zc_sub_4, zc_sub_10, zc_sub_20, zc_sub_48, zc_sub_97, zc_mul_4, t_ltZ, f_ltZ, t_leZ, f_leZ, t_eqZ, f_eqZ, t_ltN, f_ltN, t_leN, f_leN, t_eqN, f_eqN, ↓reduceIte, and_true, true_and, and_false, false_and, and_self, or_true, true_or, or_false, false_or, or_self, not_true_eq_false, not_false_eq_true, tu_same, tu_eq, tu_ne, b_V, b_I, b_J]
  · rw [g3 _ _ (by omega)]; simp (disch := omega) only [tu_same, tu_eq, tu_ne]
  · rw [g3 _ _ (by omega)]; simp (disch := omega) only [tu_same, tu_eq, tu_ne]
  · rw [g3 _ _ (by omega)]; simp (disch := omega) only [tu_same, tu_eq, tu_ne]; rfl
  · rw [g3 _ _ (by omega)]; simp (disch := omega) only [tu_same, tu_eq, tu_ne]; rfl
  · rw [g3 _ _ (by omega)]; simp (disch := omega) only [tu_same, tu_eq, tu_ne]; rfl
  · rw [g3 _ _ (by omega)]; simp (disch := omega) only [tu_same, tu_eq, tu_ne]; rfl
  · rw [g3 a k v]; simp (disch := omega) only [tu_same, tu_eq, tu_ne]
theorem c_145 {I : Nat → Nat → Int32} {J : Nat → Nat → Int64} {τ : tm_Tu} {n N k stop : Nat} {D : Nat → TD} {L : Nat → LD} (hn : n ≤ 12) (hb : isB τ.1) (ha : isR τ.2.2.1) (hD : DOk n D) (hN : N ≤ 200) (hk : k ≤ 60) (hL : LsOk n N k L) (hst : stop ≤ 20) (h210 : I 2 10 = 1) (h212 : I 2 12 = nI stop) (hA : BkA I τ.1 n D) (h5 : I τ.2.2.1 5 = nI N) (h6 : I τ.2.2.1 6 = nI k) (hLn : ∀ j, j < k → LnA I τ.2.2.1 j (L j)) : ∃ A', F_145 [.ref 2] (mk I J τ) = some (some (.int ((A' 8 9) - ((A' 2 13) * (A' 8 7)))), mk A' J τ) ∧ CsA A' N (rnP D stop k L N 0 Rz0) ∧ Inv n D k L N (rnP D stop k L N 0 Rz0) ∧ A' 8 5 = 1 ∧ A' 8 6 = nI N ∧ (∀ x y, ¬ (7 ≤ x ∧ x ≤ 23) → A' x y = I x y) := by
  have ha' : 119 ≤ τ.2.2.1 := by unfold isR at ha; omega
  have hb43 : 43 ≤ τ.1 := by unfold isB at hb; omega
  obtain ⟨k1, -⟩ := ro_1 ha τ
  obtain ⟨A1, a1, a2, a3, a4, a5⟩ := c_112 (A := I) (J := J) (τ := τ)
  obtain ⟨A2, b1, b2', b3, b4, b5, b6, b7, b8, b9⟩ := c_113 (A := A1) (J := J) (τ := τ) hN
  have F2 : ∀ x y, ¬ (7 ≤ x ∧ x ≤ 23) → A2 x y = I x y := fun x y u => (b9 x y (by omega) (by omega)).trans (a5 x y (by omega) (by omega))
  have hC : CtA A2 τ.1 τ.2.2.1 n N k D L := ⟨hA.tr hn (fun x y u v => F2 x y (by omega)), (F2 _ _ (by omega)).trans h5, (F2 _ _ (by omega)).trans h6, fun j hj => (hLn j hj).tr (fun x y u v => F2 x y (by omega)), b3⟩
  have hS : CsA A2 0 Rz0 := ⟨⟨a2.tr (fun x y u v => b9 x y (by omega) (by omega)), a3.tr (fun x y u v => b9 x y (by omega) (by omega)), ⟨b4, fun q u => by have : q < 0 := u; omega⟩⟩, ⟨b5, fun q u => (by have : q < 0 := u; omega), b6, b8⟩, fun q u => by omega, b7, (b9 _ _ (by omega) (by omega)).trans a4⟩
  obtain ⟨A3, c1, c2, c3, c4⟩ := c_run (J := J) (τ := τ) hn hb ha hD hN hk hL hst N 0 A2 Rz0 (by omega) inv_0 hS hC
  have c1' : R_144 24 [(0, .ref 7), (1, .ref τ.1), (2, .ref τ.2.2.1), (3, .int (nI stop)), (4, .int 0), (5, .int 0), (6, .int 0)] [] (mk A2 J τ) = some (none, mk A3 J τ) := c1
  have i5 : A1 τ.2.2.1 5 = nI N := (a5 _ _ (by omega) (by omega)).trans h5
  have f144 : F_144 [.ref 7, .ref τ.1, .ref τ.2.2.1, .int (nI stop)] (mk I J τ) = some (none, mk A3 J τ) := by
    rw [e_144]
    simp (disch := first | omega | (simp (disch := omega) only [n_ti, Int32.reduceToInt] <;> omega)) only [a1, e_144_4, k1, i5, b1, e_144_15, c1', n_add, nl_add, nr_add, n_mul, nl_mul, nr_mul, n_sub, nr_dec, n_div, nr_sub_1, nr_sub_2, nr_sub_3, nr_sub_4, nr_sub_7, nr_sub_10, nr_sub_11, nr_sub_20, nr_sub_48, nr_sub_97, nl_sub_3, nl_sub_4, nl_sub_12, nl_sub_24, nl_sub_32, nr_div_2, nr_div_4, z_lt, z_le, z_eq, z_cl, n_ti, Int.toNat_natCast, Int32.reduceToInt, Int32.reduceToNatClampNeg, zc_add, zc_sub, zc_add_1, zc_add_2, zc_add_3, zc_add_4, zc_add_8, zc_add_10, zc_add_12, zc_add_16, zc_add_20, zc_sub_1, zc_sub_2, zc_sub_4, zc_sub_10, zc_sub_20, zc_sub_48, zc_sub_97, zc_mul_4, t_ltZ, f_ltZ, t_leZ, f_leZ, t_eqZ, f_eqZ, t_ltN, f_ltN, t_leN, f_leN, t_eqN, f_eqN, ↓reduceIte, and_true, true_and, and_false, false_and, and_self, or_true, true_or, or_false, false_or, or_self, not_true_eq_false, not_false_eq_true, tu_same, tu_eq, tu_ne, b_V, b_I, b_J]
  refine ⟨A3, ?_, c2, c3, (c4 _ _ (by omega) (by omega) (by omega) (by omega)).trans b2', (c4 _ _ (by omega) (by omega) (by omega) (by omega)).trans b3, fun x y u => (c4 x y (by omega) (by omega) (by omega) (by omega)).trans (F2 x y u)⟩
  rw [e_145]
  simp (disch := first | omega | (simp (disch := omega) only [n_ti, Int32.reduceToInt] <;> omega)) only [h210, h212, f144, e_145_29, n_add, nl_add, nr_add, n_mul, nl_mul, nr_mul, n_sub, nr_dec, n_div, nr_sub_1, nr_sub_2, nr_sub_3, nr_sub_4, nr_sub_7, nr_sub_10, nr_sub_11, nr_sub_20, nr_sub_48, nr_sub_97, nl_sub_3, nl_sub_4, nl_sub_12, nl_sub_24, nl_sub_32, nr_div_2, nr_div_4, z_lt, z_le, z_eq, z_cl, n_ti, Int.toNat_natCast, Int32.reduceToInt, Int32.reduceToNatClampNeg, zc_add, zc_sub, zc_add_1, zc_add_2, zc_add_3, zc_add_4, zc_add_8, zc_add_10, zc_add_12, zc_add_16, zc_add_20, zc_sub_1, zc_sub_2, zc_sub_4, zc_sub_10, zc_sub_20, zc_sub_48, zc_sub_97, zc_mul_4, t_ltZ, f_ltZ, t_leZ, f_leZ, t_eqZ, f_eqZ, t_ltN, f_ltN, t_leN, f_leN, t_eqN, f_eqN, ↓reduceIte, and_true, true_and, and_false, false_and, and_self, or_true, true_or, or_false, false_or, or_self, not_true_eq_false, not_false_eq_true, tu_same, tu_eq, tu_ne, b_V, b_I, b_J]
set_option maxHeartbeats 1000000 in
theorem m_146 {B : Nat → Nat → Int32} {J : Nat → Nat → Int64} {τ : tm_Tu} : ∃ B', F_146 [.ref 131] (mk B J τ) = some (none, mk B' J τ) ∧ PsB B' 0 S0 ∧ EnB B' E0 ∧ (∀ t, t < 12 → B' 158 t = nI 0) ∧ FeB B' 0 ∧ B' 131 60 = nI 0 ∧ B' 131 61 = nI 0 ∧ B' 131 62 = nI 0 ∧ B' 131 63 = nI 0 ∧ B' 131 66 = nI 0 ∧ B' 131 65 = nI 0 ∧ (∀ a k, ¬ (151 ≤ a ∧ a ≤ 174) → ¬ (a = 131 ∧ (60 ≤ k ∧ k ≤ 63 ∨ k = 65 ∨ k = 66)) → B' a k = B a k) := by
  have l1 : ∀ m j (B1 : Nat → Nat → Int32), j + m = 6 → (∀ p, p < j → JmB B1 0 p (S0 p)) → (∀ a k, ¬ (151 ≤ a ∧ a ≤ 174) → B1 a k = B a k) → ∃ B2, R_146 2 [(0, .ref 131), (1, .int (nI j))] [] (mk B1 J τ) = R_146 62 [(0, .ref 131), (1, .int 0)] [] (mk B2 J τ) ∧ PsB B2 0 S0 ∧ (∀ a k, ¬ (151 ≤ a ∧ a ≤ 174) → B2 a k = B a k) := by
    intro m
    induction m with
    | zero =>
      intro j B1 hj h f
      refine ⟨B1, ?_, fun p hp => h p (by omega), f⟩
      rw [e_146_2]
      simp (disch := first | omega | (simp (disch := omega) only [n_ti, Int32.reduceToInt] <;> omega)) only [n_add, nl_add, nr_add, n_mul, nl_mul, nr_mul, n_sub, nr_dec, n_div, nr_sub_1, nr_sub_2, nr_sub_3, nr_sub_4, nr_sub_7, nr_sub_10, nr_sub_11, nr_sub_20, nr_sub_48, nr_sub_97, nl_sub_3, nl_sub_4, nl_sub_12, nl_sub_24, nl_sub_32, nr_div_2, nr_div_4, z_lt, z_le, z_eq, z_cl, n_ti, Int.toNat_natCast, Int32.reduceToInt, Int32.reduceToNatClampNeg, zc_add, zc_sub, zc_add_1, zc_add_2, zc_add_3, zc_add_4, zc_add_8, zc_add_10, zc_add_12, zc_add_16, zc_add_20, zc_sub_1, zc_sub_2, zc_sub_4, zc_sub_10, zc_sub_20, zc_sub_48, zc_sub_97, zc_mul_4, t_ltZ, f_ltZ, t_leZ, f_leZ, t_eqZ, f_eqZ, t_ltN, f_ltN, t_leN, f_leN, t_eqN, f_eqN, ↓reduceIte, and_true, true_and, and_false, false_and, and_self, or_true, true_or, or_false, false_or, or_self, not_true_eq_false, not_false_eq_true, tu_same, tu_eq, tu_ne, b_V, b_I, b_J]
    | succ m ih =>
      intro j B1 hj h f
      obtain ⟨B2, e2⟩ : ∃ z, z = tm_u (tm_u (tm_u (tm_u (tm_u B1 151 j (nI (if j < 2 then 2 + j else 0))) 152 j 0) 153 j 0) 154 j (-1)) 174 j 0 := ⟨_, rfl⟩
      obtain ⟨B3, p1, p2, p3⟩ := ih (j + 1) B2 (by omega) (fun p hp' => by
        by_cases e : p = j
        · subst e
          refine ⟨?_, fun u => ?_, ?_, fun u => absurd rfl u⟩
          · rw [e2]; simp (disch := omega) only [tu_same, tu_eq, tu_ne]; rfl
          · have : (if p < 2 then 2 + p else 0) = 1 := u
            split at this <;> omega
          · rw [e2]; simp (disch := omega) only [tu_same, tu_eq, tu_ne]; rfl
        · exact (h p (by omega)).tr (fun a u => by rw [e2]; simp (disch := omega) only [tu_same, tu_eq, tu_ne])) (fun a k u => by rw [e2]; simp (disch := omega) only [tu_same, tu_eq, tu_ne]; exact f a k u)
      refine ⟨B3, ?_, p2, p3⟩
      rw [← p1, e_146_2, e2]
      by_cases c : j < 2
      · rw [if_pos c]
        simp (disch := first | omega | (simp (disch := omega) only [n_ti, Int32.reduceToInt] <;> omega)) only [e_146_25, n_add, nl_add, nr_add, n_mul, nl_mul, nr_mul, n_sub, nr_dec, n_div, nr_sub_1, nr_sub_2, nr_sub_3, nr_sub_4, nr_sub_7, nr_sub_10, nr_sub_11, nr_sub_20, nr_sub_48, nr_sub_97, nl_sub_3, nl_sub_4, nl_sub_12, nl_sub_24, nl_sub_32, nr_div_2, nr_div_4, z_lt, z_le, z_eq, z_cl, n_ti, Int.toNat_natCast, Int32.reduceToInt, Int32.reduceToNatClampNeg, zc_add, zc_sub, zc_add_1, zc_add_2, zc_add_3, zc_add_4, zc_add_8, zc_add_10, zc_add_12, zc_add_16, zc_add_20, zc_sub_1, zc_sub_2, zc_sub_4, zc_sub_10, zc_sub_20, zc_sub_48, zc_sub_97, zc_mul_4, t_ltZ, f_ltZ, t_leZ, f_leZ, t_eqZ, f_eqZ, t_ltN, f_ltN, t_leN, f_leN, t_eqN, f_eqN, ↓reduceIte, and_true, true_and, and_false, false_and, and_self, or_true, true_or, or_false, false_or, or_self, not_true_eq_false, not_false_eq_true, tu_same, tu_eq, tu_ne, b_V, b_I, b_J]
      · rw [if_neg c]
        simp (disch := first | omega | (simp (disch := omega) only [n_ti, Int32.reduceToInt] <;> omega)) only [e_146_25, n_add, nl_add, nr_add, n_mul, nl_mul, nr_mul, n_sub, nr_dec, n_div, nr_sub_1, nr_sub_2, nr_sub_3, nr_sub_4, nr_sub_7, nr_sub_10, nr_sub_11, nr_sub_20, nr_sub_48, nr_sub_97, nl_sub_3, nl_sub_4, nl_sub_12, nl_sub_24, nl_sub_32, nr_div_2, nr_div_4, z_lt, z_le, z_eq, z_cl, n_ti, Int.toNat_natCast, Int32.reduceToInt, Int32.reduceToNatClampNeg, zc_add, zc_sub, zc_add_1, zc_add_2, zc_add_3, zc_add_4, zc_add_8, zc_add_10, zc_add_12, zc_add_16, zc_add_20, zc_sub_1, zc_sub_2, zc_sub_4, zc_sub_10, zc_sub_20, zc_sub_48, zc_sub_97, zc_mul_4, t_ltZ, f_ltZ, t_leZ, f_leZ, t_eqZ, f_eqZ, t_ltN, f_ltN, t_leN, f_leN, t_eqN, f_eqN, ↓reduceIte, and_true, true_and, and_false, false_and, and_self, or_true, true_or, or_false, false_or, or_self, not_true_eq_false, not_false_eq_true, tu_same, tu_eq, tu_ne, b_V, b_I, b_J]
        rfl
  have l2 : ∀ m j (B1 : Nat → Nat → Int32), j + m = 12 → (∀ t, t < j → B1 158 t = nI 0) → ∃ B2, R_146 62 [(0, .ref 131), (1, .int (nI j))] [] (mk B1 J τ) = R_146 83 [(0, .ref 131), (1, .int 0)] [] (mk B2 J τ) ∧ (∀ t, t < 12 → B2 158 t = nI 0) ∧ (∀ a k, a ≠ 158 → B2 a k = B1 a k) := by
    intro m
    induction m with
    | zero =>
      intro j B1 hj h
      refine ⟨B1, ?_, fun t ht => h t (by omega), fun _ _ _ => rfl⟩
      rw [e_146_62]
      simp (disch := first | omega | (simp (disch := omega) only [n_ti, Int32.reduceToInt] <;> omega)) only [n_add, nl_add, nr_add, n_mul, nl_mul, nr_mul, n_sub, nr_dec, n_div, nr_sub_1, nr_sub_2, nr_sub_3, nr_sub_4, nr_sub_7, nr_sub_10, nr_sub_11, nr_sub_20, nr_sub_48, nr_sub_97, nl_sub_3, nl_sub_4, nl_sub_12, nl_sub_24, nl_sub_32, nr_div_2, nr_div_4, z_lt, z_le, z_eq, z_cl, n_ti, Int.toNat_natCast, Int32.reduceToInt, Int32.reduceToNatClampNeg, zc_add, zc_sub, zc_add_1, zc_add_2, zc_add_3, zc_add_4, zc_add_8, zc_add_10, zc_add_12, zc_add_16, zc_add_20, zc_sub_1, zc_sub_2, zc_sub_4, zc_sub_10, zc_sub_20, zc_sub_48, zc_sub_97, zc_mul_4, t_ltZ, f_ltZ, t_leZ, f_leZ, t_eqZ, f_eqZ, t_ltN, f_ltN, t_leN, f_leN, t_eqN, f_eqN, ↓reduceIte, and_true, true_and, and_false, false_and, and_self, or_true, true_or, or_false, false_or, or_self, not_true_eq_false, not_false_eq_true, tu_same, tu_eq, tu_ne, b_V, b_I, b_J]
    | succ m ih =>
      intro j B1 hj h
      obtain ⟨B3, p1, p2, p3⟩ := ih (j + 1) (tm_u B1 158 j 0) (by omega) (fun t ht => by
        by_cases e : t = j
        · subst e; simp (disch := omega) only [tu_same, tu_eq, tu_ne]; rfl
        · simp (disch := omega) only [tu_same, tu_eq, tu_ne]; exact h t (by omega))
      refine ⟨B3, ?_, p2, fun a k u => by rw [p3 a k u]; simp (disch := omega) only [tu_same, tu_eq, tu_ne]⟩
      rw [← p1, e_146_62]
      simp (disch := first | omega | (simp (disch := omega) only [n_ti, Int32.reduceToInt] <;> omega)) only [n_add, nl_add, nr_add, n_mul, nl_mul, nr_mul, n_sub, nr_dec, n_div, nr_sub_1, nr_sub_2, nr_sub_3, nr_sub_4, nr_sub_7, nr_sub_10, nr_sub_11, nr_sub_20, nr_sub_48, nr_sub_97, nl_sub_3, nl_sub_4, nl_sub_12, nl_sub_24, nl_sub_32, nr_div_2, nr_div_4, z_lt, z_le, z_eq, z_cl, n_ti, Int.toNat_natCast, Int32.reduceToInt, Int32.reduceToNatClampNeg, zc_add, zc_sub, zc_add_1, zc_add_2, zc_add_3, zc_add_4, zc_add_8, zc_add_10, zc_add_12, zc_add_16, zc_add_20, zc_sub_1, zc_sub_2, zc_sub_4, zc_sub_10, zc_sub_20, zc_sub_48, zc_sub_97, zc_mul_4, t_ltZ, f_ltZ, t_leZ, f_leZ, t_eqZ, f_eqZ, t_ltN, f_ltN, t_leN, f_leN, t_eqN, f_eqN, ↓reduceIte, and_true, true_and, and_false, false_and, and_self, or_true, true_or, or_false, false_or, or_self, not_true_eq_false, not_false_eq_true, tu_same, tu_eq, tu_ne, b_V, b_I, b_J]
  have l3 : ∀ m j (B1 : Nat → Nat → Int32), j + m = 4800 → (∀ t, t < j → B1 164 t = -1) → ∃ B2, R_146 83 [(0, .ref 131), (1, .int (nI j))] [] (mk B1 J τ) = some (none, mk (tm_u (tm_u (tm_u (tm_u (tm_u (tm_u (tm_u (tm_u B2 157 0 (-1)) 157 1 (-1)) 131 60 0) 131 61 0) 131 62 0) 131 63 0) 131 66 0) 131 65 0) J τ) ∧ (∀ t, t < 4800 → B2 164 t = -1) ∧ (∀ a k, a ≠ 164 → B2 a k = B1 a k) := by
    intro m
    induction m with
    | zero =>
      intro j B1 hj h
      refine ⟨B1, ?_, fun t ht => h t (by omega), fun _ _ _ => rfl⟩
      rw [e_146_83]
      simp (disch := first | omega | (simp (disch := omega) only [n_ti, Int32.reduceToInt] <;> omega)) only [n_add, nl_add, nr_add, n_mul, nl_mul, nr_mul, n_sub, nr_dec, n_div, nr_sub_1, nr_sub_2, nr_sub_3, nr_sub_4, nr_sub_7, nr_sub_10, nr_sub_11, nr_sub_20, nr_sub_48, nr_sub_97, nl_sub_3, nl_sub_4, nl_sub_12, nl_sub_24, nl_sub_32, nr_div_2, nr_div_4, z_lt, z_le, z_eq, z_cl, n_ti, Int.toNat_natCast, Int32.reduceToInt, Int32.reduceToNatClampNeg, zc_add, zc_sub, zc_add_1, zc_add_2, zc_add_3, zc_add_4, zc_add_8, zc_add_10, zc_add_12, zc_add_16, zc_add_20, zc_sub_1, zc_sub_2, zc_sub_4, zc_sub_10, zc_sub_20, zc_sub_48, zc_sub_97, zc_mul_4, t_ltZ, f_ltZ, t_leZ, f_leZ, t_eqZ, f_eqZ, t_ltN, f_ltN, t_leN, f_leN, t_eqN, f_eqN, ↓reduceIte, and_true, true_and, and_false, false_and, and_self, or_true, true_or, or_false, false_or, or_self, not_true_eq_false, not_false_eq_true, tu_same, tu_eq, tu_ne, b_V, b_I, b_J]
    | succ m ih =>
      intro j B1 hj h
      obtain ⟨B3, p1, p2, p3⟩ := ih (j + 1) (tm_u B1 164 j (-1)) (by omega) (fun t ht => by
        by_cases e : t = j
        · subst e; simp (disch := omega) only [tu_same, tu_eq, tu_ne]
        · simp (disch := omega) only [tu_same, tu_eq, tu_ne]; exact h t (by omega))
      refine ⟨B3, ?_, p2, fun a k u => by rw [p3 a k u]; simp (disch := omega) only [tu_same, tu_eq, tu_ne]⟩
      rw [← p1, e_146_83]
      simp (disch := first | omega | (simp (disch := omega) only [n_ti, Int32.reduceToInt] <;> omega)) only [n_add, nl_add, nr_add, n_mul, nl_mul, nr_mul, n_sub, nr_dec, n_div, nr_sub_1, nr_sub_2, nr_sub_3, nr_sub_4, nr_sub_7, nr_sub_10, nr_sub_11, nr_sub_20, nr_sub_48, nr_sub_97, nl_sub_3, nl_sub_4, nl_sub_12, nl_sub_24, nl_sub_32, nr_div_2, nr_div_4, z_lt, z_le, z_eq, z_cl, n_ti, Int.toNat_natCast, Int32.reduceToInt, Int32.reduceToNatClampNeg, zc_add, zc_sub, zc_add_1, zc_add_2, zc_add_3, zc_add_4, zc_add_8, zc_add_10, zc_add_12, zc_add_16, zc_add_20, zc_sub_1, zc_sub_2, zc_sub_4, zc_sub_10, zc_sub_20, zc_sub_48, zc_sub_97, zc_mul_4, t_ltZ, f_ltZ, t_leZ, f_leZ, t_eqZ, f_eqZ, t_ltN, f_ltN, t_leN, f_leN, t_eqN, f_eqN, ↓reduceIte, and_true, true_and, and_false, false_and, and_self, or_true, true_or, or_false, false_or, or_self, not_true_eq_false, not_false_eq_true, tu_same, tu_eq, tu_ne, b_V, b_I, b_J]
  obtain ⟨B1, a1, a2, a3⟩ := l1 6 0 B (by omega) (fun p hp => by omega) (fun _ _ _ => rfl)
  obtain ⟨B2, b1, b2', b3⟩ := l2 12 0 B1 (by omega) (fun t ht => by omega)
  obtain ⟨B3, c1, c2, c3⟩ := l3 4800 0 B2 (by omega) (fun t ht => by omega)
  have a1' : R_146 2 [(0, .ref 131), (1, .int 0)] [] (mk B J τ) = R_146 62 [(0, .ref 131), (1, .int 0)] [] (mk B1 J τ) := a1
  have b1' : R_146 62 [(0, .ref 131), (1, .int 0)] [] (mk B1 J τ) = R_146 83 [(0, .ref 131), (1, .int 0)] [] (mk B2 J τ) := b1
  have c1' : R_146 83 [(0, .ref 131), (1, .int 0)] [] (mk B2 J τ) = some (none, mk (tm_u (tm_u (tm_u (tm_u (tm_u (tm_u (tm_u (tm_u B3 157 0 (-1)) 157 1 (-1)) 131 60 0) 131 61 0) 131 62 0) 131 63 0) 131 66 0) 131 65 0) J τ) := c1
  refine ⟨_, by rw [e_146, a1', b1', c1'], a2.tr (fun a k u => by simp (disch := omega) only [tu_same, tu_eq, tu_ne]; rw [c3 a k (by omega), b3 a k (by omega)]), fun e he => ⟨?_, fun u => absurd rfl u⟩, fun t ht => by simp (disch := omega) only [tu_same, tu_eq, tu_ne]; rw [c3 _ _ (by omega)]; exact b2' t ht, fun p hp k u v => by simp (disch := omega) only [tu_same, tu_eq, tu_ne]; exact c2 _ (by omega), by simp (disch := omega) only [tu_same, tu_eq, tu_ne]; rfl, by simp (disch := omega) only [tu_same, tu_eq, tu_ne]; rfl, by simp (disch := omega) only [tu_same, tu_eq, tu_ne]; rfl, by simp (disch := omega) only [tu_same, tu_eq, tu_ne]; rfl, by simp (disch := omega) only [tu_same, tu_eq, tu_ne]; rfl, by simp (disch := omega) only [tu_same, tu_eq, tu_ne]; rfl, fun a k u v => by simp (disch := omega) only [tu_same, tu_eq, tu_ne]; rw [c3 a k (by omega), b3 a k (by omega)]; exact a3 a k u⟩
  have : e = 0 ∨ e = 1 := by omega
  rcases this with q | q <;> subst q
  · simp (disch := omega) only [tu_same, tu_eq, tu_ne]
    rfl
  · simp (disch := omega) only [tu_same, tu_eq, tu_ne]
    rfl
theorem m_164 {I : Nat → Nat → Int32} {J : Nat → Nat → Int64} {τ : tm_Tu} {bk rb n N k stop : Nat} {D : Nat → TD} {L : Nat → LD} (hn : n ≤ 12) (hbk : bk < 2) (hrb : rb < 2) (hD : DOk n D) (hN : N ≤ 200) (hk : k ≤ 60) (hL : LsOk n N k L) (hst : stop ≤ 20) (h32 : I 131 32 = 1) (h34 : I 131 34 = nI stop) (hB : BkB I bk n D) (h30 : I 131 30 = nI rb) (h144 : I 144 rb = nI k) (h145 : I 145 rb = nI N) (hLn : ∀ j, j < k → LnB I (60 * rb + j) (L j)) : ∃ B', F_164 [.ref 131] (mk I J τ) = some (some (.int ((B' 131 62) - ((B' 131 35) * (B' 131 60)))), mk (tm_u B' 131 33 1) J τ) ∧ MdB B' N (rnP D stop k L N 0 Rz0) ∧ B' 131 64 = nI N ∧ (∀ x y, ¬ (151 ≤ x ∧ x ≤ 174) → ¬ (x = 131 ∧ 59 ≤ y ∧ y ≤ 66) → B' x y = I x y) := by
  obtain ⟨B1, a1, a2, a3, a4, a5, a6, a7, a8, a9, a10, a11, a12⟩ := m_146 (B := I) (J := J) (τ := τ)
  obtain ⟨B2, e2⟩ : ∃ z, z = tm_u (tm_u B1 131 64 (nI N)) 131 59 (nI 0) := ⟨_, rfl⟩
  have F2 : ∀ x y, ¬ (151 ≤ x ∧ x ≤ 174) → ¬ (x = 131 ∧ 59 ≤ y ∧ y ≤ 66) → B2 x y = I x y := fun x y u v => by rw [e2]; simp (disch := omega) only [tu_same, tu_eq, tu_ne]; exact a12 x y u (by omega)
  have i30 : B1 131 30 = nI rb := (a12 _ _ (by omega) (by omega)).trans h30
  have i144 : B1 144 rb = nI k := (a12 _ _ (by omega) (by omega)).trans h144
  have i145 : B1 145 rb = nI N := (a12 _ _ (by omega) (by omega)).trans h145
  have hM : MdB B2 0 Rz0 := ⟨⟨a2.tr (fun x y u => by rw [e2]; simp (disch := omega) only [tu_same, tu_eq, tu_ne]), a3.tr (fun x y u => by rw [e2]; simp (disch := omega) only [tu_same, tu_eq, tu_ne]), ⟨by rw [e2]; simp (disch := omega) only [a6, tu_same, tu_eq, tu_ne]; rfl, fun q u => by have : q < 0 := u; omega⟩⟩, ⟨by rw [e2]; simp (disch := omega) only [a7, tu_same, tu_eq, tu_ne]; rfl, fun q u => (by have : q < 0 := u; omega), by rw [e2]; simp (disch := omega) only [a8, tu_same, tu_eq, tu_ne]; rfl, fun t ht => by rw [e2]; simp (disch := omega) only [tu_same, tu_eq, tu_ne]; exact a4 t ht⟩, fun q u => by omega, by rw [e2]; simp (disch := omega) only [a9, tu_same, tu_eq, tu_ne]; rfl, by rw [e2]; simp (disch := omega) only [a11, tu_same, tu_eq, tu_ne]; rfl, by rw [e2]; simp (disch := omega) only [a10, tu_same, tu_eq, tu_ne]; rfl, by rw [e2]; simp (disch := omega) only [tu_same, tu_eq, tu_ne], fun p hp y u v => by rw [e2]; simp (disch := omega) only [tu_same, tu_eq, tu_ne]; exact a5 p hp y u v⟩
  have hC : CtB B2 bk rb n N k stop D L := ⟨hB.tr (fun x y u => F2 x y (by omega) (by omega)), by rw [e2]; simp (disch := omega) only [tu_same, tu_eq, tu_ne], fun j hj => (hLn j hj).tr (fun x u v => F2 x _ (by omega) (by omega)), (F2 _ _ (by omega) (by omega)).trans h34⟩
  obtain ⟨B3, c1, c2, c3⟩ := m_run (J := J) (τ := τ) hn hbk hrb hD hN hk hL hst N 0 B2 Rz0 (by omega) inv_0 hM hC
  have c1' : R_164 53 [(0, .ref 131), (1, .int (nI (60 * rb))), (2, .int (nI (60 * rb + k)))] [] (mk B2 J τ) = some (some (.int ((B3 131 62) - ((B3 131 35) * (B3 131 60)))), mk (tm_u B3 131 33 1) J τ) := c1
  have e2' : tm_u (tm_u B1 131 64 (nI N)) 131 59 0 = B2 := e2.symm
  refine ⟨B3, ?_, c2, (c3 _ _ (by omega) (by omega)).trans hC.2.1, fun x y u v => (c3 x y u (by omega)).trans (F2 x y u v)⟩
  rw [e_164]
  simp (disch := first | omega | (simp (disch := omega) only [n_ti, Int32.reduceToInt] <;> omega)) only [h32, a1, e_164_15, i30, i144, i145, e2', c1', n_add, nl_add, nr_add, n_mul, nl_mul, nr_mul, n_sub, nr_dec, n_div, nr_sub_1, nr_sub_2, nr_sub_3, nr_sub_4, nr_sub_7, nr_sub_10, nr_sub_11, nr_sub_20, nr_sub_48, nr_sub_97, nl_sub_3, nl_sub_4, nl_sub_12, nl_sub_24, nl_sub_32, nr_div_2, nr_div_4, z_lt, z_le, z_eq, z_cl, n_ti, Int.toNat_natCast, Int32.reduceToInt, Int32.reduceToNatClampNeg, zc_add, zc_sub, zc_add_1, zc_add_2, zc_add_3, zc_add_4, zc_add_8, zc_add_10, zc_add_12, zc_add_16, zc_add_20, zc_sub_1, zc_sub_2, zc_sub_4, zc_sub_10, zc_sub_20, zc_sub_48, zc_sub_97, zc_mul_4, t_ltZ, f_ltZ, t_leZ, f_leZ, t_eqZ, f_eqZ, t_ltN, f_ltN, t_leN, f_leN, t_eqN, f_eqN, ↓reduceIte, and_true, true_and, and_false, false_and, and_self, or_true, true_or, or_false, false_or, or_self, not_true_eq_false, not_false_eq_true, tu_same, tu_eq, tu_ne, b_V, b_I, b_J]
theorem cell_R {s : SP} (h : pkOk s) (ht : pT s ≠ 0 → pW s = 1) {f d t : Int32} {ft : Nat → Int32} (hf : f = (if pW s = 1 then nI (pF s) else -1)) (hd : d = (if pW s = 1 then nI (pD s) else -1)) (htt : t = tI (pT s)) (hft : ∀ i, i < 4 → ft i = (if pW s = 1 then nI (pX s / 4 ^ i % 4) else -1)) : CellR (nI (pkS s)) (nI (pW s)) f d t ft := by
  obtain ⟨h1, h2, h3, h4, h5⟩ := h
  have hp : pkS s < 2147483648 := by unfold pkS; omega
  have tw : (nI (pW s)).toInt = pW s := n_ti (by omega)
  refine ⟨?_, fun u => ?_, fun u => ?_⟩
  · rw [pk_andN (n := pkS s) (m := 7) (by omega) 3 (by decide)]
    unfold pkS
    congr 1
    omega
  · have w : pW s = 1 := by omega
    rw [if_pos w] at hf hd
    refine ⟨?_, ?_, ?_, fun i hi => ?_⟩
    · rw [pk_shrN hp 3 3 (by decide), n_and3 (Nat.lt_of_le_of_lt (Nat.div_le_self _ _) hp), hf]
      unfold pkS
      congr 1
      omega
    · rw [pk_shrN hp 5 5 (by decide), n_and3 (Nat.lt_of_le_of_lt (Nat.div_le_self _ _) hp), hd]
      unfold pkS
      congr 1
      omega
    · rw [pk_shrN hp 7 7 (by decide), pk_andN (n := pkS s / 2 ^ 7) (m := 15) (Nat.lt_of_le_of_lt (Nat.div_le_self _ _) (by omega)) 4 (by decide), htt]
      have e : pkS s / 2 ^ 7 % 2 ^ 4 = pT s := by unfold pkS; omega
      rw [e]
      by_cases z : pT s = 0
      · rw [z]; decide
      · rw [tI_s z]; exact nr_sub_1 (by omega)
    · rw [hft i hi, if_pos w]
      have sh : (((11 + (2 * nI i)) &&& 31).toBitVec.smod 32).toNat = 11 + 2 * i := by
        have key : ∀ j : Fin 4, (((11 + (2 * nI j.val)) &&& 31).toBitVec.smod 32).toNat = 11 + 2 * j.val := by decide +kernel
        exact key ⟨i, hi⟩
      rw [pk_shrN hp _ _ sh, n_and3 (Nat.lt_of_le_of_lt (Nat.div_le_self _ _) hp)]
      congr 1
      have e : pkS s / 2 ^ (11 + 2 * i) = pX s / 4 ^ i := by
        rw [Nat.pow_add, ← Nat.div_div_eq_div_mul, Nat.pow_mul]
        have : pkS s / 2 ^ 11 = pX s := by unfold pkS; omega
        rw [this]
      rw [e]
  · have w : ¬ pW s = 1 := by omega
    rw [if_neg w] at hf hd
    refine ⟨hf, hd, ?_, fun i hi => by rw [hft i hi, if_neg w]⟩
    have : pT s = 0 := by
      by_cases z : pT s = 0
      · exact z
      · exact absurd (ht z) w
    rw [htt, tI_z this]
theorem log_R {A B : Nat → Nat → Int32} {n k N : Nat} {D : Nat → TD} {L : Nat → LD} {Z : RS} (hN : N ≤ 200) (hk : k ≤ 60) (hI : Inv n D k L N Z) (hA : CsA A N Z) (hB : MdB B N Z) (hd : ∀ q, q < (zL Z).1.1 → ((zL Z).1.2 q).2.2.2.1 ≤ 1) : LogR A B N := by
  obtain ⟨⟨-, -, -, i4⟩, i2, i3, i4', i5, i6, i7, i8, i9⟩ := hI
  obtain ⟨⟨-, -, am⟩, al, ar, as, -⟩ := hA
  obtain ⟨⟨-, -, bm⟩, bl, br, bs, -, -, -, -⟩ := hB
  refine ⟨⟨(zX Z).2.2.1, by omega, am.1, bm.1, fun q u v => ?_⟩, ⟨(zL Z).1.1, by have := i7.1; omega, al.1, bl.1, fun q u v => ?_⟩, al.2.2.1.trans bl.2.2.1.symm, as.trans bs.symm, fun c hc => ⟨(ar c hc).1.trans (br c hc).1.symm, fun p hp => ?_⟩⟩
  · obtain ⟨a1, a2, a3⟩ := am.2 q u v
    obtain ⟨b1, b2', b3⟩ := bm.2 q u v
    exact ⟨a1.trans b1.symm, a2.trans b2'.symm, a3.trans b3.symm⟩
  · obtain ⟨a1, a2, a3, a4, a5⟩ := al.2.1 q u v
    obtain ⟨b1, b2', b3, b4, b5⟩ := bl.2.1 q u v
    refine ⟨a1.trans b1.symm, a2.trans b2'.symm, a3.trans b3.symm, ⟨a4.trans b4.symm, ?_⟩, a5.trans b5.symm⟩
    rw [b4]
    have := hd q u
    have e : ((zL Z).1.2 q).2.2.2.1 = 0 ∨ ((zL Z).1.2 q).2.2.2.1 = 1 := by omega
    rcases e with e | e <;> rw [e]
    · exact Or.inl rfl
    · exact Or.inr rfl
  · obtain ⟨-, o2⟩ := i9 c hc
    obtain ⟨o3, o4⟩ := o2 p hp
    obtain ⟨⟨u1, u2, u3, u4⟩, u5⟩ := (br c hc).2 p hp
    rw [(ar c hc).2 p hp, u1]
    exact cell_R o3 o4 u2 u3 u4 (fun i hi => by
      show B 164 (800 * p + (4 * c + i)) = _
      rw [← Nat.add_assoc]
      exact u5 i hi)
