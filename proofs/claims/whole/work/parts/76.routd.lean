/-! routine: an act (class), whole -/
theorem PoC.then {s : Nat → Int} {n : Nat} {A A1 A2 : Nat → Nat → Int32} {J J1 J2 : Nat → Nat → Int64} {a k : Nat} {r : Sum (Nat × Nat) ((Nat × Nat × Nat) × TK)} {res : Int32} (h : PoC s n A1 A2 J1 J2 a k r res) (ha : 119 ≤ a) (f : ∀ x y, ¬ (x = 4 ∧ y ≠ 4 ∧ y ≠ 5) → ¬ (a + 3 ≤ x ∧ x ≤ a + 5 ∧ y = k) → A1 x y = A x y) (g : ∀ x y, ¬ (x = 4 ∧ y = 9) → J1 x y = J x y) : PoC s n A A2 J J2 a k r res := by
  obtain ⟨h1, h2, h3⟩ := h
  refine ⟨fun x y u v => (h1 x y u v).trans (f x y (by omega) v), fun x y u => (h2 x y u).trans (g x y u), ?_⟩
  cases r with
  | inl e => exact h3
  | inr q => exact ⟨h3.1, h3.2.1, h3.2.2.1, h3.2.2.2.1, h3.2.2.2.2.1, h3.2.2.2.2.2.1.trans (f 4 4 (by omega) (by omega)), h3.2.2.2.2.2.2.trans (f 4 5 (by omega) (by omega))⟩
theorem pc_01 {s : Nat → Int} {n : Nat} {A A' : Nat → Nat → Int32} {J J' : Nat → Nat → Int64} {a k : Nat} {r : Sum (Nat × Nat) ((Nat × Nat × Nat) × TK)} {res : Int32} (h : PoC s n A A' J J' a k r res) : res = 0 ∨ res = 1 := by
  have := h.2.2
  cases r with
  | inl e => exact Or.inl this.1
  | inr q => exact Or.inr this.1
set_option maxHeartbeats 1000000 in
theorem c_76 {τ : tm_Tu} (hτ : τ.2.2.2.2 = 3) {s : Nat → Int} {n a k cb m : Nat} {nm : Nat → List Nat} {A : Nat → Nat → Int32} {J : Nat → Nat → Int64} {t : TK} (h : ClS s n A J t) (ha : isR a) (hk : k < 60) (h6 : A a 6 = nI k) (hb : isB cb) (hm : m ≤ 12) (hb1 : A cb 1 = nI m) (hN : NmA J cb m nm) : ∃ A' J' r, F_76 [.ref a, .ref 4, .ref cb] (mk A J τ) = some (some (.int r), mk A' J' τ) ∧ PoC s n A A' J J' a k (pAct s n nm m t) r := by
  have ha' : 119 ≤ a := by unfold isR at ha; omega
  have hb' : cb ≤ 81 := by unfold isB at hb; omega
  obtain ⟨k1, k2, k3, k4, k5, k6⟩ := ro_1 ha τ
  obtain ⟨-, -, ⟨x1, x2⟩, -, ⟨n1, n2⟩⟩ := ro_2 ha
  have kk := h.2.1.2.1
  have hK := h.2.2.2.2.2.2.1
  have h' : ClS s n (tm_u (tm_u A (a + 3) k (nI (tK t))) (a + 5) k 0) J t := h.tr (fun x y u => by simp (disch := omega) only [tu_same, tu_eq, tu_ne]) (fun _ _ _ => rfl)
  unfold pAct
  rw [e_76]
  by_cases c1 : tK t = 16 ∨ tK t = 17 ∨ tK t = 20
  · rw [if_pos c1]
    obtain ⟨A1, J1, g1, g2, g3⟩ := c_adv hτ h' (by omega)
    obtain ⟨A2, J2, r, p1, p2⟩ := c_74 hτ (v := tK t) g2 ha hk (by rw [g3.1 _ _ (by omega)]; simp (disch := omega) only [h6, tu_same, tu_eq, tu_ne]) (by rw [g3.1 _ _ (by omega)]; simp (disch := omega) only [tu_same, tu_eq, tu_ne]) (by rw [g3.1 _ _ (by omega)]; simp (disch := omega) only [tu_same, tu_eq, tu_ne])
    refine ⟨A2, J2, r, ?_, p2.then ha' (fun x y u v => by rw [g3.1 x y (by omega)]; simp (disch := omega) only [tu_same, tu_eq, tu_ne]) g3.2⟩
    rcases pc_01 p2 with e | e <;> subst e <;> rcases c1 with e | e | e <;> rw [e] at g1 kk <;> simp (disch := first | omega | (simp (disch := omega) only [n_ti, Int32.reduceToInt] <;> omega)) only [k1, k4, x1, x2, k6, n1, n2, h6, kk, g1, e_76_64, p1, e_76_69, n_add, nl_add, nr_add, n_mul, nl_mul, nr_mul, n_sub, nr_dec, n_div, nr_sub_1, nr_sub_2, nr_sub_3, nr_sub_4, nr_sub_7, nr_sub_10, nr_sub_11, nr_sub_20, nr_sub_48, nr_sub_97, nl_sub_3, nl_sub_4, nl_sub_12, nl_sub_24, nl_sub_32, nr_div_2, nr_div_4, z_lt, z_le, z_eq, z_cl, n_ti, Int.toNat_natCast, Int32.reduceToInt, Int32.reduceToNatClampNeg, zc_add, zc_sub, zc_add_1, zc_add_2, zc_add_3, zc_add_4, zc_add_8, zc_add_10, zc_add_12, zc_add_16, zc_add_20, zc_sub_1, zc_sub_2, zc_sub_4, zc_sub_10, zc_sub_20, zc_sub_48, zc_sub_97, zc_mul_4, t_ltZ, f_ltZ, t_leZ, f_leZ, t_eqZ, f_eqZ, t_ltN, f_ltN, t_leN, f_leN, t_eqN, f_eqN, ↓reduceIte, and_true, true_and, and_false, false_and, and_self, or_true, true_or, or_false, false_or, or_self, not_true_eq_false, not_false_eq_true, tu_same, tu_eq, tu_ne, b_V, b_I, b_J]
  · rw [if_neg c1]
    by_cases c2 : tK t = 18
    · rw [if_pos c2]
      obtain ⟨A1, J1, g1, g2, g3⟩ := c_adv hτ h' (by omega)
      have hN1 : NmA J1 cb m nm := fun i hi => by rw [g3.2 _ _ (by omega)]; exact hN i hi
      obtain ⟨A2, J2, r, p1, p2⟩ := c_75 hτ g2 ha hk (by rw [g3.1 _ _ (by omega)]; simp (disch := omega) only [h6, tu_same, tu_eq, tu_ne]) (by rw [g3.1 _ _ (by omega), c2]; simp (disch := omega) only [tu_same, tu_eq, tu_ne]) (by rw [g3.1 _ _ (by omega)]; simp (disch := omega) only [tu_same, tu_eq, tu_ne]) hb hm (by rw [g3.1 _ _ (by omega)]; simp (disch := omega) only [hb1, tu_same, tu_eq, tu_ne]) hN1
      refine ⟨A2, J2, r, ?_, p2.then ha' (fun x y u v => by rw [g3.1 x y (by omega)]; simp (disch := omega) only [tu_same, tu_eq, tu_ne]) g3.2⟩
      rw [c2] at g1 kk
      rcases pc_01 p2 with e | e <;> subst e <;> simp (disch := first | omega | (simp (disch := omega) only [n_ti, Int32.reduceToInt] <;> omega)) only [k1, k4, x1, x2, k6, n1, n2, h6, kk, g1, e_76_74, p1, e_76_80, n_add, nl_add, nr_add, n_mul, nl_mul, nr_mul, n_sub, nr_dec, n_div, nr_sub_1, nr_sub_2, nr_sub_3, nr_sub_4, nr_sub_7, nr_sub_10, nr_sub_11, nr_sub_20, nr_sub_48, nr_sub_97, nl_sub_3, nl_sub_4, nl_sub_12, nl_sub_24, nl_sub_32, nr_div_2, nr_div_4, z_lt, z_le, z_eq, z_cl, n_ti, Int.toNat_natCast, Int32.reduceToInt, Int32.reduceToNatClampNeg, zc_add, zc_sub, zc_add_1, zc_add_2, zc_add_3, zc_add_4, zc_add_8, zc_add_10, zc_add_12, zc_add_16, zc_add_20, zc_sub_1, zc_sub_2, zc_sub_4, zc_sub_10, zc_sub_20, zc_sub_48, zc_sub_97, zc_mul_4, t_ltZ, f_ltZ, t_leZ, f_leZ, t_eqZ, f_eqZ, t_ltN, f_ltN, t_leN, f_leN, t_eqN, f_eqN, ↓reduceIte, and_true, true_and, and_false, false_and, and_self, or_true, true_or, or_false, false_or, or_self, not_true_eq_false, not_false_eq_true, tu_same, tu_eq, tu_ne, b_V, b_I, b_J]
    · rw [if_neg c2]
      have r2 : F_30 [.ref 4, .int 2] (mk (tm_u (tm_u A (a + 3) k (nI (tK t))) (a + 5) k 0) J τ) = _ := c_ref (τ := τ) h' 2
      refine ⟨_, J, 0, ?_, PoC.f (A1 := tm_u (tm_u A (a + 3) k (nI (tK t))) (a + 5) k 0) (f := flt t 2) (fun x y u v => by simp (disch := omega) only [tu_same, tu_eq, tu_ne]) (fun _ _ _ => rfl)⟩
      by_cases c3 : tK t = 19
      · simp (disch := first | omega | (simp (disch := omega) only [n_ti, Int32.reduceToInt] <;> omega)) only [k1, k4, x1, x2, k6, n1, n2, h6, kk, r2, e_76_86, n_add, nl_add, nr_add, n_mul, nl_mul, nr_mul, n_sub, nr_dec, n_div, nr_sub_1, nr_sub_2, nr_sub_3, nr_sub_4, nr_sub_7, nr_sub_10, nr_sub_11, nr_sub_20, nr_sub_48, nr_sub_97, nl_sub_3, nl_sub_4, nl_sub_12, nl_sub_24, nl_sub_32, nr_div_2, nr_div_4, z_lt, z_le, z_eq, z_cl, n_ti, Int.toNat_natCast, Int32.reduceToInt, Int32.reduceToNatClampNeg, zc_add, zc_sub, zc_add_1, zc_add_2, zc_add_3, zc_add_4, zc_add_8, zc_add_10, zc_add_12, zc_add_16, zc_add_20, zc_sub_1, zc_sub_2, zc_sub_4, zc_sub_10, zc_sub_20, zc_sub_48, zc_sub_97, zc_mul_4, t_ltZ, f_ltZ, t_leZ, f_leZ, t_eqZ, f_eqZ, t_ltN, f_ltN, t_leN, f_leN, t_eqN, f_eqN, ↓reduceIte, and_true, true_and, and_false, false_and, and_self, or_true, true_or, or_false, false_or, or_self, not_true_eq_false, not_false_eq_true, tu_same, tu_eq, tu_ne, b_V, b_I, b_J]
      · simp (disch := first | omega | (simp (disch := omega) only [n_ti, Int32.reduceToInt] <;> omega)) only [k1, k4, x1, x2, k6, n1, n2, h6, kk, r2, e_76_86, n_add, nl_add, nr_add, n_mul, nl_mul, nr_mul, n_sub, nr_dec, n_div, nr_sub_1, nr_sub_2, nr_sub_3, nr_sub_4, nr_sub_7, nr_sub_10, nr_sub_11, nr_sub_20, nr_sub_48, nr_sub_97, nl_sub_3, nl_sub_4, nl_sub_12, nl_sub_24, nl_sub_32, nr_div_2, nr_div_4, z_lt, z_le, z_eq, z_cl, n_ti, Int.toNat_natCast, Int32.reduceToInt, Int32.reduceToNatClampNeg, zc_add, zc_sub, zc_add_1, zc_add_2, zc_add_3, zc_add_4, zc_add_8, zc_add_10, zc_add_12, zc_add_16, zc_add_20, zc_sub_1, zc_sub_2, zc_sub_4, zc_sub_10, zc_sub_20, zc_sub_48, zc_sub_97, zc_mul_4, t_ltZ, f_ltZ, t_leZ, f_leZ, t_eqZ, f_eqZ, t_ltN, f_ltN, t_leN, f_leN, t_eqN, f_eqN, ↓reduceIte, and_true, true_and, and_false, false_and, and_self, or_true, true_or, or_false, false_or, or_self, not_true_eq_false, not_false_eq_true, tu_same, tu_eq, tu_ne, b_V, b_I, b_J]
