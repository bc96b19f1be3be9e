/-! routine: an act (class) -/
def PoC (s : Nat → Int) (n : Nat) (A A' : Nat → Nat → Int32) (J J' : Nat → Nat → Int64) (a k : Nat) (r : Sum (Nat × Nat) ((Nat × Nat × Nat) × TK)) (res : Int32) : Prop := (∀ x y, x ≠ 4 → ¬ (a + 3 ≤ x ∧ x ≤ a + 5 ∧ y = k) → A' x y = A x y) ∧ (∀ x y, ¬ (x = 4 ∧ y = 9) → J' x y = J x y) ∧ (match r with
    | .inl f => res = 0 ∧ A' 4 4 = nI f.1 ∧ A' 4 5 = nI f.2
    | .inr q => res = 1 ∧ ClS s n A' J' q.2 ∧ A' (a + 3) k = nI q.1.1 ∧ A' (a + 4) k = nI q.1.2.1 ∧ A' (a + 5) k = nI q.1.2.2 ∧ A' 4 4 = A 4 4 ∧ A' 4 5 = A 4 5)
theorem PoC.f {s : Nat → Int} {n : Nat} {A A1 : Nat → Nat → Int32} {J J1 : Nat → Nat → Int64} {a k : Nat} {f : Nat × Nat} (h : ∀ x y, x ≠ 4 → ¬ (a + 3 ≤ x ∧ x ≤ a + 5 ∧ y = k) → A1 x y = A x y) (g : ∀ x y, ¬ (x = 4 ∧ y = 9) → J1 x y = J x y) : PoC s n A (tm_u (tm_u A1 4 4 (nI f.1)) 4 5 (nI f.2)) J J1 a k (.inl f) 0 := ⟨fun x y u v => by simp (disch := omega) only [tu_same, tu_eq, tu_ne]; exact h x y u v, g, rfl, by simp (disch := omega) only [tu_same, tu_eq, tu_ne], by simp (disch := omega) only [tu_same, tu_eq, tu_ne]⟩
theorem c_74 {τ : tm_Tu} (hτ : τ.2.2.2.2 = 3) {s : Nat → Int} {n a k v : Nat} {A : Nat → Nat → Int32} {J : Nat → Nat → Int64} {t : TK} (h : ClS s n A J t) (ha : isR a) (hk : k < 60) (h6 : A a 6 = nI k) (h3 : A (a + 3) k = nI v) (h5 : A (a + 5) k = 0) : ∃ A' J' r, F_74 [.ref a, .ref 4] (mk A J τ) = some (some (.int r), mk A' J' τ) ∧ PoC s n A A' J J' a k (if tK t = 21 then .inr ((v, 0, 0), nx s n t) else if tK t = 22 then .inr ((v, 1, 0), nx s n t) else .inl (flt t 2)) r := by
  have ha' : 119 ≤ a := by unfold isR at ha; omega
  obtain ⟨k1, k2, k3, k4, k5, k6⟩ := ro_1 ha τ
  obtain ⟨-, -, -, ⟨m1, m2⟩, -⟩ := ro_2 ha
  have kk := h.2.1.2.1
  have hK := h.2.2.2.2.2.2.1
  rw [e_74]
  by_cases c1 : tK t = 21
  · rw [if_pos c1]
    have h' : ClS s n (tm_u A (a + 4) k 0) J t := h.tr (fun x y u => by simp (disch := omega) only [tu_same, tu_eq, tu_ne]) (fun _ _ _ => rfl)
    obtain ⟨A1, J1, g1, g2, g3⟩ := c_adv hτ h' (by omega)
    refine ⟨A1, J1, 1, ?_, fun x y u w => ?_, g3.2, rfl, g2, ?_, ?_, ?_, ?_, ?_⟩
    · simp (disch := first | omega | (simp (disch := omega) only [n_ti, Int32.reduceToInt] <;> omega)) only [kk, c1, e_74_24, k1, k5, h6, e_74_46, m1, m2, g1, e_74_51, n_add, nl_add, nr_add, n_mul, nl_mul, nr_mul, n_sub, nr_dec, n_div, nr_sub_1, nr_sub_2, nr_sub_3, nr_sub_4, nr_sub_7, nr_sub_10, nr_sub_11, nr_sub_20, nr_sub_48, nr_sub_97, nl_sub_3, nl_sub_4, nl_sub_12, nl_sub_24, nl_sub_32, nr_div_2, nr_div_4, z_lt, z_le, z_eq, z_cl, n_ti, Int.toNat_natCast, Int32.reduceToInt, Int32.reduceToNatClampNeg, zc_add, zc_sub, zc_add_1, zc_add_2, zc_add_3, zc_add_4, zc_add_8, zc_add_10, zc_add_12, zc_add_16, zc_add_20, zc_sub_1, zc_sub_2, zc_sub_4, zc_sub_10, zc_sub_20, zc_sub_48, zc_sub_97, zc_mul_4, t_ltZ, f_ltZ, t_leZ, f_leZ, t_eqZ, f_eqZ, t_ltN, f_ltN, t_leN, f_leN, t_eqN, f_eqN, ↓reduceIte, and_true, true_and, and_false, false_and, and_self, or_true, true_or, or_false, false_or, or_self, not_true_eq_false, not_false_eq_true, tu_same, tu_eq, tu_ne, b_V, b_I, b_J]
    · rw [g3.1 x y (by omega)]
      simp (disch := omega) only [tu_same, tu_eq, tu_ne]
    · rw [g3.1 _ _ (by omega)]; simp (disch := omega) only [h3, tu_same, tu_eq, tu_ne]
    · rw [g3.1 _ _ (by omega)]; simp (disch := omega) only [tu_same, tu_eq, tu_ne]; rfl
    · rw [g3.1 _ _ (by omega)]; simp (disch := omega) only [h5, tu_same, tu_eq, tu_ne]; rfl
    · rw [g3.1 _ _ (by omega)]; simp (disch := omega) only [tu_same, tu_eq, tu_ne]
    · rw [g3.1 _ _ (by omega)]; simp (disch := omega) only [tu_same, tu_eq, tu_ne]
  · rw [if_neg c1]
    by_cases c2 : tK t = 22
    · rw [if_pos c2]
      have h' : ClS s n (tm_u A (a + 4) k 1) J t := h.tr (fun x y u => by simp (disch := omega) only [tu_same, tu_eq, tu_ne]) (fun _ _ _ => rfl)
      obtain ⟨A1, J1, g1, g2, g3⟩ := c_adv hτ h' (by omega)
      refine ⟨A1, J1, 1, ?_, fun x y u w => ?_, g3.2, rfl, g2, ?_, ?_, ?_, ?_, ?_⟩
      · simp (disch := first | omega | (simp (disch := omega) only [n_ti, Int32.reduceToInt] <;> omega)) only [kk, c2, e_74_24, k1, k5, h6, e_74_46, m1, m2, g1, e_74_51, n_add, nl_add, nr_add, n_mul, nl_mul, nr_mul, n_sub, nr_dec, n_div, nr_sub_1, nr_sub_2, nr_sub_3, nr_sub_4, nr_sub_7, nr_sub_10, nr_sub_11, nr_sub_20, nr_sub_48, nr_sub_97, nl_sub_3, nl_sub_4, nl_sub_12, nl_sub_24, nl_sub_32, nr_div_2, nr_div_4, z_lt, z_le, z_eq, z_cl, n_ti, Int.toNat_natCast, Int32.reduceToInt, Int32.reduceToNatClampNeg, zc_add, zc_sub, zc_add_1, zc_add_2, zc_add_3, zc_add_4, zc_add_8, zc_add_10, zc_add_12, zc_add_16, zc_add_20, zc_sub_1, zc_sub_2, zc_sub_4, zc_sub_10, zc_sub_20, zc_sub_48, zc_sub_97, zc_mul_4, t_ltZ, f_ltZ, t_leZ, f_leZ, t_eqZ, f_eqZ, t_ltN, f_ltN, t_leN, f_leN, t_eqN, f_eqN, ↓reduceIte, and_true, true_and, and_false, false_and, and_self, or_true, true_or, or_false, false_or, or_self, not_true_eq_false, not_false_eq_true, tu_same, tu_eq, tu_ne, b_V, b_I, b_J]
      · rw [g3.1 x y (by omega)]
        simp (disch := omega) only [tu_same, tu_eq, tu_ne]
      · rw [g3.1 _ _ (by omega)]; simp (disch := omega) only [h3, tu_same, tu_eq, tu_ne]
      · rw [g3.1 _ _ (by omega)]; simp (disch := omega) only [tu_same, tu_eq, tu_ne]; rfl
      · rw [g3.1 _ _ (by omega)]; simp (disch := omega) only [h5, tu_same, tu_eq, tu_ne]; rfl
      · rw [g3.1 _ _ (by omega)]; simp (disch := omega) only [tu_same, tu_eq, tu_ne]
      · rw [g3.1 _ _ (by omega)]; simp (disch := omega) only [tu_same, tu_eq, tu_ne]
    · rw [if_neg c2]
      have r2 : F_30 [.ref 4, .int 2] (mk A J τ) = _ := c_ref (τ := τ) h 2
      refine ⟨_, J, 0, ?_, PoC.f (A1 := A) (f := flt t 2) (fun _ _ _ _ => rfl) (fun _ _ _ => rfl)⟩
      simp (disch := first | omega | (simp (disch := omega) only [n_ti, Int32.reduceToInt] <;> omega)) only [kk, r2, e_74_23, n_add, nl_add, nr_add, n_mul, nl_mul, nr_mul, n_sub, nr_dec, n_div, nr_sub_1, nr_sub_2, nr_sub_3, nr_sub_4, nr_sub_7, nr_sub_10, nr_sub_11, nr_sub_20, nr_sub_48, nr_sub_97, nl_sub_3, nl_sub_4, nl_sub_12, nl_sub_24, nl_sub_32, nr_div_2, nr_div_4, z_lt, z_le, z_eq, z_cl, n_ti, Int.toNat_natCast, Int32.reduceToInt, Int32.reduceToNatClampNeg, zc_add, zc_sub, zc_add_1, zc_add_2, zc_add_3, zc_add_4, zc_add_8, zc_add_10, zc_add_12, zc_add_16, zc_add_20, zc_sub_1, zc_sub_2, zc_sub_4, zc_sub_10, zc_sub_20, zc_sub_48, zc_sub_97, zc_mul_4, t_ltZ, f_ltZ, t_leZ, f_leZ, t_eqZ, f_eqZ, t_ltN, f_ltN, t_leN, f_leN, t_eqN, f_eqN, ↓reduceIte, and_true, true_and, and_false, false_and, and_self, or_true, true_or, or_false, false_or, or_self, not_true_eq_false, not_false_eq_true, tu_same, tu_eq, tu_ne, b_V, b_I, b_J]
theorem c_75 {τ : tm_Tu} (hτ : τ.2.2.2.2 = 3) {s : Nat → Int} {n a k cb m : Nat} {nm : Nat → List Nat} {A : Nat → Nat → Int32} {J : Nat → Nat → Int64} {t : TK} (h : ClS s n A J t) (ha : isR a) (hk : k < 60) (h6 : A a 6 = nI k) (h3 : A (a + 3) k = nI 18) (h5 : A (a + 5) k = 0) (hb : isB cb) (hm : m ≤ 12) (hb1 : A cb 1 = nI m) (hN : NmA J cb m nm) : ∃ A' J' r, F_75 [.ref a, .ref 4, .ref cb] (mk A J τ) = some (some (.int r), mk A' J' τ) ∧ PoC s n A A' J J' a k (if tK t = 30 then (if (fnd nm (tL t) m 0).toInt = -1 then .inl (flt t 5) else if tK (nx s n t) = 19 then .inr ((18, (fnd nm (tL t) m 0).toInt.toNat, 1), nx s n (nx s n t)) else .inr ((18, (fnd nm (tL t) m 0).toInt.toNat, 0), nx s n t)) else .inl (flt t 2)) r := by
  have ha' : 119 ≤ a := by unfold isR at ha; omega
  obtain ⟨k1, k2, k3, k4, k5, k6⟩ := ro_1 ha τ
  obtain ⟨-, -, -, ⟨m1, m2⟩, ⟨n1, n2⟩⟩ := ro_2 ha
  have kb := (bk_1 hb τ).1
  have kk := h.2.1.2.1
  have hK := h.2.2.2.2.2.2.1
  rw [e_75]
  by_cases c1 : tK t = 30
  · rw [if_pos c1]
    have j9 := h.2.1.2.2.2.2 (Or.inr c1)
    obtain ⟨l1, l2⟩ := h.2.2.2.2.2.2.2.2.2 (Or.inr c1)
    have f32 := c_32 (τ := τ) hb hm hb1 hN l1 l2
    rcases fnd_c nm (tL t) m 0 (by omega) with ⟨e1, e2⟩ | ⟨i, u1, u2, u3, u4⟩
    · rw [if_pos e2]
      rw [e1] at f32
      have r5 : F_30 [.ref 4, .int 5] (mk A J τ) = _ := c_ref (τ := τ) h 5
      refine ⟨_, J, 0, ?_, PoC.f (A1 := A) (f := flt t 5) (fun _ _ _ _ => rfl) (fun _ _ _ => rfl)⟩
      simp (disch := first | omega | (simp (disch := omega) only [n_ti, Int32.reduceToInt] <;> omega)) only [kk, c1, kb, j9, f32, e_75_23, r5, e_75_34, n_add, nl_add, nr_add, n_mul, nl_mul, nr_mul, n_sub, nr_dec, n_div, nr_sub_1, nr_sub_2, nr_sub_3, nr_sub_4, nr_sub_7, nr_sub_10, nr_sub_11, nr_sub_20, nr_sub_48, nr_sub_97, nl_sub_3, nl_sub_4, nl_sub_12, nl_sub_24, nl_sub_32, nr_div_2, nr_div_4, z_lt, z_le, z_eq, z_cl, n_ti, Int.toNat_natCast, Int32.reduceToInt, Int32.reduceToNatClampNeg, zc_add, zc_sub, zc_add_1, zc_add_2, zc_add_3, zc_add_4, zc_add_8, zc_add_10, zc_add_12, zc_add_16, zc_add_20, zc_sub_1, zc_sub_2, zc_sub_4, zc_sub_10, zc_sub_20, zc_sub_48, zc_sub_97, zc_mul_4, t_ltZ, f_ltZ, t_leZ, f_leZ, t_eqZ, f_eqZ, t_ltN, f_ltN, t_leN, f_leN, t_eqN, f_eqN, ↓reduceIte, and_true, true_and, and_false, false_and, and_self, or_true, true_or, or_false, false_or, or_self, not_true_eq_false, not_false_eq_true, tu_same, tu_eq, tu_ne, b_V, b_I, b_J]
    · rw [u3] at f32 ⊢
      have ti : (nI i).toInt = i := n_ti (by omega)
      have tn : (nI i).toInt.toNat = i := by rw [ti]; omega
      have ne : ¬ (nI i).toInt = -1 := by omega
      rw [if_neg ne, tn]
      have h' : ClS s n (tm_u A (a + 4) k (nI i)) J t := h.tr (fun x y u => by simp (disch := omega) only [tu_same, tu_eq, tu_ne]) (fun _ _ _ => rfl)
      obtain ⟨A1, J1, g1, g2, g3⟩ := c_adv hτ h' (by omega)
      have kk1 := g2.2.1.2.1
      have hK1 := g2.2.2.2.2.2.2.1
      have h61 : A1 a 6 = nI k := by rw [g3.1 _ _ (by omega)]; simp (disch := omega) only [h6, tu_same, tu_eq, tu_ne]
      by_cases c2 : tK (nx s n t) = 19
      · rw [if_pos c2]
        have h'' : ClS s n (tm_u A1 (a + 5) k 1) J1 (nx s n t) := g2.tr (fun x y u => by simp (disch := omega) only [tu_same, tu_eq, tu_ne]) (fun _ _ _ => rfl)
        obtain ⟨A2, J2, p1, p2, p3⟩ := c_adv hτ h'' (by omega)
        refine ⟨A2, J2, 1, ?_, fun x y u w => ?_, fun x y u => (p3.2 x y u).trans (g3.2 x y u), rfl, p2, ?_, ?_, ?_, ?_, ?_⟩
        · simp (disch := first | omega | (simp (disch := omega) only [n_ti, Int32.reduceToInt] <;> omega)) only [kk, c1, kb, j9, f32, e_75_23, k1, k5, m1, m2, h6, g1, e_75_49, kk1, c2, k6, n1, n2, h61, p1, e_75_72, n_add, nl_add, nr_add, n_mul, nl_mul, nr_mul, n_sub, nr_dec, n_div, nr_sub_1, nr_sub_2, nr_sub_3, nr_sub_4, nr_sub_7, nr_sub_10, nr_sub_11, nr_sub_20, nr_sub_48, nr_sub_97, nl_sub_3, nl_sub_4, nl_sub_12, nl_sub_24, nl_sub_32, nr_div_2, nr_div_4, z_lt, z_le, z_eq, z_cl, n_ti, Int.toNat_natCast, Int32.reduceToInt, Int32.reduceToNatClampNeg, zc_add, zc_sub, zc_add_1, zc_add_2, zc_add_3, zc_add_4, zc_add_8, zc_add_10, zc_add_12, zc_add_16, zc_add_20, zc_sub_1, zc_sub_2, zc_sub_4, zc_sub_10, zc_sub_20, zc_sub_48, zc_sub_97, zc_mul_4, t_ltZ, f_ltZ, t_leZ, f_leZ, t_eqZ, f_eqZ, t_ltN, f_ltN, t_leN, f_leN, t_eqN, f_eqN, ↓reduceIte, and_true, true_and, and_false, false_and, and_self, or_true, true_or, or_false, false_or, or_self, not_true_eq_false, not_false_eq_true, tu_same, tu_eq, tu_ne, b_V, b_I, b_J]
        · rw [p3.1 x y (by omega)]
          simp (disch := omega) only [tu_same, tu_eq, tu_ne]
          rw [g3.1 x y (by omega)]
          simp (disch := omega) only [tu_same, tu_eq, tu_ne]
        · rw [p3.1 _ _ (by omega)]; simp (disch := omega) only [tu_same, tu_eq, tu_ne]; rw [g3.1 _ _ (by omega)]; simp (disch := omega) only [h3, tu_same, tu_eq, tu_ne]
        · rw [p3.1 _ _ (by omega)]; simp (disch := omega) only [tu_same, tu_eq, tu_ne]; rw [g3.1 _ _ (by omega)]; simp (disch := omega) only [tu_same, tu_eq, tu_ne]
        · rw [p3.1 _ _ (by omega)]; simp (disch := omega) only [tu_same, tu_eq, tu_ne]; rfl
        · rw [p3.1 _ _ (by omega)]; simp (disch := omega) only [tu_same, tu_eq, tu_ne]; rw [g3.1 _ _ (by omega)]; simp (disch := omega) only [tu_same, tu_eq, tu_ne]
        · rw [p3.1 _ _ (by omega)]; simp (disch := omega) only [tu_same, tu_eq, tu_ne]; rw [g3.1 _ _ (by omega)]; simp (disch := omega) only [tu_same, tu_eq, tu_ne]
      · rw [if_neg c2]
        refine ⟨A1, J1, 1, ?_, fun x y u w => ?_, g3.2, rfl, g2, ?_, ?_, ?_, ?_, ?_⟩
        · simp (disch := first | omega | (simp (disch := omega) only [n_ti, Int32.reduceToInt] <;> omega)) only [kk, c1, kb, j9, f32, e_75_23, k1, k5, m1, m2, h6, g1, e_75_49, kk1, e_75_72, n_add, nl_add, nr_add, n_mul, nl_mul, nr_mul, n_sub, nr_dec, n_div, nr_sub_1, nr_sub_2, nr_sub_3, nr_sub_4, nr_sub_7, nr_sub_10, nr_sub_11, nr_sub_20, nr_sub_48, nr_sub_97, nl_sub_3, nl_sub_4, nl_sub_12, nl_sub_24, nl_sub_32, nr_div_2, nr_div_4, z_lt, z_le, z_eq, z_cl, n_ti, Int.toNat_natCast, Int32.reduceToInt, Int32.reduceToNatClampNeg, zc_add, zc_sub, zc_add_1, zc_add_2, zc_add_3, zc_add_4, zc_add_8, zc_add_10, zc_add_12, zc_add_16, zc_add_20, zc_sub_1, zc_sub_2, zc_sub_4, zc_sub_10, zc_sub_20, zc_sub_48, zc_sub_97, zc_mul_4, t_ltZ, f_ltZ, t_leZ, f_leZ, t_eqZ, f_eqZ, t_ltN, f_ltN, t_leN, f_leN, t_eqN, f_eqN, ↓reduceIte, and_true, true_and, and_false, false_and, and_self, or_true, true_or, or_false, false_or, or_self, not_true_eq_false, not_false_eq_true, tu_same, tu_eq, tu_ne, b_V, b_I, b_J]
        · rw [g3.1 x y (by omega)]
          simp (disch := omega) only [tu_same, tu_eq, tu_ne]
        · rw [g3.1 _ _ (by omega)]; simp (disch := omega) only [h3, tu_same, tu_eq, tu_ne]
        · rw [g3.1 _ _ (by omega)]; simp (disch := omega) only [tu_same, tu_eq, tu_ne]
        · rw [g3.1 _ _ (by omega)]; simp (disch := omega) only [h5, tu_same, tu_eq, tu_ne]; rfl
        · rw [g3.1 _ _ (by omega)]; simp (disch := omega) only [tu_same, tu_eq, tu_ne]
        · rw [g3.1 _ _ (by omega)]; simp (disch := omega) only [tu_same, tu_eq, tu_ne]
  · rw [if_neg c1]
    have r2 : F_30 [.ref 4, .int 2] (mk A J τ) = _ := c_ref (τ := τ) h 2
    refine ⟨_, J, 0, ?_, PoC.f (A1 := A) (f := flt t 2) (fun _ _ _ _ => rfl) (fun _ _ _ => rfl)⟩
    simp (disch := first | omega | (simp (disch := omega) only [n_ti, Int32.reduceToInt] <;> omega)) only [kk, r2, e_75_14, n_add, nl_add, nr_add, n_mul, nl_mul, nr_mul, n_sub, nr_dec, n_div, nr_sub_1, nr_sub_2, nr_sub_3, nr_sub_4, nr_sub_7, nr_sub_10, nr_sub_11, nr_sub_20, nr_sub_48, nr_sub_97, nl_sub_3, nl_sub_4, nl_sub_12, nl_sub_24, nl_sub_32, nr_div_2, nr_div_4, z_lt, z_le, z_eq, z_cl, n_ti, Int.toNat_natCast, Int32.reduceToInt, Int32.reduceToNatClampNeg, zc_add, zc_sub, zc_add_1, zc_add_2, zc_add_3, zc_add_4, zc_add_8, zc_add_10, zc_add_12, zc_add_16, zc_add_20, zc_sub_1, zc_sub_2, zc_sub_4, zc_sub_10, zc_sub_20, zc_sub_48, zc_sub_97, zc_mul_4, t_ltZ, f_ltZ, t_leZ, f_leZ, t_eqZ, f_eqZ, t_ltN, f_ltN, t_leN, f_leN, t_eqN, f_eqN, ↓reduceIte, and_true, true_and, and_false, false_and, and_self, or_true, true_or, or_false, false_or, or_self, not_true_eq_false, not_false_eq_true, tu_same, tu_eq, tu_ne, b_V, b_I, b_J]
