/-! routine: a line (class) -/
def PoL (s : Nat → Int) (n : Nat) (A A' : Nat → Nat → Int32) (J J' : Nat → Nat → Int64) (a k : Nat) (r : Sum (Nat × Nat) (LD × TK)) (res : Int32) : Prop := (∀ x y, x ≠ 4 → ¬ (a + 1 ≤ x ∧ x ≤ a + 5 ∧ y = k) → A' x y = A x y) ∧ (∀ x y, ¬ (x = 4 ∧ y = 9) → J' x y = J x y) ∧ (match r with
    | .inl f => res = 0 ∧ A' 4 4 = nI f.1 ∧ A' 4 5 = nI f.2
    | .inr q => res = 1 ∧ ClS s n A' J' q.2 ∧ LnA A' a k q.1 ∧ A' 4 4 = A 4 4 ∧ A' 4 5 = A 4 5)
theorem PoL.f {s : Nat → Int} {n : Nat} {A A1 : Nat → Nat → Int32} {J J1 : Nat → Nat → Int64} {a k : Nat} {f : Nat × Nat} (h : ∀ x y, x ≠ 4 → ¬ (a + 1 ≤ x ∧ x ≤ a + 5 ∧ y = k) → A1 x y = A x y) (g : ∀ x y, ¬ (x = 4 ∧ y = 9) → J1 x y = J x y) : PoL s n A (tm_u (tm_u A1 4 4 (nI f.1)) 4 5 (nI f.2)) J J1 a k (.inl f) 0 := ⟨fun x y u v => by simp (disch := omega) only [tu_same, tu_eq, tu_ne]; exact h x y u v, g, rfl, by simp (disch := omega) only [tu_same, tu_eq, tu_ne], by simp (disch := omega) only [tu_same, tu_eq, tu_ne]⟩
set_option maxHeartbeats 1000000 in
theorem c_77 {τ : tm_Tu} (hτ : τ.2.2.2.2 = 3) {s : Nat → Int} {n a k cb m N lo : Nat} {nm : Nat → List Nat} {A : Nat → Nat → Int32} {J : Nat → Nat → Int64} {t : TK} (h : ClS s n A J t) (h15 : tK t = 15) (ha : isR a) (hk : k < 60) (h6 : A a 6 = nI k) (hNb : 1 ≤ N ∧ N ≤ 200) (h5 : A a 5 = nI N) (hlo : lo < 200) (hl : (k = 0 ∧ lo = 0) ∨ (1 ≤ k ∧ A (a + 1) (k - 1) = nI lo)) (hb : isB cb) (hm : m ≤ 12) (hb1 : A cb 1 = nI m) (hN : NmA J cb m nm) : ∃ A' J' r, F_77 [.ref a, .ref 4, .ref cb] (mk A J τ) = some (some (.int r), mk A' J' τ) ∧ PoL s n A A' J J' a k (pLine s n nm m N lo t) r := by
  have ha' : 119 ≤ a := by unfold isR at ha; omega
  have hb' : cb ≤ 81 := by unfold isB at hb; omega
  have hb43 : 43 ≤ cb := by unfold isB at hb; omega
  obtain ⟨k1, k2, k3, k4, k5, k6⟩ := ro_1 ha τ
  obtain ⟨⟨x1, x2⟩, ⟨y1, y2⟩, -, -, -⟩ := ro_2 ha
  unfold pLine
  rcases c_pass (w := 15) hτ h (by omega) with ⟨-, A1, J1, g1, g2, g3⟩ | ⟨ck, -⟩
  case inr => exact absurd h15 ck
  have g1' : F_31 [.ref 4, .int 15] (mk A J τ) = some (some (.int 1), mk A1 J1 τ) := g1
  have pre : F_77 [.ref a, .ref 4, .ref cb] (mk A J τ) = R_77 29 [(0, .ref a), (1, .ref 4), (2, .ref cb), (3, .int (nI lo))] [.int 1] (mk A1 J1 τ) := by
    rw [e_77]
    rcases hl with ⟨e1, e2⟩ | ⟨e1, e2⟩
    · subst e1 e2
      simp (disch := first | omega | (simp (disch := omega) only [n_ti, Int32.reduceToInt] <;> omega)) only [k1, h6, e_77_22, g1', n_add, nl_add, nr_add, n_mul, nl_mul, nr_mul, n_sub, nr_dec, n_div, nr_sub_1, nr_sub_2, nr_sub_3, nr_sub_4, nr_sub_7, nr_sub_10, nr_sub_11, nr_sub_20, nr_sub_48, nr_sub_97, nl_sub_3, nl_sub_4, nl_sub_12, nl_sub_24, nl_sub_32, nr_div_2, nr_div_4, z_lt, z_le, z_eq, z_cl, n_ti, Int.toNat_natCast, Int32.reduceToInt, Int32.reduceToNatClampNeg, zc_add, zc_sub, zc_add_1, zc_add_2, zc_add_3, zc_add_4, zc_add_8, zc_add_10, zc_add_12, zc_add_16, zc_add_20, zc_sub_1, zc_sub_2, zc_sub_4, zc_sub_10, zc_sub_20, zc_sub_48, zc_sub_97, zc_mul_4, t_ltZ, f_ltZ, t_leZ, f_leZ, t_eqZ, f_eqZ, t_ltN, f_ltN, t_leN, f_leN, t_eqN, f_eqN, ↓reduceIte, and_true, true_and, and_false, false_and, and_self, or_true, true_or, or_false, false_or, or_self, not_true_eq_false, not_false_eq_true, tu_same, tu_eq, tu_ne, b_V, b_I, b_J]
      rfl
    · have a1 : ¬ a + 1 = 1 := by omega
      simp (disch := first | omega | (simp (disch := omega) only [n_ti, Int32.reduceToInt] <;> omega)) only [k1, h6, k2, a1, x1, x2, e2, e_77_22, g1', n_add, nl_add, nr_add, n_mul, nl_mul, nr_mul, n_sub, nr_dec, n_div, nr_sub_1, nr_sub_2, nr_sub_3, nr_sub_4, nr_sub_7, nr_sub_10, nr_sub_11, nr_sub_20, nr_sub_48, nr_sub_97, nl_sub_3, nl_sub_4, nl_sub_12, nl_sub_24, nl_sub_32, nr_div_2, nr_div_4, z_lt, z_le, z_eq, z_cl, n_ti, Int.toNat_natCast, Int32.reduceToInt, Int32.reduceToNatClampNeg, zc_add, zc_sub, zc_add_1, zc_add_2, zc_add_3, zc_add_4, zc_add_8, zc_add_10, zc_add_12, zc_add_16, zc_add_20, zc_sub_1, zc_sub_2, zc_sub_4, zc_sub_10, zc_sub_20, zc_sub_48, zc_sub_97, zc_mul_4, t_ltZ, f_ltZ, t_leZ, f_leZ, t_eqZ, f_eqZ, t_ltN, f_ltN, t_leN, f_leN, t_eqN, f_eqN, ↓reduceIte, and_true, true_and, and_false, false_and, and_self, or_true, true_or, or_false, false_or, or_self, not_true_eq_false, not_false_eq_true, tu_same, tu_eq, tu_ne, b_V, b_I, b_J]
  have h61 : A1 a 6 = nI k := (g3.1 _ _ (by omega)).trans h6
  have h51 : A1 a 5 = nI N := (g3.1 _ _ (by omega)).trans h5
  have num := c_num (τ := τ) (lo := lo) (hi := N - 1) g2 (by omega) (by omega)
  cases hn : nf (nx s n t) lo (N - 1) with
  | some f =>
    rw [hn] at num
    refine ⟨_, J1, 0, ?_, PoL.f (A1 := A1) (f := f) (fun x y u v => g3.1 x y (by omega)) g3.2⟩
    rw [pre, e_77_29]
    simp (disch := first | omega | (simp (disch := omega) only [n_ti, Int32.reduceToInt] <;> omega)) only [k1, h51, num, e_77_43, e_77_46, n_add, nl_add, nr_add, n_mul, nl_mul, nr_mul, n_sub, nr_dec, n_div, nr_sub_1, nr_sub_2, nr_sub_3, nr_sub_4, nr_sub_7, nr_sub_10, nr_sub_11, nr_sub_20, nr_sub_48, nr_sub_97, nl_sub_3, nl_sub_4, nl_sub_12, nl_sub_24, nl_sub_32, nr_div_2, nr_div_4, z_lt, z_le, z_eq, z_cl, n_ti, Int.toNat_natCast, Int32.reduceToInt, Int32.reduceToNatClampNeg, zc_add, zc_sub, zc_add_1, zc_add_2, zc_add_3, zc_add_4, zc_add_8, zc_add_10, zc_add_12, zc_add_16, zc_add_20, zc_sub_1, zc_sub_2, zc_sub_4, zc_sub_10, zc_sub_20, zc_sub_48, zc_sub_97, zc_mul_4, t_ltZ, f_ltZ, t_leZ, f_leZ, t_eqZ, f_eqZ, t_ltN, f_ltN, t_leN, f_leN, t_eqN, f_eqN, ↓reduceIte, and_true, true_and, and_false, false_and, and_self, or_true, true_or, or_false, false_or, or_self, not_true_eq_false, not_false_eq_true, tu_same, tu_eq, tu_ne, b_V, b_I, b_J]
  | none =>
    rw [hn] at num
    obtain ⟨q1, q2, q3⟩ := nf_none hn
    have v8 := g2.2.1.2.2.2.1 (Or.inl q1)
    have hA : ClS s n (tm_u A1 (a + 1) k (nI (tV (nx s n t)))) J1 (nx s n t) := g2.tr (fun x y u => by simp (disch := omega) only [tu_same, tu_eq, tu_ne]) (fun _ _ _ => rfl)
    obtain ⟨A2, J2, p1, p2, p3⟩ := c_adv hτ hA (by omega)
    have h62 : A2 a 6 = nI k := by rw [p3.1 _ _ (by omega)]; simp (disch := omega) only [h61, tu_same, tu_eq, tu_ne]
    have pre2 : F_77 [.ref a, .ref 4, .ref cb] (mk A J τ) = R_77 65 [(0, .ref a), (1, .ref 4), (2, .ref cb)] [] (mk A2 J2 τ) := by
      rw [pre, e_77_29]
      simp (disch := first | omega | (simp (disch := omega) only [n_ti, Int32.reduceToInt] <;> omega)) only [k1, h51, num, e_77_43, k2, x1, x2, h61, v8, p1, n_add, nl_add, nr_add, n_mul, nl_mul, nr_mul, n_sub, nr_dec, n_div, nr_sub_1, nr_sub_2, nr_sub_3, nr_sub_4, nr_sub_7, nr_sub_10, nr_sub_11, nr_sub_20, nr_sub_48, nr_sub_97, nl_sub_3, nl_sub_4, nl_sub_12, nl_sub_24, nl_sub_32, nr_div_2, nr_div_4, z_lt, z_le, z_eq, z_cl, n_ti, Int.toNat_natCast, Int32.reduceToInt, Int32.reduceToNatClampNeg, zc_add, zc_sub, zc_add_1, zc_add_2, zc_add_3, zc_add_4, zc_add_8, zc_add_10, zc_add_12, zc_add_16, zc_add_20, zc_sub_1, zc_sub_2, zc_sub_4, zc_sub_10, zc_sub_20, zc_sub_48, zc_sub_97, zc_mul_4, t_ltZ, f_ltZ, t_leZ, f_leZ, t_eqZ, f_eqZ, t_ltN, f_ltN, t_leN, f_leN, t_eqN, f_eqN, ↓reduceIte, and_true, true_and, and_false, false_and, and_self, or_true, true_or, or_false, false_or, or_self, not_true_eq_false, not_false_eq_true, tu_same, tu_eq, tu_ne, b_V, b_I, b_J]
    have F2 : ∀ x y, ¬ (x = 4 ∧ y ≠ 4 ∧ y ≠ 5) → ¬ (a + 1 ≤ x ∧ x ≤ a + 5 ∧ y = k) → A2 x y = A x y := fun x y u v => by
      rw [p3.1 x y (by omega)]
      simp (disch := omega) only [tu_same, tu_eq, tu_ne]
      exact g3.1 x y (by omega)
    have G2 : ∀ x y, ¬ (x = 4 ∧ y = 9) → J2 x y = J x y := fun x y u => (p3.2 x y u).trans (g3.2 x y u)
    have num2 : F_36 [.ref 4, .int 0, .int 5] (mk A2 J2 τ) = _ := c_num (τ := τ) (lo := 0) (hi := 5) p2 (by omega) (by omega)
    show ∃ A' J' r, _ ∧ PoL s n A A' J J' a k (match nf (nx s n (nx s n t)) 0 5 with
      | some f => .inl f
      | none => _) r
    cases hn2 : nf (nx s n (nx s n t)) 0 5 with
    | some f =>
      rw [hn2] at num2
      refine ⟨_, J2, 0, ?_, PoL.f (A1 := A2) (f := f) (fun x y u v => F2 x y (by omega) v) G2⟩
      rw [pre2, e_77_65]
      simp (disch := first | omega | (simp (disch := omega) only [n_ti, Int32.reduceToInt] <;> omega)) only [num2, e_77_71, n_add, nl_add, nr_add, n_mul, nl_mul, nr_mul, n_sub, nr_dec, n_div, nr_sub_1, nr_sub_2, nr_sub_3, nr_sub_4, nr_sub_7, nr_sub_10, nr_sub_11, nr_sub_20, nr_sub_48, nr_sub_97, nl_sub_3, nl_sub_4, nl_sub_12, nl_sub_24, nl_sub_32, nr_div_2, nr_div_4, z_lt, z_le, z_eq, z_cl, n_ti, Int.toNat_natCast, Int32.reduceToInt, Int32.reduceToNatClampNeg, zc_add, zc_sub, zc_add_1, zc_add_2, zc_add_3, zc_add_4, zc_add_8, zc_add_10, zc_add_12, zc_add_16, zc_add_20, zc_sub_1, zc_sub_2, zc_sub_4, zc_sub_10, zc_sub_20, zc_sub_48, zc_sub_97, zc_mul_4, t_ltZ, f_ltZ, t_leZ, f_leZ, t_eqZ, f_eqZ, t_ltN, f_ltN, t_leN, f_leN, t_eqN, f_eqN, ↓reduceIte, and_true, true_and, and_false, false_and, and_self, or_true, true_or, or_false, false_or, or_self, not_true_eq_false, not_false_eq_true, tu_same, tu_eq, tu_ne, b_V, b_I, b_J]
    | none =>
      rw [hn2] at num2
      obtain ⟨r1, r2, r3⟩ := nf_none hn2
      have w8 := p2.2.1.2.2.2.1 (Or.inl r1)
      have hA2 : ClS s n (tm_u A2 (a + 2) k (nI (tV (nx s n (nx s n t))))) J2 (nx s n (nx s n t)) := p2.tr (fun x y u => by simp (disch := omega) only [tu_same, tu_eq, tu_ne]) (fun _ _ _ => rfl)
      obtain ⟨A3, J3, s1, s2, s3⟩ := c_adv hτ hA2 (by omega)
      have F3 : ∀ x y, ¬ (x = 4 ∧ y ≠ 4 ∧ y ≠ 5) → ¬ (a + 1 ≤ x ∧ x ≤ a + 5 ∧ y = k) → A3 x y = A x y := fun x y u v => by
        rw [s3.1 x y (by omega)]
        simp (disch := omega) only [tu_same, tu_eq, tu_ne]
        exact F2 x y u v
      have G3 : ∀ x y, ¬ (x = 4 ∧ y = 9) → J3 x y = J x y := fun x y u => (s3.2 x y u).trans (G2 x y u)
      have hN3 : NmA J3 cb m nm := fun i hi => by rw [G3 _ _ (by omega)]; exact hN i hi
      obtain ⟨A4, J4, r, t1, t2⟩ := c_76 hτ s2 ha hk (by rw [s3.1 _ _ (by omega)]; simp (disch := omega) only [h62, tu_same, tu_eq, tu_ne]) hb hm ((F3 cb 1 (by omega) (by omega)).trans hb1) hN3
      have pre3 : F_77 [.ref a, .ref 4, .ref cb] (mk A J τ) = R_77 99 [(1, .ref 4)] [.int r] (mk A4 J4 τ) := by
        rw [pre2, e_77_65]
        simp (disch := first | omega | (simp (disch := omega) only [n_ti, Int32.reduceToInt] <;> omega)) only [num2, e_77_71, k1, k3, y1, y2, h62, w8, s1, e_77_93, t1, n_add, nl_add, nr_add, n_mul, nl_mul, nr_mul, n_sub, nr_dec, n_div, nr_sub_1, nr_sub_2, nr_sub_3, nr_sub_4, nr_sub_7, nr_sub_10, nr_sub_11, nr_sub_20, nr_sub_48, nr_sub_97, nl_sub_3, nl_sub_4, nl_sub_12, nl_sub_24, nl_sub_32, nr_div_2, nr_div_4, z_lt, z_le, z_eq, z_cl, n_ti, Int.toNat_natCast, Int32.reduceToInt, Int32.reduceToNatClampNeg, zc_add, zc_sub, zc_add_1, zc_add_2, zc_add_3, zc_add_4, zc_add_8, zc_add_10, zc_add_12, zc_add_16, zc_add_20, zc_sub_1, zc_sub_2, zc_sub_4, zc_sub_10, zc_sub_20, zc_sub_48, zc_sub_97, zc_mul_4, t_ltZ, f_ltZ, t_leZ, f_leZ, t_eqZ, f_eqZ, t_ltN, f_ltN, t_leN, f_leN, t_eqN, f_eqN, ↓reduceIte, and_true, true_and, and_false, false_and, and_self, or_true, true_or, or_false, false_or, or_self, not_true_eq_false, not_false_eq_true, tu_same, tu_eq, tu_ne, b_V, b_I, b_J]
      have F4 : ∀ x y, x ≠ 4 → ¬ (a + 1 ≤ x ∧ x ≤ a + 5 ∧ y = k) → A4 x y = A x y := fun x y u v => (t2.1 x y u (by omega)).trans (F3 x y (by omega) v)
      have G4 : ∀ x y, ¬ (x = 4 ∧ y = 9) → J4 x y = J x y := fun x y u => (t2.2.1 x y u).trans (G3 x y u)
      have hB4 : A4 (a + 1) k = nI (tV (nx s n t)) := by
        rw [t2.1 _ _ (by omega) (by omega), s3.1 _ _ (by omega)]
        simp (disch := omega) only [tu_same, tu_eq, tu_ne]
        rw [p3.1 _ _ (by omega)]
        simp (disch := omega) only [tu_same, tu_eq, tu_ne]
      have hP4 : A4 (a + 2) k = nI (tV (nx s n (nx s n t))) := by
        rw [t2.1 _ _ (by omega) (by omega), s3.1 _ _ (by omega)]
        simp (disch := omega) only [tu_same, tu_eq, tu_ne]
      have t3 := t2.2.2
      show ∃ A' J' r, _ ∧ PoL s n A A' J J' a k (match pAct s n nm m (nx s n (nx s n (nx s n t))) with
        | .inl f => .inl f
        | .inr q => if tK q.2 = 34 then .inr ((tV (nx s n t), tV (nx s n (nx s n t)), q.1), nx s n q.2) else .inl (flt q.2 2)) r
      cases hp : pAct s n nm m (nx s n (nx s n (nx s n t))) with
      | inl f =>
        rw [hp] at t3
        obtain ⟨rfl, z1, z2⟩ := t3
        refine ⟨A4, J4, 0, ?_, F4, G4, rfl, z1, z2⟩
        rw [pre3, e_77_99]
        simp (disch := first | omega | (simp (disch := omega) only [n_ti, Int32.reduceToInt] <;> omega)) only [e_77_115, e_77_116, n_add, nl_add, nr_add, n_mul, nl_mul, nr_mul, n_sub, nr_dec, n_div, nr_sub_1, nr_sub_2, nr_sub_3, nr_sub_4, nr_sub_7, nr_sub_10, nr_sub_11, nr_sub_20, nr_sub_48, nr_sub_97, nl_sub_3, nl_sub_4, nl_sub_12, nl_sub_24, nl_sub_32, nr_div_2, nr_div_4, z_lt, z_le, z_eq, z_cl, n_ti, Int.toNat_natCast, Int32.reduceToInt, Int32.reduceToNatClampNeg, zc_add, zc_sub, zc_add_1, zc_add_2, zc_add_3, zc_add_4, zc_add_8, zc_add_10, zc_add_12, zc_add_16, zc_add_20, zc_sub_1, zc_sub_2, zc_sub_4, zc_sub_10, zc_sub_20, zc_sub_48, zc_sub_97, zc_mul_4, t_ltZ, f_ltZ, t_leZ, f_leZ, t_eqZ, f_eqZ, t_ltN, f_ltN, t_leN, f_leN, t_eqN, f_eqN, ↓reduceIte, and_true, true_and, and_false, false_and, and_self, or_true, true_or, or_false, false_or, or_self, not_true_eq_false, not_false_eq_true, tu_same, tu_eq, tu_ne, b_V, b_I, b_J]
      | inr q =>
        rw [hp] at t3
        obtain ⟨rfl, z1, z2, z3, z4, z5, z6⟩ := t3
        have f44 : A4 4 4 = A 4 4 := z5.trans (F3 4 4 (by omega) (by omega))
        have f45 : A4 4 5 = A 4 5 := z6.trans (F3 4 5 (by omega) (by omega))
        show ∃ A' J' r, _ ∧ PoL s n A A' J J' a k (if tK q.2 = 34 then .inr ((tV (nx s n t), tV (nx s n (nx s n t)), q.1), nx s n q.2) else .inl (flt q.2 2)) r
        rcases c_pass (w := 34) hτ z1 (by omega) with ⟨ck, A5, J5, o1, o2, o3⟩ | ⟨ck, o1⟩
        · rw [if_pos ck]
          have o1' : F_31 [.ref 4, .int 34] (mk A4 J4 τ) = some (some (.int 1), mk A5 J5 τ) := o1
          refine ⟨A5, J5, 1, ?_, fun x y u v => (o3.1 x y (by omega)).trans (F4 x y u v), fun x y u => (o3.2 x y u).trans (G4 x y u), rfl, o2, ⟨(o3.1 _ _ (by omega)).trans hB4, (o3.1 _ _ (by omega)).trans hP4, (o3.1 _ _ (by omega)).trans z2, (o3.1 _ _ (by omega)).trans z3, (o3.1 _ _ (by omega)).trans z4⟩, (o3.1 _ _ (by omega)).trans f44, (o3.1 _ _ (by omega)).trans f45⟩
          rw [pre3, e_77_99]
          simp (disch := first | omega | (simp (disch := omega) only [n_ti, Int32.reduceToInt] <;> omega)) only [o1', e_77_108, e_77_116, n_add, nl_add, nr_add, n_mul, nl_mul, nr_mul, n_sub, nr_dec, n_div, nr_sub_1, nr_sub_2, nr_sub_3, nr_sub_4, nr_sub_7, nr_sub_10, nr_sub_11, nr_sub_20, nr_sub_48, nr_sub_97, nl_sub_3, nl_sub_4, nl_sub_12, nl_sub_24, nl_sub_32, nr_div_2, nr_div_4, z_lt, z_le, z_eq, z_cl, n_ti, Int.toNat_natCast, Int32.reduceToInt, Int32.reduceToNatClampNeg, zc_add, zc_sub, zc_add_1, zc_add_2, zc_add_3, zc_add_4, zc_add_8, zc_add_10, zc_add_12, zc_add_16, zc_add_20, zc_sub_1, zc_sub_2, zc_sub_4, zc_sub_10, zc_sub_20, zc_sub_48, zc_sub_97, zc_mul_4, t_ltZ, f_ltZ, t_leZ, f_leZ, t_eqZ, f_eqZ, t_ltN, f_ltN, t_leN, f_leN, t_eqN, f_eqN, ↓reduceIte, and_true, true_and, and_false, false_and, and_self, or_true, true_or, or_false, false_or, or_self, not_true_eq_false, not_false_eq_true, tu_same, tu_eq, tu_ne, b_V, b_I, b_J]
        · rw [if_neg ck]
          have o1' : F_31 [.ref 4, .int 34] (mk A4 J4 τ) = some (some (.int 0), mk (tm_u (tm_u A4 4 4 (nI (flt q.2 2).1)) 4 5 (nI (flt q.2 2).2)) J4 τ) := o1
          refine ⟨_, J4, 0, ?_, PoL.f (A1 := A4) (f := flt q.2 2) F4 G4⟩
          rw [pre3, e_77_99]
          simp (disch := first | omega | (simp (disch := omega) only [n_ti, Int32.reduceToInt] <;> omega)) only [o1', e_77_108, e_77_115, e_77_116, n_add, nl_add, nr_add, n_mul, nl_mul, nr_mul, n_sub, nr_dec, n_div, nr_sub_1, nr_sub_2, nr_sub_3, nr_sub_4, nr_sub_7, nr_sub_10, nr_sub_11, nr_sub_20, nr_sub_48, nr_sub_97, nl_sub_3, nl_sub_4, nl_sub_12, nl_sub_24, nl_sub_32, nr_div_2, nr_div_4, z_lt, z_le, z_eq, z_cl, n_ti, Int.toNat_natCast, Int32.reduceToInt, Int32.reduceToNatClampNeg, zc_add, zc_sub, zc_add_1, zc_add_2, zc_add_3, zc_add_4, zc_add_8, zc_add_10, zc_add_12, zc_add_16, zc_add_20, zc_sub_1, zc_sub_2, zc_sub_4, zc_sub_10, zc_sub_20, zc_sub_48, zc_sub_97, zc_mul_4, t_ltZ, f_ltZ, t_leZ, f_leZ, t_eqZ, f_eqZ, t_ltN, f_ltN, t_leN, f_leN, t_eqN, f_eqN, ↓reduceIte, and_true, true_and, and_false, false_and, and_self, or_true, true_or, or_false, false_or, or_self, not_true_eq_false, not_false_eq_true, tu_same, tu_eq, tu_ne, b_V, b_I, b_J]
