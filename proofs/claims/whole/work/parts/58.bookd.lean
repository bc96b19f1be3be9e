/-! reading: a BOOK (class), on -/
def PoH (s : Nat → Int) (n : Nat) (A A' : Nat → Nat → Int32) (J J' : Nat → Nat → Int64) (c : Nat) (r : Sum (Nat × Nat) ((List Nat × TD) × TK)) (res : Int32) : Prop := (∀ a y, a ≠ 4 → ¬ (c ≤ a ∧ a ≤ c + 2) → A' a y = A a y) ∧ (∀ a y, ¬ (a = 4 ∧ y = 9) → ¬ (a = c ∧ y = 2) → J' a y = J a y) ∧ (match r with
    | .inl f => res = 0 ∧ A' 4 4 = nI f.1 ∧ A' 4 5 = nI f.2
    | .inr q => res = 1 ∧ ClS s n A' J' q.2 ∧ TrA A' c q.1.2 ∧ TDok q.1.2 ∧ J' c 2 = lN (en32 q.1.1) ∧ q.1.1.length ≤ 8 ∧ okL q.1.1 ∧ A' 4 4 = A 4 4 ∧ A' 4 5 = A 4 5)
theorem PoH.f {s : Nat → Int} {n : Nat} {A A1 : Nat → Nat → Int32} {J J1 : Nat → Nat → Int64} {c : Nat} {f : Nat × Nat} (h : ∀ a y, a ≠ 4 → ¬ (c ≤ a ∧ a ≤ c + 2) → A1 a y = A a y) (g : ∀ a y, ¬ (a = 4 ∧ y = 9) → ¬ (a = c ∧ y = 2) → J1 a y = J a y) : PoH s n A (tm_u (tm_u A1 4 4 (nI f.1)) 4 5 (nI f.2)) J J1 c (.inl f) 0 := ⟨fun a y u v => by simp (disch := omega) only [tu_same, tu_eq, tu_ne]; exact h a y u v, g, rfl, by simp (disch := omega) only [tu_same, tu_eq, tu_ne], by simp (disch := omega) only [tu_same, tu_eq, tu_ne]⟩
set_option maxHeartbeats 2000000 in
theorem c_41 {τ : tm_Tu} (hτ : τ.2.2.2.2 = 3) {s : Nat → Int} {n cb k : Nat} {A : Nat → Nat → Int32} {J : Nat → Nat → Int64} {t : TK} {nm : Nat → List Nat} (h : ClS s n A J t) (hk0 : tK t = 0) (hb : isB cb) (hk : k < 12) (h1 : A cb 1 = nI k) (hN : NmA J cb k nm) : ∃ A' J' r, F_41 [.ref cb, .ref 4, .ref (cb + 2 + 3 * k)] (mk A J τ) = some (some (.int r), mk A' J' τ) ∧ PoH s n A A' J J' (cb + 2 + 3 * k) (pHead s n k nm t) r := by
  have hc : isT (cb + 2 + 3 * k) := ⟨cb, k, hb, hk, rfl⟩
  have kb := (bk_1 hb τ).1
  have kc := (bk_3 hc τ).1
  have hb43 : 43 ≤ cb := by unfold isB at hb; omega
  obtain ⟨c, ec⟩ : ∃ c, c = cb + 2 + 3 * k := ⟨_, rfl⟩
  rw [← ec] at hc kc ⊢
  have hcb : ∀ j, j < k → cb + 2 + 3 * j < c := fun j hj => by omega
  unfold pHead
  obtain ⟨t1, e1⟩ : ∃ x, x = nx s n t := ⟨_, rfl⟩
  obtain ⟨t2, e2⟩ : ∃ x, x = nx s n t1 := ⟨_, rfl⟩
  obtain ⟨t3, e3⟩ : ∃ x, x = nx s n t2 := ⟨_, rfl⟩
  obtain ⟨t4, e4⟩ : ∃ x, x = nx s n t3 := ⟨_, rfl⟩
  obtain ⟨t5, e5⟩ : ∃ x, x = nx s n t4 := ⟨_, rfl⟩
  obtain ⟨t6, e6⟩ : ∃ x, x = nx s n t5 := ⟨_, rfl⟩
  obtain ⟨t7, e7⟩ : ∃ x, x = nx s n t6 := ⟨_, rfl⟩
  rw [← e1, ← e2, ← e3, ← e4, ← e5, ← e6, ← e7]
  rw [e_41]
  rcases c_pass (w := 0) hτ h (by omega) with ⟨-, A1, J1, g1, g2, g3⟩ | ⟨ck, -⟩
  case inr => exact absurd hk0 ck
  have g1' : F_31 [.ref 4, .int 0] (mk A J τ) = some (some (.int 1), mk A1 J1 τ) := g1
  rw [← e1] at g2
  have k2 := g2.2.1.2.1
  have hK1 := g2.2.2.2.2.2.2.1
  by_cases d1 : tK t1 = 30
  · rw [if_pos d1]
    have h9 := g2.2.1.2.2.2.2 (Or.inr d1)
    obtain ⟨l1, l2⟩ := g2.2.2.2.2.2.2.2.2.2 (Or.inr d1)
    have hN1 : NmA J1 cb k nm := fun j hj => by
      obtain ⟨y1, y2, y3⟩ := hN j hj
      exact ⟨(g3.2 _ _ (by have := hcb j hj; omega)).trans y1, y2, y3⟩
    have s32 := c_32 (τ := τ) (A := A1) hb (by omega) ((g3.1 cb 1 (by omega)).trans h1) hN1 l1 l2
    rcases fnd_c nm (tL t1) k 0 (by omega) with ⟨f1, f2⟩ | ⟨i, i1, i2, i3, i4⟩
    · rw [if_pos f2]
      rw [f1] at s32
      obtain ⟨A2, p1, ⟨p2, p3, p4, p5⟩, p6, p7⟩ := c_34 (τ := τ) (A := A1) (J := J1) (l := lN (en32 (tL t1))) hc
      have k8 := (bk_3 hc τ).2.2.2.2.2.2.2.1
      have S2 : ClS s n A2 (tm_u J1 c 2 (lN (en32 (tL t1)))) t1 := g2.tr (fun a y u => p7 a y (by omega)) (fun a y u => by simp (disch := omega) only [tu_same, tu_eq, tu_ne])
      obtain ⟨A3, J3, q1, q2, q3⟩ := c_adv hτ S2 (by omega)
      rw [← e2] at q2
      have s35 : F_35 [.ref cb, .ref 4, .ref c] (mk A1 J1 τ) = some (some (.int 1), mk A3 J3 τ) := by
        rw [e_35]
        simp (disch := first | omega | (simp (disch := omega) only [n_ti, Int32.reduceToInt] <;> omega)) only [k2, d1, kb, h9, s32, e_35_23, kc, p1, e_35_41, q1, e_35_45, n_add, nl_add, nr_add, n_mul, nl_mul, nr_mul, n_sub, nr_dec, n_div, nr_sub_1, nr_sub_2, nr_sub_3, nr_sub_4, nr_sub_7, nr_sub_10, nr_sub_11, nr_sub_20, nr_sub_48, nr_sub_97, nl_sub_3, nl_sub_4, nl_sub_12, nl_sub_24, nl_sub_32, nr_div_2, nr_div_4, z_lt, z_le, z_eq, z_cl, n_ti, Int.toNat_natCast, Int32.reduceToInt, Int32.reduceToNatClampNeg, zc_add, zc_sub, zc_add_1, zc_add_2, zc_add_3, zc_add_4, zc_add_8, zc_add_10, zc_add_12, zc_add_16, zc_add_20, zc_sub_1, zc_sub_2, zc_sub_4, zc_sub_10, zc_sub_20, zc_sub_48, zc_sub_97, zc_mul_4, t_ltZ, f_ltZ, t_leZ, f_leZ, t_eqZ, f_eqZ, t_ltN, f_ltN, t_leN, f_leN, t_eqN, f_eqN, ↓reduceIte, and_true, true_and, and_false, false_and, and_self, or_true, true_or, or_false, false_or, or_self, not_true_eq_false, not_false_eq_true, tu_same, tu_eq, tu_ne, b_V, b_I, b_J]
      have fA3 : ∀ a y, a ≠ 4 → ¬ (c ≤ a ∧ a ≤ c + 2) → A3 a y = A a y := fun a y u v => by rw [q3.1 a y (by omega), p7 a y v, g3.1 a y (by omega)]
      have fJ3 : ∀ a y, ¬ (a = 4 ∧ y = 9) → ¬ (a = c ∧ y = 2) → J3 a y = J a y := fun a y u v => by
        rw [q3.2 a y u]
        simp (disch := omega) only [tu_same, tu_eq, tu_ne]
        exact g3.2 a y u
      have z34 : ∀ y, y = 4 ∨ y = 5 → A3 4 y = A 4 y := fun y u => by rw [q3.1 4 y (by omega), p7 4 y (by omega), g3.1 4 y (by omega)]
      have jc3 : J3 c 2 = lN (en32 (tL t1)) := by
        rw [q3.2 c 2 (by omega)]
        simp (disch := omega) only [tu_same, tu_eq, tu_ne]
      rcases c_pass (w := 1) hτ q2 (by omega) with ⟨ck, A4, J4, x1, x2, x3⟩ | ⟨ck, x1⟩
      · have x1' : F_31 [.ref 4, .int 1] (mk A3 J3 τ) = some (some (.int 1), mk A4 J4 τ) := x1
        rw [if_pos ck]
        rw [← e3] at x2
        have num : F_36 [.ref 4, .int 0, .int 999] (mk A4 J4 τ) = _ := c_num (τ := τ) (lo := 0) (hi := 999) x2 (by omega) (by omega)
        cases hn : nf t3 0 999 with
        | some f =>
          rw [hn] at num
          refine ⟨_, J4, 0, ?_, PoH.f (A1 := A4) (f := f) (fun a y u v => by rw [x3.1 a y (by omega)]; exact fA3 a y u v) (fun a y u v => by rw [x3.2 a y u]; exact fJ3 a y u v)⟩
          have s37 : F_37 [.ref cb, .ref 4, .ref c] (mk A3 J3 τ) = some (some (.int 0), mk (tm_u (tm_u A4 4 4 (nI f.1)) 4 5 (nI f.2)) J4 τ) := by
            rw [e_37]
            simp (disch := first | omega | (simp (disch := omega) only [n_ti, Int32.reduceToInt] <;> omega)) only [x1', e_37_5, num, e_37_16, e_37_19, n_add, nl_add, nr_add, n_mul, nl_mul, nr_mul, n_sub, nr_dec, n_div, nr_sub_1, nr_sub_2, nr_sub_3, nr_sub_4, nr_sub_7, nr_sub_10, nr_sub_11, nr_sub_20, nr_sub_48, nr_sub_97, nl_sub_3, nl_sub_4, nl_sub_12, nl_sub_24, nl_sub_32, nr_div_2, nr_div_4, z_lt, z_le, z_eq, z_cl, n_ti, Int.toNat_natCast, Int32.reduceToInt, Int32.reduceToNatClampNeg, zc_add, zc_sub, zc_add_1, zc_add_2, zc_add_3, zc_add_4, zc_add_8, zc_add_10, zc_add_12, zc_add_16, zc_add_20, zc_sub_1, zc_sub_2, zc_sub_4, zc_sub_10, zc_sub_20, zc_sub_48, zc_sub_97, zc_mul_4, t_ltZ, f_ltZ, t_leZ, f_leZ, t_eqZ, f_eqZ, t_ltN, f_ltN, t_leN, f_leN, t_eqN, f_eqN, ↓reduceIte, and_true, true_and, and_false, false_and, and_self, or_true, true_or, or_false, false_or, or_self, not_true_eq_false, not_false_eq_true, tu_same, tu_eq, tu_ne, b_V, b_I, b_J]
          simp (disch := first | omega | (simp (disch := omega) only [n_ti, Int32.reduceToInt] <;> omega)) only [g1', e_41_5, kb, s35, e_41_14, s37, e_41_23, e_41_56, e_41_57, n_add, nl_add, nr_add, n_mul, nl_mul, nr_mul, n_sub, nr_dec, n_div, nr_sub_1, nr_sub_2, nr_sub_3, nr_sub_4, nr_sub_7, nr_sub_10, nr_sub_11, nr_sub_20, nr_sub_48, nr_sub_97, nl_sub_3, nl_sub_4, nl_sub_12, nl_sub_24, nl_sub_32, nr_div_2, nr_div_4, z_lt, z_le, z_eq, z_cl, n_ti, Int.toNat_natCast, Int32.reduceToInt, Int32.reduceToNatClampNeg, zc_add, zc_sub, zc_add_1, zc_add_2, zc_add_3, zc_add_4, zc_add_8, zc_add_10, zc_add_12, zc_add_16, zc_add_20, zc_sub_1, zc_sub_2, zc_sub_4, zc_sub_10, zc_sub_20, zc_sub_48, zc_sub_97, zc_mul_4, t_ltZ, f_ltZ, t_leZ, f_leZ, t_eqZ, f_eqZ, t_ltN, f_ltN, t_leN, f_leN, t_eqN, f_eqN, ↓reduceIte, and_true, true_and, and_false, false_and, and_self, or_true, true_or, or_false, false_or, or_self, not_true_eq_false, not_false_eq_true, tu_same, tu_eq, tu_ne, b_V, b_I, b_J]
        | none =>
          rw [hn] at num
          obtain ⟨n1, n2, n3⟩ := nf_none hn
          have h8 := x2.2.1.2.2.2.1 (Or.inl n1)
          have S5 : ClS s n (tm_u A4 c 3 (nI (tV t3))) J4 t3 := x2.tr (fun a y u => by simp (disch := omega) only [tu_same, tu_eq, tu_ne]) (fun _ _ _ => rfl)
          obtain ⟨A5, J5, y1, y2, y3⟩ := c_adv hτ S5 (by omega)
          rw [← e4] at y2
          have s37 : F_37 [.ref cb, .ref 4, .ref c] (mk A3 J3 τ) = some (some (.int 1), mk A5 J5 τ) := by
            rw [e_37]
            simp (disch := first | omega | (simp (disch := omega) only [n_ti, Int32.reduceToInt] <;> omega)) only [x1', e_37_5, num, e_37_16, kc, h8, y1, e_37_33, n_add, nl_add, nr_add, n_mul, nl_mul, nr_mul, n_sub, nr_dec, n_div, nr_sub_1, nr_sub_2, nr_sub_3, nr_sub_4, nr_sub_7, nr_sub_10, nr_sub_11, nr_sub_20, nr_sub_48, nr_sub_97, nl_sub_3, nl_sub_4, nl_sub_12, nl_sub_24, nl_sub_32, nr_div_2, nr_div_4, z_lt, z_le, z_eq, z_cl, n_ti, Int.toNat_natCast, Int32.reduceToInt, Int32.reduceToNatClampNeg, zc_add, zc_sub, zc_add_1, zc_add_2, zc_add_3, zc_add_4, zc_add_8, zc_add_10, zc_add_12, zc_add_16, zc_add_20, zc_sub_1, zc_sub_2, zc_sub_4, zc_sub_10, zc_sub_20, zc_sub_48, zc_sub_97, zc_mul_4, t_ltZ, f_ltZ, t_leZ, f_leZ, t_eqZ, f_eqZ, t_ltN, f_ltN, t_leN, f_leN, t_eqN, f_eqN, ↓reduceIte, and_true, true_and, and_false, false_and, and_self, or_true, true_or, or_false, false_or, or_self, not_true_eq_false, not_false_eq_true, tu_same, tu_eq, tu_ne, b_V, b_I, b_J]
          have fA5 : ∀ a y, a ≠ 4 → ¬ (c ≤ a ∧ a ≤ c + 2) → A5 a y = A a y := fun a y u v => by
            rw [y3.1 a y (by omega)]
            simp (disch := omega) only [tu_same, tu_eq, tu_ne]
            rw [x3.1 a y (by omega)]
            exact fA3 a y u v
          have fJ5 : ∀ a y, ¬ (a = 4 ∧ y = 9) → J5 a y = J3 a y := fun a y u => by rw [y3.2 a y u, x3.2 a y u]
          have z5 : ∀ y, y = 4 ∨ y = 5 → A5 4 y = A 4 y := fun y u => by
            rw [y3.1 4 y (by omega)]
            simp (disch := omega) only [tu_same, tu_eq, tu_ne]
            rw [x3.1 4 y (by omega)]
            exact z34 y u
          show ∃ A' J' r, _ ∧ PoH s n A A' J J' c (if tK t4 = 33 then _ else _) r
          rcases c_pass (w := 33) hτ y2 (by omega) with ⟨ck4, A6, J6, v1, v2, v3⟩ | ⟨ck4, v1⟩
          · have v1' : F_31 [.ref 4, .int 33] (mk A5 J5 τ) = some (some (.int 1), mk A6 J6 τ) := v1
            rw [if_pos ck4]
            rw [← e5] at v2
            rcases c_pass (w := 2) hτ v2 (by omega) with ⟨ck5, A7, J7, w1, w2, w3⟩ | ⟨ck5, w1⟩
            · have w1' : F_31 [.ref 4, .int 2] (mk A6 J6 τ) = some (some (.int 1), mk A7 J7 τ) := w1
              rw [if_pos ck5]
              rw [← e6] at w2
              have k27 := w2.2.1.2.1
              have hK7 := w2.2.2.2.2.2.2.1
              by_cases d6 : tK t6 = 32
              · rw [if_pos d6]
                obtain ⟨o1, o2, o3, o4, o5⟩ := w2.2.2.2.2.2.2.2.2.1 d6
                obtain ⟨A8, m1, m2, m3, m4⟩ := c_39 (τ := τ) (c := c) hτ w2 d6 hc
                obtain ⟨A9, J9, r1, r2, r3⟩ := c_adv hτ (w2.tr (A' := A8) (fun a y u => m4 a y (by omega) (by omega)) (fun _ _ _ => rfl)) (by omega)
                rw [← e7] at r2
                have s40 : F_40 [.ref cb, .ref 4, .ref c] (mk A7 J7 τ) = some (some (.int 1), mk A9 J9 τ) := by
                  rw [e_40]
                  simp (disch := first | omega | (simp (disch := omega) only [n_ti, Int32.reduceToInt] <;> omega)) only [k27, d6, kc, m1, e_40_20, r1, e_40_24, n_add, nl_add, nr_add, n_mul, nl_mul, nr_mul, n_sub, nr_dec, n_div, nr_sub_1, nr_sub_2, nr_sub_3, nr_sub_4, nr_sub_7, nr_sub_10, nr_sub_11, nr_sub_20, nr_sub_48, nr_sub_97, nl_sub_3, nl_sub_4, nl_sub_12, nl_sub_24, nl_sub_32, nr_div_2, nr_div_4, z_lt, z_le, z_eq, z_cl, n_ti, Int.toNat_natCast, Int32.reduceToInt, Int32.reduceToNatClampNeg, zc_add, zc_sub, zc_add_1, zc_add_2, zc_add_3, zc_add_4, zc_add_8, zc_add_10, zc_add_12, zc_add_16, zc_add_20, zc_sub_1, zc_sub_2, zc_sub_4, zc_sub_10, zc_sub_20, zc_sub_48, zc_sub_97, zc_mul_4, t_ltZ, f_ltZ, t_leZ, f_leZ, t_eqZ, f_eqZ, t_ltN, f_ltN, t_leN, f_leN, t_eqN, f_eqN, ↓reduceIte, and_true, true_and, and_false, false_and, and_self, or_true, true_or, or_false, false_or, or_self, not_true_eq_false, not_false_eq_true, tu_same, tu_eq, tu_ne, b_V, b_I, b_J]
                have cc : ∀ a y, c ≤ a → a ≤ c + 2 → ¬ (a = c ∧ y = 4) → a ≠ c + 1 → ¬ (a = c ∧ y = 3) → A9 a y = A2 a y := fun a y u1 u2 u3 u4 u5 => by
                  rw [r3.1 a y (by omega), m4 a y (by omega) u3, w3.1 a y (by omega), v3.1 a y (by omega), y3.1 a y (by omega)]
                  simp (disch := omega) only [tu_same, tu_eq, tu_ne]
                  rw [x3.1 a y (by omega), q3.1 a y (by omega)]
                refine ⟨A9, J9, 1, ?_, fun a y u v => ?_, fun a y u v => ?_, rfl, r2, ⟨?_, ?_, ?_, ?_, ?_, ?_, fun j hj => ?_, fun j hj => ?_⟩, ⟨?_, ?_, ?_, by show 0 ≤ 3; omega, by show 0 ≤ 3; omega, fun j hj => fo_le _, fun j hj => by show 0 ≤ 3; omega, by show -1 ≤ (-1 : Int32).toInt; decide, by show (-1 : Int32).toInt ≤ 3; decide, Or.inl rfl⟩, ?_, l1, l2, ?_, ?_⟩
                · simp (disch := first | omega | (simp (disch := omega) only [n_ti, Int32.reduceToInt] <;> omega)) only [g1', e_41_5, kb, s35, e_41_14, s37, e_41_23, v1', e_41_32, w1', e_41_40, s40, e_41_49, e_41_57, n_add, nl_add, nr_add, n_mul, nl_mul, nr_mul, n_sub, nr_dec, n_div, nr_sub_1, nr_sub_2, nr_sub_3, nr_sub_4, nr_sub_7, nr_sub_10, nr_sub_11, nr_sub_20, nr_sub_48, nr_sub_97, nl_sub_3, nl_sub_4, nl_sub_12, nl_sub_24, nl_sub_32, nr_div_2, nr_div_4, z_lt, z_le, z_eq, z_cl, n_ti, Int.toNat_natCast, Int32.reduceToInt, Int32.reduceToNatClampNeg, zc_add, zc_sub, zc_add_1, zc_add_2, zc_add_3, zc_add_4, zc_add_8, zc_add_10, zc_add_12, zc_add_16, zc_add_20, zc_sub_1, zc_sub_2, zc_sub_4, zc_sub_10, zc_sub_20, zc_sub_48, zc_sub_97, zc_mul_4, t_ltZ, f_ltZ, t_leZ, f_leZ, t_eqZ, f_eqZ, t_ltN, f_ltN, t_leN, f_leN, t_eqN, f_eqN, ↓reduceIte, and_true, true_and, and_false, false_and, and_self, or_true, true_or, or_false, false_or, or_self, not_true_eq_false, not_false_eq_true, tu_same, tu_eq, tu_ne, b_V, b_I, b_J]
                · rw [r3.1 a y (by omega), m4 a y (by omega) (by omega), w3.1 a y (by omega), v3.1 a y (by omega)]
                  exact fA5 a y u v
                · rw [r3.2 a y u, w3.2 a y u, v3.2 a y u, fJ5 a y u]
                  exact fJ3 a y u v
                · rw [r3.1 c 4 (by omega)]; exact m2
                · rw [r3.1 c 3 (by omega), m4 c 3 (by omega) (by omega), w3.1 c 3 (by omega), v3.1 c 3 (by omega), y3.1 c 3 (by omega)]
                  simp (disch := omega) only [tu_same, tu_eq, tu_ne]
                · rw [cc c 5 (by omega) (by omega) (by omega) (by omega) (by omega), p2]; rfl
                · rw [cc c 6 (by omega) (by omega) (by omega) (by omega) (by omega), p3]; rfl
                · rw [cc c 7 (by omega) (by omega) (by omega) (by omega) (by omega), p4]
                · rw [cc c 8 (by omega) (by omega) (by omega) (by omega) (by omega), p5]
                · rw [r3.1 (c + 1) j (by omega)]; exact m3 j hj
                · rw [cc (c + 2) j (by omega) (by omega) (by omega) (by omega) (by omega), p6 j hj]; rfl
                · show 1 ≤ tV t6 / 4; omega
                · show tV t6 / 4 ≤ 8; omega
                · show tV t3 ≤ 999; omega
                · rw [r3.2 c 2 (by omega), w3.2 c 2 (by omega), v3.2 c 2 (by omega), fJ5 c 2 (by omega)]; exact jc3
                · rw [r3.1 4 4 (by omega), m4 4 4 (by omega) (by omega), w3.1 4 4 (by omega), v3.1 4 4 (by omega)]; exact z5 4 (by omega)
                · rw [r3.1 4 5 (by omega), m4 4 5 (by omega) (by omega), w3.1 4 5 (by omega), v3.1 4 5 (by omega)]; exact z5 5 (by omega)
              · rw [if_neg d6]
                have r2 : F_30 [.ref 4, .int 2] (mk A7 J7 τ) = _ := c_ref (τ := τ) w2 2
                have s40 : F_40 [.ref cb, .ref 4, .ref c] (mk A7 J7 τ) = some (some (.int 0), mk (tm_u (tm_u A7 4 4 (nI (flt t6 2).1)) 4 5 (nI (flt t6 2).2)) J7 τ) := by
                  rw [e_40]
                  simp (disch := first | omega | (simp (disch := omega) only [n_ti, Int32.reduceToInt] <;> omega)) only [k27, r2, e_40_14, n_add, nl_add, nr_add, n_mul, nl_mul, nr_mul, n_sub, nr_dec, n_div, nr_sub_1, nr_sub_2, nr_sub_3, nr_sub_4, nr_sub_7, nr_sub_10, nr_sub_11, nr_sub_20, nr_sub_48, nr_sub_97, nl_sub_3, nl_sub_4, nl_sub_12, nl_sub_24, nl_sub_32, nr_div_2, nr_div_4, z_lt, z_le, z_eq, z_cl, n_ti, Int.toNat_natCast, Int32.reduceToInt, Int32.reduceToNatClampNeg, zc_add, zc_sub, zc_add_1, zc_add_2, zc_add_3, zc_add_4, zc_add_8, zc_add_10, zc_add_12, zc_add_16, zc_add_20, zc_sub_1, zc_sub_2, zc_sub_4, zc_sub_10, zc_sub_20, zc_sub_48, zc_sub_97, zc_mul_4, t_ltZ, f_ltZ, t_leZ, f_leZ, t_eqZ, f_eqZ, t_ltN, f_ltN, t_leN, f_leN, t_eqN, f_eqN, ↓reduceIte, and_true, true_and, and_false, false_and, and_self, or_true, true_or, or_false, false_or, or_self, not_true_eq_false, not_false_eq_true, tu_same, tu_eq, tu_ne, b_V, b_I, b_J]
                refine ⟨_, J7, 0, ?_, PoH.f (A1 := A7) (f := flt t6 2) (fun a y u v => by rw [w3.1 a y (by omega), v3.1 a y (by omega)]; exact fA5 a y u v) (fun a y u v => by rw [w3.2 a y u, v3.2 a y u, fJ5 a y u]; exact fJ3 a y u v)⟩
                simp (disch := first | omega | (simp (disch := omega) only [n_ti, Int32.reduceToInt] <;> omega)) only [g1', e_41_5, kb, s35, e_41_14, s37, e_41_23, v1', e_41_32, w1', e_41_40, s40, e_41_49, e_41_56, e_41_57, n_add, nl_add, nr_add, n_mul, nl_mul, nr_mul, n_sub, nr_dec, n_div, nr_sub_1, nr_sub_2, nr_sub_3, nr_sub_4, nr_sub_7, nr_sub_10, nr_sub_11, nr_sub_20, nr_sub_48, nr_sub_97, nl_sub_3, nl_sub_4, nl_sub_12, nl_sub_24, nl_sub_32, nr_div_2, nr_div_4, z_lt, z_le, z_eq, z_cl, n_ti, Int.toNat_natCast, Int32.reduceToInt, Int32.reduceToNatClampNeg, zc_add, zc_sub, zc_add_1, zc_add_2, zc_add_3, zc_add_4, zc_add_8, zc_add_10, zc_add_12, zc_add_16, zc_add_20, zc_sub_1, zc_sub_2, zc_sub_4, zc_sub_10, zc_sub_20, zc_sub_48, zc_sub_97, zc_mul_4, t_ltZ, f_ltZ, t_leZ, f_leZ, t_eqZ, f_eqZ, t_ltN, f_ltN, t_leN, f_leN, t_eqN, f_eqN, ↓reduceIte, and_true, true_and, and_false, false_and, and_self, or_true, true_or, or_false, false_or, or_self, not_true_eq_false, not_false_eq_true, tu_same, tu_eq, tu_ne, b_V, b_I, b_J]
            · have w1' : F_31 [.ref 4, .int 2] (mk A6 J6 τ) = _ := w1
              rw [if_neg ck5]
              refine ⟨_, J6, 0, ?_, PoH.f (A1 := A6) (f := flt t5 2) (fun a y u v => by rw [v3.1 a y (by omega)]; exact fA5 a y u v) (fun a y u v => by rw [v3.2 a y u, fJ5 a y u]; exact fJ3 a y u v)⟩
              simp (disch := first | omega | (simp (disch := omega) only [n_ti, Int32.reduceToInt] <;> omega)) only [g1', e_41_5, kb, s35, e_41_14, s37, e_41_23, v1', e_41_32, w1', e_41_40, e_41_56, e_41_57, n_add, nl_add, nr_add, n_mul, nl_mul, nr_mul, n_sub, nr_dec, n_div, nr_sub_1, nr_sub_2, nr_sub_3, nr_sub_4, nr_sub_7, nr_sub_10, nr_sub_11, nr_sub_20, nr_sub_48, nr_sub_97, nl_sub_3, nl_sub_4, nl_sub_12, nl_sub_24, nl_sub_32, nr_div_2, nr_div_4, z_lt, z_le, z_eq, z_cl, n_ti, Int.toNat_natCast, Int32.reduceToInt, Int32.reduceToNatClampNeg, zc_add, zc_sub, zc_add_1, zc_add_2, zc_add_3, zc_add_4, zc_add_8, zc_add_10, zc_add_12, zc_add_16, zc_add_20, zc_sub_1, zc_sub_2, zc_sub_4, zc_sub_10, zc_sub_20, zc_sub_48, zc_sub_97, zc_mul_4, t_ltZ, f_ltZ, t_leZ, f_leZ, t_eqZ, f_eqZ, t_ltN, f_ltN, t_leN, f_leN, t_eqN, f_eqN, ↓reduceIte, and_true, true_and, and_false, false_and, and_self, or_true, true_or, or_false, false_or, or_self, not_true_eq_false, not_false_eq_true, tu_same, tu_eq, tu_ne, b_V, b_I, b_J]
          · have v1' : F_31 [.ref 4, .int 33] (mk A5 J5 τ) = _ := v1
            rw [if_neg ck4]
            refine ⟨_, J5, 0, ?_, PoH.f (A1 := A5) (f := flt t4 2) fA5 (fun a y u v => by rw [fJ5 a y u]; exact fJ3 a y u v)⟩
            simp (disch := first | omega | (simp (disch := omega) only [n_ti, Int32.reduceToInt] <;> omega)) only [g1', e_41_5, kb, s35, e_41_14, s37, e_41_23, v1', e_41_32, e_41_56, e_41_57, n_add, nl_add, nr_add, n_mul, nl_mul, nr_mul, n_sub, nr_dec, n_div, nr_sub_1, nr_sub_2, nr_sub_3, nr_sub_4, nr_sub_7, nr_sub_10, nr_sub_11, nr_sub_20, nr_sub_48, nr_sub_97, nl_sub_3, nl_sub_4, nl_sub_12, nl_sub_24, nl_sub_32, nr_div_2, nr_div_4, z_lt, z_le, z_eq, z_cl, n_ti, Int.toNat_natCast, Int32.reduceToInt, Int32.reduceToNatClampNeg, zc_add, zc_sub, zc_add_1, zc_add_2, zc_add_3, zc_add_4, zc_add_8, zc_add_10, zc_add_12, zc_add_16, zc_add_20, zc_sub_1, zc_sub_2, zc_sub_4, zc_sub_10, zc_sub_20, zc_sub_48, zc_sub_97, zc_mul_4, t_ltZ, f_ltZ, t_leZ, f_leZ, t_eqZ, f_eqZ, t_ltN, f_ltN, t_leN, f_leN, t_eqN, f_eqN, ↓reduceIte, and_true, true_and, and_false, false_and, and_self, or_true, true_or, or_false, false_or, or_self, not_true_eq_false, not_false_eq_true, tu_same, tu_eq, tu_ne, b_V, b_I, b_J]
      · have x1' : F_31 [.ref 4, .int 1] (mk A3 J3 τ) = _ := x1
        rw [if_neg ck]
        have s37 : F_37 [.ref cb, .ref 4, .ref c] (mk A3 J3 τ) = some (some (.int 0), mk (tm_u (tm_u A3 4 4 (nI (flt t2 2).1)) 4 5 (nI (flt t2 2).2)) J3 τ) := by
          rw [e_37]
          simp (disch := first | omega | (simp (disch := omega) only [n_ti, Int32.reduceToInt] <;> omega)) only [x1', e_37_5, e_37_19, n_add, nl_add, nr_add, n_mul, nl_mul, nr_mul, n_sub, nr_dec, n_div, nr_sub_1, nr_sub_2, nr_sub_3, nr_sub_4, nr_sub_7, nr_sub_10, nr_sub_11, nr_sub_20, nr_sub_48, nr_sub_97, nl_sub_3, nl_sub_4, nl_sub_12, nl_sub_24, nl_sub_32, nr_div_2, nr_div_4, z_lt, z_le, z_eq, z_cl, n_ti, Int.toNat_natCast, Int32.reduceToInt, Int32.reduceToNatClampNeg, zc_add, zc_sub, zc_add_1, zc_add_2, zc_add_3, zc_add_4, zc_add_8, zc_add_10, zc_add_12, zc_add_16, zc_add_20, zc_sub_1, zc_sub_2, zc_sub_4, zc_sub_10, zc_sub_20, zc_sub_48, zc_sub_97, zc_mul_4, t_ltZ, f_ltZ, t_leZ, f_leZ, t_eqZ, f_eqZ, t_ltN, f_ltN, t_leN, f_leN, t_eqN, f_eqN, ↓reduceIte, and_true, true_and, and_false, false_and, and_self, or_true, true_or, or_false, false_or, or_self, not_true_eq_false, not_false_eq_true, tu_same, tu_eq, tu_ne, b_V, b_I, b_J]
        refine ⟨_, J3, 0, ?_, PoH.f (A1 := A3) (f := flt t2 2) fA3 fJ3⟩
        simp (disch := first | omega | (simp (disch := omega) only [n_ti, Int32.reduceToInt] <;> omega)) only [g1', e_41_5, kb, s35, e_41_14, s37, e_41_23, e_41_56, e_41_57, n_add, nl_add, nr_add, n_mul, nl_mul, nr_mul, n_sub, nr_dec, n_div, nr_sub_1, nr_sub_2, nr_sub_3, nr_sub_4, nr_sub_7, nr_sub_10, nr_sub_11, nr_sub_20, nr_sub_48, nr_sub_97, nl_sub_3, nl_sub_4, nl_sub_12, nl_sub_24, nl_sub_32, nr_div_2, nr_div_4, z_lt, z_le, z_eq, z_cl, n_ti, Int.toNat_natCast, Int32.reduceToInt, Int32.reduceToNatClampNeg, zc_add, zc_sub, zc_add_1, zc_add_2, zc_add_3, zc_add_4, zc_add_8, zc_add_10, zc_add_12, zc_add_16, zc_add_20, zc_sub_1, zc_sub_2, zc_sub_4, zc_sub_10, zc_sub_20, zc_sub_48, zc_sub_97, zc_mul_4, t_ltZ, f_ltZ, t_leZ, f_leZ, t_eqZ, f_eqZ, t_ltN, f_ltN, t_leN, f_leN, t_eqN, f_eqN, ↓reduceIte, and_true, true_and, and_false, false_and, and_self, or_true, true_or, or_false, false_or, or_self, not_true_eq_false, not_false_eq_true, tu_same, tu_eq, tu_ne, b_V, b_I, b_J]
    · have hne : ¬ (fnd nm (tL t1) k 0).toInt = -1 := by rw [i3, n_ti (by omega)]; omega
      rw [if_neg hne]
      rw [i3] at s32
      have r3 : F_30 [.ref 4, .int 3] (mk A1 J1 τ) = _ := c_ref (τ := τ) g2 3
      have s35 : F_35 [.ref cb, .ref 4, .ref c] (mk A1 J1 τ) = some (some (.int 0), mk (tm_u (tm_u A1 4 4 (nI (flt t1 3).1)) 4 5 (nI (flt t1 3).2)) J1 τ) := by
        rw [e_35]
        simp (disch := first | omega | (simp (disch := omega) only [n_ti, Int32.reduceToInt] <;> omega)) only [k2, d1, kb, h9, s32, e_35_23, r3, e_35_32, n_add, nl_add, nr_add, n_mul, nl_mul, nr_mul, n_sub, nr_dec, n_div, nr_sub_1, nr_sub_2, nr_sub_3, nr_sub_4, nr_sub_7, nr_sub_10, nr_sub_11, nr_sub_20, nr_sub_48, nr_sub_97, nl_sub_3, nl_sub_4, nl_sub_12, nl_sub_24, nl_sub_32, nr_div_2, nr_div_4, z_lt, z_le, z_eq, z_cl, n_ti, Int.toNat_natCast, Int32.reduceToInt, Int32.reduceToNatClampNeg, zc_add, zc_sub, zc_add_1, zc_add_2, zc_add_3, zc_add_4, zc_add_8, zc_add_10, zc_add_12, zc_add_16, zc_add_20, zc_sub_1, zc_sub_2, zc_sub_4, zc_sub_10, zc_sub_20, zc_sub_48, zc_sub_97, zc_mul_4, t_ltZ, f_ltZ, t_leZ, f_leZ, t_eqZ, f_eqZ, t_ltN, f_ltN, t_leN, f_leN, t_eqN, f_eqN, ↓reduceIte, and_true, true_and, and_false, false_and, and_self, or_true, true_or, or_false, false_or, or_self, not_true_eq_false, not_false_eq_true, tu_same, tu_eq, tu_ne, b_V, b_I, b_J]
      refine ⟨_, J1, 0, ?_, PoH.f (A1 := A1) (f := flt t1 3) (fun a y u v => g3.1 a y (by omega)) (fun a y u v => g3.2 a y u)⟩
      simp (disch := first | omega | (simp (disch := omega) only [n_ti, Int32.reduceToInt] <;> omega)) only [g1', e_41_5, kb, s35, e_41_14, e_41_56, e_41_57, n_add, nl_add, nr_add, n_mul, nl_mul, nr_mul, n_sub, nr_dec, n_div, nr_sub_1, nr_sub_2, nr_sub_3, nr_sub_4, nr_sub_7, nr_sub_10, nr_sub_11, nr_sub_20, nr_sub_48, nr_sub_97, nl_sub_3, nl_sub_4, nl_sub_12, nl_sub_24, nl_sub_32, nr_div_2, nr_div_4, z_lt, z_le, z_eq, z_cl, n_ti, Int.toNat_natCast, Int32.reduceToInt, Int32.reduceToNatClampNeg, zc_add, zc_sub, zc_add_1, zc_add_2, zc_add_3, zc_add_4, zc_add_8, zc_add_10, zc_add_12, zc_add_16, zc_add_20, zc_sub_1, zc_sub_2, zc_sub_4, zc_sub_10, zc_sub_20, zc_sub_48, zc_sub_97, zc_mul_4, t_ltZ, f_ltZ, t_leZ, f_leZ, t_eqZ, f_eqZ, t_ltN, f_ltN, t_leN, f_leN, t_eqN, f_eqN, ↓reduceIte, and_true, true_and, and_false, false_and, and_self, or_true, true_or, or_false, false_or, or_self, not_true_eq_false, not_false_eq_true, tu_same, tu_eq, tu_ne, b_V, b_I, b_J]
  · rw [if_neg d1]
    have r2 : F_30 [.ref 4, .int 2] (mk A1 J1 τ) = _ := c_ref (τ := τ) g2 2
    have s35 : F_35 [.ref cb, .ref 4, .ref c] (mk A1 J1 τ) = some (some (.int 0), mk (tm_u (tm_u A1 4 4 (nI (flt t1 2).1)) 4 5 (nI (flt t1 2).2)) J1 τ) := by
      rw [e_35]
      simp (disch := first | omega | (simp (disch := omega) only [n_ti, Int32.reduceToInt] <;> omega)) only [k2, r2, e_35_14, n_add, nl_add, nr_add, n_mul, nl_mul, nr_mul, n_sub, nr_dec, n_div, nr_sub_1, nr_sub_2, nr_sub_3, nr_sub_4, nr_sub_7, nr_sub_10, nr_sub_11, nr_sub_20, nr_sub_48, nr_sub_97, nl_sub_3, nl_sub_4, nl_sub_12, nl_sub_24, nl_sub_32, nr_div_2, nr_div_4, z_lt, z_le, z_eq, z_cl, n_ti, Int.toNat_natCast, Int32.reduceToInt, Int32.reduceToNatClampNeg, zc_add, zc_sub, zc_add_1, zc_add_2, zc_add_3, zc_add_4, zc_add_8, zc_add_10, zc_add_12, zc_add_16, zc_add_20, zc_sub_1, zc_sub_2, zc_sub_4, zc_sub_10, zc_sub_20, zc_sub_48, zc_sub_97, zc_mul_4, t_ltZ, f_ltZ, t_leZ, f_leZ, t_eqZ, f_eqZ, t_ltN, f_ltN, t_leN, f_leN, t_eqN, f_eqN, ↓reduceIte, and_true, true_and, and_false, false_and, and_self, or_true, true_or, or_false, false_or, or_self, not_true_eq_false, not_false_eq_true, tu_same, tu_eq, tu_ne, b_V, b_I, b_J]
    refine ⟨_, J1, 0, ?_, PoH.f (A1 := A1) (f := flt t1 2) (fun a y u v => g3.1 a y (by omega)) (fun a y u v => g3.2 a y u)⟩
    simp (disch := first | omega | (simp (disch := omega) only [n_ti, Int32.reduceToInt] <;> omega)) only [g1', e_41_5, kb, s35, e_41_14, e_41_56, e_41_57, n_add, nl_add, nr_add, n_mul, nl_mul, nr_mul, n_sub, nr_dec, n_div, nr_sub_1, nr_sub_2, nr_sub_3, nr_sub_4, nr_sub_7, nr_sub_10, nr_sub_11, nr_sub_20, nr_sub_48, nr_sub_97, nl_sub_3, nl_sub_4, nl_sub_12, nl_sub_24, nl_sub_32, nr_div_2, nr_div_4, z_lt, z_le, z_eq, z_cl, n_ti, Int.toNat_natCast, Int32.reduceToInt, Int32.reduceToNatClampNeg, zc_add, zc_sub, zc_add_1, zc_add_2, zc_add_3, zc_add_4, zc_add_8, zc_add_10, zc_add_12, zc_add_16, zc_add_20, zc_sub_1, zc_sub_2, zc_sub_4, zc_sub_10, zc_sub_20, zc_sub_48, zc_sub_97, zc_mul_4, t_ltZ, f_ltZ, t_leZ, f_leZ, t_eqZ, f_eqZ, t_ltN, f_ltN, t_leN, f_leN, t_eqN, f_eqN, ↓reduceIte, and_true, true_and, and_false, false_and, and_self, or_true, true_or, or_false, false_or, or_self, not_true_eq_false, not_false_eq_true, tu_same, tu_eq, tu_ne, b_V, b_I, b_J]
