/-! reading: a BOOK (class) -/
def fo (z : Int) : Nat := if z = 98 then 3 else if z = 108 then 1 else if z = 114 then 2 else 0
theorem fI_fo {z : Int} (h : isF z = true) : fI z = nI (fo z) := by
  unfold isF at h
  rw [decide_eq_true_iff] at h
  rcases h with e | e | e | e <;> subst e <;> decide
theorem fo_le (z : Int) : fo z ≤ 3 := by
  unfold fo
  repeat' split
  all_goals omega
def fnd (nm : Nat → List Nat) (l : List Nat) : Nat → Nat → Int32
  | 0, _ => -1
  | m + 1, j => if nm j = l then nI j else fnd nm l m (j + 1)
theorem fnd_c (nm : Nat → List Nat) (l : List Nat) : ∀ m j, j + m < 1000 → (fnd nm l m j = -1 ∧ (fnd nm l m j).toInt = -1) ∨ (∃ i, j ≤ i ∧ i < j + m ∧ fnd nm l m j = nI i ∧ nm i = l) := by
  intro m
  induction m with
  | zero => intro j _; exact Or.inl ⟨rfl, by show (-1 : Int32).toInt = -1; decide⟩
  | succ m ih =>
    intro j hj
    unfold fnd
    by_cases c : nm j = l
    · rw [if_pos c]; exact Or.inr ⟨j, by omega, by omega, rfl, c⟩
    · rw [if_neg c]
      rcases ih (j + 1) (by omega) with e | ⟨i, h1, h2, h3, h4⟩
      · exact Or.inl e
      · exact Or.inr ⟨i, by omega, by omega, h3, h4⟩
abbrev NmD : Type := (Nat → List Nat) × (Nat → TD)
/-- the head of a trick -/
def pHead (s : Nat → Int) (n k : Nat) (nm : Nat → List Nat) (t : TK) : Sum (Nat × Nat) ((List Nat × TD) × TK) :=
  if tK (nx s n t) = 30 then (if (fnd nm (tL (nx s n t)) k 0).toInt = -1 then (if tK (nx s n (nx s n t)) = 1 then (match nf (nx s n (nx s n (nx s n t))) 0 999 with
    | some f => .inl f
    | none => if tK (nx s n (nx s n (nx s n (nx s n t)))) = 33 then (if tK (nx s n (nx s n (nx s n (nx s n (nx s n t))))) = 2 then (if tK (nx s n (nx s n (nx s n (nx s n (nx s n (nx s n t)))))) = 32 then .inr ((tL (nx s n t), (tV (nx s n (nx s n (nx s n (nx s n (nx s n (nx s n t)))))) / 4, tV (nx s n (nx s n (nx s n t))), 0, 0, (fun j => fo (s (tQ (nx s n (nx s n (nx s n (nx s n (nx s n (nx s n t)))))) + 1 + j))), (fun _ => 0), -1, 0)), nx s n (nx s n (nx s n (nx s n (nx s n (nx s n (nx s n t))))))) else .inl (flt (nx s n (nx s n (nx s n (nx s n (nx s n (nx s n t)))))) 2)) else .inl (flt (nx s n (nx s n (nx s n (nx s n (nx s n t))))) 2)) else .inl (flt (nx s n (nx s n (nx s n (nx s n t)))) 2)) else .inl (flt (nx s n (nx s n t)) 2)) else .inl (flt (nx s n t) 3)) else .inl (flt (nx s n t) 2)
theorem l_33 {τ : tm_Tu} {J : Nat → Nat → Int64} {a L : Nat} (h1 : kdm a = 1) (h2 : (tm_sh a).2 = L) (hL : L ≤ 1000) : ∀ m k (A : Nat → Nat → Int32), k + m = L → ∃ A', R_33 5 [(0, .ref a), (1, .int 0), (2, .int (nI k)), (3, .int (nI L))] [] (mk A J τ) = some (none, mk A' J τ) ∧ (∀ j, k ≤ j → j < L → A' a j = 0) ∧ (∀ x y, ¬ (x = a ∧ k ≤ y) → A' x y = A x y) := by
  intro m
  induction m with
  | zero =>
    intro k A hk
    refine ⟨A, ?_, fun j h3 h4 => by omega, fun _ _ _ => rfl⟩
    rw [e_33_5]
    simp (disch := first | omega | (simp (disch := omega) only [n_ti, Int32.reduceToInt] <;> omega)) only [n_add, nl_add, nr_add, n_mul, nl_mul, nr_mul, n_sub, nr_dec, n_div, nr_sub_1, nr_sub_2, nr_sub_3, nr_sub_4, nr_sub_7, nr_sub_10, nr_sub_11, nr_sub_20, nr_sub_48, nr_sub_97, nl_sub_3, nl_sub_4, nl_sub_12, nl_sub_24, nl_sub_32, nr_div_2, nr_div_4, z_lt, z_le, z_eq, z_cl, n_ti, Int.toNat_natCast, Int32.reduceToInt, Int32.reduceToNatClampNeg, zc_add, zc_sub, zc_add_1, zc_add_2, zc_add_3, zc_add_4, zc_add_8, zc_add_10, zc_add_12, zc_add_16, zc_add_20, zc_sub_1, zc_sub_2, zc_sub_4, zc_sub_10, zc_sub_20, zc_sub_48, zc_sub_97, zc_mul_4, t_ltZ, f_ltZ, t_leZ, f_leZ, t_eqZ, f_eqZ, t_ltN, f_ltN, t_leN, f_leN, t_eqN, f_eqN, ↓reduceIte, and_true, true_and, and_false, false_and, and_self, or_true, true_or, or_false, false_or, or_self, not_true_eq_false, not_false_eq_true, tu_same, tu_eq, tu_ne, b_V, b_I, b_J]
  | succ m ih =>
    intro k A hk
    obtain ⟨A', g1, g2, g3⟩ := ih (k + 1) (tm_u A a k 0) (by omega)
    refine ⟨A', ?_, fun j h3 h4 => ?_, fun x y h => (g3 x y (by omega)).trans (by simp (disch := omega) only [tu_same, tu_eq, tu_ne])⟩
    · rw [← g1, e_33_5]
      simp (disch := first | omega | (simp (disch := omega) only [n_ti, Int32.reduceToInt] <;> omega)) only [h1, h2, n_add, nl_add, nr_add, n_mul, nl_mul, nr_mul, n_sub, nr_dec, n_div, nr_sub_1, nr_sub_2, nr_sub_3, nr_sub_4, nr_sub_7, nr_sub_10, nr_sub_11, nr_sub_20, nr_sub_48, nr_sub_97, nl_sub_3, nl_sub_4, nl_sub_12, nl_sub_24, nl_sub_32, nr_div_2, nr_div_4, z_lt, z_le, z_eq, z_cl, n_ti, Int.toNat_natCast, Int32.reduceToInt, Int32.reduceToNatClampNeg, zc_add, zc_sub, zc_add_1, zc_add_2, zc_add_3, zc_add_4, zc_add_8, zc_add_10, zc_add_12, zc_add_16, zc_add_20, zc_sub_1, zc_sub_2, zc_sub_4, zc_sub_10, zc_sub_20, zc_sub_48, zc_sub_97, zc_mul_4, t_ltZ, f_ltZ, t_leZ, f_leZ, t_eqZ, f_eqZ, t_ltN, f_ltN, t_leN, f_leN, t_eqN, f_eqN, ↓reduceIte, and_true, true_and, and_false, false_and, and_self, or_true, true_or, or_false, false_or, or_self, not_true_eq_false, not_false_eq_true, tu_same, tu_eq, tu_ne, b_V, b_I, b_J]
    · by_cases e : j = k
      · subst e
        rw [g3 a j (by omega)]
        simp (disch := omega) only [tu_same, tu_eq, tu_ne]
      · exact g2 j (by omega) h4
theorem c_33 {τ : tm_Tu} {J : Nat → Nat → Int64} {a L : Nat} (h0 : a ≠ 1) (h1 : kdm a = 1) (h2 : (tm_sh a).2 = L) (hL : L ≤ 1000) (A : Nat → Nat → Int32) : ∃ A', F_33 [.ref a, .int 0] (mk A J τ) = some (none, mk A' J τ) ∧ (∀ j, j < L → A' a j = 0) ∧ (∀ x y, x ≠ a → A' x y = A x y) := by
  obtain ⟨A', g1, g2, g3⟩ := l_33 (τ := τ) (J := J) h1 h2 hL L 0 A (by omega)
  have g1' : R_33 5 [(0, .ref a), (1, .int 0), (2, .int 0), (3, .int (nI L))] [] (mk A J τ) = some (none, mk A' J τ) := g1
  have e : Int32.ofNat L = nI L := rfl
  refine ⟨A', ?_, fun j h => g2 j (by omega) h, fun x y h => g3 x y (by omega)⟩
  rw [e_33]
  simp (disch := first | omega | (simp (disch := omega) only [n_ti, Int32.reduceToInt] <;> omega)) only [h1, h2, e, g1', n_add, nl_add, nr_add, n_mul, nl_mul, nr_mul, n_sub, nr_dec, n_div, nr_sub_1, nr_sub_2, nr_sub_3, nr_sub_4, nr_sub_7, nr_sub_10, nr_sub_11, nr_sub_20, nr_sub_48, nr_sub_97, nl_sub_3, nl_sub_4, nl_sub_12, nl_sub_24, nl_sub_32, nr_div_2, nr_div_4, z_lt, z_le, z_eq, z_cl, n_ti, Int.toNat_natCast, Int32.reduceToInt, Int32.reduceToNatClampNeg, zc_add, zc_sub, zc_add_1, zc_add_2, zc_add_3, zc_add_4, zc_add_8, zc_add_10, zc_add_12, zc_add_16, zc_add_20, zc_sub_1, zc_sub_2, zc_sub_4, zc_sub_10, zc_sub_20, zc_sub_48, zc_sub_97, zc_mul_4, t_ltZ, f_ltZ, t_leZ, f_leZ, t_eqZ, f_eqZ, t_ltN, f_ltN, t_leN, f_leN, t_eqN, f_eqN, ↓reduceIte, and_true, true_and, and_false, false_and, and_self, or_true, true_or, or_false, false_or, or_self, not_true_eq_false, not_false_eq_true, tu_same, tu_eq, tu_ne, b_V, b_I, b_J]
theorem c_34 {τ : tm_Tu} {A : Nat → Nat → Int32} {J : Nat → Nat → Int64} {c : Nat} {l : Int64} (hc : isT c) : ∃ A', F_34 [.ref c, .long l] (mk A J τ) = some (none, mk A' (tm_u J c 2 l) τ) ∧ (A' c 5 = 0 ∧ A' c 6 = 0 ∧ A' c 7 = -1 ∧ A' c 8 = 0) ∧ (∀ j, j < 8 → A' (c + 2) j = 0) ∧ (∀ x y, ¬ (c ≤ x ∧ x ≤ c + 2) → A' x y = A x y) := by
  obtain ⟨k1, k2, k3, k4, k5, k6, k7, k8, k9⟩ := bk_3 hc τ
  obtain ⟨A1, g1, g2, g3⟩ := c_33 (τ := τ) (J := tm_u J c 2 l) (a := c + 1) (L := 32) (by omega) k4 k6 (by omega) (tm_u (tm_u (tm_u (tm_u (tm_u (tm_u A c 3 0) c 4 0) c 5 0) c 6 0) c 7 (-1)) c 8 0)
  obtain ⟨A2, q1, q2, q3⟩ := c_33 (τ := τ) (J := tm_u J c 2 l) (a := c + 2) (L := 8) (by omega) k5 k7 (by omega) A1
  refine ⟨A2, ?_, ⟨?_, ?_, ?_, ?_⟩, q2, fun x y h => ?_⟩
  · rw [e_34]
    simp (disch := first | omega | (simp (disch := omega) only [n_ti, Int32.reduceToInt] <;> omega)) only [k1, k2, g1, e_34_43, k3, q1, e_34_51, n_add, nl_add, nr_add, n_mul, nl_mul, nr_mul, n_sub, nr_dec, n_div, nr_sub_1, nr_sub_2, nr_sub_3, nr_sub_4, nr_sub_7, nr_sub_10, nr_sub_11, nr_sub_20, nr_sub_48, nr_sub_97, nl_sub_3, nl_sub_4, nl_sub_12, nl_sub_24, nl_sub_32, nr_div_2, nr_div_4, z_lt, z_le, z_eq, z_cl, n_ti, Int.toNat_natCast, Int32.reduceToInt, Int32.reduceToNatClampNeg, zc_add, zc_sub, zc_add_1, zc_add_2, zc_add_3, zc_add_4, zc_add_8, zc_add_10, zc_add_12, zc_add_16, zc_add_20, zc_sub_1, zc_sub_2, zc_sub_4, zc_sub_10, zc_sub_20, zc_sub_48, zc_sub_97, zc_mul_4, t_ltZ, f_ltZ, t_leZ, f_leZ, t_eqZ, f_eqZ, t_ltN, f_ltN, t_leN, f_leN, t_eqN, f_eqN, ↓reduceIte, and_true, true_and, and_false, false_and, and_self, or_true, true_or, or_false, false_or, or_self, not_true_eq_false, not_false_eq_true, tu_same, tu_eq, tu_ne, b_V, b_I, b_J]
  · rw [q3 c 5 (by omega), g3 c 5 (by omega)]; simp (disch := omega) only [tu_same, tu_eq, tu_ne]
  · rw [q3 c 6 (by omega), g3 c 6 (by omega)]; simp (disch := omega) only [tu_same, tu_eq, tu_ne]
  · rw [q3 c 7 (by omega), g3 c 7 (by omega)]; simp (disch := omega) only [tu_same, tu_eq, tu_ne]
  · rw [q3 c 8 (by omega), g3 c 8 (by omega)]; simp (disch := omega) only [tu_same, tu_eq, tu_ne]
  · rw [q3 x y (by omega), g3 x y (by omega)]; simp (disch := omega) only [tu_same, tu_eq, tu_ne]
/-- the names of the k tricks that are read -/
def NmA (J : Nat → Nat → Int64) (cb k : Nat) (nm : Nat → List Nat) : Prop := ∀ t, t < k → J (cb + 2 + 3 * t) 2 = lN (en32 (nm t)) ∧ (nm t).length ≤ 8 ∧ okL (nm t)
theorem c_32 {τ : tm_Tu} {A : Nat → Nat → Int32} {J : Nat → Nat → Int64} {cb k : Nat} {nm : Nat → List Nat} {l : List Nat} (hb : isB cb) (hk : k ≤ 12) (h1 : A cb 1 = nI k) (hN : NmA J cb k nm) (hl : l.length ≤ 8) (hok : okL l) : F_32 [.ref cb, .long (lN (en32 l))] (mk A J τ) = some (some (.int (fnd nm l k 0)), mk A J τ) := by
  obtain ⟨k1, k2, k3, k4⟩ := bk_1 hb τ
  have key : ∀ m j, j + m = k → R_32 2 [(0, .ref cb), (1, .long (lN (en32 l))), (3, .int (nI j))] [] (mk A J τ) = some (some (.int (fnd nm l m j)), mk A J τ) := by
    intro m
    induction m with
    | zero =>
      intro j hj
      rw [e_32_2]
      simp (disch := first | omega | (simp (disch := omega) only [n_ti, Int32.reduceToInt] <;> omega)) only [k1, h1, e_32_38, n_add, nl_add, nr_add, n_mul, nl_mul, nr_mul, n_sub, nr_dec, n_div, nr_sub_1, nr_sub_2, nr_sub_3, nr_sub_4, nr_sub_7, nr_sub_10, nr_sub_11, nr_sub_20, nr_sub_48, nr_sub_97, nl_sub_3, nl_sub_4, nl_sub_12, nl_sub_24, nl_sub_32, nr_div_2, nr_div_4, z_lt, z_le, z_eq, z_cl, n_ti, Int.toNat_natCast, Int32.reduceToInt, Int32.reduceToNatClampNeg, zc_add, zc_sub, zc_add_1, zc_add_2, zc_add_3, zc_add_4, zc_add_8, zc_add_10, zc_add_12, zc_add_16, zc_add_20, zc_sub_1, zc_sub_2, zc_sub_4, zc_sub_10, zc_sub_20, zc_sub_48, zc_sub_97, zc_mul_4, t_ltZ, f_ltZ, t_leZ, f_leZ, t_eqZ, f_eqZ, t_ltN, f_ltN, t_leN, f_leN, t_eqN, f_eqN, ↓reduceIte, and_true, true_and, and_false, false_and, and_self, or_true, true_or, or_false, false_or, or_self, not_true_eq_false, not_false_eq_true, tu_same, tu_eq, tu_ne, b_V, b_I, b_J]
      rfl
    | succ m ih =>
      intro j hj
      have k5 := bk_2 hb (show j < 12 by omega) τ
      have hT : isT (cb + 2 + 3 * j) := ⟨cb, j, hb, by omega, rfl⟩
      have k6 := (bk_3 hT τ).1
      obtain ⟨n1, n2, n3⟩ := hN j (by omega)
      unfold fnd
      rw [e_32_2]
      by_cases c : nm j = l
      · rw [if_pos c]
        have z : (lg_cmp (lN (en32 (nm j))) (lN (en32 l))).toInt = 0 := (lgz _ _).mpr ((nm_32 n2 hl n3 hok).mpr c)
        simp (disch := first | omega | (simp (disch := omega) only [n_ti, Int32.reduceToInt] <;> omega)) only [k1, h1, k2, k3, k4, k5, k6, n1, z, n_add, nl_add, nr_add, n_mul, nl_mul, nr_mul, n_sub, nr_dec, n_div, nr_sub_1, nr_sub_2, nr_sub_3, nr_sub_4, nr_sub_7, nr_sub_10, nr_sub_11, nr_sub_20, nr_sub_48, nr_sub_97, nl_sub_3, nl_sub_4, nl_sub_12, nl_sub_24, nl_sub_32, nr_div_2, nr_div_4, z_lt, z_le, z_eq, z_cl, n_ti, Int.toNat_natCast, Int32.reduceToInt, Int32.reduceToNatClampNeg, zc_add, zc_sub, zc_add_1, zc_add_2, zc_add_3, zc_add_4, zc_add_8, zc_add_10, zc_add_12, zc_add_16, zc_add_20, zc_sub_1, zc_sub_2, zc_sub_4, zc_sub_10, zc_sub_20, zc_sub_48, zc_sub_97, zc_mul_4, t_ltZ, f_ltZ, t_leZ, f_leZ, t_eqZ, f_eqZ, t_ltN, f_ltN, t_leN, f_leN, t_eqN, f_eqN, ↓reduceIte, and_true, true_and, and_false, false_and, and_self, or_true, true_or, or_false, false_or, or_self, not_true_eq_false, not_false_eq_true, tu_same, tu_eq, tu_ne, b_V, b_I, b_J]
      · rw [if_neg c, ← ih (j + 1) (by omega)]
        have z : ¬ (lg_cmp (lN (en32 (nm j))) (lN (en32 l))).toInt = 0 := fun e => c ((nm_32 n2 hl n3 hok).mp ((lgz _ _).mp e))
        simp (disch := first | omega | (simp (disch := omega) only [n_ti, Int32.reduceToInt] <;> omega)) only [k1, h1, k2, k3, k4, k5, k6, n1, z, n_add, nl_add, nr_add, n_mul, nl_mul, nr_mul, n_sub, nr_dec, n_div, nr_sub_1, nr_sub_2, nr_sub_3, nr_sub_4, nr_sub_7, nr_sub_10, nr_sub_11, nr_sub_20, nr_sub_48, nr_sub_97, nl_sub_3, nl_sub_4, nl_sub_12, nl_sub_24, nl_sub_32, nr_div_2, nr_div_4, z_lt, z_le, z_eq, z_cl, n_ti, Int.toNat_natCast, Int32.reduceToInt, Int32.reduceToNatClampNeg, zc_add, zc_sub, zc_add_1, zc_add_2, zc_add_3, zc_add_4, zc_add_8, zc_add_10, zc_add_12, zc_add_16, zc_add_20, zc_sub_1, zc_sub_2, zc_sub_4, zc_sub_10, zc_sub_20, zc_sub_48, zc_sub_97, zc_mul_4, t_ltZ, f_ltZ, t_leZ, f_leZ, t_eqZ, f_eqZ, t_ltN, f_ltN, t_leN, f_leN, t_eqN, f_eqN, ↓reduceIte, and_true, true_and, and_false, false_and, and_self, or_true, true_or, or_false, false_or, or_self, not_true_eq_false, not_false_eq_true, tu_same, tu_eq, tu_ne, b_V, b_I, b_J]
  rw [e_32]
  exact key k 0 (by omega)
theorem c_38 {τ : tm_Tu} (hτ : τ.2.2.2.2 = 3) {s : Nat → Int} {n j : Nat} {A : Nat → Nat → Int32} {J : Nat → Nat → Int64} {t : TK} (h : ClS s n A J t) (hk : tK t = 32) (hj : j < tV t) : F_38 [.ref 4, .int (nI j)] (mk A J τ) = some (some (.int (nI (fo (s (tQ t + 1 + j))))), mk A J τ) := by
  obtain ⟨⟨t1, t2, t3⟩, ⟨q1, q2, q3, q4, q5⟩, h3, h4⟩ := h
  obtain ⟨z1, z2, z3, z4, z5⟩ := h4.2.2.2.2.2.1 hk
  have z6 := h4.2.1 (by omega)
  have h8 := q4 (Or.inr hk)
  obtain ⟨b1, b2', b3⟩ := t3 (tQ t + 1 + j) (by omega)
  have hf := fI_fo (z5 j hj)
  rw [e_38]
  simp (disch := first | omega | (simp (disch := omega) only [n_ti, Int32.reduceToInt] <;> omega)) only [h8, q1, t2, hτ, kd3, sh3, s_25, b1, hf, e_38_38, e_38_42, n_add, nl_add, nr_add, n_mul, nl_mul, nr_mul, n_sub, nr_dec, n_div, nr_sub_1, nr_sub_2, nr_sub_3, nr_sub_4, nr_sub_7, nr_sub_10, nr_sub_11, nr_sub_20, nr_sub_48, nr_sub_97, nl_sub_3, nl_sub_4, nl_sub_12, nl_sub_24, nl_sub_32, nr_div_2, nr_div_4, z_lt, z_le, z_eq, z_cl, n_ti, Int.toNat_natCast, Int32.reduceToInt, Int32.reduceToNatClampNeg, zc_add, zc_sub, zc_add_1, zc_add_2, zc_add_3, zc_add_4, zc_add_8, zc_add_10, zc_add_12, zc_add_16, zc_add_20, zc_sub_1, zc_sub_2, zc_sub_4, zc_sub_10, zc_sub_20, zc_sub_48, zc_sub_97, zc_mul_4, t_ltZ, f_ltZ, t_leZ, f_leZ, t_eqZ, f_eqZ, t_ltN, f_ltN, t_leN, f_leN, t_eqN, f_eqN, ↓reduceIte, and_true, true_and, and_false, false_and, and_self, or_true, true_or, or_false, false_or, or_self, not_true_eq_false, not_false_eq_true, tu_same, tu_eq, tu_ne, b_V, b_I, b_J]
theorem c_39 {τ : tm_Tu} (hτ : τ.2.2.2.2 = 3) {s : Nat → Int} {n c : Nat} {A : Nat → Nat → Int32} {J : Nat → Nat → Int64} {t : TK} (h : ClS s n A J t) (hk : tK t = 32) (hc : isT c) : ∃ A', F_39 [.ref c, .ref 4] (mk A J τ) = some (none, mk A' J τ) ∧ A' c 4 = nI (tV t / 4) ∧ (∀ j, j < 4 * (tV t / 4) → A' (c + 1) j = nI (fo (s (tQ t + 1 + j)))) ∧ (∀ x y, x ≠ c + 1 → ¬ (x = c ∧ y = 4) → A' x y = A x y) := by
  obtain ⟨k1, k2, k3, k4, k5, k6, k7, k8, k9⟩ := bk_3 hc τ
  obtain ⟨z1, z2, z3, z4, z5⟩ := h.2.2.2.2.2.2.2.2.1 hk
  have h8 := h.2.1.2.2.2.1 (Or.inr hk)
  have key : ∀ m j (A : Nat → Nat → Int32), j + m = 4 * (tV t / 4) → ClS s n A J t → A c 4 = nI (tV t / 4) → ∃ A', R_39 12 [(0, .ref c), (1, .ref 4), (2, .int (nI j))] [] (mk A J τ) = some (none, mk A' J τ) ∧ (∀ i, j ≤ i → i < 4 * (tV t / 4) → A' (c + 1) i = nI (fo (s (tQ t + 1 + i)))) ∧ (∀ x y, ¬ (x = c + 1 ∧ j ≤ y) → A' x y = A x y) := by
    intro m
    induction m with
    | zero =>
      intro j A hj hS h4
      refine ⟨A, ?_, fun i h1 h2 => by omega, fun _ _ _ => rfl⟩
      rw [e_39_12]
      simp (disch := first | omega | (simp (disch := omega) only [n_ti, Int32.reduceToInt] <;> omega)) only [k1, h4, e_39_45, n_add, nl_add, nr_add, n_mul, nl_mul, nr_mul, n_sub, nr_dec, n_div, nr_sub_1, nr_sub_2, nr_sub_3, nr_sub_4, nr_sub_7, nr_sub_10, nr_sub_11, nr_sub_20, nr_sub_48, nr_sub_97, nl_sub_3, nl_sub_4, nl_sub_12, nl_sub_24, nl_sub_32, nr_div_2, nr_div_4, z_lt, z_le, z_eq, z_cl, n_ti, Int.toNat_natCast, Int32.reduceToInt, Int32.reduceToNatClampNeg, zc_add, zc_sub, zc_add_1, zc_add_2, zc_add_3, zc_add_4, zc_add_8, zc_add_10, zc_add_12, zc_add_16, zc_add_20, zc_sub_1, zc_sub_2, zc_sub_4, zc_sub_10, zc_sub_20, zc_sub_48, zc_sub_97, zc_mul_4, t_ltZ, f_ltZ, t_leZ, f_leZ, t_eqZ, f_eqZ, t_ltN, f_ltN, t_leN, f_leN, t_eqN, f_eqN, ↓reduceIte, and_true, true_and, and_false, false_and, and_self, or_true, true_or, or_false, false_or, or_self, not_true_eq_false, not_false_eq_true, tu_same, tu_eq, tu_ne, b_V, b_I, b_J]
    | succ m ih =>
      intro j A hj hS h4
      have s38 := c_38 (τ := τ) hτ hS hk (show j < tV t by omega)
      obtain ⟨A', g1, g2, g3⟩ := ih (j + 1) (tm_u A (c + 1) j (nI (fo (s (tQ t + 1 + j))))) (by omega) (hS.tr (fun a k u => by simp (disch := omega) only [tu_same, tu_eq, tu_ne]) (fun _ _ _ => rfl)) (by simp (disch := omega) only [h4, tu_same, tu_eq, tu_ne])
      refine ⟨A', ?_, fun i h1 h2 => ?_, fun x y u => (g3 x y (by omega)).trans (by simp (disch := omega) only [tu_same, tu_eq, tu_ne])⟩
      · rw [← g1, e_39_12]
        simp (disch := first | omega | (simp (disch := omega) only [n_ti, Int32.reduceToInt] <;> omega)) only [k1, h4, s38, e_39_38, k2, k4, k6, n_add, nl_add, nr_add, n_mul, nl_mul, nr_mul, n_sub, nr_dec, n_div, nr_sub_1, nr_sub_2, nr_sub_3, nr_sub_4, nr_sub_7, nr_sub_10, nr_sub_11, nr_sub_20, nr_sub_48, nr_sub_97, nl_sub_3, nl_sub_4, nl_sub_12, nl_sub_24, nl_sub_32, nr_div_2, nr_div_4, z_lt, z_le, z_eq, z_cl, n_ti, Int.toNat_natCast, Int32.reduceToInt, Int32.reduceToNatClampNeg, zc_add, zc_sub, zc_add_1, zc_add_2, zc_add_3, zc_add_4, zc_add_8, zc_add_10, zc_add_12, zc_add_16, zc_add_20, zc_sub_1, zc_sub_2, zc_sub_4, zc_sub_10, zc_sub_20, zc_sub_48, zc_sub_97, zc_mul_4, t_ltZ, f_ltZ, t_leZ, f_leZ, t_eqZ, f_eqZ, t_ltN, f_ltN, t_leN, f_leN, t_eqN, f_eqN, ↓reduceIte, and_true, true_and, and_false, false_and, and_self, or_true, true_or, or_false, false_or, or_self, not_true_eq_false, not_false_eq_true, tu_same, tu_eq, tu_ne, b_V, b_I, b_J]
      · by_cases e : i = j
        · subst e
          rw [g3 (c + 1) i (by omega)]
          simp (disch := omega) only [tu_same, tu_eq, tu_ne]
        · exact g2 i (by omega) h2
  obtain ⟨A', g1, g2, g3⟩ := key (4 * (tV t / 4)) 0 (tm_u A c 4 (nI (tV t / 4))) (by omega) (h.tr (fun a k u => by simp (disch := omega) only [tu_same, tu_eq, tu_ne]) (fun _ _ _ => rfl)) (by simp (disch := omega) only [tu_same, tu_eq, tu_ne])
  refine ⟨A', ?_, ?_, fun j hj => g2 j (by omega) hj, fun x y u v => ?_⟩
  · have g1' : R_39 12 [(0, .ref c), (1, .ref 4), (2, .int 0)] [] (mk (tm_u A c 4 (nI (tV t / 4))) J τ) = some (none, mk A' J τ) := g1
    rw [e_39]
    simp (disch := first | omega | (simp (disch := omega) only [n_ti, Int32.reduceToInt] <;> omega)) only [k1, h8, g1', n_add, nl_add, nr_add, n_mul, nl_mul, nr_mul, n_sub, nr_dec, n_div, nr_sub_1, nr_sub_2, nr_sub_3, nr_sub_4, nr_sub_7, nr_sub_10, nr_sub_11, nr_sub_20, nr_sub_48, nr_sub_97, nl_sub_3, nl_sub_4, nl_sub_12, nl_sub_24, nl_sub_32, nr_div_2, nr_div_4, z_lt, z_le, z_eq, z_cl, n_ti, Int.toNat_natCast, Int32.reduceToInt, Int32.reduceToNatClampNeg, zc_add, zc_sub, zc_add_1, zc_add_2, zc_add_3, zc_add_4, zc_add_8, zc_add_10, zc_add_12, zc_add_16, zc_add_20, zc_sub_1, zc_sub_2, zc_sub_4, zc_sub_10, zc_sub_20, zc_sub_48, zc_sub_97, zc_mul_4, t_ltZ, f_ltZ, t_leZ, f_leZ, t_eqZ, f_eqZ, t_ltN, f_ltN, t_leN, f_leN, t_eqN, f_eqN, ↓reduceIte, and_true, true_and, and_false, false_and, and_self, or_true, true_or, or_false, false_or, or_self, not_true_eq_false, not_false_eq_true, tu_same, tu_eq, tu_ne, b_V, b_I, b_J]
  · rw [g3 c 4 (by omega)]
    simp (disch := omega) only [tu_same, tu_eq, tu_ne]
  · rw [g3 x y (by omega)]
    simp (disch := omega) only [tu_same, tu_eq, tu_ne]
