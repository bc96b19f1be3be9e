/-! reading: modes and all parts (class) -/
def pStep (s : Nat → Int) (n : Nat) (D : TD) (t : TK) : PR := if tK t = 3 ∨ tK t = 5 then pModes s n D t else if tK t = 6 then pTurn s n D t else if tK t = 7 then pFrom s n D t else if tK t = 8 then pFac s n D t else if tK t = 9 then pAlo s n D t else .inl (flt t 2)
def pParts (s : Nat → Int) (n : Nat) : Nat → TD → TK → PR
  | 0, D, t => if tK t = 34 then .inr (D, nx s n t) else .inl (flt t 2)
  | f + 1, D, t => if tK t = 34 then .inr (D, nx s n t) else (match pStep s n D t with
    | .inl e => .inl e
    | .inr q => pParts s n f q.1 q.2)
theorem mset_0 (M : Nat → Nat) (lo hi md : Nat) (h : hi < lo) : mset M lo hi md = M := funext fun j => if_neg (by omega)
theorem mset_s (M : Nat → Nat) (j hi md : Nat) (h : j ≤ hi) : mset (mset M j j md) (j + 1) hi md = mset M j hi md := by
  funext x
  unfold mset
  by_cases c1 : j + 1 ≤ x ∧ x ≤ hi
  · rw [if_pos c1, if_pos (by omega)]
  · rw [if_neg c1]
    by_cases c2 : j ≤ x ∧ x ≤ j
    · rw [if_pos c2, if_pos (by omega)]
    · rw [if_neg c2, if_neg (by omega)]
theorem mfree_c (M M' : Nat → Nat) : ∀ m lo, (∀ j, lo ≤ j → M j = M' j) → mfree M lo m = mfree M' lo m := by
  intro m
  induction m with
  | zero => intro _ _; rfl
  | succ m ih =>
    intro lo h
    show (decide (M lo = 0) && mfree M (lo + 1) m) = (decide (M' lo = 0) && mfree M' (lo + 1) m)
    rw [h lo (Nat.le_refl _), ih (lo + 1) (fun j hj => h j (by omega))]
theorem tra_M {A : Nat → Nat → Int32} {c j md : Nat} {D : TD} (h : TrA A c D) (hj : j < 8) : TrA (tm_u A (c + 2) j (nI md)) c (sM D (mset (dM D) j j md)) := by
  obtain ⟨h1, h2, h3, h4, h5, h6, h7, h8⟩ := h
  refine ⟨by simp (disch := omega) only [h1, tu_same, tu_eq, tu_ne]; rfl, by simp (disch := omega) only [h2, tu_same, tu_eq, tu_ne]; rfl, by simp (disch := omega) only [h3, tu_same, tu_eq, tu_ne]; rfl, by simp (disch := omega) only [h4, tu_same, tu_eq, tu_ne]; rfl, by simp (disch := omega) only [h5, tu_same, tu_eq, tu_ne]; rfl, by simp (disch := omega) only [h6, tu_same, tu_eq, tu_ne]; rfl, fun k hk => by simp (disch := omega) only [tu_same, tu_eq, tu_ne]; exact h7 k hk, fun k hk => ?_⟩
  show tm_u A (c + 2) j (nI md) (c + 2) k = nI (mset (dM D) j j md k)
  unfold mset
  by_cases e : k = j
  · subst e
    rw [if_pos (by omega)]
    simp (disch := omega) only [tu_same, tu_eq, tu_ne]
  · rw [if_neg (by omega)]
    simp (disch := omega) only [tu_same, tu_eq, tu_ne]
    exact h8 k hk
theorem sM_M (D : TD) (M : Nat → Nat) : dM (sM D M) = M := rfl
theorem sM_s (D : TD) (M M' : Nat → Nat) : sM (sM D M) M' = sM D M' := rfl
theorem sM_id (D : TD) : sM D (dM D) = D := rfl
theorem l_42 {τ : tm_Tu} {J : Nat → Nat → Int64} {c hi md : Nat} (hc : isT c) (hh : hi < 8) (hmd : 1 ≤ md ∧ md ≤ 3) : ∀ m j (D : TD) (A : Nat → Nat → Int32), j + m = hi + 1 → (∀ x, x < 8 → dM D x ≤ 3) → TrA A c D → ∃ A' r, R_42 7 [(0, .ref c), (2, .int (nI hi)), (3, .int (nI md)), (4, .int (nI j))] [] (mk A J τ) = some (some (.int r), mk A' J τ) ∧ (∀ a y, a ≠ c + 2 → A' a y = A a y) ∧ (mfree (dM D) j m = true → r = 1 ∧ TrA A' c (sM D (mset (dM D) j hi md))) ∧ (mfree (dM D) j m = false → r = 0) := by
  obtain ⟨k1, k2, k3, k4, k5, k6, k7, k8, k9⟩ := bk_3 hc τ
  have e8 : Int32.ofNat 8 = nI 8 := rfl
  intro m
  induction m with
  | zero =>
    intro j D A hj hD hA
    refine ⟨A, 1, ?_, fun _ _ _ => rfl, fun _ => ⟨rfl, ?_⟩, fun h => by cases h⟩
    · rw [e_42_7]
      simp (disch := first | omega | (simp (disch := omega) only [n_ti, Int32.reduceToInt] <;> omega)) only [e_42_49, n_add, nl_add, nr_add, n_mul, nl_mul, nr_mul, n_sub, nr_dec, n_div, nr_sub_1, nr_sub_2, nr_sub_3, nr_sub_4, nr_sub_7, nr_sub_10, nr_sub_11, nr_sub_20, nr_sub_48, nr_sub_97, nl_sub_3, nl_sub_4, nl_sub_12, nl_sub_24, nl_sub_32, nr_div_2, nr_div_4, z_lt, z_le, z_eq, z_cl, n_ti, Int.toNat_natCast, Int32.reduceToInt, Int32.reduceToNatClampNeg, zc_add, zc_sub, zc_add_1, zc_add_2, zc_add_3, zc_add_4, zc_add_8, zc_add_10, zc_add_12, zc_add_16, zc_add_20, zc_sub_1, zc_sub_2, zc_sub_4, zc_sub_10, zc_sub_20, zc_sub_48, zc_sub_97, zc_mul_4, t_ltZ, f_ltZ, t_leZ, f_leZ, t_eqZ, f_eqZ, t_ltN, f_ltN, t_leN, f_leN, t_eqN, f_eqN, ↓reduceIte, and_true, true_and, and_false, false_and, and_self, or_true, true_or, or_false, false_or, or_self, not_true_eq_false, not_false_eq_true, tu_same, tu_eq, tu_ne, b_V, b_I, b_J]
    · rw [mset_0 _ _ _ _ (by omega), sM_id]; exact hA
  | succ m ih =>
    intro j D A hj hD hA
    have hm := hA.2.2.2.2.2.2.2 j (by omega)
    have hd := hD j (by omega)
    have hf : mfree (dM D) j (m + 1) = (decide (dM D j = 0) && mfree (dM D) (j + 1) m) := rfl
    rw [e_42_7, hf]
    by_cases c0 : dM D j = 0
    · obtain ⟨A', r, g1, g2, g3, g4⟩ := ih (j + 1) (sM D (mset (dM D) j j md)) (tm_u A (c + 2) j (nI md)) (by omega) (fun x hx => by
        rw [sM_M]
        unfold mset
        by_cases e : j ≤ x ∧ x ≤ j
        · rw [if_pos e]; omega
        · rw [if_neg e]; exact hD x hx) (tra_M hA (by omega))
      rw [sM_M, sM_s, mset_s _ _ _ _ (by omega)] at g3
      rw [sM_M] at g4
      have ef : mfree (mset (dM D) j j md) (j + 1) m = mfree (dM D) (j + 1) m := mfree_c _ _ m (j + 1) (fun x hx => if_neg (by omega))
      rw [ef] at g3 g4
      refine ⟨A', r, ?_, fun a y h => (g2 a y h).trans (by simp (disch := omega) only [tu_same, tu_eq, tu_ne]), ?_, ?_⟩
      · rw [← g1]
        simp (disch := first | omega | (simp (disch := omega) only [n_ti, Int32.reduceToInt] <;> omega)) only [k1, k3, k5, k7, e8, hm, c0, n_add, nl_add, nr_add, n_mul, nl_mul, nr_mul, n_sub, nr_dec, n_div, nr_sub_1, nr_sub_2, nr_sub_3, nr_sub_4, nr_sub_7, nr_sub_10, nr_sub_11, nr_sub_20, nr_sub_48, nr_sub_97, nl_sub_3, nl_sub_4, nl_sub_12, nl_sub_24, nl_sub_32, nr_div_2, nr_div_4, z_lt, z_le, z_eq, z_cl, n_ti, Int.toNat_natCast, Int32.reduceToInt, Int32.reduceToNatClampNeg, zc_add, zc_sub, zc_add_1, zc_add_2, zc_add_3, zc_add_4, zc_add_8, zc_add_10, zc_add_12, zc_add_16, zc_add_20, zc_sub_1, zc_sub_2, zc_sub_4, zc_sub_10, zc_sub_20, zc_sub_48, zc_sub_97, zc_mul_4, t_ltZ, f_ltZ, t_leZ, f_leZ, t_eqZ, f_eqZ, t_ltN, f_ltN, t_leN, f_leN, t_eqN, f_eqN, ↓reduceIte, and_true, true_and, and_false, false_and, and_self, or_true, true_or, or_false, false_or, or_self, not_true_eq_false, not_false_eq_true, tu_same, tu_eq, tu_ne, b_V, b_I, b_J]
      · rw [c0]; simpa using g3
      · rw [c0]; simpa using g4
    · refine ⟨A, 0, ?_, fun _ _ _ => rfl, ?_, fun _ => rfl⟩
      · simp (disch := first | omega | (simp (disch := omega) only [n_ti, Int32.reduceToInt] <;> omega)) only [k1, k3, k5, k7, e8, hm, n_add, nl_add, nr_add, n_mul, nl_mul, nr_mul, n_sub, nr_dec, n_div, nr_sub_1, nr_sub_2, nr_sub_3, nr_sub_4, nr_sub_7, nr_sub_10, nr_sub_11, nr_sub_20, nr_sub_48, nr_sub_97, nl_sub_3, nl_sub_4, nl_sub_12, nl_sub_24, nl_sub_32, nr_div_2, nr_div_4, z_lt, z_le, z_eq, z_cl, n_ti, Int.toNat_natCast, Int32.reduceToInt, Int32.reduceToNatClampNeg, zc_add, zc_sub, zc_add_1, zc_add_2, zc_add_3, zc_add_4, zc_add_8, zc_add_10, zc_add_12, zc_add_16, zc_add_20, zc_sub_1, zc_sub_2, zc_sub_4, zc_sub_10, zc_sub_20, zc_sub_48, zc_sub_97, zc_mul_4, t_ltZ, f_ltZ, t_leZ, f_leZ, t_eqZ, f_eqZ, t_ltN, f_ltN, t_leN, f_leN, t_eqN, f_eqN, ↓reduceIte, and_true, true_and, and_false, false_and, and_self, or_true, true_or, or_false, false_or, or_self, not_true_eq_false, not_false_eq_true, tu_same, tu_eq, tu_ne, b_V, b_I, b_J]
      · intro h
        simp [c0] at h
theorem PoA.then {s : Nat → Int} {n : Nat} {A A1 A2 : Nat → Nat → Int32} {J J1 J2 : Nat → Nat → Int64} {c : Nat} {r : PR} {res : Int32} (h : PoA s n A1 A2 J1 J2 c r res) (f : ∀ a y, ¬ (c ≤ a ∧ a ≤ c + 2) → ¬ (a = 4 ∧ y ≠ 4 ∧ y ≠ 5) → A1 a y = A a y) (hc : 45 ≤ c) (g : ∀ a y, ¬ (a = 4 ∧ y = 9) → J1 a y = J a y) : PoA s n A A2 J J2 c r res := by
  obtain ⟨h1, h2, h3⟩ := h
  refine ⟨fun a y u v => (h1 a y u v).trans (f a y v (by omega)), fun a y u => (h2 a y u).trans (g a y u), ?_⟩
  cases r with
  | inl e => exact h3
  | inr q => exact ⟨h3.1, h3.2.1, h3.2.2.1, h3.2.2.2.1.trans (f 4 4 (by omega) (by omega)), h3.2.2.2.2.trans (f 4 5 (by omega) (by omega))⟩
theorem nf_none {t : TK} {lo hi : Nat} (h : nf t lo hi = none) : tK t = 31 ∧ lo ≤ tV t ∧ tV t ≤ hi := by
  unfold nf at h
  by_cases c : tK t = 31
  · rw [if_pos c] at h
    by_cases c1 : tV t < lo ∨ hi < tV t
    · rw [if_pos c1] at h; cases h
    · omega
  · rw [if_neg c] at h; cases h
theorem c_43 {τ : tm_Tu} (hτ : τ.2.2.2.2 = 3) {s : Nat → Int} {n cb c first md : Nat} {A : Nat → Nat → Int32} {J : Nat → Nat → Int64} {t : TK} {D : TD} (h : ClS s n A J t) (hk : tK t = 4) (hc : isT c) (hA : TrA A c D) (hD : TDok D) (hf : first < 8) (hmd : 1 ≤ md ∧ md ≤ 3) : ∃ A' J' r, F_43 [.ref cb, .ref 4, .ref c, .int (nI first), .int (nI md)] (mk A J τ) = some (some (.int r), mk A' J' τ) ∧ PoA s n A A' J J' c (pMod2 s n first md D t) r := by
  have k1 := (bk_3 hc τ).1
  have k8 := (bk_3 hc τ).2.2.2.2.2.2.2.1
  obtain ⟨o1, o2, -, -, -, -, o7, -⟩ := hD
  unfold pMod2
  rw [if_pos hk]
  obtain ⟨A1, J1, g1, g2, g3⟩ := c_adv (s := s) (t := t) hτ h (by omega)
  have hA1 := hA.cl hc g3
  have q4 := hA1.1
  have num := c_num (τ := τ) (lo := first) (hi := dQ D - 1) g2 (by omega) (by omega)
  rw [e_43]
  cases hn : nf (nx s n t) first (dQ D - 1) with
  | some f =>
    rw [hn] at num
    refine ⟨_, J1, 0, ?_, PoA.f (f := f) (fun a y u v => g3.1 a y (by omega)) g3.2⟩
    simp (disch := first | omega | (simp (disch := omega) only [n_ti, Int32.reduceToInt] <;> omega)) only [g1, e_43_4, k1, q4, num, e_43_15, n_add, nl_add, nr_add, n_mul, nl_mul, nr_mul, n_sub, nr_dec, n_div, nr_sub_1, nr_sub_2, nr_sub_3, nr_sub_4, nr_sub_7, nr_sub_10, nr_sub_11, nr_sub_20, nr_sub_48, nr_sub_97, nl_sub_3, nl_sub_4, nl_sub_12, nl_sub_24, nl_sub_32, nr_div_2, nr_div_4, z_lt, z_le, z_eq, z_cl, n_ti, Int.toNat_natCast, Int32.reduceToInt, Int32.reduceToNatClampNeg, zc_add, zc_sub, zc_add_1, zc_add_2, zc_add_3, zc_add_4, zc_add_8, zc_add_10, zc_add_12, zc_add_16, zc_add_20, zc_sub_1, zc_sub_2, zc_sub_4, zc_sub_10, zc_sub_20, zc_sub_48, zc_sub_97, zc_mul_4, t_ltZ, f_ltZ, t_leZ, f_leZ, t_eqZ, f_eqZ, t_ltN, f_ltN, t_leN, f_leN, t_eqN, f_eqN, ↓reduceIte, and_true, true_and, and_false, false_and, and_self, or_true, true_or, or_false, false_or, or_self, not_true_eq_false, not_false_eq_true, tu_same, tu_eq, tu_ne, b_V, b_I, b_J]
  | none =>
    rw [hn] at num
    obtain ⟨n1, n2, n3⟩ := nf_none hn
    have h8 := g2.2.1.2.2.2.1 (Or.inl n1)
    obtain ⟨A2, r, p1, p2, p3, p4⟩ := l_42 (τ := τ) (J := J1) (c := c) (hi := tV (nx s n t)) (md := md) hc (by omega) hmd (tV (nx s n t) - first) (first + 1) D A1 (by omega) o7 hA1
    have s42 : F_42 [.ref c, .int (nI (first + 1)), .int (nI (tV (nx s n t))), .int (nI md)] (mk A1 J1 τ) = some (some (.int r), mk A2 J1 τ) := by
      rw [← p1, e_42]
      simp (disch := first | omega | (simp (disch := omega) only [n_ti, Int32.reduceToInt] <;> omega)) only [n_add, nl_add, nr_add, n_mul, nl_mul, nr_mul, n_sub, nr_dec, n_div, nr_sub_1, nr_sub_2, nr_sub_3, nr_sub_4, nr_sub_7, nr_sub_10, nr_sub_11, nr_sub_20, nr_sub_48, nr_sub_97, nl_sub_3, nl_sub_4, nl_sub_12, nl_sub_24, nl_sub_32, nr_div_2, nr_div_4, z_lt, z_le, z_eq, z_cl, n_ti, Int.toNat_natCast, Int32.reduceToInt, Int32.reduceToNatClampNeg, zc_add, zc_sub, zc_add_1, zc_add_2, zc_add_3, zc_add_4, zc_add_8, zc_add_10, zc_add_12, zc_add_16, zc_add_20, zc_sub_1, zc_sub_2, zc_sub_4, zc_sub_10, zc_sub_20, zc_sub_48, zc_sub_97, zc_mul_4, t_ltZ, f_ltZ, t_leZ, f_leZ, t_eqZ, f_eqZ, t_ltN, f_ltN, t_leN, f_leN, t_eqN, f_eqN, ↓reduceIte, and_true, true_and, and_false, false_and, and_self, or_true, true_or, or_false, false_or, or_self, not_true_eq_false, not_false_eq_true, tu_same, tu_eq, tu_ne, b_V, b_I, b_J]
    have g2' : ClS s n A2 J1 (nx s n t) := g2.tr (fun a k u => p2 a k (by omega)) (fun _ _ _ => rfl)
    show ∃ A' J' r, _ ∧ PoA s n A A' J J' c (if mfree (dM D) (first + 1) (tV (nx s n t) - first) = true then _ else _) r
    cases hm : mfree (dM D) (first + 1) (tV (nx s n t) - first) with
    | true =>
      obtain ⟨rfl, hA2⟩ := p3 hm
      rw [if_pos rfl]
      obtain ⟨A3, J3, q1, q2, q3⟩ := c_adv hτ g2' (by omega)
      refine ⟨A3, J3, 1, ?_, fun a y u v => ?_, fun a y u => ?_, rfl, q2, hA2.cl hc q3, ?_, ?_⟩
      · simp (disch := first | omega | (simp (disch := omega) only [n_ti, Int32.reduceToInt] <;> omega)) only [g1, e_43_4, k1, q4, num, e_43_15, h8, s42, e_43_33, q1, e_43_46, n_add, nl_add, nr_add, n_mul, nl_mul, nr_mul, n_sub, nr_dec, n_div, nr_sub_1, nr_sub_2, nr_sub_3, nr_sub_4, nr_sub_7, nr_sub_10, nr_sub_11, nr_sub_20, nr_sub_48, nr_sub_97, nl_sub_3, nl_sub_4, nl_sub_12, nl_sub_24, nl_sub_32, nr_div_2, nr_div_4, z_lt, z_le, z_eq, z_cl, n_ti, Int.toNat_natCast, Int32.reduceToInt, Int32.reduceToNatClampNeg, zc_add, zc_sub, zc_add_1, zc_add_2, zc_add_3, zc_add_4, zc_add_8, zc_add_10, zc_add_12, zc_add_16, zc_add_20, zc_sub_1, zc_sub_2, zc_sub_4, zc_sub_10, zc_sub_20, zc_sub_48, zc_sub_97, zc_mul_4, t_ltZ, f_ltZ, t_leZ, f_leZ, t_eqZ, f_eqZ, t_ltN, f_ltN, t_leN, f_leN, t_eqN, f_eqN, ↓reduceIte, and_true, true_and, and_false, false_and, and_self, or_true, true_or, or_false, false_or, or_self, not_true_eq_false, not_false_eq_true, tu_same, tu_eq, tu_ne, b_V, b_I, b_J]
      · rw [q3.1 a y (by omega), p2 a y (by omega), g3.1 a y (by omega)]
      · rw [q3.2 a y u, g3.2 a y u]
      · rw [q3.1 4 4 (by omega), p2 4 4 (by omega), g3.1 4 4 (by omega)]
      · rw [q3.1 4 5 (by omega), p2 4 5 (by omega), g3.1 4 5 (by omega)]
    | false =>
      have hr := p4 hm
      subst hr
      rw [if_neg Bool.false_ne_true]
      have r5 : F_30 [.ref 4, .int 5] (mk A2 J1 τ) = _ := c_ref (τ := τ) g2' 5
      refine ⟨_, J1, 0, ?_, PoA.f (A1 := A2) (f := flt (nx s n t) 5) (fun a y u v => ?_) g3.2⟩
      · simp (disch := first | omega | (simp (disch := omega) only [n_ti, Int32.reduceToInt] <;> omega)) only [g1, e_43_4, k1, q4, num, e_43_15, h8, s42, e_43_33, r5, e_43_41, n_add, nl_add, nr_add, n_mul, nl_mul, nr_mul, n_sub, nr_dec, n_div, nr_sub_1, nr_sub_2, nr_sub_3, nr_sub_4, nr_sub_7, nr_sub_10, nr_sub_11, nr_sub_20, nr_sub_48, nr_sub_97, nl_sub_3, nl_sub_4, nl_sub_12, nl_sub_24, nl_sub_32, nr_div_2, nr_div_4, z_lt, z_le, z_eq, z_cl, n_ti, Int.toNat_natCast, Int32.reduceToInt, Int32.reduceToNatClampNeg, zc_add, zc_sub, zc_add_1, zc_add_2, zc_add_3, zc_add_4, zc_add_8, zc_add_10, zc_add_12, zc_add_16, zc_add_20, zc_sub_1, zc_sub_2, zc_sub_4, zc_sub_10, zc_sub_20, zc_sub_48, zc_sub_97, zc_mul_4, t_ltZ, f_ltZ, t_leZ, f_leZ, t_eqZ, f_eqZ, t_ltN, f_ltN, t_leN, f_leN, t_eqN, f_eqN, ↓reduceIte, and_true, true_and, and_false, false_and, and_self, or_true, true_or, or_false, false_or, or_self, not_true_eq_false, not_false_eq_true, tu_same, tu_eq, tu_ne, b_V, b_I, b_J]
      · rw [p2 a y (by omega), g3.1 a y (by omega)]
theorem TDok_M {D : TD} (h : TDok D) {lo hi md : Nat} (hmd : md ≤ 3) : TDok (sM D (mset (dM D) lo hi md)) := by
  obtain ⟨o1, o2, o3, o4, o5, o6, o7, o8, o9, o10⟩ := h
  refine ⟨o1, o2, o3, o4, o5, o6, fun j hj => ?_, o8, o9, o10⟩
  show mset (dM D) lo hi md j ≤ 3
  unfold mset
  by_cases e : lo ≤ j ∧ j ≤ hi
  · rw [if_pos e]; exact hmd
  · rw [if_neg e]; exact o7 j hj
theorem c_44b {τ : tm_Tu} (hτ : τ.2.2.2.2 = 3) {s : Nat → Int} {n cb c md : Nat} {A : Nat → Nat → Int32} {J : Nat → Nat → Int64} {t : TK} {D : TD} (h : ClS s n A J t) (hb : isB cb) (hc : isT c) (hA : TrA A c D) (hD : TDok D) (hmd : 1 ≤ md ∧ md ≤ 3) : ∃ A' J' r, R_44 57 [(0, .ref cb), (1, .ref 4), (2, .ref c), (3, .int (nI md))] [] (mk A J τ) = some (some (.int r), mk A' J' τ) ∧ PoA s n A A' J J' c (pMod1 s n md D t) r := by
  have k1 := (bk_3 hc τ).1
  have kb := (bk_1 hb τ).1
  have k8 := (bk_3 hc τ).2.2.2.2.2.2.2.1
  have hD' := hD
  obtain ⟨o1, o2, -, -, -, -, o7, -⟩ := hD
  have q4 := hA.1
  have num : F_36 [.ref 4, .int 0, .int (nI (dQ D - 1))] (mk A J τ) = _ := c_num (τ := τ) (lo := 0) (hi := dQ D - 1) h (by omega) (by omega)
  unfold pMod1
  rw [e_44_57]
  cases hn : nf t 0 (dQ D - 1) with
  | some f =>
    rw [hn] at num
    refine ⟨_, J, 0, ?_, PoA.f (f := f) (fun _ _ _ _ => rfl) (fun _ _ _ => rfl)⟩
    simp (disch := first | omega | (simp (disch := omega) only [n_ti, Int32.reduceToInt] <;> omega)) only [k1, q4, num, e_44_68, n_add, nl_add, nr_add, n_mul, nl_mul, nr_mul, n_sub, nr_dec, n_div, nr_sub_1, nr_sub_2, nr_sub_3, nr_sub_4, nr_sub_7, nr_sub_10, nr_sub_11, nr_sub_20, nr_sub_48, nr_sub_97, nl_sub_3, nl_sub_4, nl_sub_12, nl_sub_24, nl_sub_32, nr_div_2, nr_div_4, z_lt, z_le, z_eq, z_cl, n_ti, Int.toNat_natCast, Int32.reduceToInt, Int32.reduceToNatClampNeg, zc_add, zc_sub, zc_add_1, zc_add_2, zc_add_3, zc_add_4, zc_add_8, zc_add_10, zc_add_12, zc_add_16, zc_add_20, zc_sub_1, zc_sub_2, zc_sub_4, zc_sub_10, zc_sub_20, zc_sub_48, zc_sub_97, zc_mul_4, t_ltZ, f_ltZ, t_leZ, f_leZ, t_eqZ, f_eqZ, t_ltN, f_ltN, t_leN, f_leN, t_eqN, f_eqN, ↓reduceIte, and_true, true_and, and_false, false_and, and_self, or_true, true_or, or_false, false_or, or_self, not_true_eq_false, not_false_eq_true, tu_same, tu_eq, tu_ne, b_V, b_I, b_J]
  | none =>
    rw [hn] at num
    obtain ⟨n1, n2, n3⟩ := nf_none hn
    have h8 := h.2.1.2.2.2.1 (Or.inl n1)
    obtain ⟨A2, r, p1, p2, p3, p4⟩ := l_42 (τ := τ) (J := J) (c := c) (hi := tV t) (md := md) hc (by omega) hmd 1 (tV t) D A (by omega) o7 hA
    have s42 : F_42 [.ref c, .int (nI (tV t)), .int (nI (tV t)), .int (nI md)] (mk A J τ) = some (some (.int r), mk A2 J τ) := by
      rw [← p1, e_42]
      simp (disch := first | omega | (simp (disch := omega) only [n_ti, Int32.reduceToInt] <;> omega)) only [n_add, nl_add, nr_add, n_mul, nl_mul, nr_mul, n_sub, nr_dec, n_div, nr_sub_1, nr_sub_2, nr_sub_3, nr_sub_4, nr_sub_7, nr_sub_10, nr_sub_11, nr_sub_20, nr_sub_48, nr_sub_97, nl_sub_3, nl_sub_4, nl_sub_12, nl_sub_24, nl_sub_32, nr_div_2, nr_div_4, z_lt, z_le, z_eq, z_cl, n_ti, Int.toNat_natCast, Int32.reduceToInt, Int32.reduceToNatClampNeg, zc_add, zc_sub, zc_add_1, zc_add_2, zc_add_3, zc_add_4, zc_add_8, zc_add_10, zc_add_12, zc_add_16, zc_add_20, zc_sub_1, zc_sub_2, zc_sub_4, zc_sub_10, zc_sub_20, zc_sub_48, zc_sub_97, zc_mul_4, t_ltZ, f_ltZ, t_leZ, f_leZ, t_eqZ, f_eqZ, t_ltN, f_ltN, t_leN, f_leN, t_eqN, f_eqN, ↓reduceIte, and_true, true_and, and_false, false_and, and_self, or_true, true_or, or_false, false_or, or_self, not_true_eq_false, not_false_eq_true, tu_same, tu_eq, tu_ne, b_V, b_I, b_J]
    have hm1 : mfree (dM D) (tV t) 1 = decide (dM D (tV t) = 0) := by
      show (decide (dM D (tV t) = 0) && true) = _
      rw [Bool.and_true]
    rw [hm1] at p3 p4
    have g2' : ClS s n A2 J t := h.tr (fun a k u => p2 a k (by omega)) (fun _ _ _ => rfl)
    show ∃ A' J' r, _ ∧ PoA s n A A' J J' c (if dM D (tV t) = 0 then _ else _) r
    by_cases c0 : dM D (tV t) = 0
    · obtain ⟨rfl, hA2⟩ := p3 (by simp [c0])
      rw [if_pos c0]
      obtain ⟨A3, J3, q1, q2, q3⟩ := c_adv hτ g2' (by omega)
      have hA3 := hA2.cl hc q3
      have k2 := q2.2.1.2.1
      have hK := q2.2.2.2.2.2.2.1
      by_cases ck : tK (nx s n t) = 4
      · obtain ⟨A4, J4, r4, y1, y2⟩ := c_43 (cb := cb) hτ q2 ck hc hA3 (TDok_M hD' (lo := tV t) (hi := tV t) hmd.2) (show tV t < 8 by omega) hmd
        refine ⟨A4, J4, r4, ?_, y2.then (fun a y u v => ?_) k8 (fun a y u => q3.2 a y u)⟩
        · have r01 : r4 = 0 ∨ r4 = 1 := by
            have := y2.2.2
            cases hp : pMod2 s n (tV t) md (sM D (mset (dM D) (tV t) (tV t) md)) (nx s n t) with
            | inl e => rw [hp] at this; exact Or.inl this.1
            | inr e => rw [hp] at this; exact Or.inr this.1
          rcases r01 with e | e <;> subst e <;> simp (disch := first | omega | (simp (disch := omega) only [n_ti, Int32.reduceToInt] <;> omega)) only [k1, kb, q4, num, e_44_68, h8, s42, e_44_88, q1, e_44_101, k2, ck, y1, e_44_118, e_44_121, e_44_126, n_add, nl_add, nr_add, n_mul, nl_mul, nr_mul, n_sub, nr_dec, n_div, nr_sub_1, nr_sub_2, nr_sub_3, nr_sub_4, nr_sub_7, nr_sub_10, nr_sub_11, nr_sub_20, nr_sub_48, nr_sub_97, nl_sub_3, nl_sub_4, nl_sub_12, nl_sub_24, nl_sub_32, nr_div_2, nr_div_4, z_lt, z_le, z_eq, z_cl, n_ti, Int.toNat_natCast, Int32.reduceToInt, Int32.reduceToNatClampNeg, zc_add, zc_sub, zc_add_1, zc_add_2, zc_add_3, zc_add_4, zc_add_8, zc_add_10, zc_add_12, zc_add_16, zc_add_20, zc_sub_1, zc_sub_2, zc_sub_4, zc_sub_10, zc_sub_20, zc_sub_48, zc_sub_97, zc_mul_4, t_ltZ, f_ltZ, t_leZ, f_leZ, t_eqZ, f_eqZ, t_ltN, f_ltN, t_leN, f_leN, t_eqN, f_eqN, ↓reduceIte, and_true, true_and, and_false, false_and, and_self, or_true, true_or, or_false, false_or, or_self, not_true_eq_false, not_false_eq_true, tu_same, tu_eq, tu_ne, b_V, b_I, b_J]
        · rw [q3.1 a y (by omega), p2 a y (by omega)]
      · have e2 : pMod2 s n (tV t) md (sM D (mset (dM D) (tV t) (tV t) md)) (nx s n t) = .inr (sM D (mset (dM D) (tV t) (tV t) md), nx s n t) := if_neg ck
        rw [e2]
        refine ⟨A3, J3, 1, ?_, fun a y u v => ?_, q3.2, rfl, q2, hA3, ?_, ?_⟩
        · simp (disch := first | omega | (simp (disch := omega) only [n_ti, Int32.reduceToInt] <;> omega)) only [k1, q4, num, e_44_68, h8, s42, e_44_88, q1, e_44_101, k2, e_44_121, e_44_126, n_add, nl_add, nr_add, n_mul, nl_mul, nr_mul, n_sub, nr_dec, n_div, nr_sub_1, nr_sub_2, nr_sub_3, nr_sub_4, nr_sub_7, nr_sub_10, nr_sub_11, nr_sub_20, nr_sub_48, nr_sub_97, nl_sub_3, nl_sub_4, nl_sub_12, nl_sub_24, nl_sub_32, nr_div_2, nr_div_4, z_lt, z_le, z_eq, z_cl, n_ti, Int.toNat_natCast, Int32.reduceToInt, Int32.reduceToNatClampNeg, zc_add, zc_sub, zc_add_1, zc_add_2, zc_add_3, zc_add_4, zc_add_8, zc_add_10, zc_add_12, zc_add_16, zc_add_20, zc_sub_1, zc_sub_2, zc_sub_4, zc_sub_10, zc_sub_20, zc_sub_48, zc_sub_97, zc_mul_4, t_ltZ, f_ltZ, t_leZ, f_leZ, t_eqZ, f_eqZ, t_ltN, f_ltN, t_leN, f_leN, t_eqN, f_eqN, ↓reduceIte, and_true, true_and, and_false, false_and, and_self, or_true, true_or, or_false, false_or, or_self, not_true_eq_false, not_false_eq_true, tu_same, tu_eq, tu_ne, b_V, b_I, b_J]
        · rw [q3.1 a y (by omega), p2 a y (by omega)]
        · rw [q3.1 4 4 (by omega), p2 4 4 (by omega)]
        · rw [q3.1 4 5 (by omega), p2 4 5 (by omega)]
    · have hr := p4 (by simp [c0])
      subst hr
      rw [if_neg c0]
      have r5 : F_30 [.ref 4, .int 5] (mk A2 J τ) = _ := c_ref (τ := τ) g2' 5
      refine ⟨_, J, 0, ?_, PoA.f (f := flt t 5) (fun a y u v => p2 a y (by omega)) (fun _ _ _ => rfl)⟩
      simp (disch := first | omega | (simp (disch := omega) only [n_ti, Int32.reduceToInt] <;> omega)) only [k1, q4, num, e_44_68, h8, s42, e_44_88, r5, e_44_96, n_add, nl_add, nr_add, n_mul, nl_mul, nr_mul, n_sub, nr_dec, n_div, nr_sub_1, nr_sub_2, nr_sub_3, nr_sub_4, nr_sub_7, nr_sub_10, nr_sub_11, nr_sub_20, nr_sub_48, nr_sub_97, nl_sub_3, nl_sub_4, nl_sub_12, nl_sub_24, nl_sub_32, nr_div_2, nr_div_4, z_lt, z_le, z_eq, z_cl, n_ti, Int.toNat_natCast, Int32.reduceToInt, Int32.reduceToNatClampNeg, zc_add, zc_sub, zc_add_1, zc_add_2, zc_add_3, zc_add_4, zc_add_8, zc_add_10, zc_add_12, zc_add_16, zc_add_20, zc_sub_1, zc_sub_2, zc_sub_4, zc_sub_10, zc_sub_20, zc_sub_48, zc_sub_97, zc_mul_4, t_ltZ, f_ltZ, t_leZ, f_leZ, t_eqZ, f_eqZ, t_ltN, f_ltN, t_leN, f_leN, t_eqN, f_eqN, ↓reduceIte, and_true, true_and, and_false, false_and, and_self, or_true, true_or, or_false, false_or, or_self, not_true_eq_false, not_false_eq_true, tu_same, tu_eq, tu_ne, b_V, b_I, b_J]
theorem c_44 {τ : tm_Tu} (hτ : τ.2.2.2.2 = 3) {s : Nat → Int} {n cb c : Nat} {A : Nat → Nat → Int32} {J : Nat → Nat → Int64} {t : TK} {D : TD} (h : ClS s n A J t) (hk : tK t = 3 ∨ tK t = 5) (hb : isB cb) (hc : isT c) (hA : TrA A c D) (hD : TDok D) : ∃ A' J' r, F_44 [.ref cb, .ref 4, .ref c] (mk A J τ) = some (some (.int r), mk A' J' τ) ∧ PoA s n A A' J J' c (pModes s n D t) r := by
  have k2 := h.2.1.2.1
  have k8 := (bk_3 hc τ).2.2.2.2.2.2.2.1
  obtain ⟨A1, J1, g1, g2, g3⟩ := c_adv hτ h (by omega)
  have hA1 := hA.cl hc g3
  unfold pModes
  rw [e_44]
  by_cases c5 : tK t = 5
  · rw [if_pos c5]
    have k2' := g2.2.1.2.1
    have hK' := g2.2.2.2.2.2.2.1
    by_cases d1 : tK (nx s n t) = 10
    · rw [if_pos d1]
      obtain ⟨A2, J2, q1, q2, q3⟩ := c_adv hτ g2 (by omega)
      obtain ⟨A3, J3, r, y1, y2⟩ := c_44b (md := 2) hτ q2 hb hc (hA1.cl hc q3) hD (by omega)
      refine ⟨A3, J3, r, ?_, y2.then (fun a y u v => by rw [q3.1 a y (by omega), g3.1 a y (by omega)]) k8 (fun a y u => by rw [q3.2 a y u, g3.2 a y u])⟩
      have y1' : R_44 57 [(0, .ref cb), (1, .ref 4), (2, .ref c), (3, .int 2)] [] (mk A2 J2 τ) = some (some (.int r), mk A3 J3 τ) := y1
      simp (disch := first | omega | (simp (disch := omega) only [n_ti, Int32.reduceToInt] <;> omega)) only [k2, c5, g1, e_44_14, k2', d1, e_44_38, e_44_52, e_44_53, q1, y1', n_add, nl_add, nr_add, n_mul, nl_mul, nr_mul, n_sub, nr_dec, n_div, nr_sub_1, nr_sub_2, nr_sub_3, nr_sub_4, nr_sub_7, nr_sub_10, nr_sub_11, nr_sub_20, nr_sub_48, nr_sub_97, nl_sub_3, nl_sub_4, nl_sub_12, nl_sub_24, nl_sub_32, nr_div_2, nr_div_4, z_lt, z_le, z_eq, z_cl, n_ti, Int.toNat_natCast, Int32.reduceToInt, Int32.reduceToNatClampNeg, zc_add, zc_sub, zc_add_1, zc_add_2, zc_add_3, zc_add_4, zc_add_8, zc_add_10, zc_add_12, zc_add_16, zc_add_20, zc_sub_1, zc_sub_2, zc_sub_4, zc_sub_10, zc_sub_20, zc_sub_48, zc_sub_97, zc_mul_4, t_ltZ, f_ltZ, t_leZ, f_leZ, t_eqZ, f_eqZ, t_ltN, f_ltN, t_leN, f_leN, t_eqN, f_eqN, ↓reduceIte, and_true, true_and, and_false, false_and, and_self, or_true, true_or, or_false, false_or, or_self, not_true_eq_false, not_false_eq_true, tu_same, tu_eq, tu_ne, b_V, b_I, b_J]
    · rw [if_neg d1]
      by_cases d2 : tK (nx s n t) = 11
      · rw [if_pos d2]
        obtain ⟨A2, J2, q1, q2, q3⟩ := c_adv hτ g2 (by omega)
        obtain ⟨A3, J3, r, y1, y2⟩ := c_44b (md := 3) hτ q2 hb hc (hA1.cl hc q3) hD (by omega)
        refine ⟨A3, J3, r, ?_, y2.then (fun a y u v => by rw [q3.1 a y (by omega), g3.1 a y (by omega)]) k8 (fun a y u => by rw [q3.2 a y u, g3.2 a y u])⟩
        have y1' : R_44 57 [(0, .ref cb), (1, .ref 4), (2, .ref c), (3, .int 3)] [] (mk A2 J2 τ) = some (some (.int r), mk A3 J3 τ) := y1
        simp (disch := first | omega | (simp (disch := omega) only [n_ti, Int32.reduceToInt] <;> omega)) only [k2, c5, g1, e_44_14, k2', d2, e_44_38, e_44_52, e_44_53, q1, y1', n_add, nl_add, nr_add, n_mul, nl_mul, nr_mul, n_sub, nr_dec, n_div, nr_sub_1, nr_sub_2, nr_sub_3, nr_sub_4, nr_sub_7, nr_sub_10, nr_sub_11, nr_sub_20, nr_sub_48, nr_sub_97, nl_sub_3, nl_sub_4, nl_sub_12, nl_sub_24, nl_sub_32, nr_div_2, nr_div_4, z_lt, z_le, z_eq, z_cl, n_ti, Int.toNat_natCast, Int32.reduceToInt, Int32.reduceToNatClampNeg, zc_add, zc_sub, zc_add_1, zc_add_2, zc_add_3, zc_add_4, zc_add_8, zc_add_10, zc_add_12, zc_add_16, zc_add_20, zc_sub_1, zc_sub_2, zc_sub_4, zc_sub_10, zc_sub_20, zc_sub_48, zc_sub_97, zc_mul_4, t_ltZ, f_ltZ, t_leZ, f_leZ, t_eqZ, f_eqZ, t_ltN, f_ltN, t_leN, f_leN, t_eqN, f_eqN, ↓reduceIte, and_true, true_and, and_false, false_and, and_self, or_true, true_or, or_false, false_or, or_self, not_true_eq_false, not_false_eq_true, tu_same, tu_eq, tu_ne, b_V, b_I, b_J]
      · rw [if_neg d2]
        have r2 : F_30 [.ref 4, .int 2] (mk A1 J1 τ) = _ := c_ref (τ := τ) g2 2
        refine ⟨_, J1, 0, ?_, PoA.f (f := flt (nx s n t) 2) (fun a y u v => g3.1 a y (by omega)) g3.2⟩
        simp (disch := first | omega | (simp (disch := omega) only [n_ti, Int32.reduceToInt] <;> omega)) only [k2, c5, g1, e_44_14, k2', r2, e_44_37, n_add, nl_add, nr_add, n_mul, nl_mul, nr_mul, n_sub, nr_dec, n_div, nr_sub_1, nr_sub_2, nr_sub_3, nr_sub_4, nr_sub_7, nr_sub_10, nr_sub_11, nr_sub_20, nr_sub_48, nr_sub_97, nl_sub_3, nl_sub_4, nl_sub_12, nl_sub_24, nl_sub_32, nr_div_2, nr_div_4, z_lt, z_le, z_eq, z_cl, n_ti, Int.toNat_natCast, Int32.reduceToInt, Int32.reduceToNatClampNeg, zc_add, zc_sub, zc_add_1, zc_add_2, zc_add_3, zc_add_4, zc_add_8, zc_add_10, zc_add_12, zc_add_16, zc_add_20, zc_sub_1, zc_sub_2, zc_sub_4, zc_sub_10, zc_sub_20, zc_sub_48, zc_sub_97, zc_mul_4, t_ltZ, f_ltZ, t_leZ, f_leZ, t_eqZ, f_eqZ, t_ltN, f_ltN, t_leN, f_leN, t_eqN, f_eqN, ↓reduceIte, and_true, true_and, and_false, false_and, and_self, or_true, true_or, or_false, false_or, or_self, not_true_eq_false, not_false_eq_true, tu_same, tu_eq, tu_ne, b_V, b_I, b_J]
  · rw [if_neg c5]
    have c3 : tK t = 3 := by omega
    obtain ⟨A3, J3, r, y1, y2⟩ := c_44b (md := 1) hτ g2 hb hc hA1 hD (by omega)
    refine ⟨A3, J3, r, ?_, y2.then (fun a y u v => g3.1 a y (by omega)) k8 (fun a y u => g3.2 a y u)⟩
    have y1' : R_44 57 [(0, .ref cb), (1, .ref 4), (2, .ref c), (3, .int 1)] [] (mk A1 J1 τ) = some (some (.int r), mk A3 J3 τ) := y1
    simp (disch := first | omega | (simp (disch := omega) only [n_ti, Int32.reduceToInt] <;> omega)) only [k2, c3, e_44_53, g1, y1', n_add, nl_add, nr_add, n_mul, nl_mul, nr_mul, n_sub, nr_dec, n_div, nr_sub_1, nr_sub_2, nr_sub_3, nr_sub_4, nr_sub_7, nr_sub_10, nr_sub_11, nr_sub_20, nr_sub_48, nr_sub_97, nl_sub_3, nl_sub_4, nl_sub_12, nl_sub_24, nl_sub_32, nr_div_2, nr_div_4, z_lt, z_le, z_eq, z_cl, n_ti, Int.toNat_natCast, Int32.reduceToInt, Int32.reduceToNatClampNeg, zc_add, zc_sub, zc_add_1, zc_add_2, zc_add_3, zc_add_4, zc_add_8, zc_add_10, zc_add_12, zc_add_16, zc_add_20, zc_sub_1, zc_sub_2, zc_sub_4, zc_sub_10, zc_sub_20, zc_sub_48, zc_sub_97, zc_mul_4, t_ltZ, f_ltZ, t_leZ, f_leZ, t_eqZ, f_eqZ, t_ltN, f_ltN, t_leN, f_leN, t_eqN, f_eqN, ↓reduceIte, and_true, true_and, and_false, false_and, and_self, or_true, true_or, or_false, false_or, or_self, not_true_eq_false, not_false_eq_true, tu_same, tu_eq, tu_ne, b_V, b_I, b_J]
theorem pr_01 {s : Nat → Int} {n : Nat} {A A' : Nat → Nat → Int32} {J J' : Nat → Nat → Int64} {c : Nat} {r : PR} {res : Int32} (h : PoA s n A A' J J' c r res) : (∃ f, r = .inl f ∧ res = 0 ∧ A' 4 4 = nI f.1 ∧ A' 4 5 = nI f.2) ∨ (∃ q, r = .inr q ∧ res = 1 ∧ ClS s n A' J' q.2 ∧ TrA A' c q.1 ∧ A' 4 4 = A 4 4 ∧ A' 4 5 = A 4 5) := by
  have := h.2.2
  cases r with
  | inl f => exact Or.inl ⟨f, rfl, this⟩
  | inr q => exact Or.inr ⟨q, rfl, this⟩
/-- a step keeps the data sound and goes on in the text -/
theorem nf_hi {t : TK} {lo hi : Nat} (h : nf t lo hi = none) : tV t ≤ hi := (nf_none h).2.2
theorem nx_ok {s : Nat → Int} {n : Nat} {t : TK} (h : TokOk s n t) (hk : tK t ≠ 36) : TokOk s n (nx s n t) ∧ tE t ≤ tQ (nx s n t) := tok_ok (h.2.1 hk)
theorem TDok_T {D : TD} (h : TDok D) {v : Nat} (hv : v ≤ 3) : TDok (sT D v) := ⟨h.1, h.2.1, h.2.2.1, hv, h.2.2.2.2⟩
theorem TDok_F {D : TD} (h : TDok D) {v : Nat} (hv : v ≤ 3) : TDok (sF D v) := ⟨h.1, h.2.1, h.2.2.1, h.2.2.2.1, hv, h.2.2.2.2.2⟩
theorem TDok_C {D : TD} (h : TDok D) {v : Nat} (hv : v ≤ 3) : TDok (sC D (nI v)) := ⟨h.1, h.2.1, h.2.2.1, h.2.2.2.1, h.2.2.2.2.1, h.2.2.2.2.2.1, h.2.2.2.2.2.2.1, by show -1 ≤ (nI v).toInt; rw [n_ti (by omega)]; omega, by show (nI v).toInt ≤ 3; rw [n_ti (by omega)]; omega, h.2.2.2.2.2.2.2.2.2⟩
theorem TDok_A {D : TD} (h : TDok D) : TDok (sA D 1) := ⟨h.1, h.2.1, h.2.2.1, h.2.2.2.1, h.2.2.2.2.1, h.2.2.2.2.2.1, h.2.2.2.2.2.2.1, h.2.2.2.2.2.2.2.1, h.2.2.2.2.2.2.2.2.1, Or.inr (by show (1 : Int32).toInt = 1; rfl)⟩
def goodQ (s : Nat → Int) (n : Nat) (t : TK) (q : TD × TK) : Prop := TDok q.1 ∧ TokOk s n q.2 ∧ tQ t < tQ q.2
theorem pMod2_ok {s : Nat → Int} {n first md : Nat} {D : TD} {t t0 : TK} (hD : TDok D) (ht : TokOk s n t) (hmd : md ≤ 3) (h0 : tQ t0 < tQ t) : ∀ q, pMod2 s n first md D t = .inr q → goodQ s n t0 q := by
  intro q h
  unfold pMod2 at h
  by_cases c : tK t = 4
  · rw [if_pos c] at h
    obtain ⟨a1, a2⟩ := nx_ok ht (by omega)
    have a3 := ht.2.2.1 (by omega) (by omega)
    cases hn : nf (nx s n t) first (dQ D - 1) with
    | some f => rw [hn] at h; cases h
    | none =>
      rw [hn] at h
      have hk := (nf_none hn).1
      obtain ⟨b1, b2'⟩ := nx_ok a1 (by omega)
      have b3 := a1.2.2.1 (by omega) (by omega)
      change (if mfree (dM D) (first + 1) (tV (nx s n t) - first) = true then _ else _) = _ at h
      by_cases cm : mfree (dM D) (first + 1) (tV (nx s n t) - first) = true
      · rw [if_pos cm] at h
        cases h
        exact ⟨TDok_M hD hmd, b1, by show tQ t0 < tQ (nx s n (nx s n t)); omega⟩
      · rw [if_neg cm] at h; cases h
  · rw [if_neg c] at h
    cases h
    exact ⟨hD, ht, h0⟩
theorem pMod1_ok {s : Nat → Int} {n md : Nat} {D : TD} {t t0 : TK} (hD : TDok D) (ht : TokOk s n t) (hmd : md ≤ 3) (h0 : tQ t0 < tQ t) : ∀ q, pMod1 s n md D t = .inr q → goodQ s n t0 q := by
  intro q h
  unfold pMod1 at h
  cases hn : nf t 0 (dQ D - 1) with
  | some f => rw [hn] at h; cases h
  | none =>
    rw [hn] at h
    have hk := (nf_none hn).1
    obtain ⟨a1, a2⟩ := nx_ok ht (by omega)
    have a3 := ht.2.2.1 (by omega) (by omega)
    change (if dM D (tV t) = 0 then _ else _) = _ at h
    by_cases cm : dM D (tV t) = 0
    · rw [if_pos cm] at h
      exact pMod2_ok (TDok_M hD hmd) a1 hmd (by omega) q h
    · rw [if_neg cm] at h; cases h
theorem pStep_ok {s : Nat → Int} {n : Nat} {D : TD} {t : TK} (hD : TDok D) (ht : TokOk s n t) : ∀ q, pStep s n D t = .inr q → goodQ s n t q := by
  intro q h
  unfold pStep at h
  by_cases c1 : tK t = 3 ∨ tK t = 5
  · rw [if_pos c1] at h
    obtain ⟨a1, a2⟩ := nx_ok ht (by omega)
    have a3 := ht.2.2.1 (by omega) (by omega)
    unfold pModes at h
    by_cases c5 : tK t = 5
    · rw [if_pos c5] at h
      by_cases d1 : tK (nx s n t) = 10
      · rw [if_pos d1] at h
        obtain ⟨b1, b2'⟩ := nx_ok a1 (by omega)
        have b3 := a1.2.2.1 (by omega) (by omega)
        exact pMod1_ok hD b1 (by omega) (by omega) q h
      · rw [if_neg d1] at h
        by_cases d2 : tK (nx s n t) = 11
        · rw [if_pos d2] at h
          obtain ⟨b1, b2'⟩ := nx_ok a1 (by omega)
          have b3 := a1.2.2.1 (by omega) (by omega)
          exact pMod1_ok hD b1 (by omega) (by omega) q h
        · rw [if_neg d2] at h; cases h
    · rw [if_neg c5] at h
      exact pMod1_ok hD a1 (by omega) (by omega) q h
  · rw [if_neg c1] at h
    by_cases c6 : tK t = 6
    · rw [if_pos c6] at h
      obtain ⟨a1, a2⟩ := nx_ok ht (by omega)
      have a3 := ht.2.2.1 (by omega) (by omega)
      unfold pTurn at h
      by_cases d : dT D = 0
      · rw [if_pos d] at h
        cases hn : nf (nx s n t) 1 3 with
        | some f => rw [hn] at h; cases h
        | none =>
          rw [hn] at h
          have hk := nf_none hn
          obtain ⟨b1, b2'⟩ := nx_ok a1 (by omega)
          have b3 := a1.2.2.1 (by omega) (by omega)
          cases h
          exact ⟨TDok_T hD hk.2.2, b1, by show tQ t < tQ (nx s n (nx s n t)); omega⟩
      · rw [if_neg d] at h; cases h
    · rw [if_neg c6] at h
      by_cases c7 : tK t = 7
      · rw [if_pos c7] at h
        obtain ⟨a1, a2⟩ := nx_ok ht (by omega)
        have a3 := ht.2.2.1 (by omega) (by omega)
        unfold pFrom at h
        by_cases d : dF D = 0
        · rw [if_pos d] at h
          by_cases d1 : tK (nx s n t) = 11
          · rw [if_pos d1] at h
            obtain ⟨b1, b2'⟩ := nx_ok a1 (by omega)
            have b3 := a1.2.2.1 (by omega) (by omega)
            cases h
            exact ⟨TDok_F hD (by omega), b1, by show tQ t < tQ (nx s n (nx s n t)); omega⟩
          · rw [if_neg d1] at h
            by_cases d2 : tK (nx s n t) = 12
            · rw [if_pos d2] at h
              obtain ⟨b1, b2'⟩ := nx_ok a1 (by omega)
              have b3 := a1.2.2.1 (by omega) (by omega)
              cases h
              exact ⟨TDok_F hD (by omega), b1, by show tQ t < tQ (nx s n (nx s n t)); omega⟩
            · rw [if_neg d2] at h
              by_cases d3 : tK (nx s n t) = 13
              · rw [if_pos d3] at h
                obtain ⟨b1, b2'⟩ := nx_ok a1 (by omega)
                have b3 := a1.2.2.1 (by omega) (by omega)
                cases h
                exact ⟨TDok_F hD (by omega), b1, by show tQ t < tQ (nx s n (nx s n t)); omega⟩
              · rw [if_neg d3] at h; cases h
        · rw [if_neg d] at h; cases h
      · rw [if_neg c7] at h
        by_cases c8 : tK t = 8
        · rw [if_pos c8] at h
          obtain ⟨a1, a2⟩ := nx_ok ht (by omega)
          have a3 := ht.2.2.1 (by omega) (by omega)
          unfold pFac at h
          by_cases d : (dC D).toInt = -1
          · rw [if_pos d] at h
            cases hn : nf (nx s n t) 0 3 with
            | some f => rw [hn] at h; cases h
            | none =>
              rw [hn] at h
              have hk := nf_none hn
              obtain ⟨b1, b2'⟩ := nx_ok a1 (by omega)
              have b3 := a1.2.2.1 (by omega) (by omega)
              cases h
              exact ⟨TDok_C hD hk.2.2, b1, by show tQ t < tQ (nx s n (nx s n t)); omega⟩
          · rw [if_neg d] at h; cases h
        · rw [if_neg c8] at h
          by_cases c9 : tK t = 9
          · rw [if_pos c9] at h
            obtain ⟨a1, a2⟩ := nx_ok ht (by omega)
            have a3 := ht.2.2.1 (by omega) (by omega)
            unfold pAlo at h
            by_cases d : (dA D).toInt = 0
            · rw [if_pos d] at h
              cases h
              exact ⟨TDok_A hD, a1, by show tQ t < tQ (nx s n t); omega⟩
            · rw [if_neg d] at h; cases h
          · rw [if_neg c9] at h; cases h
/-- one part, by the class -/
theorem c_step {τ : tm_Tu} (hτ : τ.2.2.2.2 = 3) {s : Nat → Int} {n cb c : Nat} {A : Nat → Nat → Int32} {J : Nat → Nat → Int64} {t : TK} {D : TD} (h : ClS s n A J t) (hk : tK t ≠ 34) (hb : isB cb) (hc : isT c) (hA : TrA A c D) (hD : TDok D) (x : Nat) (hx : x < 1400) : ∃ A' J' r, R_49 5 [(0, .ref cb), (1, .ref 4), (2, .ref c), (3, .int 1), (4, .int (nI x))] [] (mk A J τ) = R_49 5 [(0, .ref cb), (1, .ref 4), (2, .ref c), (3, .int r), (4, .int (nI (x + 1)))] [] (mk A' J' τ) ∧ PoA s n A A' J J' c (pStep s n D t) r := by
  have kb := (bk_1 hb τ).1
  have k2 := h.2.1.2.1
  have hK := h.2.2.2.2.2.2.1
  have r2 : F_30 [.ref 4, .int 2] (mk A J τ) = _ := c_ref (τ := τ) h 2
  unfold pStep
  rw [e_49_5]
  by_cases c1 : tK t = 3 ∨ tK t = 5
  · rw [if_pos c1]
    obtain ⟨A', J', r, g1, g2⟩ := c_44 hτ h c1 hb hc hA hD
    refine ⟨A', J', r, ?_, g2⟩
    rcases c1 with c1 | c1 <;> simp (disch := first | omega | (simp (disch := omega) only [n_ti, Int32.reduceToInt] <;> omega)) only [k2, c1, kb, g1, e_49_78, e_49_128, n_add, nl_add, nr_add, n_mul, nl_mul, nr_mul, n_sub, nr_dec, n_div, nr_sub_1, nr_sub_2, nr_sub_3, nr_sub_4, nr_sub_7, nr_sub_10, nr_sub_11, nr_sub_20, nr_sub_48, nr_sub_97, nl_sub_3, nl_sub_4, nl_sub_12, nl_sub_24, nl_sub_32, nr_div_2, nr_div_4, z_lt, z_le, z_eq, z_cl, n_ti, Int.toNat_natCast, Int32.reduceToInt, Int32.reduceToNatClampNeg, zc_add, zc_sub, zc_add_1, zc_add_2, zc_add_3, zc_add_4, zc_add_8, zc_add_10, zc_add_12, zc_add_16, zc_add_20, zc_sub_1, zc_sub_2, zc_sub_4, zc_sub_10, zc_sub_20, zc_sub_48, zc_sub_97, zc_mul_4, t_ltZ, f_ltZ, t_leZ, f_leZ, t_eqZ, f_eqZ, t_ltN, f_ltN, t_leN, f_leN, t_eqN, f_eqN, ↓reduceIte, and_true, true_and, and_false, false_and, and_self, or_true, true_or, or_false, false_or, or_self, not_true_eq_false, not_false_eq_true, tu_same, tu_eq, tu_ne, b_V, b_I, b_J]
  · rw [if_neg c1]
    by_cases c6 : tK t = 6
    · rw [if_pos c6]
      obtain ⟨A', J', r, g1, g2⟩ := c_45 (cb := cb) hτ h (by omega) hc hA hD.2.2.2.1
      refine ⟨A', J', r, ?_, g2⟩
      simp (disch := first | omega | (simp (disch := omega) only [n_ti, Int32.reduceToInt] <;> omega)) only [k2, c6, kb, g1, e_49_88, e_49_128, n_add, nl_add, nr_add, n_mul, nl_mul, nr_mul, n_sub, nr_dec, n_div, nr_sub_1, nr_sub_2, nr_sub_3, nr_sub_4, nr_sub_7, nr_sub_10, nr_sub_11, nr_sub_20, nr_sub_48, nr_sub_97, nl_sub_3, nl_sub_4, nl_sub_12, nl_sub_24, nl_sub_32, nr_div_2, nr_div_4, z_lt, z_le, z_eq, z_cl, n_ti, Int.toNat_natCast, Int32.reduceToInt, Int32.reduceToNatClampNeg, zc_add, zc_sub, zc_add_1, zc_add_2, zc_add_3, zc_add_4, zc_add_8, zc_add_10, zc_add_12, zc_add_16, zc_add_20, zc_sub_1, zc_sub_2, zc_sub_4, zc_sub_10, zc_sub_20, zc_sub_48, zc_sub_97, zc_mul_4, t_ltZ, f_ltZ, t_leZ, f_leZ, t_eqZ, f_eqZ, t_ltN, f_ltN, t_leN, f_leN, t_eqN, f_eqN, ↓reduceIte, and_true, true_and, and_false, false_and, and_self, or_true, true_or, or_false, false_or, or_self, not_true_eq_false, not_false_eq_true, tu_same, tu_eq, tu_ne, b_V, b_I, b_J]
    · rw [if_neg c6]
      by_cases c7 : tK t = 7
      · rw [if_pos c7]
        obtain ⟨A', J', r, g1, g2⟩ := c_46 (cb := cb) hτ h (by omega) hc hA hD.2.2.2.2.1
        refine ⟨A', J', r, ?_, g2⟩
        simp (disch := first | omega | (simp (disch := omega) only [n_ti, Int32.reduceToInt] <;> omega)) only [k2, c7, kb, g1, e_49_98, e_49_128, n_add, nl_add, nr_add, n_mul, nl_mul, nr_mul, n_sub, nr_dec, n_div, nr_sub_1, nr_sub_2, nr_sub_3, nr_sub_4, nr_sub_7, nr_sub_10, nr_sub_11, nr_sub_20, nr_sub_48, nr_sub_97, nl_sub_3, nl_sub_4, nl_sub_12, nl_sub_24, nl_sub_32, nr_div_2, nr_div_4, z_lt, z_le, z_eq, z_cl, n_ti, Int.toNat_natCast, Int32.reduceToInt, Int32.reduceToNatClampNeg, zc_add, zc_sub, zc_add_1, zc_add_2, zc_add_3, zc_add_4, zc_add_8, zc_add_10, zc_add_12, zc_add_16, zc_add_20, zc_sub_1, zc_sub_2, zc_sub_4, zc_sub_10, zc_sub_20, zc_sub_48, zc_sub_97, zc_mul_4, t_ltZ, f_ltZ, t_leZ, f_leZ, t_eqZ, f_eqZ, t_ltN, f_ltN, t_leN, f_leN, t_eqN, f_eqN, ↓reduceIte, and_true, true_and, and_false, false_and, and_self, or_true, true_or, or_false, false_or, or_self, not_true_eq_false, not_false_eq_true, tu_same, tu_eq, tu_ne, b_V, b_I, b_J]
      · rw [if_neg c7]
        by_cases c8 : tK t = 8
        · rw [if_pos c8]
          obtain ⟨A', J', r, g1, g2⟩ := c_47 (cb := cb) hτ h (by omega) hc hA
          refine ⟨A', J', r, ?_, g2⟩
          simp (disch := first | omega | (simp (disch := omega) only [n_ti, Int32.reduceToInt] <;> omega)) only [k2, c8, kb, g1, e_49_108, e_49_128, n_add, nl_add, nr_add, n_mul, nl_mul, nr_mul, n_sub, nr_dec, n_div, nr_sub_1, nr_sub_2, nr_sub_3, nr_sub_4, nr_sub_7, nr_sub_10, nr_sub_11, nr_sub_20, nr_sub_48, nr_sub_97, nl_sub_3, nl_sub_4, nl_sub_12, nl_sub_24, nl_sub_32, nr_div_2, nr_div_4, z_lt, z_le, z_eq, z_cl, n_ti, Int.toNat_natCast, Int32.reduceToInt, Int32.reduceToNatClampNeg, zc_add, zc_sub, zc_add_1, zc_add_2, zc_add_3, zc_add_4, zc_add_8, zc_add_10, zc_add_12, zc_add_16, zc_add_20, zc_sub_1, zc_sub_2, zc_sub_4, zc_sub_10, zc_sub_20, zc_sub_48, zc_sub_97, zc_mul_4, t_ltZ, f_ltZ, t_leZ, f_leZ, t_eqZ, f_eqZ, t_ltN, f_ltN, t_leN, f_leN, t_eqN, f_eqN, ↓reduceIte, and_true, true_and, and_false, false_and, and_self, or_true, true_or, or_false, false_or, or_self, not_true_eq_false, not_false_eq_true, tu_same, tu_eq, tu_ne, b_V, b_I, b_J]
        · rw [if_neg c8]
          by_cases c9 : tK t = 9
          · rw [if_pos c9]
            obtain ⟨A', J', r, g1, g2⟩ := c_48 (cb := cb) hτ h (by omega) hc hA
            refine ⟨A', J', r, ?_, g2⟩
            simp (disch := first | omega | (simp (disch := omega) only [n_ti, Int32.reduceToInt] <;> omega)) only [k2, c9, kb, g1, e_49_118, e_49_128, n_add, nl_add, nr_add, n_mul, nl_mul, nr_mul, n_sub, nr_dec, n_div, nr_sub_1, nr_sub_2, nr_sub_3, nr_sub_4, nr_sub_7, nr_sub_10, nr_sub_11, nr_sub_20, nr_sub_48, nr_sub_97, nl_sub_3, nl_sub_4, nl_sub_12, nl_sub_24, nl_sub_32, nr_div_2, nr_div_4, z_lt, z_le, z_eq, z_cl, n_ti, Int.toNat_natCast, Int32.reduceToInt, Int32.reduceToNatClampNeg, zc_add, zc_sub, zc_add_1, zc_add_2, zc_add_3, zc_add_4, zc_add_8, zc_add_10, zc_add_12, zc_add_16, zc_add_20, zc_sub_1, zc_sub_2, zc_sub_4, zc_sub_10, zc_sub_20, zc_sub_48, zc_sub_97, zc_mul_4, t_ltZ, f_ltZ, t_leZ, f_leZ, t_eqZ, f_eqZ, t_ltN, f_ltN, t_leN, f_leN, t_eqN, f_eqN, ↓reduceIte, and_true, true_and, and_false, false_and, and_self, or_true, true_or, or_false, false_or, or_self, not_true_eq_false, not_false_eq_true, tu_same, tu_eq, tu_ne, b_V, b_I, b_J]
          · rw [if_neg c9]
            refine ⟨_, J, 0, ?_, PoA.f (A1 := A) (f := flt t 2) (fun _ _ _ _ => rfl) (fun _ _ _ => rfl)⟩
            by_cases c4 : tK t = 4
            · simp (disch := first | omega | (simp (disch := omega) only [n_ti, Int32.reduceToInt] <;> omega)) only [k2, c4, r2, e_49_127, e_49_128, n_add, nl_add, nr_add, n_mul, nl_mul, nr_mul, n_sub, nr_dec, n_div, nr_sub_1, nr_sub_2, nr_sub_3, nr_sub_4, nr_sub_7, nr_sub_10, nr_sub_11, nr_sub_20, nr_sub_48, nr_sub_97, nl_sub_3, nl_sub_4, nl_sub_12, nl_sub_24, nl_sub_32, nr_div_2, nr_div_4, z_lt, z_le, z_eq, z_cl, n_ti, Int.toNat_natCast, Int32.reduceToInt, Int32.reduceToNatClampNeg, zc_add, zc_sub, zc_add_1, zc_add_2, zc_add_3, zc_add_4, zc_add_8, zc_add_10, zc_add_12, zc_add_16, zc_add_20, zc_sub_1, zc_sub_2, zc_sub_4, zc_sub_10, zc_sub_20, zc_sub_48, zc_sub_97, zc_mul_4, t_ltZ, f_ltZ, t_leZ, f_leZ, t_eqZ, f_eqZ, t_ltN, f_ltN, t_leN, f_leN, t_eqN, f_eqN, ↓reduceIte, and_true, true_and, and_false, false_and, and_self, or_true, true_or, or_false, false_or, or_self, not_true_eq_false, not_false_eq_true, tu_same, tu_eq, tu_ne, b_V, b_I, b_J]
            · simp (disch := first | omega | (simp (disch := omega) only [n_ti, Int32.reduceToInt] <;> omega)) only [k2, r2, e_49_127, e_49_128, n_add, nl_add, nr_add, n_mul, nl_mul, nr_mul, n_sub, nr_dec, n_div, nr_sub_1, nr_sub_2, nr_sub_3, nr_sub_4, nr_sub_7, nr_sub_10, nr_sub_11, nr_sub_20, nr_sub_48, nr_sub_97, nl_sub_3, nl_sub_4, nl_sub_12, nl_sub_24, nl_sub_32, nr_div_2, nr_div_4, z_lt, z_le, z_eq, z_cl, n_ti, Int.toNat_natCast, Int32.reduceToInt, Int32.reduceToNatClampNeg, zc_add, zc_sub, zc_add_1, zc_add_2, zc_add_3, zc_add_4, zc_add_8, zc_add_10, zc_add_12, zc_add_16, zc_add_20, zc_sub_1, zc_sub_2, zc_sub_4, zc_sub_10, zc_sub_20, zc_sub_48, zc_sub_97, zc_mul_4, t_ltZ, f_ltZ, t_leZ, f_leZ, t_eqZ, f_eqZ, t_ltN, f_ltN, t_leN, f_leN, t_eqN, f_eqN, ↓reduceIte, and_true, true_and, and_false, false_and, and_self, or_true, true_or, or_false, false_or, or_self, not_true_eq_false, not_false_eq_true, tu_same, tu_eq, tu_ne, b_V, b_I, b_J]
theorem c_parts {τ : tm_Tu} (hτ : τ.2.2.2.2 = 3) {s : Nat → Int} {n cb c : Nat} (hb : isB cb) (hc : isT c) : ∀ f x (A : Nat → Nat → Int32) (J : Nat → Nat → Int64) (t : TK) (D : TD), x + f = 1400 → ClS s n A J t → TrA A c D → TDok D → ∃ A' J' r, R_49 5 [(0, .ref cb), (1, .ref 4), (2, .ref c), (3, .int 1), (4, .int (nI x))] [] (mk A J τ) = some (some (.int r), mk A' J' τ) ∧ PoA s n A A' J J' c (pParts s n f D t) r := by
  have k8 := (bk_3 hc τ).2.2.2.2.2.2.2.1
  have fin : ∀ x (A : Nat → Nat → Int32) (J : Nat → Nat → Int64) (t : TK) (D : TD), x ≤ 1400 → (tK t = 34 ∨ x = 1400) → ClS s n A J t → TrA A c D → ∃ A' J' r, R_49 5 [(0, .ref cb), (1, .ref 4), (2, .ref c), (3, .int 1), (4, .int (nI x))] [] (mk A J τ) = some (some (.int r), mk A' J' τ) ∧ PoA s n A A' J J' c (if tK t = 34 then .inr (D, nx s n t) else .inl (flt t 2)) r := by
    intro x A J t D hx h34 h hA
    have k2 := h.2.1.2.1
    have hK := h.2.2.2.2.2.2.1
    have st : R_49 5 [(0, .ref cb), (1, .ref 4), (2, .ref c), (3, .int 1), (4, .int (nI x))] [] (mk A J τ) = R_49 134 [(1, .ref 4), (3, .int 1)] [] (mk A J τ) := by
      rw [e_49_5]
      by_cases c1 : x = 1400
      · simp (disch := first | omega | (simp (disch := omega) only [n_ti, Int32.reduceToInt] <;> omega)) only [n_add, nl_add, nr_add, n_mul, nl_mul, nr_mul, n_sub, nr_dec, n_div, nr_sub_1, nr_sub_2, nr_sub_3, nr_sub_4, nr_sub_7, nr_sub_10, nr_sub_11, nr_sub_20, nr_sub_48, nr_sub_97, nl_sub_3, nl_sub_4, nl_sub_12, nl_sub_24, nl_sub_32, nr_div_2, nr_div_4, z_lt, z_le, z_eq, z_cl, n_ti, Int.toNat_natCast, Int32.reduceToInt, Int32.reduceToNatClampNeg, zc_add, zc_sub, zc_add_1, zc_add_2, zc_add_3, zc_add_4, zc_add_8, zc_add_10, zc_add_12, zc_add_16, zc_add_20, zc_sub_1, zc_sub_2, zc_sub_4, zc_sub_10, zc_sub_20, zc_sub_48, zc_sub_97, zc_mul_4, t_ltZ, f_ltZ, t_leZ, f_leZ, t_eqZ, f_eqZ, t_ltN, f_ltN, t_leN, f_leN, t_eqN, f_eqN, ↓reduceIte, and_true, true_and, and_false, false_and, and_self, or_true, true_or, or_false, false_or, or_self, not_true_eq_false, not_false_eq_true, tu_same, tu_eq, tu_ne, b_V, b_I, b_J]
      · have c2 : tK t = 34 := by omega
        simp (disch := first | omega | (simp (disch := omega) only [n_ti, Int32.reduceToInt] <;> omega)) only [k2, c2, n_add, nl_add, nr_add, n_mul, nl_mul, nr_mul, n_sub, nr_dec, n_div, nr_sub_1, nr_sub_2, nr_sub_3, nr_sub_4, nr_sub_7, nr_sub_10, nr_sub_11, nr_sub_20, nr_sub_48, nr_sub_97, nl_sub_3, nl_sub_4, nl_sub_12, nl_sub_24, nl_sub_32, nr_div_2, nr_div_4, z_lt, z_le, z_eq, z_cl, n_ti, Int.toNat_natCast, Int32.reduceToInt, Int32.reduceToNatClampNeg, zc_add, zc_sub, zc_add_1, zc_add_2, zc_add_3, zc_add_4, zc_add_8, zc_add_10, zc_add_12, zc_add_16, zc_add_20, zc_sub_1, zc_sub_2, zc_sub_4, zc_sub_10, zc_sub_20, zc_sub_48, zc_sub_97, zc_mul_4, t_ltZ, f_ltZ, t_leZ, f_leZ, t_eqZ, f_eqZ, t_ltN, f_ltN, t_leN, f_leN, t_eqN, f_eqN, ↓reduceIte, and_true, true_and, and_false, false_and, and_self, or_true, true_or, or_false, false_or, or_self, not_true_eq_false, not_false_eq_true, tu_same, tu_eq, tu_ne, b_V, b_I, b_J]
    rcases c_pass (w := 34) hτ h (by omega) with ⟨ck, A', J', g1, g2, g3⟩ | ⟨ck, g1⟩
    · have g1' : F_31 [.ref 4, .int 34] (mk A J τ) = some (some (.int 1), mk A' J' τ) := g1
      rw [if_pos ck]
      refine ⟨A', J', 1, ?_, fun a y u v => g3.1 a y (by omega), g3.2, rfl, g2, hA.cl hc g3, g3.1 4 4 (by omega), g3.1 4 5 (by omega)⟩
      rw [st, e_49_134]
      simp (disch := first | omega | (simp (disch := omega) only [n_ti, Int32.reduceToInt] <;> omega)) only [g1', e_49_144, e_49_152, n_add, nl_add, nr_add, n_mul, nl_mul, nr_mul, n_sub, nr_dec, n_div, nr_sub_1, nr_sub_2, nr_sub_3, nr_sub_4, nr_sub_7, nr_sub_10, nr_sub_11, nr_sub_20, nr_sub_48, nr_sub_97, nl_sub_3, nl_sub_4, nl_sub_12, nl_sub_24, nl_sub_32, nr_div_2, nr_div_4, z_lt, z_le, z_eq, z_cl, n_ti, Int.toNat_natCast, Int32.reduceToInt, Int32.reduceToNatClampNeg, zc_add, zc_sub, zc_add_1, zc_add_2, zc_add_3, zc_add_4, zc_add_8, zc_add_10, zc_add_12, zc_add_16, zc_add_20, zc_sub_1, zc_sub_2, zc_sub_4, zc_sub_10, zc_sub_20, zc_sub_48, zc_sub_97, zc_mul_4, t_ltZ, f_ltZ, t_leZ, f_leZ, t_eqZ, f_eqZ, t_ltN, f_ltN, t_leN, f_leN, t_eqN, f_eqN, ↓reduceIte, and_true, true_and, and_false, false_and, and_self, or_true, true_or, or_false, false_or, or_self, not_true_eq_false, not_false_eq_true, tu_same, tu_eq, tu_ne, b_V, b_I, b_J]
    · have g1' : F_31 [.ref 4, .int 34] (mk A J τ) = _ := g1
      rw [if_neg ck]
      refine ⟨_, J, 0, ?_, PoA.f (A1 := A) (f := flt t 2) (fun _ _ _ _ => rfl) (fun _ _ _ => rfl)⟩
      rw [st, e_49_134]
      simp (disch := first | omega | (simp (disch := omega) only [n_ti, Int32.reduceToInt] <;> omega)) only [g1', e_49_144, e_49_151, e_49_152, n_add, nl_add, nr_add, n_mul, nl_mul, nr_mul, n_sub, nr_dec, n_div, nr_sub_1, nr_sub_2, nr_sub_3, nr_sub_4, nr_sub_7, nr_sub_10, nr_sub_11, nr_sub_20, nr_sub_48, nr_sub_97, nl_sub_3, nl_sub_4, nl_sub_12, nl_sub_24, nl_sub_32, nr_div_2, nr_div_4, z_lt, z_le, z_eq, z_cl, n_ti, Int.toNat_natCast, Int32.reduceToInt, Int32.reduceToNatClampNeg, zc_add, zc_sub, zc_add_1, zc_add_2, zc_add_3, zc_add_4, zc_add_8, zc_add_10, zc_add_12, zc_add_16, zc_add_20, zc_sub_1, zc_sub_2, zc_sub_4, zc_sub_10, zc_sub_20, zc_sub_48, zc_sub_97, zc_mul_4, t_ltZ, f_ltZ, t_leZ, f_leZ, t_eqZ, f_eqZ, t_ltN, f_ltN, t_leN, f_leN, t_eqN, f_eqN, ↓reduceIte, and_true, true_and, and_false, false_and, and_self, or_true, true_or, or_false, false_or, or_self, not_true_eq_false, not_false_eq_true, tu_same, tu_eq, tu_ne, b_V, b_I, b_J]
  intro f
  induction f with
  | zero =>
    intro x A J t D hx h hA hD
    exact fin x A J t D (by omega) (Or.inr (by omega)) h hA
  | succ f ih =>
    intro x A J t D hx h hA hD
    by_cases c34 : tK t = 34
    · have e : pParts s n (f + 1) D t = (if tK t = 34 then .inr (D, nx s n t) else .inl (flt t 2)) := by
        unfold pParts
        rw [if_pos c34, if_pos c34]
      rw [e]
      exact fin x A J t D (by omega) (Or.inl c34) h hA
    · obtain ⟨A1, J1, r1, g1, g2⟩ := c_step hτ h c34 hb hc hA hD x (by omega)
      unfold pParts
      rw [if_neg c34]
      rcases pr_01 g2 with ⟨e, he, hr, hf1, hf2⟩ | ⟨q, hq, hr, hS, hT, hf1, hf2⟩
      · subst hr
        rw [he] at g2 ⊢
        refine ⟨A1, J1, 0, ?_, g2⟩
        rw [g1, e_49_5]
        by_cases cx : 1400 ≤ x + 1
        · simp (disch := first | omega | (simp (disch := omega) only [n_ti, Int32.reduceToInt] <;> omega)) only [e_49_134, e_49_151, e_49_152, n_add, nl_add, nr_add, n_mul, nl_mul, nr_mul, n_sub, nr_dec, n_div, nr_sub_1, nr_sub_2, nr_sub_3, nr_sub_4, nr_sub_7, nr_sub_10, nr_sub_11, nr_sub_20, nr_sub_48, nr_sub_97, nl_sub_3, nl_sub_4, nl_sub_12, nl_sub_24, nl_sub_32, nr_div_2, nr_div_4, z_lt, z_le, z_eq, z_cl, n_ti, Int.toNat_natCast, Int32.reduceToInt, Int32.reduceToNatClampNeg, zc_add, zc_sub, zc_add_1, zc_add_2, zc_add_3, zc_add_4, zc_add_8, zc_add_10, zc_add_12, zc_add_16, zc_add_20, zc_sub_1, zc_sub_2, zc_sub_4, zc_sub_10, zc_sub_20, zc_sub_48, zc_sub_97, zc_mul_4, t_ltZ, f_ltZ, t_leZ, f_leZ, t_eqZ, f_eqZ, t_ltN, f_ltN, t_leN, f_leN, t_eqN, f_eqN, ↓reduceIte, and_true, true_and, and_false, false_and, and_self, or_true, true_or, or_false, false_or, or_self, not_true_eq_false, not_false_eq_true, tu_same, tu_eq, tu_ne, b_V, b_I, b_J]
        · simp (disch := first | omega | (simp (disch := omega) only [n_ti, Int32.reduceToInt] <;> omega)) only [e_49_134, e_49_151, e_49_152, n_add, nl_add, nr_add, n_mul, nl_mul, nr_mul, n_sub, nr_dec, n_div, nr_sub_1, nr_sub_2, nr_sub_3, nr_sub_4, nr_sub_7, nr_sub_10, nr_sub_11, nr_sub_20, nr_sub_48, nr_sub_97, nl_sub_3, nl_sub_4, nl_sub_12, nl_sub_24, nl_sub_32, nr_div_2, nr_div_4, z_lt, z_le, z_eq, z_cl, n_ti, Int.toNat_natCast, Int32.reduceToInt, Int32.reduceToNatClampNeg, zc_add, zc_sub, zc_add_1, zc_add_2, zc_add_3, zc_add_4, zc_add_8, zc_add_10, zc_add_12, zc_add_16, zc_add_20, zc_sub_1, zc_sub_2, zc_sub_4, zc_sub_10, zc_sub_20, zc_sub_48, zc_sub_97, zc_mul_4, t_ltZ, f_ltZ, t_leZ, f_leZ, t_eqZ, f_eqZ, t_ltN, f_ltN, t_leN, f_leN, t_eqN, f_eqN, ↓reduceIte, and_true, true_and, and_false, false_and, and_self, or_true, true_or, or_false, false_or, or_self, not_true_eq_false, not_false_eq_true, tu_same, tu_eq, tu_ne, b_V, b_I, b_J]
      · subst hr
        rw [hq] at g2 ⊢
        obtain ⟨A2, J2, r2, p1, p2⟩ := ih (x + 1) A1 J1 q.2 q.1 (by omega) hS hT (pStep_ok hD h.2.2.2 q hq).1
        refine ⟨A2, J2, r2, by rw [g1, p1], ?_⟩
        obtain ⟨y1, y2, y3⟩ := p2
        refine ⟨fun a y u v => (y1 a y u v).trans (g2.1 a y u v), fun a y u => (y2 a y u).trans (g2.2.1 a y u), ?_⟩
        show match pParts s n f q.1 q.2 with
          | .inl f => r2 = 0 ∧ A2 4 4 = nI f.1 ∧ A2 4 5 = nI f.2
          | .inr q => r2 = 1 ∧ ClS s n A2 J2 q.2 ∧ TrA A2 c q.1 ∧ A2 4 4 = A 4 4 ∧ A2 4 5 = A 4 5
        cases hp : pParts s n f q.1 q.2 with
        | inl e => rw [hp] at y3; exact y3
        | inr e => rw [hp] at y3; exact ⟨y3.1, y3.2.1, y3.2.2.1, y3.2.2.2.1.trans hf1, y3.2.2.2.2.trans hf2⟩
