/-! reading: the parts of a trick, and how the class reads them -/
abbrev PR : Type := Sum (Nat × Nat) (TD × TK)
def sT (D : TD) (v : Nat) : TD := (dQ D, dW D, v, dF D, dD D, dM D, dC D, dA D)
def sF (D : TD) (v : Nat) : TD := (dQ D, dW D, dT D, v, dD D, dM D, dC D, dA D)
def sM (D : TD) (M : Nat → Nat) : TD := (dQ D, dW D, dT D, dF D, dD D, M, dC D, dA D)
def sC (D : TD) (v : Int32) : TD := (dQ D, dW D, dT D, dF D, dD D, dM D, v, dA D)
def sA (D : TD) (v : Int32) : TD := (dQ D, dW D, dT D, dF D, dD D, dM D, dC D, v)
def pTurn (s : Nat → Int) (n : Nat) (D : TD) (t : TK) : PR := if dT D = 0 then (match nf (nx s n t) 1 3 with
    | some f => .inl f
    | none => .inr (sT D (tV (nx s n t)), nx s n (nx s n t))) else .inl (flt t 2)
def pFrom (s : Nat → Int) (n : Nat) (D : TD) (t : TK) : PR := if dF D = 0 then (if tK (nx s n t) = 11 then .inr (sF D 3, nx s n (nx s n t)) else if tK (nx s n t) = 12 then .inr (sF D 1, nx s n (nx s n t)) else if tK (nx s n t) = 13 then .inr (sF D 2, nx s n (nx s n t)) else .inl (flt (nx s n t) 2)) else .inl (flt t 2)
def pFac (s : Nat → Int) (n : Nat) (D : TD) (t : TK) : PR := if (dC D).toInt = -1 then (match nf (nx s n t) 0 3 with
    | some f => .inl f
    | none => .inr (sC D (nI (tV (nx s n t))), nx s n (nx s n t))) else .inl (flt t 2)
def pAlo (s : Nat → Int) (n : Nat) (D : TD) (t : TK) : PR := if (dA D).toInt = 0 then .inr (sA D 1, nx s n t) else .inl (flt t 2)
def mset (M : Nat → Nat) (lo hi md : Nat) : Nat → Nat := fun j => if lo ≤ j ∧ j ≤ hi then md else M j
def mfree (M : Nat → Nat) : Nat → Nat → Bool
  | _, 0 => true
  | lo, m + 1 => decide (M lo = 0) && mfree M (lo + 1) m
def pMod2 (s : Nat → Int) (n first md : Nat) (D : TD) (t : TK) : PR := if tK t = 4 then (match nf (nx s n t) first (dQ D - 1) with
    | some f => .inl f
    | none => if mfree (dM D) (first + 1) (tV (nx s n t) - first) = true then .inr (sM D (mset (dM D) (first + 1) (tV (nx s n t)) md), nx s n (nx s n t)) else .inl (flt (nx s n t) 5)) else .inr (D, t)
def pMod1 (s : Nat → Int) (n md : Nat) (D : TD) (t : TK) : PR := match nf t 0 (dQ D - 1) with
    | some f => .inl f
    | none => if dM D (tV t) = 0 then pMod2 s n (tV t) md (sM D (mset (dM D) (tV t) (tV t) md)) (nx s n t) else .inl (flt t 5)
def pModes (s : Nat → Int) (n : Nat) (D : TD) (t : TK) : PR := if tK t = 5 then (if tK (nx s n t) = 10 then pMod1 s n 2 D (nx s n (nx s n t)) else if tK (nx s n t) = 11 then pMod1 s n 3 D (nx s n (nx s n t)) else .inl (flt (nx s n t) 2)) else pMod1 s n 1 D (nx s n t)
/-- what a reading method of the class leaves -/
def PoA (s : Nat → Int) (n : Nat) (A A' : Nat → Nat → Int32) (J J' : Nat → Nat → Int64) (c : Nat) (r : PR) (res : Int32) : Prop := (∀ a y, a ≠ 4 → ¬ (c ≤ a ∧ a ≤ c + 2) → A' a y = A a y) ∧ (∀ a y, ¬ (a = 4 ∧ y = 9) → J' a y = J a y) ∧ (match r with
    | .inl f => res = 0 ∧ A' 4 4 = nI f.1 ∧ A' 4 5 = nI f.2
    | .inr q => res = 1 ∧ ClS s n A' J' q.2 ∧ TrA A' c q.1 ∧ A' 4 4 = A 4 4 ∧ A' 4 5 = A 4 5)
theorem PoA.f {s : Nat → Int} {n : Nat} {A A1 : Nat → Nat → Int32} {J J1 : Nat → Nat → Int64} {c : Nat} {f : Nat × Nat} (h : ∀ a y, a ≠ 4 → ¬ (c ≤ a ∧ a ≤ c + 2) → A1 a y = A a y) (g : ∀ a y, ¬ (a = 4 ∧ y = 9) → J1 a y = J a y) : PoA s n A (tm_u (tm_u A1 4 4 (nI f.1)) 4 5 (nI f.2)) J J1 c (.inl f) 0 := ⟨fun a y u v => by simp (disch := omega) only [tu_same, tu_eq, tu_ne]; exact h a y u v, g, rfl, by simp (disch := omega) only [tu_same, tu_eq, tu_ne], by simp (disch := omega) only [tu_same, tu_eq, tu_ne]⟩
theorem TrA.cl {A A' : Nat → Nat → Int32} {J J' : Nat → Nat → Int64} {c : Nat} {D : TD} (h : TrA A c D) (hc : isT c) (g : clF A A' J J') : TrA A' c D := by
  have := (bk_3 hc (0, 0, 0, 0, 0)).2.2.2.2.2.2.2.1
  exact h.tr (fun a k u v => g.1 a k (by omega))
theorem tra_T {A : Nat → Nat → Int32} {c v : Nat} {D : TD} (h : TrA A c D) : TrA (tm_u A c 5 (nI v)) c (sT D v) := by
  obtain ⟨h1, h2, h3, h4, h5, h6, h7, h8⟩ := h
  exact ⟨by simp (disch := omega) only [h1, tu_same, tu_eq, tu_ne]; rfl, by simp (disch := omega) only [h2, tu_same, tu_eq, tu_ne]; rfl, by simp (disch := omega) only [tu_same, tu_eq, tu_ne]; rfl, by simp (disch := omega) only [h4, tu_same, tu_eq, tu_ne]; rfl, by simp (disch := omega) only [h5, tu_same, tu_eq, tu_ne]; rfl, by simp (disch := omega) only [h6, tu_same, tu_eq, tu_ne]; rfl, fun k hk => by simp (disch := omega) only [tu_same, tu_eq, tu_ne]; exact h7 k hk, fun k hk => by simp (disch := omega) only [tu_same, tu_eq, tu_ne]; exact h8 k hk⟩
theorem tra_F {A : Nat → Nat → Int32} {c v : Nat} {D : TD} (h : TrA A c D) : TrA (tm_u A c 6 (nI v)) c (sF D v) := by
  obtain ⟨h1, h2, h3, h4, h5, h6, h7, h8⟩ := h
  exact ⟨by simp (disch := omega) only [h1, tu_same, tu_eq, tu_ne]; rfl, by simp (disch := omega) only [h2, tu_same, tu_eq, tu_ne]; rfl, by simp (disch := omega) only [h3, tu_same, tu_eq, tu_ne]; rfl, by simp (disch := omega) only [tu_same, tu_eq, tu_ne]; rfl, by simp (disch := omega) only [h5, tu_same, tu_eq, tu_ne]; rfl, by simp (disch := omega) only [h6, tu_same, tu_eq, tu_ne]; rfl, fun k hk => by simp (disch := omega) only [tu_same, tu_eq, tu_ne]; exact h7 k hk, fun k hk => by simp (disch := omega) only [tu_same, tu_eq, tu_ne]; exact h8 k hk⟩
theorem tra_C {A : Nat → Nat → Int32} {c : Nat} {v : Int32} {D : TD} (h : TrA A c D) : TrA (tm_u A c 7 v) c (sC D v) := by
  obtain ⟨h1, h2, h3, h4, h5, h6, h7, h8⟩ := h
  exact ⟨by simp (disch := omega) only [h1, tu_same, tu_eq, tu_ne]; rfl, by simp (disch := omega) only [h2, tu_same, tu_eq, tu_ne]; rfl, by simp (disch := omega) only [h3, tu_same, tu_eq, tu_ne]; rfl, by simp (disch := omega) only [h4, tu_same, tu_eq, tu_ne]; rfl, by simp (disch := omega) only [tu_same, tu_eq, tu_ne]; rfl, by simp (disch := omega) only [h6, tu_same, tu_eq, tu_ne]; rfl, fun k hk => by simp (disch := omega) only [tu_same, tu_eq, tu_ne]; exact h7 k hk, fun k hk => by simp (disch := omega) only [tu_same, tu_eq, tu_ne]; exact h8 k hk⟩
theorem tra_A {A : Nat → Nat → Int32} {c : Nat} {v : Int32} {D : TD} (h : TrA A c D) : TrA (tm_u A c 8 v) c (sA D v) := by
  obtain ⟨h1, h2, h3, h4, h5, h6, h7, h8⟩ := h
  exact ⟨by simp (disch := omega) only [h1, tu_same, tu_eq, tu_ne]; rfl, by simp (disch := omega) only [h2, tu_same, tu_eq, tu_ne]; rfl, by simp (disch := omega) only [h3, tu_same, tu_eq, tu_ne]; rfl, by simp (disch := omega) only [h4, tu_same, tu_eq, tu_ne]; rfl, by simp (disch := omega) only [h5, tu_same, tu_eq, tu_ne]; rfl, by simp (disch := omega) only [tu_same, tu_eq, tu_ne]; rfl, fun k hk => by simp (disch := omega) only [tu_same, tu_eq, tu_ne]; exact h7 k hk, fun k hk => by simp (disch := omega) only [tu_same, tu_eq, tu_ne]; exact h8 k hk⟩
theorem c_45 {τ : tm_Tu} (hτ : τ.2.2.2.2 = 3) {s : Nat → Int} {n cb c : Nat} {A : Nat → Nat → Int32} {J : Nat → Nat → Int64} {t : TK} {D : TD} (h : ClS s n A J t) (hk : tK t ≠ 36) (hc : isT c) (hA : TrA A c D) (hD : dT D ≤ 3) : ∃ A' J' r, F_45 [.ref cb, .ref 4, .ref c] (mk A J τ) = some (some (.int r), mk A' J' τ) ∧ PoA s n A A' J J' c (pTurn s n D t) r := by
  have k1 := (bk_3 hc τ).1
  have k8 := (bk_3 hc τ).2.2.2.2.2.2.2.1
  have h5 := hA.2.2.1
  have r2 : F_30 [.ref 4, .int 2] (mk A J τ) = _ := c_ref (τ := τ) h 2
  unfold pTurn
  rw [e_45]
  by_cases c0 : dT D = 0
  · rw [if_pos c0]
    obtain ⟨A1, J1, g1, g2, g3⟩ := c_adv hτ h hk
    have num : F_36 [.ref 4, .int 1, .int 3] (mk A1 J1 τ) = _ := c_num (τ := τ) (lo := 1) (hi := 3) g2 (by omega) (by omega)
    have hA1 := hA.cl hc g3
    cases hn : nf (nx s n t) 1 3 with
    | some f =>
      rw [hn] at num
      refine ⟨_, J1, 0, ?_, PoA.f (f := f) (fun a y u v => g3.1 a y (by omega)) g3.2⟩
      simp (disch := first | omega | (simp (disch := omega) only [n_ti, Int32.reduceToInt] <;> omega)) only [k1, h5, c0, g1, e_45_17, num, e_45_23, n_add, nl_add, nr_add, n_mul, nl_mul, nr_mul, n_sub, nr_dec, n_div, nr_sub_1, nr_sub_2, nr_sub_3, nr_sub_4, nr_sub_7, nr_sub_10, nr_sub_11, nr_sub_20, nr_sub_48, nr_sub_97, nl_sub_3, nl_sub_4, nl_sub_12, nl_sub_24, nl_sub_32, nr_div_2, nr_div_4, z_lt, z_le, z_eq, z_cl, n_ti, Int.toNat_natCast, Int32.reduceToInt, Int32.reduceToNatClampNeg, zc_add, zc_sub, zc_add_1, zc_add_2, zc_add_3, zc_add_4, zc_add_8, zc_add_10, zc_add_12, zc_add_16, zc_add_20, zc_sub_1, zc_sub_2, zc_sub_4, zc_sub_10, zc_sub_20, zc_sub_48, zc_sub_97, zc_mul_4, t_ltZ, f_ltZ, t_leZ, f_leZ, t_eqZ, f_eqZ, t_ltN, f_ltN, t_leN, f_leN, t_eqN, f_eqN, ↓reduceIte, and_true, true_and, and_false, false_and, and_self, or_true, true_or, or_false, false_or, or_self, not_true_eq_false, not_false_eq_true, tu_same, tu_eq, tu_ne, b_V, b_I, b_J]
    | none =>
      rw [hn] at num
      have hK : tK (nx s n t) = 31 := by
        unfold nf at hn
        by_cases c : tK (nx s n t) = 31
        · exact c
        · rw [if_neg c] at hn; cases hn
      have h8 := g2.2.1.2.2.2.1 (Or.inl hK)
      have g2' : ClS s n (tm_u A1 c 5 (nI (tV (nx s n t)))) J1 (nx s n t) := g2.tr (fun a k u => by simp (disch := omega) only [tu_same, tu_eq, tu_ne]) (fun _ _ _ => rfl)
      obtain ⟨A2, J2, q1, q2, q3⟩ := c_adv hτ g2' (by omega)
      refine ⟨A2, J2, 1, ?_, fun a y u v => ?_, fun a y u => ?_, rfl, q2, (tra_T hA1).cl hc q3, ?_, ?_⟩
      · simp (disch := first | omega | (simp (disch := omega) only [n_ti, Int32.reduceToInt] <;> omega)) only [k1, h5, c0, g1, e_45_17, num, e_45_23, h8, q1, e_45_40, n_add, nl_add, nr_add, n_mul, nl_mul, nr_mul, n_sub, nr_dec, n_div, nr_sub_1, nr_sub_2, nr_sub_3, nr_sub_4, nr_sub_7, nr_sub_10, nr_sub_11, nr_sub_20, nr_sub_48, nr_sub_97, nl_sub_3, nl_sub_4, nl_sub_12, nl_sub_24, nl_sub_32, nr_div_2, nr_div_4, z_lt, z_le, z_eq, z_cl, n_ti, Int.toNat_natCast, Int32.reduceToInt, Int32.reduceToNatClampNeg, zc_add, zc_sub, zc_add_1, zc_add_2, zc_add_3, zc_add_4, zc_add_8, zc_add_10, zc_add_12, zc_add_16, zc_add_20, zc_sub_1, zc_sub_2, zc_sub_4, zc_sub_10, zc_sub_20, zc_sub_48, zc_sub_97, zc_mul_4, t_ltZ, f_ltZ, t_leZ, f_leZ, t_eqZ, f_eqZ, t_ltN, f_ltN, t_leN, f_leN, t_eqN, f_eqN, ↓reduceIte, and_true, true_and, and_false, false_and, and_self, or_true, true_or, or_false, false_or, or_self, not_true_eq_false, not_false_eq_true, tu_same, tu_eq, tu_ne, b_V, b_I, b_J]
      · rw [q3.1 a y (by omega)]
        simp (disch := omega) only [tu_same, tu_eq, tu_ne]
        exact g3.1 a y (by omega)
      · rw [q3.2 a y u, g3.2 a y u]
      · rw [q3.1 4 4 (by omega)]
        simp (disch := omega) only [tu_same, tu_eq, tu_ne]
        exact g3.1 4 4 (by omega)
      · rw [q3.1 4 5 (by omega)]
        simp (disch := omega) only [tu_same, tu_eq, tu_ne]
        exact g3.1 4 5 (by omega)
  · rw [if_neg c0]
    refine ⟨_, J, 0, ?_, PoA.f (f := flt t 2) (fun _ _ _ _ => rfl) (fun _ _ _ => rfl)⟩
    simp (disch := first | omega | (simp (disch := omega) only [n_ti, Int32.reduceToInt] <;> omega)) only [k1, h5, r2, e_45_12, n_add, nl_add, nr_add, n_mul, nl_mul, nr_mul, n_sub, nr_dec, n_div, nr_sub_1, nr_sub_2, nr_sub_3, nr_sub_4, nr_sub_7, nr_sub_10, nr_sub_11, nr_sub_20, nr_sub_48, nr_sub_97, nl_sub_3, nl_sub_4, nl_sub_12, nl_sub_24, nl_sub_32, nr_div_2, nr_div_4, z_lt, z_le, z_eq, z_cl, n_ti, Int.toNat_natCast, Int32.reduceToInt, Int32.reduceToNatClampNeg, zc_add, zc_sub, zc_add_1, zc_add_2, zc_add_3, zc_add_4, zc_add_8, zc_add_10, zc_add_12, zc_add_16, zc_add_20, zc_sub_1, zc_sub_2, zc_sub_4, zc_sub_10, zc_sub_20, zc_sub_48, zc_sub_97, zc_mul_4, t_ltZ, f_ltZ, t_leZ, f_leZ, t_eqZ, f_eqZ, t_ltN, f_ltN, t_leN, f_leN, t_eqN, f_eqN, ↓reduceIte, and_true, true_and, and_false, false_and, and_self, or_true, true_or, or_false, false_or, or_self, not_true_eq_false, not_false_eq_true, tu_same, tu_eq, tu_ne, b_V, b_I, b_J]
theorem c_47 {τ : tm_Tu} (hτ : τ.2.2.2.2 = 3) {s : Nat → Int} {n cb c : Nat} {A : Nat → Nat → Int32} {J : Nat → Nat → Int64} {t : TK} {D : TD} (h : ClS s n A J t) (hk : tK t ≠ 36) (hc : isT c) (hA : TrA A c D) : ∃ A' J' r, F_47 [.ref cb, .ref 4, .ref c] (mk A J τ) = some (some (.int r), mk A' J' τ) ∧ PoA s n A A' J J' c (pFac s n D t) r := by
  have k1 := (bk_3 hc τ).1
  have k8 := (bk_3 hc τ).2.2.2.2.2.2.2.1
  have h7 := hA.2.2.2.2.1
  have r2 : F_30 [.ref 4, .int 2] (mk A J τ) = _ := c_ref (τ := τ) h 2
  unfold pFac
  rw [e_47]
  by_cases c0 : (dC D).toInt = -1
  · rw [if_pos c0]
    obtain ⟨A1, J1, g1, g2, g3⟩ := c_adv hτ h hk
    have num : F_36 [.ref 4, .int 0, .int 3] (mk A1 J1 τ) = _ := c_num (τ := τ) (lo := 0) (hi := 3) g2 (by omega) (by omega)
    have hA1 := hA.cl hc g3
    cases hn : nf (nx s n t) 0 3 with
    | some f =>
      rw [hn] at num
      refine ⟨_, J1, 0, ?_, PoA.f (f := f) (fun a y u v => g3.1 a y (by omega)) g3.2⟩
      simp (disch := first | omega | (simp (disch := omega) only [n_ti, Int32.reduceToInt] <;> omega)) only [k1, h7, c0, g1, e_47_18, num, e_47_24, n_add, nl_add, nr_add, n_mul, nl_mul, nr_mul, n_sub, nr_dec, n_div, nr_sub_1, nr_sub_2, nr_sub_3, nr_sub_4, nr_sub_7, nr_sub_10, nr_sub_11, nr_sub_20, nr_sub_48, nr_sub_97, nl_sub_3, nl_sub_4, nl_sub_12, nl_sub_24, nl_sub_32, nr_div_2, nr_div_4, z_lt, z_le, z_eq, z_cl, n_ti, Int.toNat_natCast, Int32.reduceToInt, Int32.reduceToNatClampNeg, zc_add, zc_sub, zc_add_1, zc_add_2, zc_add_3, zc_add_4, zc_add_8, zc_add_10, zc_add_12, zc_add_16, zc_add_20, zc_sub_1, zc_sub_2, zc_sub_4, zc_sub_10, zc_sub_20, zc_sub_48, zc_sub_97, zc_mul_4, t_ltZ, f_ltZ, t_leZ, f_leZ, t_eqZ, f_eqZ, t_ltN, f_ltN, t_leN, f_leN, t_eqN, f_eqN, ↓reduceIte, and_true, true_and, and_false, false_and, and_self, or_true, true_or, or_false, false_or, or_self, not_true_eq_false, not_false_eq_true, tu_same, tu_eq, tu_ne, b_V, b_I, b_J]
    | none =>
      rw [hn] at num
      have hK : tK (nx s n t) = 31 := by
        unfold nf at hn
        by_cases c : tK (nx s n t) = 31
        · exact c
        · rw [if_neg c] at hn; cases hn
      have h8 := g2.2.1.2.2.2.1 (Or.inl hK)
      have g2' : ClS s n (tm_u A1 c 7 (nI (tV (nx s n t)))) J1 (nx s n t) := g2.tr (fun a k u => by simp (disch := omega) only [tu_same, tu_eq, tu_ne]) (fun _ _ _ => rfl)
      obtain ⟨A2, J2, q1, q2, q3⟩ := c_adv hτ g2' (by omega)
      refine ⟨A2, J2, 1, ?_, fun a y u v => ?_, fun a y u => ?_, rfl, q2, (tra_C hA1).cl hc q3, ?_, ?_⟩
      · simp (disch := first | omega | (simp (disch := omega) only [n_ti, Int32.reduceToInt] <;> omega)) only [k1, h7, c0, g1, e_47_18, num, e_47_24, h8, q1, e_47_41, n_add, nl_add, nr_add, n_mul, nl_mul, nr_mul, n_sub, nr_dec, n_div, nr_sub_1, nr_sub_2, nr_sub_3, nr_sub_4, nr_sub_7, nr_sub_10, nr_sub_11, nr_sub_20, nr_sub_48, nr_sub_97, nl_sub_3, nl_sub_4, nl_sub_12, nl_sub_24, nl_sub_32, nr_div_2, nr_div_4, z_lt, z_le, z_eq, z_cl, n_ti, Int.toNat_natCast, Int32.reduceToInt, Int32.reduceToNatClampNeg, zc_add, zc_sub, zc_add_1, zc_add_2, zc_add_3, zc_add_4, zc_add_8, zc_add_10, zc_add_12, zc_add_16, zc_add_20, zc_sub_1, zc_sub_2, zc_sub_4, zc_sub_10, zc_sub_20, zc_sub_48, zc_sub_97, zc_mul_4, t_ltZ, f_ltZ, t_leZ, f_leZ, t_eqZ, f_eqZ, t_ltN, f_ltN, t_leN, f_leN, t_eqN, f_eqN, ↓reduceIte, and_true, true_and, and_false, false_and, and_self, or_true, true_or, or_false, false_or, or_self, not_true_eq_false, not_false_eq_true, tu_same, tu_eq, tu_ne, b_V, b_I, b_J]
      · rw [q3.1 a y (by omega)]
        simp (disch := omega) only [tu_same, tu_eq, tu_ne]
        exact g3.1 a y (by omega)
      · rw [q3.2 a y u, g3.2 a y u]
      · rw [q3.1 4 4 (by omega)]
        simp (disch := omega) only [tu_same, tu_eq, tu_ne]
        exact g3.1 4 4 (by omega)
      · rw [q3.1 4 5 (by omega)]
        simp (disch := omega) only [tu_same, tu_eq, tu_ne]
        exact g3.1 4 5 (by omega)
  · rw [if_neg c0]
    refine ⟨_, J, 0, ?_, PoA.f (f := flt t 2) (fun _ _ _ _ => rfl) (fun _ _ _ => rfl)⟩
    simp (disch := first | omega | (simp (disch := omega) only [n_ti, Int32.reduceToInt] <;> omega)) only [k1, h7, r2, e_47_13, n_add, nl_add, nr_add, n_mul, nl_mul, nr_mul, n_sub, nr_dec, n_div, nr_sub_1, nr_sub_2, nr_sub_3, nr_sub_4, nr_sub_7, nr_sub_10, nr_sub_11, nr_sub_20, nr_sub_48, nr_sub_97, nl_sub_3, nl_sub_4, nl_sub_12, nl_sub_24, nl_sub_32, nr_div_2, nr_div_4, z_lt, z_le, z_eq, z_cl, n_ti, Int.toNat_natCast, Int32.reduceToInt, Int32.reduceToNatClampNeg, zc_add, zc_sub, zc_add_1, zc_add_2, zc_add_3, zc_add_4, zc_add_8, zc_add_10, zc_add_12, zc_add_16, zc_add_20, zc_sub_1, zc_sub_2, zc_sub_4, zc_sub_10, zc_sub_20, zc_sub_48, zc_sub_97, zc_mul_4, t_ltZ, f_ltZ, t_leZ, f_leZ, t_eqZ, f_eqZ, t_ltN, f_ltN, t_leN, f_leN, t_eqN, f_eqN, ↓reduceIte, and_true, true_and, and_false, false_and, and_self, or_true, true_or, or_false, false_or, or_self, not_true_eq_false, not_false_eq_true, tu_same, tu_eq, tu_ne, b_V, b_I, b_J]
theorem c_48 {τ : tm_Tu} (hτ : τ.2.2.2.2 = 3) {s : Nat → Int} {n cb c : Nat} {A : Nat → Nat → Int32} {J : Nat → Nat → Int64} {t : TK} {D : TD} (h : ClS s n A J t) (hk : tK t ≠ 36) (hc : isT c) (hA : TrA A c D) : ∃ A' J' r, F_48 [.ref cb, .ref 4, .ref c] (mk A J τ) = some (some (.int r), mk A' J' τ) ∧ PoA s n A A' J J' c (pAlo s n D t) r := by
  have k1 := (bk_3 hc τ).1
  have k8 := (bk_3 hc τ).2.2.2.2.2.2.2.1
  have h6 := hA.2.2.2.2.2.1
  have r2 : F_30 [.ref 4, .int 2] (mk A J τ) = _ := c_ref (τ := τ) h 2
  unfold pAlo
  rw [e_48]
  by_cases c0 : (dA D).toInt = 0
  · rw [if_pos c0]
    obtain ⟨A1, J1, g1, g2, g3⟩ := c_adv hτ h hk
    have hA1 := hA.cl hc g3
    refine ⟨tm_u A1 c 8 1, J1, 1, ?_, fun a y u v => ?_, g3.2, rfl, g2.tr (fun a k u => by simp (disch := omega) only [tu_same, tu_eq, tu_ne]) (fun _ _ _ => rfl), tra_A hA1, ?_, ?_⟩
    · simp (disch := first | omega | (simp (disch := omega) only [n_ti, Int32.reduceToInt] <;> omega)) only [k1, h6, c0, g1, e_48_17, n_add, nl_add, nr_add, n_mul, nl_mul, nr_mul, n_sub, nr_dec, n_div, nr_sub_1, nr_sub_2, nr_sub_3, nr_sub_4, nr_sub_7, nr_sub_10, nr_sub_11, nr_sub_20, nr_sub_48, nr_sub_97, nl_sub_3, nl_sub_4, nl_sub_12, nl_sub_24, nl_sub_32, nr_div_2, nr_div_4, z_lt, z_le, z_eq, z_cl, n_ti, Int.toNat_natCast, Int32.reduceToInt, Int32.reduceToNatClampNeg, zc_add, zc_sub, zc_add_1, zc_add_2, zc_add_3, zc_add_4, zc_add_8, zc_add_10, zc_add_12, zc_add_16, zc_add_20, zc_sub_1, zc_sub_2, zc_sub_4, zc_sub_10, zc_sub_20, zc_sub_48, zc_sub_97, zc_mul_4, t_ltZ, f_ltZ, t_leZ, f_leZ, t_eqZ, f_eqZ, t_ltN, f_ltN, t_leN, f_leN, t_eqN, f_eqN, ↓reduceIte, and_true, true_and, and_false, false_and, and_self, or_true, true_or, or_false, false_or, or_self, not_true_eq_false, not_false_eq_true, tu_same, tu_eq, tu_ne, b_V, b_I, b_J]
    · simp (disch := omega) only [tu_same, tu_eq, tu_ne]
      exact g3.1 a y (by omega)
    · simp (disch := omega) only [tu_same, tu_eq, tu_ne]
      exact g3.1 4 4 (by omega)
    · simp (disch := omega) only [tu_same, tu_eq, tu_ne]
      exact g3.1 4 5 (by omega)
  · rw [if_neg c0]
    refine ⟨_, J, 0, ?_, PoA.f (f := flt t 2) (fun _ _ _ _ => rfl) (fun _ _ _ => rfl)⟩
    simp (disch := first | omega | (simp (disch := omega) only [n_ti, Int32.reduceToInt] <;> omega)) only [k1, h6, r2, e_48_12, n_add, nl_add, nr_add, n_mul, nl_mul, nr_mul, n_sub, nr_dec, n_div, nr_sub_1, nr_sub_2, nr_sub_3, nr_sub_4, nr_sub_7, nr_sub_10, nr_sub_11, nr_sub_20, nr_sub_48, nr_sub_97, nl_sub_3, nl_sub_4, nl_sub_12, nl_sub_24, nl_sub_32, nr_div_2, nr_div_4, z_lt, z_le, z_eq, z_cl, n_ti, Int.toNat_natCast, Int32.reduceToInt, Int32.reduceToNatClampNeg, zc_add, zc_sub, zc_add_1, zc_add_2, zc_add_3, zc_add_4, zc_add_8, zc_add_10, zc_add_12, zc_add_16, zc_add_20, zc_sub_1, zc_sub_2, zc_sub_4, zc_sub_10, zc_sub_20, zc_sub_48, zc_sub_97, zc_mul_4, t_ltZ, f_ltZ, t_leZ, f_leZ, t_eqZ, f_eqZ, t_ltN, f_ltN, t_leN, f_leN, t_eqN, f_eqN, ↓reduceIte, and_true, true_and, and_false, false_and, and_self, or_true, true_or, or_false, false_or, or_self, not_true_eq_false, not_false_eq_true, tu_same, tu_eq, tu_ne, b_V, b_I, b_J]
theorem c_46 {τ : tm_Tu} (hτ : τ.2.2.2.2 = 3) {s : Nat → Int} {n cb c : Nat} {A : Nat → Nat → Int32} {J : Nat → Nat → Int64} {t : TK} {D : TD} (h : ClS s n A J t) (hk : tK t ≠ 36) (hc : isT c) (hA : TrA A c D) (hD : dF D ≤ 3) : ∃ A' J' r, F_46 [.ref cb, .ref 4, .ref c] (mk A J τ) = some (some (.int r), mk A' J' τ) ∧ PoA s n A A' J J' c (pFrom s n D t) r := by
  have k1 := (bk_3 hc τ).1
  have k8 := (bk_3 hc τ).2.2.2.2.2.2.2.1
  have h6 := hA.2.2.2.1
  have r2 : F_30 [.ref 4, .int 2] (mk A J τ) = _ := c_ref (τ := τ) h 2
  unfold pFrom
  rw [e_46]
  by_cases c0 : dF D = 0
  · rw [if_pos c0]
    obtain ⟨A1, J1, g1, g2, g3⟩ := c_adv hτ h hk
    have hA1 := hA.cl hc g3
    have k2 := g2.2.1.2.1
    have hK := g2.2.2.2.2.2.2.1
    have r2' : F_30 [.ref 4, .int 2] (mk A1 J1 τ) = _ := c_ref (τ := τ) g2 2
    have fin : ∀ v, (tK (nx s n t) ≠ 36) → ∃ A2 J2, F_28 [.ref 4] (mk (tm_u A1 c 6 (nI v)) J1 τ) = some (none, mk A2 J2 τ) ∧ PoA s n A A2 J J2 c (.inr (sF D v, nx s n (nx s n t))) 1 := by
      intro v hk1
      have g2' : ClS s n (tm_u A1 c 6 (nI v)) J1 (nx s n t) := g2.tr (fun a k u => by simp (disch := omega) only [tu_same, tu_eq, tu_ne]) (fun _ _ _ => rfl)
      obtain ⟨A2, J2, q1, q2, q3⟩ := c_adv hτ g2' hk1
      refine ⟨A2, J2, q1, fun a y u v => ?_, fun a y u => ?_, rfl, q2, (tra_F hA1).cl hc q3, ?_, ?_⟩
      · rw [q3.1 a y (by omega)]
        simp (disch := omega) only [tu_same, tu_eq, tu_ne]
        exact g3.1 a y (by omega)
      · rw [q3.2 a y u, g3.2 a y u]
      · rw [q3.1 4 4 (by omega)]
        simp (disch := omega) only [tu_same, tu_eq, tu_ne]
        exact g3.1 4 4 (by omega)
      · rw [q3.1 4 5 (by omega)]
        simp (disch := omega) only [tu_same, tu_eq, tu_ne]
        exact g3.1 4 5 (by omega)
    by_cases d1 : tK (nx s n t) = 11
    · rw [if_pos d1]
      obtain ⟨A2, J2, q1, q2⟩ := fin 3 (by omega)
      have q1' : F_28 [.ref 4] (mk (tm_u A1 c 6 3) J1 τ) = some (none, mk A2 J2 τ) := q1
      refine ⟨A2, J2, 1, ?_, q2⟩
      simp (disch := first | omega | (simp (disch := omega) only [n_ti, Int32.reduceToInt] <;> omega)) only [k1, h6, c0, g1, e_46_17, k2, d1, e_46_78, q1', e_46_82, n_add, nl_add, nr_add, n_mul, nl_mul, nr_mul, n_sub, nr_dec, n_div, nr_sub_1, nr_sub_2, nr_sub_3, nr_sub_4, nr_sub_7, nr_sub_10, nr_sub_11, nr_sub_20, nr_sub_48, nr_sub_97, nl_sub_3, nl_sub_4, nl_sub_12, nl_sub_24, nl_sub_32, nr_div_2, nr_div_4, z_lt, z_le, z_eq, z_cl, n_ti, Int.toNat_natCast, Int32.reduceToInt, Int32.reduceToNatClampNeg, zc_add, zc_sub, zc_add_1, zc_add_2, zc_add_3, zc_add_4, zc_add_8, zc_add_10, zc_add_12, zc_add_16, zc_add_20, zc_sub_1, zc_sub_2, zc_sub_4, zc_sub_10, zc_sub_20, zc_sub_48, zc_sub_97, zc_mul_4, t_ltZ, f_ltZ, t_leZ, f_leZ, t_eqZ, f_eqZ, t_ltN, f_ltN, t_leN, f_leN, t_eqN, f_eqN, ↓reduceIte, and_true, true_and, and_false, false_and, and_self, or_true, true_or, or_false, false_or, or_self, not_true_eq_false, not_false_eq_true, tu_same, tu_eq, tu_ne, b_V, b_I, b_J]
    · rw [if_neg d1]
      by_cases d2 : tK (nx s n t) = 12
      · rw [if_pos d2]
        obtain ⟨A2, J2, q1, q2⟩ := fin 1 (by omega)
        have q1' : F_28 [.ref 4] (mk (tm_u A1 c 6 1) J1 τ) = some (none, mk A2 J2 τ) := q1
        refine ⟨A2, J2, 1, ?_, q2⟩
        simp (disch := first | omega | (simp (disch := omega) only [n_ti, Int32.reduceToInt] <;> omega)) only [k1, h6, c0, g1, e_46_17, k2, d2, e_46_78, q1', e_46_82, n_add, nl_add, nr_add, n_mul, nl_mul, nr_mul, n_sub, nr_dec, n_div, nr_sub_1, nr_sub_2, nr_sub_3, nr_sub_4, nr_sub_7, nr_sub_10, nr_sub_11, nr_sub_20, nr_sub_48, nr_sub_97, nl_sub_3, nl_sub_4, nl_sub_12, nl_sub_24, nl_sub_32, nr_div_2, nr_div_4, z_lt, z_le, z_eq, z_cl, n_ti, Int.toNat_natCast, Int32.reduceToInt, Int32.reduceToNatClampNeg, zc_add, zc_sub, zc_add_1, zc_add_2, zc_add_3, zc_add_4, zc_add_8, zc_add_10, zc_add_12, zc_add_16, zc_add_20, zc_sub_1, zc_sub_2, zc_sub_4, zc_sub_10, zc_sub_20, zc_sub_48, zc_sub_97, zc_mul_4, t_ltZ, f_ltZ, t_leZ, f_leZ, t_eqZ, f_eqZ, t_ltN, f_ltN, t_leN, f_leN, t_eqN, f_eqN, ↓reduceIte, and_true, true_and, and_false, false_and, and_self, or_true, true_or, or_false, false_or, or_self, not_true_eq_false, not_false_eq_true, tu_same, tu_eq, tu_ne, b_V, b_I, b_J]
      · rw [if_neg d2]
        by_cases d3 : tK (nx s n t) = 13
        · rw [if_pos d3]
          obtain ⟨A2, J2, q1, q2⟩ := fin 2 (by omega)
          have q1' : F_28 [.ref 4] (mk (tm_u A1 c 6 2) J1 τ) = some (none, mk A2 J2 τ) := q1
          refine ⟨A2, J2, 1, ?_, q2⟩
          simp (disch := first | omega | (simp (disch := omega) only [n_ti, Int32.reduceToInt] <;> omega)) only [k1, h6, c0, g1, e_46_17, k2, d3, e_46_78, q1', e_46_82, n_add, nl_add, nr_add, n_mul, nl_mul, nr_mul, n_sub, nr_dec, n_div, nr_sub_1, nr_sub_2, nr_sub_3, nr_sub_4, nr_sub_7, nr_sub_10, nr_sub_11, nr_sub_20, nr_sub_48, nr_sub_97, nl_sub_3, nl_sub_4, nl_sub_12, nl_sub_24, nl_sub_32, nr_div_2, nr_div_4, z_lt, z_le, z_eq, z_cl, n_ti, Int.toNat_natCast, Int32.reduceToInt, Int32.reduceToNatClampNeg, zc_add, zc_sub, zc_add_1, zc_add_2, zc_add_3, zc_add_4, zc_add_8, zc_add_10, zc_add_12, zc_add_16, zc_add_20, zc_sub_1, zc_sub_2, zc_sub_4, zc_sub_10, zc_sub_20, zc_sub_48, zc_sub_97, zc_mul_4, t_ltZ, f_ltZ, t_leZ, f_leZ, t_eqZ, f_eqZ, t_ltN, f_ltN, t_leN, f_leN, t_eqN, f_eqN, ↓reduceIte, and_true, true_and, and_false, false_and, and_self, or_true, true_or, or_false, false_or, or_self, not_true_eq_false, not_false_eq_true, tu_same, tu_eq, tu_ne, b_V, b_I, b_J]
        · rw [if_neg d3]
          refine ⟨_, J1, 0, ?_, PoA.f (f := flt (nx s n t) 2) (fun a y u v => g3.1 a y (by omega)) g3.2⟩
          simp (disch := first | omega | (simp (disch := omega) only [n_ti, Int32.reduceToInt] <;> omega)) only [k1, h6, c0, g1, e_46_17, k2, r2', e_46_77, n_add, nl_add, nr_add, n_mul, nl_mul, nr_mul, n_sub, nr_dec, n_div, nr_sub_1, nr_sub_2, nr_sub_3, nr_sub_4, nr_sub_7, nr_sub_10, nr_sub_11, nr_sub_20, nr_sub_48, nr_sub_97, nl_sub_3, nl_sub_4, nl_sub_12, nl_sub_24, nl_sub_32, nr_div_2, nr_div_4, z_lt, z_le, z_eq, z_cl, n_ti, Int.toNat_natCast, Int32.reduceToInt, Int32.reduceToNatClampNeg, zc_add, zc_sub, zc_add_1, zc_add_2, zc_add_3, zc_add_4, zc_add_8, zc_add_10, zc_add_12, zc_add_16, zc_add_20, zc_sub_1, zc_sub_2, zc_sub_4, zc_sub_10, zc_sub_20, zc_sub_48, zc_sub_97, zc_mul_4, t_ltZ, f_ltZ, t_leZ, f_leZ, t_eqZ, f_eqZ, t_ltN, f_ltN, t_leN, f_leN, t_eqN, f_eqN, ↓reduceIte, and_true, true_and, and_false, false_and, and_self, or_true, true_or, or_false, false_or, or_self, not_true_eq_false, not_false_eq_true, tu_same, tu_eq, tu_ne, b_V, b_I, b_J]
  · rw [if_neg c0]
    refine ⟨_, J, 0, ?_, PoA.f (f := flt t 2) (fun _ _ _ _ => rfl) (fun _ _ _ => rfl)⟩
    simp (disch := first | omega | (simp (disch := omega) only [n_ti, Int32.reduceToInt] <;> omega)) only [k1, h6, r2, e_46_12, n_add, nl_add, nr_add, n_mul, nl_mul, nr_mul, n_sub, nr_dec, n_div, nr_sub_1, nr_sub_2, nr_sub_3, nr_sub_4, nr_sub_7, nr_sub_10, nr_sub_11, nr_sub_20, nr_sub_48, nr_sub_97, nl_sub_3, nl_sub_4, nl_sub_12, nl_sub_24, nl_sub_32, nr_div_2, nr_div_4, z_lt, z_le, z_eq, z_cl, n_ti, Int.toNat_natCast, Int32.reduceToInt, Int32.reduceToNatClampNeg, zc_add, zc_sub, zc_add_1, zc_add_2, zc_add_3, zc_add_4, zc_add_8, zc_add_10, zc_add_12, zc_add_16, zc_add_20, zc_sub_1, zc_sub_2, zc_sub_4, zc_sub_10, zc_sub_20, zc_sub_48, zc_sub_97, zc_mul_4, t_ltZ, f_ltZ, t_leZ, f_leZ, t_eqZ, f_eqZ, t_ltN, f_ltN, t_leN, f_leN, t_eqN, f_eqN, ↓reduceIte, and_true, true_and, and_false, false_and, and_self, or_true, true_or, or_false, false_or, or_self, not_true_eq_false, not_false_eq_true, tu_same, tu_eq, tu_ne, b_V, b_I, b_J]
