/-! run: class and model alike -/
def d1 (l : DL) : Prop := ∀ q, q < l.1.1 → (l.1.2 q).2.2.2.1 ≤ 1
theorem d1_en {D : Nat → TD} {b : Nat} : ∀ m j (X : PS × DL), j + m = 6 → (∀ p, j ≤ p → p < 6 → pM (X.1 p) ≤ 1) → d1 X.2 → d1 (enF D b m j X).2 := by
  intro m
  induction m with
  | zero => intro j X _ _ h; exact h
  | succ m ih =>
    intro j X hj hM h
    show d1 (enF D b m (j + 1) (if fnP D b (X.1 j) = true then (updN X.1 j (enS D (X.1 j)), adD X.2 (pG (X.1 j)) (pT (X.1 j) - 1) j (pM (X.1 j)) (dW (D (pT (X.1 j) - 1)))) else X)).2
    cases hf : fnP D b (X.1 j) with
    | true =>
      rw [if_pos rfl]
      refine ih (j + 1) _ (by omega) (fun p u v => ?_) (fun q u => ?_)
      · show pM (updN X.1 j (enS D (X.1 j)) p) ≤ 1
        rw [updN_n _ _ (by omega)]
        exact hM p (by omega) v
      · show (updN X.2.1.2 X.2.1.1 (pG (X.1 j), pT (X.1 j) - 1, j, pM (X.1 j), _) q).2.2.2.1 ≤ 1
        by_cases e : q = X.2.1.1
        · rw [e, updN_s]; exact hM j (Nat.le_refl _) (by omega)
        · rw [updN_n _ _ e]
          have : q < X.2.1.1 + 1 := u
          exact h q (by omega)
    | false =>
      rw [if_neg Bool.false_ne_true]
      exact ih (j + 1) X (by omega) (fun p u v => hM p (by omega) v) h
theorem d1_bt {n N k stop b : Nat} {D : Nat → TD} {L : Nat → LD} {Z : RS} (hn : n ≤ 12) (hD : DOk n D) (hN : N ≤ 200) (hb : b < N) (hL : LsOk n N k L) (h : Inv n D k L b Z) (hd : d1 (zL Z)) : d1 (zL (btP D stop k L b Z)) := by
  obtain ⟨h1, h2, h3, h4, h5, h6, h7, h8, h9⟩ := h
  unfold btP
  by_cases c : zS Z = 0
  · rw [if_pos c]
    obtain ⟨-, g2⟩ := ln_ok (mb := zM Z) (b := b) hn hD (by omega) hL (k - zI Z) (zI Z) (zX Z) (6 * b) (by omega) h1
    show d1 (s2P D b (lnF D (zM Z) b L (k - zI Z) (zI Z) (zX Z)).2.1 (zL Z)).2
    unfold s2P
    split
    · exact hd
    · exact d1_en 6 0 _ (by omega) (fun p _ v => (st_ok g2.1 hD p v).2.2.2.2.1) hd
  · rw [if_neg c]
    exact hd
theorem d1_rn {n N k stop : Nat} {D : Nat → TD} {L : Nat → LD} (hn : n ≤ 12) (hD : DOk n D) (hN : N ≤ 200) (hL : LsOk n N k L) (hst : stop ≤ 20) : ∀ m b (Z : RS), b + m = N → Inv n D k L b Z → d1 (zL Z) → d1 (zL (rnP D stop k L m b Z)) := by
  intro m
  induction m with
  | zero => intro b Z _ _ h; exact h
  | succ m ih =>
    intro b Z hb hI h
    exact ih (b + 1) _ (by omega) (inv_step hn hD hN (by omega) hL hst hI) (d1_bt hn hD hN (by omega) hL hI h)
theorem CsA.tr {A A' : Nat → Nat → Int32} {b : Nat} {Z : RS} (h : CsA A b Z) (f : ∀ x y, 7 ≤ x → x ≤ 23 → A' x y = A x y) : CsA A' b Z := ⟨⟨h.1.1.tr (fun x y u v => f x y (by omega) (by omega)), h.1.2.1.tr (fun x y u v => f x y (by omega) (by omega)), h.1.2.2.tr (fun x y u => f x y (by omega) (by omega))⟩, h.2.1.tr (fun x y u => f x y (by omega) (by omega)), h.2.2.1.tr (fun x y u => f x y (by omega) (by omega)), (f _ _ (by omega) (by omega)).trans h.2.2.2.1, (f _ _ (by omega) (by omega)).trans h.2.2.2.2⟩
theorem MdB.tr {B B' : Nat → Nat → Int32} {b : Nat} {Z : RS} (h : MdB B b Z) (hb : b ≤ 200) (f : ∀ x y, (151 ≤ x ∧ x ≤ 174) ∨ (x = 131 ∧ 59 ≤ y ∧ y ≤ 66) → B' x y = B x y) : MdB B' b Z := by
  obtain ⟨⟨h1, h2, h3⟩, h4, h5, h6, h7, h8, h9, h10⟩ := h
  exact ⟨⟨h1.tr (fun x y u => f x y (by omega)), h2.tr (fun x y u => f x y (by omega)), h3.tr (fun x y u => f x y (by omega))⟩, h4.tr (fun x y u => f x y (by omega)), h5.tr hb (fun c hc => f _ _ (by omega)) (fun a p c u v w z => f _ _ (by omega)) (fun p i u v => f _ _ (by omega)), (f _ _ (by omega)).trans h6, (f _ _ (by omega)).trans h7, (f _ _ (by omega)).trans h8, (f _ _ (by omega)).trans h9, fun p hp k u v => (f _ _ (by omega)).trans (h10 p hp k u v)⟩
/-- what run leaves as it is -/
def rnFr (x y : Nat) : Prop := ¬ (7 ≤ x ∧ x ≤ 23) ∧ ¬ (151 ≤ x ∧ x ≤ 174) ∧ ¬ (x = 131 ∧ (y = 33 ∨ 59 ≤ y ∧ y ≤ 66))
set_option maxHeartbeats 1000000 in
theorem p_run {I : Nat → Nat → Int32} {J : Nat → Nat → Int64} {τ : tm_Tu} (hB : RBook I J τ) (hR : RRout I τ) (hU : RRules I) (hG : RLog I) : ∃ r I1 I2, F_145 [.ref 2] (mk I J τ) = some (some (.int r), mk I1 J τ) ∧ F_164 [.ref 131] (mk I1 J τ) = some (some (.int r), mk I2 J τ) ∧ RLog I2 ∧ (∀ x y, rnFr x y → I2 x y = I x y) := by
  obtain ⟨bk, n, D, h1, h2, h3, h4, h5, h6, -⟩ := hB
  obtain ⟨r1, r2, r3, rb, r4, r5, r6⟩ := hR
  obtain ⟨u1, u2, u3, u4⟩ := hU
  have hb43 : 43 ≤ τ.1 := by unfold isB at h3; omega
  have ha' : 119 ≤ τ.2.2.1 := by unfold isR at r1; omega
  rcases r6 with ⟨v1, v2⟩ | ⟨v1, v2, kk, N, k, L, v3, v4, ⟨w1, w2, w3⟩, w4, w5, w6, w7, w8, w9, w10⟩
  · refine ⟨-100000, I, I, ?_, ?_, hG, fun _ _ _ => rfl⟩
    · rw [e_145]
      simp (disch := first | omega | (simp (disch := omega) only [n_ti, Int32.reduceToInt] <;> omega)) only [v1, n_add, nl_add, nr_add, n_mul, nl_mul, nr_mul, n_sub, nr_dec, n_div, nr_sub_1, nr_sub_2, nr_sub_3, nr_sub_4, nr_sub_7, nr_sub_10, nr_sub_11, nr_sub_20, nr_sub_48, nr_sub_97, nl_sub_3, nl_sub_4, nl_sub_12, nl_sub_24, nl_sub_32, nr_div_2, nr_div_4, z_lt, z_le, z_eq, z_cl, n_ti, Int.toNat_natCast, Int32.reduceToInt, Int32.reduceToNatClampNeg, zc_add, zc_sub, zc_add_1, zc_add_2, zc_add_3, zc_add_4, zc_add_8, zc_add_10, zc_add_12, zc_add_16, zc_add_20, zc_sub_1, zc_sub_2, zc_sub_4, zc_sub_10, zc_sub_20, zc_sub_48, zc_sub_97, zc_mul_4, t_ltZ, f_ltZ, t_leZ, f_leZ, t_eqZ, f_eqZ, t_ltN, f_ltN, t_leN, f_leN, t_eqN, f_eqN, ↓reduceIte, and_true, true_and, and_false, false_and, and_self, or_true, true_or, or_false, false_or, or_self, not_true_eq_false, not_false_eq_true, tu_same, tu_eq, tu_ne, b_V, b_I, b_J]
    · rw [e_164]
      simp (disch := first | omega | (simp (disch := omega) only [n_ti, Int32.reduceToInt] <;> omega)) only [v2, n_add, nl_add, nr_add, n_mul, nl_mul, nr_mul, n_sub, nr_dec, n_div, nr_sub_1, nr_sub_2, nr_sub_3, nr_sub_4, nr_sub_7, nr_sub_10, nr_sub_11, nr_sub_20, nr_sub_48, nr_sub_97, nl_sub_3, nl_sub_4, nl_sub_12, nl_sub_24, nl_sub_32, nr_div_2, nr_div_4, z_lt, z_le, z_eq, z_cl, n_ti, Int.toNat_natCast, Int32.reduceToInt, Int32.reduceToNatClampNeg, zc_add, zc_sub, zc_add_1, zc_add_2, zc_add_3, zc_add_4, zc_add_8, zc_add_10, zc_add_12, zc_add_16, zc_add_20, zc_sub_1, zc_sub_2, zc_sub_4, zc_sub_10, zc_sub_20, zc_sub_48, zc_sub_97, zc_mul_4, t_ltZ, f_ltZ, t_leZ, f_leZ, t_eqZ, f_eqZ, t_ltN, f_ltN, t_leN, f_leN, t_eqN, f_eqN, ↓reduceIte, and_true, true_and, and_false, false_and, and_self, or_true, true_or, or_false, false_or, or_self, not_true_eq_false, not_false_eq_true, tu_same, tu_eq, tu_ne, b_V, b_I, b_J]
  · have ekk : kk = n := by
      have := v3.symm.trans h5.1
      exact (n_eq (by omega) (by omega)).mp this
    subst ekk
    obtain ⟨stop, s1, s2⟩ := n_of (x := I 2 12) u3
    have s3 : stop ≤ 20 := by
      rw [s2, n_ti s1] at u4
      omega
    obtain ⟨A1, a1, a2, a3, a4, a5, a6⟩ := c_145 (J := J) (τ := τ) h2 h3 r1 h4 w2 w3 w4 s3 v1 s2 h5 w6 w5 w7
    have F1 : ∀ x y, 24 ≤ x → A1 x y = I x y := fun x y q => a6 x y (by omega)
    obtain ⟨B1, b1, b2', b3, b4⟩ := m_164 (I := A1) (J := J) (τ := τ) h2 h1 r4 h4 w2 w3 w4 s3 ((F1 _ _ (by omega)).trans v2) ((F1 _ _ (by omega)).trans (u1.symm.trans s2)) (h6.tr (fun x y q => F1 x y (by omega))) ((F1 _ _ (by omega)).trans r5) ((F1 _ _ (by omega)).trans w8) ((F1 _ _ (by omega)).trans w9) (fun j hj => (w10 j hj).tr (fun x p q => F1 x _ (by omega)))
    obtain ⟨Z, eZ⟩ : ∃ z, z = rnP D stop k L N 0 Rz0 := ⟨_, rfl⟩
    have hd := d1_rn (stop := stop) h2 h4 w2 w4 s3 N 0 Rz0 (by omega) inv_0 (fun q p => by have : q < 0 := p; omega)
    rw [← eZ] at a2 a3 b2' hd
    have er : (B1 131 62) - ((B1 131 35) * (B1 131 60)) = (A1 8 9) - ((A1 2 13) * (A1 8 7)) := by
      rw [a2.2.1.2.2.1, b2'.2.1.2.2.1, a2.1.2.2.1, b2'.1.2.2.1, b4 131 35 (by omega) (by omega), F1 131 35 (by omega), a6 2 13 (by omega), u2]
    have F2 : ∀ x y, ¬ (151 ≤ x ∧ x ≤ 174) → ¬ (x = 131 ∧ (y = 33 ∨ 59 ≤ y ∧ y ≤ 66)) → tm_u B1 131 33 1 x y = A1 x y := fun x y p q => by
      simp (disch := omega) only [tu_same, tu_eq, tu_ne]
      exact b4 x y p (by omega)
    refine ⟨_, A1, tm_u B1 131 33 1, a1, by rw [b1, er], Or.inr ⟨?_, by simp (disch := omega) only [tu_same, tu_eq, tu_ne], N, w2, ?_, by simp (disch := omega) only [b3, tu_same, tu_eq, tu_ne], ?_⟩, fun x y q => ?_⟩
    · rw [F2 8 5 (by omega) (by omega)]; exact a4
    · rw [F2 8 6 (by omega) (by omega)]; exact a5
    · exact log_R w2 w3 a3 (a2.tr (fun x y p q => F2 x y (by omega) (by omega))) (b2'.tr w2 (fun x y p => by simp (disch := omega) only [tu_same, tu_eq, tu_ne])) hd
    · rw [F2 x y q.2.1 q.2.2]
      exact a6 x y q.1
