/-! run: BEAT by BEAT (pure), and by the class -/
abbrev RS : Type := XS × DL × Nat × Nat × Nat × (Nat → Nat × PS) × Nat
abbrev zX (Z : RS) : XS := Z.1
abbrev zL (Z : RS) : DL := Z.2.1
abbrev zM (Z : RS) : Nat := Z.2.2.1
abbrev zS (Z : RS) : Nat := Z.2.2.2.1
abbrev zT (Z : RS) : Nat := Z.2.2.2.2.1
abbrev zR (Z : RS) : Nat → Nat × PS := Z.2.2.2.2.2.1
abbrev zI (Z : RS) : Nat := Z.2.2.2.2.2.2
def lnF (D : Nat → TD) (mb b : Nat) (L : Nat → LD) : Nat → Nat → XS → Nat × XS
  | 0, i, X => (i, X)
  | m + 1, i, X => if (L i).1 ≤ b then lnF D mb b L m (i + 1) (lineP D mb b X (L i)) else (i, X)
def skF (b : Nat) (L : Nat → LD) : Nat → Nat → Nat
  | 0, i => i
  | m + 1, i => if (L i).1 ≤ b then skF b L m (i + 1) else i
def goP (D : Nat → TD) (stop b i : Nat) (X : XS) (Z : RS) : RS := (((s3P D b X.1 X.2.1 (zL Z)).1, (s3P D b X.1 X.2.1 (zL Z)).2, mlP D b X.1 X.2.2), (s2P D b X.1 (zL Z)).2, moP D b X.1, (if brP D b X.1 = true then stop else 0), zT Z, updN (zR Z) b (moP D b X.1, (s3P D b X.1 X.2.1 (zL Z)).1), i)
def btP (D : Nat → TD) (stop k : Nat) (L : Nat → LD) (b : Nat) (Z : RS) : RS := if zS Z = 0 then goP D stop b (lnF D (zM Z) b L (k - zI Z) (zI Z) (zX Z)).1 (lnF D (zM Z) b L (k - zI Z) (zI Z) (zX Z)).2 Z else ((sdF (zX Z).1, (zX Z).2), zL Z, zM Z, zS Z - 1, zT Z + 1, updN (zR Z) b (4, sdF (zX Z).1), skF b L (k - zI Z) (zI Z))
def rcOk (b : Nat) (R : Nat → Nat × PS) : Prop := ∀ c, c < b → (R c).1 ≤ 4 ∧ ∀ p, p < 6 → pkOk ((R c).2 p) ∧ (pT ((R c).2 p) ≠ 0 → pW ((R c).2 p) = 1)
def lnOk (n : Nat) (D : Nat → TD) (b : Nat) (X : XS) (c : Nat) : Prop := SOk n D b X.1 ∧ EOk X.1 X.2.1 ∧ cnt X.1 ≤ 3 ∧ X.2.2.1 ≤ c
def Inv (n : Nat) (D : Nat → TD) (k : Nat) (L : Nat → LD) (b : Nat) (Z : RS) : Prop := lnOk n D b (zX Z) (zI Z + 6 * b) ∧ zM Z ≤ 3 ∧ (zS Z ≠ 0 → ∀ p, pT ((zX Z).1 p) = 0) ∧ zS Z ≤ 20 ∧ zI Z ≤ k ∧ (∀ j, zI Z ≤ j → j < k → b ≤ (L j).1) ∧ lBd (zL Z) (6 * b) ∧ zT Z ≤ b ∧ rcOk b (zR Z)
theorem sk_ok {b : Nat} {L : Nat → LD} {k : Nat} (hs : ∀ j, j + 1 < k → (L j).1 ≤ (L (j + 1)).1) : ∀ m i, i + m = k → i ≤ skF b L m i ∧ skF b L m i ≤ k ∧ (∀ j, skF b L m i ≤ j → j < k → b + 1 ≤ (L j).1) := by
  intro m
  induction m with
  | zero => intro i h; exact ⟨Nat.le_refl _, by show i ≤ k; omega, fun j u v => by have : i ≤ j := u; omega⟩
  | succ m ih =>
    intro i h
    show i ≤ (if (L i).1 ≤ b then skF b L m (i + 1) else i) ∧ (if (L i).1 ≤ b then skF b L m (i + 1) else i) ≤ k ∧ (∀ j, (if (L i).1 ≤ b then skF b L m (i + 1) else i) ≤ j → j < k → b + 1 ≤ (L j).1)
    by_cases c : (L i).1 ≤ b
    · rw [if_pos c]
      obtain ⟨g1, g2, g3⟩ := ih (i + 1) (by omega)
      exact ⟨by omega, g2, g3⟩
    · rw [if_neg c]
      refine ⟨Nat.le_refl _, by omega, fun j => ?_⟩
      induction j with
      | zero =>
        intro u v
        have : i = 0 := by omega
        subst this
        omega
      | succ j ihj =>
        intro u v
        by_cases e : i = j + 1
        · subst e; omega
        · have g := ihj (by omega) (by omega)
          have := hs j v
          omega
theorem ln_ok {n N b mb k : Nat} {D : Nat → TD} {L : Nat → LD} (hn : n ≤ 12) (hD : DOk n D) (hb : b ≤ 1000) (hL : LsOk n N k L) : ∀ m i (X : XS) c, i + m = k → lnOk n D b X (i + c) → (lnF D mb b L m i X).1 = skF b L m i ∧ lnOk n D b (lnF D mb b L m i X).2 (skF b L m i + c) := by
  intro m
  induction m with
  | zero => intro i X c h hX; exact ⟨rfl, hX⟩
  | succ m ih =>
    intro i X c h hX
    show (if (L i).1 ≤ b then lnF D mb b L m (i + 1) (lineP D mb b X (L i)) else (i, X)).1 = (if (L i).1 ≤ b then skF b L m (i + 1) else i) ∧ lnOk n D b (if (L i).1 ≤ b then lnF D mb b L m (i + 1) (lineP D mb b X (L i)) else (i, X)).2 ((if (L i).1 ≤ b then skF b L m (i + 1) else i) + c)
    by_cases d : (L i).1 ≤ b
    · rw [if_pos d, if_pos d]
      obtain ⟨h1, h2, h3, h4⟩ := hX
      obtain ⟨g1, g2, g3, g4⟩ := line_ok (mb := mb) h1 h2 h3 (hL.1 i (by omega)) hb hn hD
      exact ih (i + 1) _ c (by omega) ⟨g1, g2, g3, by omega⟩
    · rw [if_neg d, if_neg d]
      exact ⟨rfl, hX⟩
theorem sOk.pk {n b : Nat} {D : Nat → TD} {s : SP} (h : sOk n D b s) (hn : n ≤ 12) : pkOk s ∧ (pT s ≠ 0 → pW s = 1) := ⟨⟨h.1, h.2.1, h.2.2.1, by have := h.2.2.2.1; omega, h.2.2.2.2.2.2.1⟩, fun u => (h.2.2.2.2.2.1 u).1⟩
theorem rcOk.add {b : Nat} {R : Nat → Nat × PS} {x : Nat × PS} (h : rcOk b R) (h1 : x.1 ≤ 4) (h2 : ∀ p, p < 6 → pkOk (x.2 p) ∧ (pT (x.2 p) ≠ 0 → pW (x.2 p) = 1)) : rcOk (b + 1) (updN R b x) := by
  intro c hc
  by_cases e : c = b
  · subst e; rw [updN_s]; exact ⟨h1, h2⟩
  · rw [updN_n _ _ e]; exact h c (by omega)
theorem inv_step {n N k stop b : Nat} {D : Nat → TD} {L : Nat → LD} {Z : RS} (hn : n ≤ 12) (hD : DOk n D) (hN : N ≤ 200) (hb : b < N) (hL : LsOk n N k L) (hst : stop ≤ 20) (h : Inv n D k L b Z) : Inv n D k L (b + 1) (btP D stop k L b Z) := by
  obtain ⟨h1, h2, h3, h4, h5, h6, h7, h8, h9⟩ := h
  obtain ⟨s1, s2, s3⟩ := sk_ok (b := b) hL.2 (k - zI Z) (zI Z) (by omega)
  unfold btP
  by_cases c : zS Z = 0
  · rw [if_pos c]
    obtain ⟨g1, g2⟩ := ln_ok (mb := zM Z) (b := b) hn hD (by omega) hL (k - zI Z) (zI Z) (zX Z) (6 * b) (by omega) h1
    rw [g1]
    obtain ⟨i, ei⟩ : ∃ z, z = skF b L (k - zI Z) (zI Z) := ⟨_, rfl⟩
    obtain ⟨X, eX⟩ : ∃ z, z = (lnF D (zM Z) b L (k - zI Z) (zI Z) (zX Z)).2 := ⟨_, rfl⟩
    rw [← ei] at g2 s1 s2 s3 ⊢
    rw [← eX] at g2 ⊢
    obtain ⟨u1, u2, u3, u4⟩ := g2
    obtain ⟨o1, o2, o3, o4, o5, o6, o7, o8⟩ := beat_ok (m := X.2.2) u1 u2 u3 hD (by omega) h7
    refine ⟨⟨o1, o2, o3, ?_⟩, mo_le u1 hD, ?_, ?_, s2, s3, o5.le (by omega), by show zT Z ≤ b + 1; omega, ?_⟩
    · show (mlP D b X.1 X.2.2).1 ≤ i + 6 * (b + 1)
      omega
    · show (if brP D b X.1 = true then stop else 0) ≠ 0 → _
      intro u
      cases hbr : brP D b X.1 with
      | true => exact o6 hbr
      | false => rw [hbr, if_neg Bool.false_ne_true] at u; exact absurd rfl u
    · show (if brP D b X.1 = true then stop else 0) ≤ 20
      split <;> omega
    · exact h9.add (by show moP D b X.1 ≤ 4; have := mo_le u1 hD; omega) (fun p hp => (o1 p hp).pk hn)
  · rw [if_neg c]
    obtain ⟨u1, u2, u3, u4⟩ := h1
    have t0 := h3 c
    have hsd : ∀ p, p < 6 → sOk n D (b + 1) (sdS ((zX Z).1 p)) := fun p hp => by
      obtain ⟨w1, w2, w3, w4, w5, w6, w7, w8⟩ := u1 p hp
      exact ⟨w1, w2, w3, w4, w5, fun u => absurd (t0 p) u, by show 0 < 256; omega, w8⟩
    refine ⟨⟨hsd, u2.cg (fun p _ => rfl), ?_, ?_⟩, h2, fun _ p => t0 p, by show zS Z - 1 ≤ 20; omega, s2, s3, h7.le (by omega), by show zT Z + 1 ≤ b + 1; omega, ?_⟩
    · have : inP (sdF (zX Z).1) = inP (zX Z).1 := rfl
      show cntF (inP (sdF (zX Z).1)) 6 0 ≤ 3
      rw [this]
      exact u3
    · show (zX Z).2.2.1 ≤ skF b L (k - zI Z) (zI Z) + 6 * (b + 1)
      omega
    · exact h9.add (by show 4 ≤ 4; omega) (fun p hp => (hsd p hp).pk hn)
/-- the class's memory at a state of the run -/
def CsA (A : Nat → Nat → Int32) (b : Nat) (Z : RS) : Prop := XsA A (zX Z) ∧ DnA A (zL Z) ∧ RcA A b (zR Z) ∧ A 8 10 = nI (zT Z) ∧ A 7 5 = nI (zM Z)
/-- book and routine, as the class holds them -/
def CtA (A : Nat → Nat → Int32) (cb a n N k : Nat) (D : Nat → TD) (L : Nat → LD) : Prop := BkA A cb n D ∧ A a 5 = nI N ∧ A a 6 = nI k ∧ (∀ j, j < k → LnA A a j (L j)) ∧ A 8 6 = nI N
theorem CtA.tr {A A' : Nat → Nat → Int32} {cb a n N k : Nat} {D : Nat → TD} {L : Nat → LD} (h : CtA A cb a n N k D L) (hb : isB cb) (ha : isR a) (hn : n ≤ 12) (f : ∀ x y, 43 ≤ x ∨ (x = 8 ∧ y = 6) → A' x y = A x y) : CtA A' cb a n N k D L := by
  have ha' : 119 ≤ a := by unfold isR at ha; omega
  have hb43 : 43 ≤ cb := by unfold isB at hb; omega
  exact ⟨h.1.tr hn (fun x y u v => f x y (by omega)), (f _ _ (by omega)).trans h.2.1, (f _ _ (by omega)).trans h.2.2.1, fun j hj => (h.2.2.2.1 j hj).tr (fun x y u v => f x y (by omega)), (f _ _ (by omega)).trans h.2.2.2.2⟩
set_option maxHeartbeats 1000000 in
theorem c_lines {J : Nat → Nat → Int64} {τ : tm_Tu} {cb a n N k b mb stop : Nat} {D : Nat → TD} {L : Nat → LD} (hn : n ≤ 12) (hb : isB cb) (ha : isR a) (hD : DOk n D) (hN : N ≤ 200) (hbN : b < N) (hk : k ≤ 60) (hL : LsOk n N k L) (hmb : mb ≤ 3) : ∀ m i (A : Nat → Nat → Int32) (X : XS) c, i + m = k → (∀ j, i ≤ j → j < k → b ≤ (L j).1) → lnOk n D b X (i + c) → c ≤ 20000 → XsA A X → CtA A cb a n N k D L → A 7 5 = nI mb → ∃ A', R_144 45 [(0, .ref 7), (1, .ref cb), (2, .ref a), (3, .int (nI stop)), (4, .int (nI i)), (5, .int (nI 0)), (6, .int (nI b)), (7, .int 0)] [] (mk A J τ) = R_144 85 [(0, .ref 7), (1, .ref cb), (2, .ref a), (3, .int (nI stop)), (4, .int (nI (lnF D mb b L m i X).1)), (5, .int (nI 0)), (6, .int (nI b)), (7, .int 0)] [] (mk A' J τ) ∧ XsA A' (lnF D mb b L m i X).2 ∧ (∀ x y, ¬ (15 ≤ x ∧ x ≤ 23) → ¬ (x = 8 ∧ y = 7) → x ≠ 9 → A' x y = A x y) := by
  obtain ⟨k1, k2, -⟩ := ro_1 ha τ
  obtain ⟨⟨x1, x2⟩, -⟩ := ro_2 ha
  have ha' : 119 ≤ a := by unfold isR at ha; omega
  have a1 : ¬ a + 1 = 1 := by omega
  intro m
  induction m with
  | zero =>
    intro i A X c hi hs hX hc h hC h75
    have h6 := hC.2.2.1
    refine ⟨A, ?_, h, fun _ _ _ _ _ => rfl⟩
    rw [e_144_45]
    show _ = R_144 85 [(0, .ref 7), (1, .ref cb), (2, .ref a), (3, .int (nI stop)), (4, .int (nI i)), (5, .int (nI 0)), (6, .int (nI b)), (7, .int 0)] [] (mk A J τ)
    simp (disch := first | omega | (simp (disch := omega) only [n_ti, Int32.reduceToInt] <;> omega)) only [k1, h6, n_add, nl_add, nr_add, n_mul, nl_mul, nr_mul, n_sub, nr_dec, n_div, nr_sub_1, nr_sub_2, nr_sub_3, nr_sub_4, nr_sub_7, nr_sub_10, nr_sub_11, nr_sub_20, nr_sub_48, nr_sub_97, nl_sub_3, nl_sub_4, nl_sub_12, nl_sub_24, nl_sub_32, nr_div_2, nr_div_4, z_lt, z_le, z_eq, z_cl, n_ti, Int.toNat_natCast, Int32.reduceToInt, Int32.reduceToNatClampNeg, zc_add, zc_sub, zc_add_1, zc_add_2, zc_add_3, zc_add_4, zc_add_8, zc_add_10, zc_add_12, zc_add_16, zc_add_20, zc_sub_1, zc_sub_2, zc_sub_4, zc_sub_10, zc_sub_20, zc_sub_48, zc_sub_97, zc_mul_4, t_ltZ, f_ltZ, t_leZ, f_leZ, t_eqZ, f_eqZ, t_ltN, f_ltN, t_leN, f_leN, t_eqN, f_eqN, ↓reduceIte, and_true, true_and, and_false, false_and, and_self, or_true, true_or, or_false, false_or, or_self, not_true_eq_false, not_false_eq_true, tu_same, tu_eq, tu_ne, b_V, b_I, b_J]
  | succ m ih =>
    intro i A X c hi hs hX hc h hC h75
    have h6 := hC.2.2.1
    have l1 := (hC.2.2.2.1 i (by omega)).1
    have lo := hs i (Nat.le_refl _) (by omega)
    have lN := (hL.1 i (by omega)).1
    by_cases d : (L i).1 ≤ b
    · have e : lnF D mb b L (m + 1) i X = lnF D mb b L m (i + 1) (lineP D mb b X (L i)) := if_pos d
      rw [e]
      have eb : (L i).1 = b := by omega
      obtain ⟨h1, h2, h3, h4⟩ := hX
      obtain ⟨g1, g2, g3, g4⟩ := line_ok (mb := mb) h1 h2 h3 (hL.1 i (by omega)) (by omega) hn hD
      obtain ⟨A1, p1, p2, p3⟩ := c_126 (J := J) (τ := τ) h h1 h2 hb hn hD hC.1 h75 hmb (by omega) ha (show i < 60 by omega) (hC.2.2.2.1 i (by omega)) (hL.1 i (by omega)) eb
      obtain ⟨A2, q1, q2, q3⟩ := ih (i + 1) A1 (lineP D mb b X (L i)) c (by omega) (fun j u v => hs j (by omega) v) ⟨g1, g2, g3, by omega⟩ hc p2 (hC.tr hb ha hn (fun x y u => p3 x y (by omega) (by omega) (by omega))) ((p3 _ _ (by omega) (by omega) (by omega)).trans h75)
      refine ⟨A2, ?_, q2, fun x y u v w => (q3 x y u v w).trans (p3 x y u v w)⟩
      rw [← q1, e_144_45]
      simp (disch := first | omega | (simp (disch := omega) only [n_ti, Int32.reduceToInt] <;> omega)) only [k1, h6, k2, a1, x1, x2, l1, p1, e_144_79, n_add, nl_add, nr_add, n_mul, nl_mul, nr_mul, n_sub, nr_dec, n_div, nr_sub_1, nr_sub_2, nr_sub_3, nr_sub_4, nr_sub_7, nr_sub_10, nr_sub_11, nr_sub_20, nr_sub_48, nr_sub_97, nl_sub_3, nl_sub_4, nl_sub_12, nl_sub_24, nl_sub_32, nr_div_2, nr_div_4, z_lt, z_le, z_eq, z_cl, n_ti, Int.toNat_natCast, Int32.reduceToInt, Int32.reduceToNatClampNeg, zc_add, zc_sub, zc_add_1, zc_add_2, zc_add_3, zc_add_4, zc_add_8, zc_add_10, zc_add_12, zc_add_16, zc_add_20, zc_sub_1, zc_sub_2, zc_sub_4, zc_sub_10, zc_sub_20, zc_sub_48, zc_sub_97, zc_mul_4, t_ltZ, f_ltZ, t_leZ, f_leZ, t_eqZ, f_eqZ, t_ltN, f_ltN, t_leN, f_leN, t_eqN, f_eqN, ↓reduceIte, and_true, true_and, and_false, false_and, and_self, or_true, true_or, or_false, false_or, or_self, not_true_eq_false, not_false_eq_true, tu_same, tu_eq, tu_ne, b_V, b_I, b_J]
    · have e : lnF D mb b L (m + 1) i X = (i, X) := if_neg d
      rw [e]
      refine ⟨A, ?_, h, fun _ _ _ _ _ => rfl⟩
      rw [e_144_45]
      show _ = R_144 85 [(0, .ref 7), (1, .ref cb), (2, .ref a), (3, .int (nI stop)), (4, .int (nI i)), (5, .int (nI 0)), (6, .int (nI b)), (7, .int 0)] [] (mk A J τ)
      simp (disch := first | omega | (simp (disch := omega) only [n_ti, Int32.reduceToInt] <;> omega)) only [k1, h6, k2, a1, x1, x2, l1, n_add, nl_add, nr_add, n_mul, nl_mul, nr_mul, n_sub, nr_dec, n_div, nr_sub_1, nr_sub_2, nr_sub_3, nr_sub_4, nr_sub_7, nr_sub_10, nr_sub_11, nr_sub_20, nr_sub_48, nr_sub_97, nl_sub_3, nl_sub_4, nl_sub_12, nl_sub_24, nl_sub_32, nr_div_2, nr_div_4, z_lt, z_le, z_eq, z_cl, n_ti, Int.toNat_natCast, Int32.reduceToInt, Int32.reduceToNatClampNeg, zc_add, zc_sub, zc_add_1, zc_add_2, zc_add_3, zc_add_4, zc_add_8, zc_add_10, zc_add_12, zc_add_16, zc_add_20, zc_sub_1, zc_sub_2, zc_sub_4, zc_sub_10, zc_sub_20, zc_sub_48, zc_sub_97, zc_mul_4, t_ltZ, f_ltZ, t_leZ, f_leZ, t_eqZ, f_eqZ, t_ltN, f_ltN, t_leN, f_leN, t_eqN, f_eqN, ↓reduceIte, and_true, true_and, and_false, false_and, and_self, or_true, true_or, or_false, false_or, or_self, not_true_eq_false, not_false_eq_true, tu_same, tu_eq, tu_ne, b_V, b_I, b_J]
theorem c_skip {J : Nat → Nat → Int64} {τ : tm_Tu} {cb a n N k b st stop : Nat} {D : Nat → TD} {L : Nat → LD} {A : Nat → Nat → Int32} (ha : isR a) (hN : N ≤ 200) (hbN : b < N) (hk : k ≤ 60) (hL : LsOk n N k L) (hC : CtA A cb a n N k D L) : ∀ m i, i + m = k → R_144 45 [(0, .ref 7), (1, .ref cb), (2, .ref a), (3, .int (nI stop)), (4, .int (nI i)), (5, .int (nI st)), (6, .int (nI b)), (7, .int 1)] [] (mk A J τ) = R_144 85 [(0, .ref 7), (1, .ref cb), (2, .ref a), (3, .int (nI stop)), (4, .int (nI (skF b L m i))), (5, .int (nI st)), (6, .int (nI b)), (7, .int 1)] [] (mk A J τ) := by
  obtain ⟨k1, k2, -⟩ := ro_1 ha τ
  obtain ⟨⟨x1, x2⟩, -⟩ := ro_2 ha
  have ha' : 119 ≤ a := by unfold isR at ha; omega
  have a1 : ¬ a + 1 = 1 := by omega
  have h6 := hC.2.2.1
  intro m
  induction m with
  | zero =>
    intro i hi
    rw [e_144_45]
    show _ = R_144 85 [(0, .ref 7), (1, .ref cb), (2, .ref a), (3, .int (nI stop)), (4, .int (nI i)), (5, .int (nI st)), (6, .int (nI b)), (7, .int 1)] [] (mk A J τ)
    simp (disch := first | omega | (simp (disch := omega) only [n_ti, Int32.reduceToInt] <;> omega)) only [k1, h6, n_add, nl_add, nr_add, n_mul, nl_mul, nr_mul, n_sub, nr_dec, n_div, nr_sub_1, nr_sub_2, nr_sub_3, nr_sub_4, nr_sub_7, nr_sub_10, nr_sub_11, nr_sub_20, nr_sub_48, nr_sub_97, nl_sub_3, nl_sub_4, nl_sub_12, nl_sub_24, nl_sub_32, nr_div_2, nr_div_4, z_lt, z_le, z_eq, z_cl, n_ti, Int.toNat_natCast, Int32.reduceToInt, Int32.reduceToNatClampNeg, zc_add, zc_sub, zc_add_1, zc_add_2, zc_add_3, zc_add_4, zc_add_8, zc_add_10, zc_add_12, zc_add_16, zc_add_20, zc_sub_1, zc_sub_2, zc_sub_4, zc_sub_10, zc_sub_20, zc_sub_48, zc_sub_97, zc_mul_4, t_ltZ, f_ltZ, t_leZ, f_leZ, t_eqZ, f_eqZ, t_ltN, f_ltN, t_leN, f_leN, t_eqN, f_eqN, ↓reduceIte, and_true, true_and, and_false, false_and, and_self, or_true, true_or, or_false, false_or, or_self, not_true_eq_false, not_false_eq_true, tu_same, tu_eq, tu_ne, b_V, b_I, b_J]
  | succ m ih =>
    intro i hi
    have l1 := (hC.2.2.2.1 i (by omega)).1
    have lN := (hL.1 i (by omega)).1
    by_cases d : (L i).1 ≤ b
    · have e : skF b L (m + 1) i = skF b L m (i + 1) := if_pos d
      rw [e, ← ih (i + 1) (by omega), e_144_45]
      simp (disch := first | omega | (simp (disch := omega) only [n_ti, Int32.reduceToInt] <;> omega)) only [k1, h6, k2, a1, x1, x2, l1, e_144_79, n_add, nl_add, nr_add, n_mul, nl_mul, nr_mul, n_sub, nr_dec, n_div, nr_sub_1, nr_sub_2, nr_sub_3, nr_sub_4, nr_sub_7, nr_sub_10, nr_sub_11, nr_sub_20, nr_sub_48, nr_sub_97, nl_sub_3, nl_sub_4, nl_sub_12, nl_sub_24, nl_sub_32, nr_div_2, nr_div_4, z_lt, z_le, z_eq, z_cl, n_ti, Int.toNat_natCast, Int32.reduceToInt, Int32.reduceToNatClampNeg, zc_add, zc_sub, zc_add_1, zc_add_2, zc_add_3, zc_add_4, zc_add_8, zc_add_10, zc_add_12, zc_add_16, zc_add_20, zc_sub_1, zc_sub_2, zc_sub_4, zc_sub_10, zc_sub_20, zc_sub_48, zc_sub_97, zc_mul_4, t_ltZ, f_ltZ, t_leZ, f_leZ, t_eqZ, f_eqZ, t_ltN, f_ltN, t_leN, f_leN, t_eqN, f_eqN, ↓reduceIte, and_true, true_and, and_false, false_and, and_self, or_true, true_or, or_false, false_or, or_self, not_true_eq_false, not_false_eq_true, tu_same, tu_eq, tu_ne, b_V, b_I, b_J]
    · have e : skF b L (m + 1) i = i := if_neg d
      rw [e, e_144_45]
      simp (disch := first | omega | (simp (disch := omega) only [n_ti, Int32.reduceToInt] <;> omega)) only [k1, h6, k2, a1, x1, x2, l1, n_add, nl_add, nr_add, n_mul, nl_mul, nr_mul, n_sub, nr_dec, n_div, nr_sub_1, nr_sub_2, nr_sub_3, nr_sub_4, nr_sub_7, nr_sub_10, nr_sub_11, nr_sub_20, nr_sub_48, nr_sub_97, nl_sub_3, nl_sub_4, nl_sub_12, nl_sub_24, nl_sub_32, nr_div_2, nr_div_4, z_lt, z_le, z_eq, z_cl, n_ti, Int.toNat_natCast, Int32.reduceToInt, Int32.reduceToNatClampNeg, zc_add, zc_sub, zc_add_1, zc_add_2, zc_add_3, zc_add_4, zc_add_8, zc_add_10, zc_add_12, zc_add_16, zc_add_20, zc_sub_1, zc_sub_2, zc_sub_4, zc_sub_10, zc_sub_20, zc_sub_48, zc_sub_97, zc_mul_4, t_ltZ, f_ltZ, t_leZ, f_leZ, t_eqZ, f_eqZ, t_ltN, f_ltN, t_leN, f_leN, t_eqN, f_eqN, ↓reduceIte, and_true, true_and, and_false, false_and, and_self, or_true, true_or, or_false, false_or, or_self, not_true_eq_false, not_false_eq_true, tu_same, tu_eq, tu_ne, b_V, b_I, b_J]
set_option maxHeartbeats 1000000 in
theorem c_beat {A : Nat → Nat → Int32} {J : Nat → Nat → Int64} {τ : tm_Tu} {cb a n N k b stop : Nat} {D : Nat → TD} {L : Nat → LD} {Z : RS} (hn : n ≤ 12) (hb : isB cb) (ha : isR a) (hD : DOk n D) (hN : N ≤ 200) (hbN : b < N) (hk : k ≤ 60) (hL : LsOk n N k L) (hst : stop ≤ 20) (hI : Inv n D k L b Z) (h : CsA A b Z) (hC : CtA A cb a n N k D L) : ∃ A', R_144 24 [(0, .ref 7), (1, .ref cb), (2, .ref a), (3, .int (nI stop)), (4, .int (nI (zI Z))), (5, .int (nI (zS Z))), (6, .int (nI b))] [] (mk A J τ) = R_144 24 [(0, .ref 7), (1, .ref cb), (2, .ref a), (3, .int (nI stop)), (4, .int (nI (zI (btP D stop k L b Z)))), (5, .int (nI (zS (btP D stop k L b Z)))), (6, .int (nI (b + 1)))] [] (mk A' J τ) ∧ CsA A' (b + 1) (btP D stop k L b Z) ∧ fRn A A' := by
  obtain ⟨i1, i2, i3, i4, i5, i6, i7, i8, i9⟩ := id hI
  obtain ⟨hX, hL', hR, hs, h75⟩ := h
  obtain ⟨k1, -⟩ := ro_1 ha τ
  have h5 := hC.2.1
  have ok := inv_step hn hD hN hbN hL hst hI
  unfold btP at ok ⊢
  by_cases c : zS Z = 0
  · rw [if_pos c] at ok ⊢
    obtain ⟨A1, p1, p2, p3⟩ := c_lines (J := J) (τ := τ) (stop := stop) hn hb ha hD hN hbN hk hL i2 (k - zI Z) (zI Z) A (zX Z) (6 * b) (by omega) i6 i1 (by omega) hX hC h75
    obtain ⟨-, g2⟩ := ln_ok (mb := zM Z) (b := b) hn hD (by omega) hL (k - zI Z) (zI Z) (zX Z) (6 * b) (by omega) i1
    obtain ⟨s1, s2, -⟩ := sk_ok (b := b) hL.2 (k - zI Z) (zI Z) (by omega)
    obtain ⟨i, ei⟩ : ∃ z, z = (lnF D (zM Z) b L (k - zI Z) (zI Z) (zX Z)).1 := ⟨_, rfl⟩
    obtain ⟨X, eX⟩ : ∃ z, z = (lnF D (zM Z) b L (k - zI Z) (zI Z) (zX Z)).2 := ⟨_, rfl⟩
    rw [← ei] at p1 ok ⊢
    rw [← eX] at p2 g2 ok ⊢
    obtain ⟨u1, u2, u3, u4⟩ := g2
    have hpk : ∀ p, p < 6 → pkOk ((s3P D b X.1 X.2.1 (zL Z)).1 p) := fun p hp => ((ok.1.1 p hp).pk hn).1
    obtain ⟨A2, q1, q2, q3, q4, q5, q6, q7, q8, q9⟩ := c_143 (J := J) (τ := τ) (N := N) (stl := zT Z) (c := 6 * b) (R := zR Z) p2.1 p2.2.1 p2.2.2 (hL'.tr (fun x y u => p3 x y (by omega) (by omega) (by omega))) (hR.tr (fun x y u => p3 x y (by omega) (by omega) (by omega))) ((p3 _ _ (by omega) (by omega) (by omega)).trans hs) u1 (fun e he => ⟨(u2 e he).1, (u2 e he).2.1, (u2 e he).2.2.1⟩) hn hb hD ((hC.tr hb ha hn (fun x y u => p3 x y (by omega) (by omega) (by omega))).1) ((p3 _ _ (by omega) (by omega) (by omega)).trans hC.2.2.2.2) hN hbN (by omega) i7 (by omega) hpk
    refine ⟨A2, ?_, ⟨⟨q2, q3, q4⟩, q5, q6, q7, q8⟩, fun x y v1 v2 v3 v4 => (q9 x y v1 v2 v3 v4).trans (p3 x y v4 (by omega) (by omega))⟩
    have pre : R_144 24 [(0, .ref 7), (1, .ref cb), (2, .ref a), (3, .int (nI stop)), (4, .int (nI (zI Z))), (5, .int (nI (zS Z))), (6, .int (nI b))] [] (mk A J τ) = R_144 85 [(0, .ref 7), (1, .ref cb), (2, .ref a), (3, .int (nI stop)), (4, .int (nI i)), (5, .int (nI 0)), (6, .int (nI b)), (7, .int 0)] [] (mk A1 J τ) := by
      rw [← p1, c, e_144_24]
      simp (disch := first | omega | (simp (disch := omega) only [n_ti, Int32.reduceToInt] <;> omega)) only [k1, h5, e_144_43, n_add, nl_add, nr_add, n_mul, nl_mul, nr_mul, n_sub, nr_dec, n_div, nr_sub_1, nr_sub_2, nr_sub_3, nr_sub_4, nr_sub_7, nr_sub_10, nr_sub_11, nr_sub_20, nr_sub_48, nr_sub_97, nl_sub_3, nl_sub_4, nl_sub_12, nl_sub_24, nl_sub_32, nr_div_2, nr_div_4, z_lt, z_le, z_eq, z_cl, n_ti, Int.toNat_natCast, Int32.reduceToInt, Int32.reduceToNatClampNeg, zc_add, zc_sub, zc_add_1, zc_add_2, zc_add_3, zc_add_4, zc_add_8, zc_add_10, zc_add_12, zc_add_16, zc_add_20, zc_sub_1, zc_sub_2, zc_sub_4, zc_sub_10, zc_sub_20, zc_sub_48, zc_sub_97, zc_mul_4, t_ltZ, f_ltZ, t_leZ, f_leZ, t_eqZ, f_eqZ, t_ltN, f_ltN, t_leN, f_leN, t_eqN, f_eqN, ↓reduceIte, and_true, true_and, and_false, false_and, and_self, or_true, true_or, or_false, false_or, or_self, not_true_eq_false, not_false_eq_true, tu_same, tu_eq, tu_ne, b_V, b_I, b_J]
    rw [pre, e_144_85]
    show _ = R_144 24 [(0, .ref 7), (1, .ref cb), (2, .ref a), (3, .int (nI stop)), (4, .int (nI i)), (5, .int (nI (if brP D b X.1 = true then stop else 0))), (6, .int (nI (b + 1)))] [] (mk A2 J τ)
    cases hbr : brP D b X.1 with
    | true =>
      rw [hbr, b2t] at q1
      rw [if_pos rfl]
      simp (disch := first | omega | (simp (disch := omega) only [n_ti, Int32.reduceToInt] <;> omega)) only [q1, e_144_109, e_144_115, n_add, nl_add, nr_add, n_mul, nl_mul, nr_mul, n_sub, nr_dec, n_div, nr_sub_1, nr_sub_2, nr_sub_3, nr_sub_4, nr_sub_7, nr_sub_10, nr_sub_11, nr_sub_20, nr_sub_48, nr_sub_97, nl_sub_3, nl_sub_4, nl_sub_12, nl_sub_24, nl_sub_32, nr_div_2, nr_div_4, z_lt, z_le, z_eq, z_cl, n_ti, Int.toNat_natCast, Int32.reduceToInt, Int32.reduceToNatClampNeg, zc_add, zc_sub, zc_add_1, zc_add_2, zc_add_3, zc_add_4, zc_add_8, zc_add_10, zc_add_12, zc_add_16, zc_add_20, zc_sub_1, zc_sub_2, zc_sub_4, zc_sub_10, zc_sub_20, zc_sub_48, zc_sub_97, zc_mul_4, t_ltZ, f_ltZ, t_leZ, f_leZ, t_eqZ, f_eqZ, t_ltN, f_ltN, t_leN, f_leN, t_eqN, f_eqN, ↓reduceIte, and_true, true_and, and_false, false_and, and_self, or_true, true_or, or_false, false_or, or_self, not_true_eq_false, not_false_eq_true, tu_same, tu_eq, tu_ne, b_V, b_I, b_J]
    | false =>
      rw [hbr, b2f] at q1
      rw [if_neg Bool.false_ne_true]
      simp (disch := first | omega | (simp (disch := omega) only [n_ti, Int32.reduceToInt] <;> omega)) only [q1, e_144_109, e_144_115, n_add, nl_add, nr_add, n_mul, nl_mul, nr_mul, n_sub, nr_dec, n_div, nr_sub_1, nr_sub_2, nr_sub_3, nr_sub_4, nr_sub_7, nr_sub_10, nr_sub_11, nr_sub_20, nr_sub_48, nr_sub_97, nl_sub_3, nl_sub_4, nl_sub_12, nl_sub_24, nl_sub_32, nr_div_2, nr_div_4, z_lt, z_le, z_eq, z_cl, n_ti, Int.toNat_natCast, Int32.reduceToInt, Int32.reduceToNatClampNeg, zc_add, zc_sub, zc_add_1, zc_add_2, zc_add_3, zc_add_4, zc_add_8, zc_add_10, zc_add_12, zc_add_16, zc_add_20, zc_sub_1, zc_sub_2, zc_sub_4, zc_sub_10, zc_sub_20, zc_sub_48, zc_sub_97, zc_mul_4, t_ltZ, f_ltZ, t_leZ, f_leZ, t_eqZ, f_eqZ, t_ltN, f_ltN, t_leN, f_leN, t_eqN, f_eqN, ↓reduceIte, and_true, true_and, and_false, false_and, and_self, or_true, true_or, or_false, false_or, or_self, not_true_eq_false, not_false_eq_true, tu_same, tu_eq, tu_ne, b_V, b_I, b_J]
  · rw [if_neg c] at ok ⊢
    have sk := c_skip (J := J) (τ := τ) (st := zS Z) (stop := stop) ha hN hbN hk hL hC (k - zI Z) (zI Z) (by omega)
    obtain ⟨A2, q1, q2, q3, q4, q5⟩ := c_128 (J := J) (τ := τ) (N := N) (stl := zT Z) (R := zR Z) hX.1 (fun p hp => ((i1.1 p hp).pk hn).1) hC.2.2.2.2 hN hbN hR hs
    refine ⟨A2, ?_, ⟨⟨q2, hX.2.1.tr (fun x y u v => q5 x y (by omega) (by omega) (by omega) (by omega)), hX.2.2.tr (fun x y u => q5 x y (by omega) (by omega) (by omega) (by omega))⟩, hL'.tr (fun x y u => q5 x y (by omega) (by omega) (by omega) (by omega)), q3, q4, (q5 _ _ (by omega) (by omega) (by omega) (by omega)).trans h75⟩, fun x y v1 v2 v3 v4 => q5 x y (by omega) (by omega) (by omega) (by omega)⟩
    have pre : R_144 24 [(0, .ref 7), (1, .ref cb), (2, .ref a), (3, .int (nI stop)), (4, .int (nI (zI Z))), (5, .int (nI (zS Z))), (6, .int (nI b))] [] (mk A J τ) = R_144 85 [(0, .ref 7), (1, .ref cb), (2, .ref a), (3, .int (nI stop)), (4, .int (nI (skF b L (k - zI Z) (zI Z)))), (5, .int (nI (zS Z))), (6, .int (nI b)), (7, .int 1)] [] (mk A J τ) := by
      rw [← sk, e_144_24]
      simp (disch := first | omega | (simp (disch := omega) only [n_ti, Int32.reduceToInt] <;> omega)) only [k1, h5, e_144_43, n_add, nl_add, nr_add, n_mul, nl_mul, nr_mul, n_sub, nr_dec, n_div, nr_sub_1, nr_sub_2, nr_sub_3, nr_sub_4, nr_sub_7, nr_sub_10, nr_sub_11, nr_sub_20, nr_sub_48, nr_sub_97, nl_sub_3, nl_sub_4, nl_sub_12, nl_sub_24, nl_sub_32, nr_div_2, nr_div_4, z_lt, z_le, z_eq, z_cl, n_ti, Int.toNat_natCast, Int32.reduceToInt, Int32.reduceToNatClampNeg, zc_add, zc_sub, zc_add_1, zc_add_2, zc_add_3, zc_add_4, zc_add_8, zc_add_10, zc_add_12, zc_add_16, zc_add_20, zc_sub_1, zc_sub_2, zc_sub_4, zc_sub_10, zc_sub_20, zc_sub_48, zc_sub_97, zc_mul_4, t_ltZ, f_ltZ, t_leZ, f_leZ, t_eqZ, f_eqZ, t_ltN, f_ltN, t_leN, f_leN, t_eqN, f_eqN, ↓reduceIte, and_true, true_and, and_false, false_and, and_self, or_true, true_or, or_false, false_or, or_self, not_true_eq_false, not_false_eq_true, tu_same, tu_eq, tu_ne, b_V, b_I, b_J]
    rw [pre, e_144_85]
    show _ = R_144 24 [(0, .ref 7), (1, .ref cb), (2, .ref a), (3, .int (nI stop)), (4, .int (nI (skF b L (k - zI Z) (zI Z)))), (5, .int (nI (zS Z - 1))), (6, .int (nI (b + 1)))] [] (mk A2 J τ)
    simp (disch := first | omega | (simp (disch := omega) only [n_ti, Int32.reduceToInt] <;> omega)) only [q1, e_144_99, e_144_115, n_add, nl_add, nr_add, n_mul, nl_mul, nr_mul, n_sub, nr_dec, n_div, nr_sub_1, nr_sub_2, nr_sub_3, nr_sub_4, nr_sub_7, nr_sub_10, nr_sub_11, nr_sub_20, nr_sub_48, nr_sub_97, nl_sub_3, nl_sub_4, nl_sub_12, nl_sub_24, nl_sub_32, nr_div_2, nr_div_4, z_lt, z_le, z_eq, z_cl, n_ti, Int.toNat_natCast, Int32.reduceToInt, Int32.reduceToNatClampNeg, zc_add, zc_sub, zc_add_1, zc_add_2, zc_add_3, zc_add_4, zc_add_8, zc_add_10, zc_add_12, zc_add_16, zc_add_20, zc_sub_1, zc_sub_2, zc_sub_4, zc_sub_10, zc_sub_20, zc_sub_48, zc_sub_97, zc_mul_4, t_ltZ, f_ltZ, t_leZ, f_leZ, t_eqZ, f_eqZ, t_ltN, f_ltN, t_leN, f_leN, t_eqN, f_eqN, ↓reduceIte, and_true, true_and, and_false, false_and, and_self, or_true, true_or, or_false, false_or, or_self, not_true_eq_false, not_false_eq_true, tu_same, tu_eq, tu_ne, b_V, b_I, b_J]
def rnP (D : Nat → TD) (stop k : Nat) (L : Nat → LD) : Nat → Nat → RS → RS
  | 0, _, Z => Z
  | m + 1, b, Z => rnP D stop k L m (b + 1) (btP D stop k L b Z)
theorem fRn.then {A A1 A2 : Nat → Nat → Int32} (h : fRn A A1) (g : fRn A1 A2) : fRn A A2 := fun x y u v w z => (g x y u v w z).trans (h x y u v w z)
theorem c_run {J : Nat → Nat → Int64} {τ : tm_Tu} {cb a n N k stop : Nat} {D : Nat → TD} {L : Nat → LD} (hn : n ≤ 12) (hb : isB cb) (ha : isR a) (hD : DOk n D) (hN : N ≤ 200) (hk : k ≤ 60) (hL : LsOk n N k L) (hst : stop ≤ 20) : ∀ m b (A : Nat → Nat → Int32) (Z : RS), b + m = N → Inv n D k L b Z → CsA A b Z → CtA A cb a n N k D L → ∃ A', R_144 24 [(0, .ref 7), (1, .ref cb), (2, .ref a), (3, .int (nI stop)), (4, .int (nI (zI Z))), (5, .int (nI (zS Z))), (6, .int (nI b))] [] (mk A J τ) = some (none, mk A' J τ) ∧ CsA A' N (rnP D stop k L m b Z) ∧ Inv n D k L N (rnP D stop k L m b Z) ∧ fRn A A' := by
  obtain ⟨k1, -⟩ := ro_1 ha τ
  have ha' : 119 ≤ a := by unfold isR at ha; omega
  intro m
  induction m with
  | zero =>
    intro b A Z hbN hI h hC
    have e : b = N := by omega
    subst e
    have h5 := hC.2.1
    refine ⟨A, ?_, h, hI, fun _ _ _ _ _ _ => rfl⟩
    rw [e_144_24]
    simp (disch := first | omega | (simp (disch := omega) only [n_ti, Int32.reduceToInt] <;> omega)) only [k1, h5, n_add, nl_add, nr_add, n_mul, nl_mul, nr_mul, n_sub, nr_dec, n_div, nr_sub_1, nr_sub_2, nr_sub_3, nr_sub_4, nr_sub_7, nr_sub_10, nr_sub_11, nr_sub_20, nr_sub_48, nr_sub_97, nl_sub_3, nl_sub_4, nl_sub_12, nl_sub_24, nl_sub_32, nr_div_2, nr_div_4, z_lt, z_le, z_eq, z_cl, n_ti, Int.toNat_natCast, Int32.reduceToInt, Int32.reduceToNatClampNeg, zc_add, zc_sub, zc_add_1, zc_add_2, zc_add_3, zc_add_4, zc_add_8, zc_add_10, zc_add_12, zc_add_16, zc_add_20, zc_sub_1, zc_sub_2, zc_sub_4, zc_sub_10, zc_sub_20, zc_sub_48, zc_sub_97, zc_mul_4, t_ltZ, f_ltZ, t_leZ, f_leZ, t_eqZ, f_eqZ, t_ltN, f_ltN, t_leN, f_leN, t_eqN, f_eqN, ↓reduceIte, and_true, true_and, and_false, false_and, and_self, or_true, true_or, or_false, false_or, or_self, not_true_eq_false, not_false_eq_true, tu_same, tu_eq, tu_ne, b_V, b_I, b_J]
  | succ m ih =>
    intro b A Z hbN hI h hC
    obtain ⟨A1, g1, g2, g3⟩ := c_beat (J := J) (τ := τ) hn hb ha hD hN (show b < N by omega) hk hL hst hI h hC
    obtain ⟨A2, p1, p2, p3, p4⟩ := ih (b + 1) A1 (btP D stop k L b Z) (by omega) (inv_step hn hD hN (by omega) hL hst hI) g2 (hC.tr hb ha hn (fun x y u => g3 x y (by omega) (by omega) (by omega) (by omega)))
    exact ⟨A2, g1.trans p1, p2, p3, g3.then p4⟩
