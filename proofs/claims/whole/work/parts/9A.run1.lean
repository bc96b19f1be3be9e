/-! run: BEAT by BEAT (model) -/
def RcB (B : Nat → Nat → Int32) (q : Nat) (R : Nat → Nat × PS) : Prop := ∀ c, c < q → B 159 c = nI (R c).1 ∧ ∀ p, p < 6 → CeB B c p ((R c).2 p) ∧ FeR B c p ((R c).2 p)
def MdB (B : Nat → Nat → Int32) (b : Nat) (Z : RS) : Prop := XsB B b (zX Z) ∧ DnB B (zL Z) ∧ RcB B b (zR Z) ∧ B 131 63 = nI (zT Z) ∧ B 131 65 = nI (zM Z) ∧ B 131 66 = nI (zS Z) ∧ B 131 59 = nI b ∧ FeB B b
def CtB (B : Nat → Nat → Int32) (bk rb n N k stop : Nat) (D : Nat → TD) (L : Nat → LD) : Prop := BkB B bk n D ∧ B 131 64 = nI N ∧ (∀ j, j < k → LnB B (60 * rb + j) (L j)) ∧ B 131 34 = nI stop
theorem CtB.tr {B B' : Nat → Nat → Int32} {bk rb n N k stop : Nat} {D : Nat → TD} {L : Nat → LD} (h : CtB B bk rb n N k stop D L) (f : ∀ x y, (135 ≤ x ∧ x ≤ 150) ∨ (x = 131 ∧ (y = 21 ∨ y = 34 ∨ y = 64)) → B' x y = B x y) : CtB B' bk rb n N k stop D L := ⟨h.1.tr (fun x y u => f x y (by omega)), (f _ _ (by omega)).trans h.2.1, fun j hj => (h.2.2.1 j hj).tr (fun x u v => f x _ (by omega)), (f _ _ (by omega)).trans h.2.2.2⟩
/-- what a BEAT may change (model) -/
def fMd (B B' : Nat → Nat → Int32) : Prop := ∀ x y, ¬ (151 ≤ x ∧ x ≤ 174) → ¬ (x = 131 ∧ 59 ≤ y ∧ y ≤ 66 ∧ y ≠ 64) → B' x y = B x y
set_option maxHeartbeats 1000000 in
theorem m_lines {J : Nat → Nat → Int64} {τ : tm_Tu} {bk rb n N k b mb stop : Nat} {D : Nat → TD} {L : Nat → LD} (hn : n ≤ 12) (hbk : bk < 2) (hrb : rb < 2) (hD : DOk n D) (hN : N ≤ 200) (hbN : b < N) (hk : k ≤ 60) (hL : LsOk n N k L) (hmb : mb ≤ 3) : ∀ m i (B : Nat → Nat → Int32) (X : XS) c, i + m = k → (∀ j, i ≤ j → j < k → b ≤ (L j).1) → lnOk n D b X (i + c) → c ≤ 20000 → XsB B b X → CtB B bk rb n N k stop D L → B 131 65 = nI mb → B 131 59 = nI b → ∃ B', R_164 77 [(0, .ref 131), (1, .int (nI (60 * rb + i))), (2, .int (nI (60 * rb + k))), (3, .int 0)] [] (mk B J τ) = R_164 145 [(0, .ref 131), (1, .int (nI (60 * rb + (lnF D mb b L m i X).1))), (2, .int (nI (60 * rb + k))), (3, .int 0)] [] (mk B' J τ) ∧ XsB B' b (lnF D mb b L m i X).2 ∧ (∀ x y, ¬ (151 ≤ x ∧ x ≤ 157) → ¬ (165 ≤ x ∧ x ≤ 167) → x ≠ 172 → x ≠ 174 → ¬ (x = 131 ∧ y = 60) → B' x y = B x y) := by
  intro m
  induction m with
  | zero =>
    intro i B X c hi hs hX hc h hC h65 h59
    refine ⟨B, ?_, h, fun _ _ _ _ _ _ _ => rfl⟩
    rw [e_164_77]
    show _ = R_164 145 [(0, .ref 131), (1, .int (nI (60 * rb + i))), (2, .int (nI (60 * rb + k))), (3, .int 0)] [] (mk B J τ)
    simp (disch := first | omega | (simp (disch := omega) only [n_ti, Int32.reduceToInt] <;> omega)) only [n_add, nl_add, nr_add, n_mul, nl_mul, nr_mul, n_sub, nr_dec, n_div, nr_sub_1, nr_sub_2, nr_sub_3, nr_sub_4, nr_sub_7, nr_sub_10, nr_sub_11, nr_sub_20, nr_sub_48, nr_sub_97, nl_sub_3, nl_sub_4, nl_sub_12, nl_sub_24, nl_sub_32, nr_div_2, nr_div_4, z_lt, z_le, z_eq, z_cl, n_ti, Int.toNat_natCast, Int32.reduceToInt, Int32.reduceToNatClampNeg, zc_add, zc_sub, zc_add_1, zc_add_2, zc_add_3, zc_add_4, zc_add_8, zc_add_10, zc_add_12, zc_add_16, zc_add_20, zc_sub_1, zc_sub_2, zc_sub_4, zc_sub_10, zc_sub_20, zc_sub_48, zc_sub_97, zc_mul_4, t_ltZ, f_ltZ, t_leZ, f_leZ, t_eqZ, f_eqZ, t_ltN, f_ltN, t_leN, f_leN, t_eqN, f_eqN, ↓reduceIte, and_true, true_and, and_false, false_and, and_self, or_true, true_or, or_false, false_or, or_self, not_true_eq_false, not_false_eq_true, tu_same, tu_eq, tu_ne, b_V, b_I, b_J]
  | succ m ih =>
    intro i B X c hi hs hX hc h hC h65 h59
    have hLi := hC.2.2.1 i (by omega)
    have l1 := hLi.1
    have lo := hs i (Nat.le_refl _) (by omega)
    have lN := (hL.1 i (by omega)).1
    by_cases d : (L i).1 ≤ b
    · have e : lnF D mb b L (m + 1) i X = lnF D mb b L m (i + 1) (lineP D mb b X (L i)) := if_pos d
      rw [e]
      have eb : (L i).1 = b := by omega
      obtain ⟨h1, h2, h3, h4⟩ := hX
      obtain ⟨g1, g2, g3, g4⟩ := line_ok (mb := mb) h1 h2 h3 (hL.1 i (by omega)) (by omega) hn hD
      obtain ⟨B1, p1, p2, p3⟩ := m_line (J := J) (τ := τ) (e := 60 * rb + k) h h1 h2 h3 hn hD hbk hC.1 h65 hmb h59 (by omega) (by omega) (show 60 * rb + i < 60 * rb + k by omega) (by omega) hLi (hL.1 i (by omega)) eb
      obtain ⟨B2, q1, q2, q3⟩ := ih (i + 1) B1 (lineP D mb b X (L i)) c (by omega) (fun j u v => hs j (by omega) v) ⟨g1, g2, g3, by omega⟩ hc p2 (hC.tr (fun x y u => p3 x y (by omega) (by omega) (by omega) (by omega) (by omega))) ((p3 _ _ (by omega) (by omega) (by omega) (by omega) (by omega)).trans h65) ((p3 _ _ (by omega) (by omega) (by omega) (by omega) (by omega)).trans h59)
      exact ⟨B2, p1.trans q1, q2, fun x y u v w z t => (q3 x y u v w z t).trans (p3 x y u v w z t)⟩
    · have e : lnF D mb b L (m + 1) i X = (i, X) := if_neg d
      rw [e]
      refine ⟨B, ?_, h, fun _ _ _ _ _ _ _ => rfl⟩
      rw [e_164_77]
      show _ = R_164 145 [(0, .ref 131), (1, .int (nI (60 * rb + i))), (2, .int (nI (60 * rb + k))), (3, .int 0)] [] (mk B J τ)
      simp (disch := first | omega | (simp (disch := omega) only [n_ti, Int32.reduceToInt] <;> omega)) only [l1, h59, n_add, nl_add, nr_add, n_mul, nl_mul, nr_mul, n_sub, nr_dec, n_div, nr_sub_1, nr_sub_2, nr_sub_3, nr_sub_4, nr_sub_7, nr_sub_10, nr_sub_11, nr_sub_20, nr_sub_48, nr_sub_97, nl_sub_3, nl_sub_4, nl_sub_12, nl_sub_24, nl_sub_32, nr_div_2, nr_div_4, z_lt, z_le, z_eq, z_cl, n_ti, Int.toNat_natCast, Int32.reduceToInt, Int32.reduceToNatClampNeg, zc_add, zc_sub, zc_add_1, zc_add_2, zc_add_3, zc_add_4, zc_add_8, zc_add_10, zc_add_12, zc_add_16, zc_add_20, zc_sub_1, zc_sub_2, zc_sub_4, zc_sub_10, zc_sub_20, zc_sub_48, zc_sub_97, zc_mul_4, t_ltZ, f_ltZ, t_leZ, f_leZ, t_eqZ, f_eqZ, t_ltN, f_ltN, t_leN, f_leN, t_eqN, f_eqN, ↓reduceIte, and_true, true_and, and_false, false_and, and_self, or_true, true_or, or_false, false_or, or_self, not_true_eq_false, not_false_eq_true, tu_same, tu_eq, tu_ne, b_V, b_I, b_J]
theorem m_skip {J : Nat → Nat → Int64} {τ : tm_Tu} {bk rb n N k b stop : Nat} {D : Nat → TD} {L : Nat → LD} {B : Nat → Nat → Int32} (hrb : rb < 2) (hN : N ≤ 200) (hbN : b < N) (hk : k ≤ 60) (hL : LsOk n N k L) (hC : CtB B bk rb n N k stop D L) (h59 : B 131 59 = nI b) : ∀ m i, i + m = k → (∀ j, i ≤ j → j < k → b ≤ (L j).1) → R_164 77 [(0, .ref 131), (1, .int (nI (60 * rb + i))), (2, .int (nI (60 * rb + k))), (3, .int 1)] [] (mk B J τ) = R_164 145 [(0, .ref 131), (1, .int (nI (60 * rb + skF b L m i))), (2, .int (nI (60 * rb + k))), (3, .int 1)] [] (mk B J τ) := by
  intro m
  induction m with
  | zero =>
    intro i hi hs
    rw [e_164_77]
    show _ = R_164 145 [(0, .ref 131), (1, .int (nI (60 * rb + i))), (2, .int (nI (60 * rb + k))), (3, .int 1)] [] (mk B J τ)
    simp (disch := first | omega | (simp (disch := omega) only [n_ti, Int32.reduceToInt] <;> omega)) only [n_add, nl_add, nr_add, n_mul, nl_mul, nr_mul, n_sub, nr_dec, n_div, nr_sub_1, nr_sub_2, nr_sub_3, nr_sub_4, nr_sub_7, nr_sub_10, nr_sub_11, nr_sub_20, nr_sub_48, nr_sub_97, nl_sub_3, nl_sub_4, nl_sub_12, nl_sub_24, nl_sub_32, nr_div_2, nr_div_4, z_lt, z_le, z_eq, z_cl, n_ti, Int.toNat_natCast, Int32.reduceToInt, Int32.reduceToNatClampNeg, zc_add, zc_sub, zc_add_1, zc_add_2, zc_add_3, zc_add_4, zc_add_8, zc_add_10, zc_add_12, zc_add_16, zc_add_20, zc_sub_1, zc_sub_2, zc_sub_4, zc_sub_10, zc_sub_20, zc_sub_48, zc_sub_97, zc_mul_4, t_ltZ, f_ltZ, t_leZ, f_leZ, t_eqZ, f_eqZ, t_ltN, f_ltN, t_leN, f_leN, t_eqN, f_eqN, ↓reduceIte, and_true, true_and, and_false, false_and, and_self, or_true, true_or, or_false, false_or, or_self, not_true_eq_false, not_false_eq_true, tu_same, tu_eq, tu_ne, b_V, b_I, b_J]
  | succ m ih =>
    intro i hi hs
    have l1 := (hC.2.2.1 i (by omega)).1
    have lo := hs i (Nat.le_refl _) (by omega)
    have lN := (hL.1 i (by omega)).1
    by_cases d : (L i).1 ≤ b
    · have e : skF b L (m + 1) i = skF b L m (i + 1) := if_pos d
      have eb : (L i).1 = b := by omega
      rw [eb] at l1
      have ei : 60 * rb + i + 1 = 60 * rb + (i + 1) := by omega
      rw [e, ← ih (i + 1) (by omega) (fun j u v => hs j (by omega) v), e_164_77]
      simp (disch := first | omega | (simp (disch := omega) only [n_ti, Int32.reduceToInt] <;> omega)) only [l1, h59, e_164_108, e_164_139, ei, n_add, nl_add, nr_add, n_mul, nl_mul, nr_mul, n_sub, nr_dec, n_div, nr_sub_1, nr_sub_2, nr_sub_3, nr_sub_4, nr_sub_7, nr_sub_10, nr_sub_11, nr_sub_20, nr_sub_48, nr_sub_97, nl_sub_3, nl_sub_4, nl_sub_12, nl_sub_24, nl_sub_32, nr_div_2, nr_div_4, z_lt, z_le, z_eq, z_cl, n_ti, Int.toNat_natCast, Int32.reduceToInt, Int32.reduceToNatClampNeg, zc_add, zc_sub, zc_add_1, zc_add_2, zc_add_3, zc_add_4, zc_add_8, zc_add_10, zc_add_12, zc_add_16, zc_add_20, zc_sub_1, zc_sub_2, zc_sub_4, zc_sub_10, zc_sub_20, zc_sub_48, zc_sub_97, zc_mul_4, t_ltZ, f_ltZ, t_leZ, f_leZ, t_eqZ, f_eqZ, t_ltN, f_ltN, t_leN, f_leN, t_eqN, f_eqN, ↓reduceIte, and_true, true_and, and_false, false_and, and_self, or_true, true_or, or_false, false_or, or_self, not_true_eq_false, not_false_eq_true, tu_same, tu_eq, tu_ne, b_V, b_I, b_J]
    · have e : skF b L (m + 1) i = i := if_neg d
      rw [e, e_164_77]
      simp (disch := first | omega | (simp (disch := omega) only [n_ti, Int32.reduceToInt] <;> omega)) only [l1, h59, n_add, nl_add, nr_add, n_mul, nl_mul, nr_mul, n_sub, nr_dec, n_div, nr_sub_1, nr_sub_2, nr_sub_3, nr_sub_4, nr_sub_7, nr_sub_10, nr_sub_11, nr_sub_20, nr_sub_48, nr_sub_97, nl_sub_3, nl_sub_4, nl_sub_12, nl_sub_24, nl_sub_32, nr_div_2, nr_div_4, z_lt, z_le, z_eq, z_cl, n_ti, Int.toNat_natCast, Int32.reduceToInt, Int32.reduceToNatClampNeg, zc_add, zc_sub, zc_add_1, zc_add_2, zc_add_3, zc_add_4, zc_add_8, zc_add_10, zc_add_12, zc_add_16, zc_add_20, zc_sub_1, zc_sub_2, zc_sub_4, zc_sub_10, zc_sub_20, zc_sub_48, zc_sub_97, zc_mul_4, t_ltZ, f_ltZ, t_leZ, f_leZ, t_eqZ, f_eqZ, t_ltN, f_ltN, t_leN, f_leN, t_eqN, f_eqN, ↓reduceIte, and_true, true_and, and_false, false_and, and_self, or_true, true_or, or_false, false_or, or_self, not_true_eq_false, not_false_eq_true, tu_same, tu_eq, tu_ne, b_V, b_I, b_J]
theorem RcB.tr {B B' : Nat → Nat → Int32} {q : Nat} {R : Nat → Nat × PS} (h : RcB B q R) (hq : q ≤ 200) (f : ∀ c, c < q → B' 159 c = B 159 c) (g : ∀ a p c, 160 ≤ a → a ≤ 163 → p < 6 → c < q → B' a (200 * p + c) = B a (200 * p + c)) (k : ∀ p i, p < 6 → i < 4 * q → B' 164 (800 * p + i) = B 164 (800 * p + i)) : RcB B' q R := by
  intro c hc
  obtain ⟨h1, h2⟩ := h c hc
  refine ⟨(f c hc).trans h1, fun p hp => ?_⟩
  obtain ⟨⟨u1, u2, u3, u4⟩, u5⟩ := h2 p hp
  refine ⟨⟨(g _ p c (by omega) (by omega) hp hc).trans u1, (g _ p c (by omega) (by omega) hp hc).trans u2, (g _ p c (by omega) (by omega) hp hc).trans u3, (g _ p c (by omega) (by omega) hp hc).trans u4⟩, fun i hi => ?_⟩
  rw [show 800 * p + 4 * c + i = 800 * p + (4 * c + i) by omega, k p (4 * c + i) hp (by omega), ← show 800 * p + 4 * c + i = 800 * p + (4 * c + i) by omega]
  exact u5 i hi
/-- behind a BEAT: noting it, and the next -/
theorem m_note {B0 B : Nat → Nat → Int32} {J : Nat → Nat → Int64} {τ : tm_Tu} {n b mo : Nat} {x1 x2 : Int32} {D : Nat → TD} {S : PS} {R : Nat → Nat × PS} (hb : b < 200) (hS : SOk n D (b + 1) S) (h : PsB B (b + 1) S) (h59 : B 131 59 = nI b) (h159 : B 159 b = nI mo) (hFr : ∀ p, p < 6 → FeR B b p (S p)) (hF : FeB B (b + 1)) (hR : RcB B b R) : ∃ B', R_164 160 [(0, .ref 131), (1, .int x1), (2, .int x2)] [] (mk B J τ) = R_164 53 [(0, .ref 131), (1, .int x1), (2, .int x2)] [] (mk B' J τ) ∧ PsB B' (b + 1) S ∧ RcB B' (b + 1) (updN R b (mo, S)) ∧ FeB B' (b + 1) ∧ B' 131 59 = nI (b + 1) ∧ (∀ x y, ¬ (160 ≤ x ∧ x ≤ 163) → ¬ (x = 131 ∧ y = 59) → B' x y = B x y) := by
  obtain ⟨B1, g1, g2, g3, g4⟩ := m_163 (J := J) (τ := τ) hb (fun p hp => (hS p hp).1) 6 0 B (by omega) h h59
  have f163 : F_163 [.ref 131] (mk B J τ) = some (none, mk B1 J τ) := by rw [e_163]; exact g1
  have i59 := (g3 131 59 (by omega)).trans h59
  refine ⟨tm_u B1 131 59 (nI (b + 1)), ?_, h.tr (fun a k u => by simp (disch := omega) only [tu_same, tu_eq, tu_ne]; exact g3 a k (by omega)), fun c hc => ?_, fun p hp k u v => by simp (disch := omega) only [tu_same, tu_eq, tu_ne]; rw [g3 _ _ (by omega)]; exact hF p hp k u v, by simp (disch := omega) only [tu_same, tu_eq, tu_ne], fun x y u v => by simp (disch := omega) only [tu_same, tu_eq, tu_ne]; exact g3 x y u⟩
  · rw [e_164_160]
    simp (disch := first | omega | (simp (disch := omega) only [n_ti, Int32.reduceToInt] <;> omega)) only [f163, e_164_164, i59, n_add, nl_add, nr_add, n_mul, nl_mul, nr_mul, n_sub, nr_dec, n_div, nr_sub_1, nr_sub_2, nr_sub_3, nr_sub_4, nr_sub_7, nr_sub_10, nr_sub_11, nr_sub_20, nr_sub_48, nr_sub_97, nl_sub_3, nl_sub_4, nl_sub_12, nl_sub_24, nl_sub_32, nr_div_2, nr_div_4, z_lt, z_le, z_eq, z_cl, n_ti, Int.toNat_natCast, Int32.reduceToInt, Int32.reduceToNatClampNeg, zc_add, zc_sub, zc_add_1, zc_add_2, zc_add_3, zc_add_4, zc_add_8, zc_add_10, zc_add_12, zc_add_16, zc_add_20, zc_sub_1, zc_sub_2, zc_sub_4, zc_sub_10, zc_sub_20, zc_sub_48, zc_sub_97, zc_mul_4, t_ltZ, f_ltZ, t_leZ, f_leZ, t_eqZ, f_eqZ, t_ltN, f_ltN, t_leN, f_leN, t_eqN, f_eqN, ↓reduceIte, and_true, true_and, and_false, false_and, and_self, or_true, true_or, or_false, false_or, or_self, not_true_eq_false, not_false_eq_true, tu_same, tu_eq, tu_ne, b_V, b_I, b_J]
  · by_cases e : c = b
    · subst e
      rw [updN_s]
      refine ⟨by simp (disch := omega) only [tu_same, tu_eq, tu_ne]; exact (g3 _ _ (by omega)).trans h159, fun p hp => ⟨?_, fun i hi => ?_⟩⟩
      · obtain ⟨u1, u2, u3, u4⟩ := g2 p (by omega) hp
        exact ⟨by simp (disch := omega) only [tu_same, tu_eq, tu_ne]; exact u1, by simp (disch := omega) only [tu_same, tu_eq, tu_ne]; exact u2, by simp (disch := omega) only [tu_same, tu_eq, tu_ne]; exact u3, by simp (disch := omega) only [tu_same, tu_eq, tu_ne]; exact u4⟩
      · simp (disch := omega) only [tu_same, tu_eq, tu_ne]
        rw [g3 _ _ (by omega)]
        exact hFr p hp i hi
    · rw [updN_n _ _ e]
      have z := hR.tr (B' := tm_u B1 131 59 (nI (b + 1))) (by omega) (fun c _ => by simp (disch := omega) only [tu_same, tu_eq, tu_ne]; exact g3 _ _ (by omega)) (fun a p c u v w t => by simp (disch := omega) only [tu_same, tu_eq, tu_ne]; exact g4 a p c w (by omega) (Or.inr (by omega))) (fun p i u v => by simp (disch := omega) only [tu_same, tu_eq, tu_ne]; exact g3 _ _ (by omega))
      exact z c (by omega)
set_option maxHeartbeats 2000000 in
theorem m_beat {B : Nat → Nat → Int32} {J : Nat → Nat → Int64} {τ : tm_Tu} {bk rb n N k b stop : Nat} {D : Nat → TD} {L : Nat → LD} {Z : RS} (hn : n ≤ 12) (hbk : bk < 2) (hrb : rb < 2) (hD : DOk n D) (hN : N ≤ 200) (hbN : b < N) (hk : k ≤ 60) (hL : LsOk n N k L) (hst : stop ≤ 20) (hI : Inv n D k L b Z) (h : MdB B b Z) (hC : CtB B bk rb n N k stop D L) : ∃ B', R_164 53 [(0, .ref 131), (1, .int (nI (60 * rb + zI Z))), (2, .int (nI (60 * rb + k)))] [] (mk B J τ) = R_164 53 [(0, .ref 131), (1, .int (nI (60 * rb + zI (btP D stop k L b Z)))), (2, .int (nI (60 * rb + k)))] [] (mk B' J τ) ∧ MdB B' (b + 1) (btP D stop k L b Z) ∧ fMd B B' := by
  obtain ⟨i1, i2, i3, i4, i5, i6, i7, i8, i9⟩ := id hI
  obtain ⟨hX, hL', hR, h63, h65, h66, h59, hF⟩ := h
  have h64 := hC.2.1
  have h34 := hC.2.2.2
  have ok := inv_step hn hD hN hbN hL hst hI
  unfold btP at ok ⊢
  by_cases c : zS Z = 0
  · rw [if_pos c] at ok ⊢
    obtain ⟨B1, p1, p2, p3⟩ := m_lines (J := J) (τ := τ) (stop := stop) hn hbk hrb hD hN hbN hk hL i2 (k - zI Z) (zI Z) B (zX Z) (6 * b) (by omega) i6 i1 (by omega) hX hC h65 h59
    obtain ⟨-, g2⟩ := ln_ok (mb := zM Z) (b := b) hn hD (by omega) hL (k - zI Z) (zI Z) (zX Z) (6 * b) (by omega) i1
    obtain ⟨s1, s2, -⟩ := sk_ok (b := b) hL.2 (k - zI Z) (zI Z) (by omega)
    obtain ⟨i, ei⟩ : ∃ z, z = (lnF D (zM Z) b L (k - zI Z) (zI Z) (zX Z)).1 := ⟨_, rfl⟩
    obtain ⟨X, eX⟩ : ∃ z, z = (lnF D (zM Z) b L (k - zI Z) (zI Z) (zX Z)).2 := ⟨_, rfl⟩
    rw [← ei] at p1 ok ⊢
    rw [← eX] at p2 g2 ok ⊢
    obtain ⟨u1, u2, u3, u4⟩ := g2
    have fr : ∀ x y, ¬ (151 ≤ x ∧ x ≤ 157) → ¬ (165 ≤ x ∧ x ≤ 167) → x ≠ 172 → x ≠ 174 → ¬ (x = 131 ∧ y = 60) → B1 x y = B x y := p3
    have hC1 : CtB B1 bk rb n N k stop D L := hC.tr (fun x y u => p3 x y (by omega) (by omega) (by omega) (by omega) (by omega))
    have j59 : B1 131 59 = nI b := (p3 _ _ (by omega) (by omega) (by omega) (by omega) (by omega)).trans h59
    have hF1 : FeB B1 b := fun p hp y v w => (p3 _ _ (by omega) (by omega) (by omega) (by omega) (by omega)).trans (hF p hp y v w)
    obtain ⟨B2, q1, q2, q3, q4, q5, q6, q7, q8, q9, q10, q11, q12⟩ := m_162 (J := J) (τ := τ) (c := 6 * b) p2.1 p2.2.1 p2.2.2 (hL'.tr (fun x y u => p3 x y (by omega) (by omega) (by omega) (by omega) (by omega))) u1 u2 hn hD hbk hC1.1 j59 (by omega) (by omega) i7 (by omega) hF1
    have hR2 : RcB B2 b (zR Z) := hR.tr (by omega) (fun d hd => by rw [q11 _ _ (by omega) (by omega) (by omega) (by omega) (by omega) (by omega) (by omega)]; exact p3 _ _ (by omega) (by omega) (by omega) (by omega) (by omega)) (fun a p d v1 v2 v3 v4 => by rw [q11 _ _ (by omega) (by omega) (by omega) (by omega) (by omega) (by omega) (by omega)]; exact p3 _ _ (by omega) (by omega) (by omega) (by omega) (by omega)) (fun p y v w => by rw [q12 p y v w]; exact p3 _ _ (by omega) (by omega) (by omega) (by omega) (by omega))
    have j59b : B2 131 59 = nI b := (q11 _ _ (by omega) (by omega) (by omega) (by omega) (by omega) (by omega) (by omega)).trans j59
    obtain ⟨B3, r1, r2, r3, r4, r5, r6⟩ := m_note (B0 := B) (J := J) (τ := τ) (x1 := nI (60 * rb + i)) (x2 := nI (60 * rb + k)) (by omega) ok.1.1 q2 j59b q6 q9 q10 hR2
    refine ⟨B3, ?_, ⟨⟨r2, q3.tr (fun x y u => r6 x y (by omega) (by omega)), q4.tr (fun x y u => r6 x y (by omega) (by omega))⟩, q5.tr (fun x y u => r6 x y (by omega) (by omega)), r3, ?_, ?_, ?_, r5, r4⟩, fun x y v w => ?_⟩
    · have pre : R_164 53 [(0, .ref 131), (1, .int (nI (60 * rb + zI Z))), (2, .int (nI (60 * rb + k)))] [] (mk B J τ) = R_164 145 [(0, .ref 131), (1, .int (nI (60 * rb + i))), (2, .int (nI (60 * rb + k))), (3, .int 0)] [] (mk B1 J τ) := by
        rw [← p1, e_164_53]
        rw [c] at h66
        simp (disch := first | omega | (simp (disch := omega) only [n_ti, Int32.reduceToInt] <;> omega)) only [h64, h59, h66, e_164_76, n_add, nl_add, nr_add, n_mul, nl_mul, nr_mul, n_sub, nr_dec, n_div, nr_sub_1, nr_sub_2, nr_sub_3, nr_sub_4, nr_sub_7, nr_sub_10, nr_sub_11, nr_sub_20, nr_sub_48, nr_sub_97, nl_sub_3, nl_sub_4, nl_sub_12, nl_sub_24, nl_sub_32, nr_div_2, nr_div_4, z_lt, z_le, z_eq, z_cl, n_ti, Int.toNat_natCast, Int32.reduceToInt, Int32.reduceToNatClampNeg, zc_add, zc_sub, zc_add_1, zc_add_2, zc_add_3, zc_add_4, zc_add_8, zc_add_10, zc_add_12, zc_add_16, zc_add_20, zc_sub_1, zc_sub_2, zc_sub_4, zc_sub_10, zc_sub_20, zc_sub_48, zc_sub_97, zc_mul_4, t_ltZ, f_ltZ, t_leZ, f_leZ, t_eqZ, f_eqZ, t_ltN, f_ltN, t_leN, f_leN, t_eqN, f_eqN, ↓reduceIte, and_true, true_and, and_false, false_and, and_self, or_true, true_or, or_false, false_or, or_self, not_true_eq_false, not_false_eq_true, tu_same, tu_eq, tu_ne, b_V, b_I, b_J]
      rw [pre, e_164_145]
      simp (disch := first | omega | (simp (disch := omega) only [n_ti, Int32.reduceToInt] <;> omega)) only [q1, r1, n_add, nl_add, nr_add, n_mul, nl_mul, nr_mul, n_sub, nr_dec, n_div, nr_sub_1, nr_sub_2, nr_sub_3, nr_sub_4, nr_sub_7, nr_sub_10, nr_sub_11, nr_sub_20, nr_sub_48, nr_sub_97, nl_sub_3, nl_sub_4, nl_sub_12, nl_sub_24, nl_sub_32, nr_div_2, nr_div_4, z_lt, z_le, z_eq, z_cl, n_ti, Int.toNat_natCast, Int32.reduceToInt, Int32.reduceToNatClampNeg, zc_add, zc_sub, zc_add_1, zc_add_2, zc_add_3, zc_add_4, zc_add_8, zc_add_10, zc_add_12, zc_add_16, zc_add_20, zc_sub_1, zc_sub_2, zc_sub_4, zc_sub_10, zc_sub_20, zc_sub_48, zc_sub_97, zc_mul_4, t_ltZ, f_ltZ, t_leZ, f_leZ, t_eqZ, f_eqZ, t_ltN, f_ltN, t_leN, f_leN, t_eqN, f_eqN, ↓reduceIte, and_true, true_and, and_false, false_and, and_self, or_true, true_or, or_false, false_or, or_self, not_true_eq_false, not_false_eq_true, tu_same, tu_eq, tu_ne, b_V, b_I, b_J]
      rfl
    · rw [r6 _ _ (by omega) (by omega), q11 _ _ (by omega) (by omega) (by omega) (by omega) (by omega) (by omega) (by omega), p3 _ _ (by omega) (by omega) (by omega) (by omega) (by omega)]
      exact h63
    · rw [r6 _ _ (by omega) (by omega)]
      exact q7
    · rw [r6 _ _ (by omega) (by omega), q8]
      show _ = nI (if brP D b X.1 = true then stop else 0)
      cases hbr : brP D b X.1 with
      | true =>
        rw [if_pos rfl, if_pos rfl, p3 _ _ (by omega) (by omega) (by omega) (by omega) (by omega)]
        exact h34
      | false =>
        rw [if_neg Bool.false_ne_true, if_neg Bool.false_ne_true, p3 _ _ (by omega) (by omega) (by omega) (by omega) (by omega), h66, c]
    · rw [r6 x y (by omega) (by omega), q11 x y (by omega) (by omega) (by omega) (by omega) (by omega) (by omega) (by omega)]
      exact p3 x y (by omega) (by omega) (by omega) (by omega) (by omega)
  · rw [if_neg c] at ok ⊢
    have sk := m_skip (J := J) (τ := τ) hrb hN hbN hk hL hC h59 (k - zI Z) (zI Z) (by omega) i6
    obtain ⟨B2, q1, q2, q3, q4, q5, q6, q7, q8⟩ := m_152 (J := J) (τ := τ) hX.1 i1.1 h59 (by omega) h63 h66 (by omega) hF
    have t0 := i3 c
    have hP2 : PsB B2 (b + 1) (sdF (zX Z).1) := fun p hp => by
      obtain ⟨y0, y1, y3, y4⟩ := hX.1 p hp
      exact ⟨(q7 _ _ (by omega) (by omega) (by omega)).trans y0, fun u => ⟨(q7 _ _ (by omega) (by omega) (by omega)).trans (y1 u).1, (q7 _ _ (by omega) (by omega) (by omega)).trans (y1 u).2⟩, (q7 _ _ (by omega) (by omega) (by omega)).trans y3, fun u => absurd (t0 p) u⟩
    have hR2 : RcB B2 b (zR Z) := hR.tr (by omega) (fun d hd => q7 _ _ (by omega) (by omega) (by omega)) (fun a p d v1 v2 v3 v4 => q7 _ _ (by omega) (by omega) (by omega)) (fun p y v w => q8 p y v w)
    have j59b : B2 131 59 = nI b := (q7 _ _ (by omega) (by omega) (by omega)).trans h59
    obtain ⟨B3, r1, r2, r3, r4, r5, r6⟩ := m_note (B0 := B) (J := J) (τ := τ) (x1 := nI (60 * rb + skF b L (k - zI Z) (zI Z))) (x2 := nI (60 * rb + k)) (by omega) ok.1.1 hP2 j59b q2 q5 q6 hR2
    refine ⟨B3, ?_, ⟨⟨r2, hX.2.1.tr (fun x y u => by rw [r6 x y (by omega) (by omega)]; exact q7 x y (by omega) (by omega) (by omega)), hX.2.2.tr (fun x y u => by rw [r6 x y (by omega) (by omega)]; exact q7 x y (by omega) (by omega) (by omega))⟩, hL'.tr (fun x y u => by rw [r6 x y (by omega) (by omega)]; exact q7 x y (by omega) (by omega) (by omega)), r3, ?_, ?_, ?_, r5, r4⟩, fun x y v w => ?_⟩
    · have pre : R_164 53 [(0, .ref 131), (1, .int (nI (60 * rb + zI Z))), (2, .int (nI (60 * rb + k)))] [] (mk B J τ) = R_164 145 [(0, .ref 131), (1, .int (nI (60 * rb + skF b L (k - zI Z) (zI Z)))), (2, .int (nI (60 * rb + k))), (3, .int 1)] [] (mk B J τ) := by
        rw [← sk, e_164_53]
        simp (disch := first | omega | (simp (disch := omega) only [n_ti, Int32.reduceToInt] <;> omega)) only [h64, h59, h66, e_164_76, n_add, nl_add, nr_add, n_mul, nl_mul, nr_mul, n_sub, nr_dec, n_div, nr_sub_1, nr_sub_2, nr_sub_3, nr_sub_4, nr_sub_7, nr_sub_10, nr_sub_11, nr_sub_20, nr_sub_48, nr_sub_97, nl_sub_3, nl_sub_4, nl_sub_12, nl_sub_24, nl_sub_32, nr_div_2, nr_div_4, z_lt, z_le, z_eq, z_cl, n_ti, Int.toNat_natCast, Int32.reduceToInt, Int32.reduceToNatClampNeg, zc_add, zc_sub, zc_add_1, zc_add_2, zc_add_3, zc_add_4, zc_add_8, zc_add_10, zc_add_12, zc_add_16, zc_add_20, zc_sub_1, zc_sub_2, zc_sub_4, zc_sub_10, zc_sub_20, zc_sub_48, zc_sub_97, zc_mul_4, t_ltZ, f_ltZ, t_leZ, f_leZ, t_eqZ, f_eqZ, t_ltN, f_ltN, t_leN, f_leN, t_eqN, f_eqN, ↓reduceIte, and_true, true_and, and_false, false_and, and_self, or_true, true_or, or_false, false_or, or_self, not_true_eq_false, not_false_eq_true, tu_same, tu_eq, tu_ne, b_V, b_I, b_J]
      rw [pre, e_164_145]
      simp (disch := first | omega | (simp (disch := omega) only [n_ti, Int32.reduceToInt] <;> omega)) only [q1, e_164_153, r1, n_add, nl_add, nr_add, n_mul, nl_mul, nr_mul, n_sub, nr_dec, n_div, nr_sub_1, nr_sub_2, nr_sub_3, nr_sub_4, nr_sub_7, nr_sub_10, nr_sub_11, nr_sub_20, nr_sub_48, nr_sub_97, nl_sub_3, nl_sub_4, nl_sub_12, nl_sub_24, nl_sub_32, nr_div_2, nr_div_4, z_lt, z_le, z_eq, z_cl, n_ti, Int.toNat_natCast, Int32.reduceToInt, Int32.reduceToNatClampNeg, zc_add, zc_sub, zc_add_1, zc_add_2, zc_add_3, zc_add_4, zc_add_8, zc_add_10, zc_add_12, zc_add_16, zc_add_20, zc_sub_1, zc_sub_2, zc_sub_4, zc_sub_10, zc_sub_20, zc_sub_48, zc_sub_97, zc_mul_4, t_ltZ, f_ltZ, t_leZ, f_leZ, t_eqZ, f_eqZ, t_ltN, f_ltN, t_leN, f_leN, t_eqN, f_eqN, ↓reduceIte, and_true, true_and, and_false, false_and, and_self, or_true, true_or, or_false, false_or, or_self, not_true_eq_false, not_false_eq_true, tu_same, tu_eq, tu_ne, b_V, b_I, b_J]
    · rw [r6 _ _ (by omega) (by omega)]; exact q3
    · rw [r6 _ _ (by omega) (by omega), q7 _ _ (by omega) (by omega) (by omega)]; exact h65
    · rw [r6 _ _ (by omega) (by omega)]; exact q4
    · rw [r6 x y (by omega) (by omega)]
      exact q7 x y (by omega) (by omega) (by omega)
theorem m_run {J : Nat → Nat → Int64} {τ : tm_Tu} {bk rb n N k stop : Nat} {D : Nat → TD} {L : Nat → LD} (hn : n ≤ 12) (hbk : bk < 2) (hrb : rb < 2) (hD : DOk n D) (hN : N ≤ 200) (hk : k ≤ 60) (hL : LsOk n N k L) (hst : stop ≤ 20) : ∀ m b (B : Nat → Nat → Int32) (Z : RS), b + m = N → Inv n D k L b Z → MdB B b Z → CtB B bk rb n N k stop D L → ∃ B', R_164 53 [(0, .ref 131), (1, .int (nI (60 * rb + zI Z))), (2, .int (nI (60 * rb + k)))] [] (mk B J τ) = some (some (.int ((B' 131 62) - ((B' 131 35) * (B' 131 60)))), mk (tm_u B' 131 33 1) J τ) ∧ MdB B' N (rnP D stop k L m b Z) ∧ fMd B B' := by
  intro m
  induction m with
  | zero =>
    intro b B Z hbN hI h hC
    have e : b = N := by omega
    subst e
    have h64 := hC.2.1
    have h59 := h.2.2.2.2.2.2.1
    refine ⟨B, ?_, h, fun _ _ _ _ => rfl⟩
    rw [e_164_53]
    simp (disch := first | omega | (simp (disch := omega) only [n_ti, Int32.reduceToInt] <;> omega)) only [h64, h59, n_add, nl_add, nr_add, n_mul, nl_mul, nr_mul, n_sub, nr_dec, n_div, nr_sub_1, nr_sub_2, nr_sub_3, nr_sub_4, nr_sub_7, nr_sub_10, nr_sub_11, nr_sub_20, nr_sub_48, nr_sub_97, nl_sub_3, nl_sub_4, nl_sub_12, nl_sub_24, nl_sub_32, nr_div_2, nr_div_4, z_lt, z_le, z_eq, z_cl, n_ti, Int.toNat_natCast, Int32.reduceToInt, Int32.reduceToNatClampNeg, zc_add, zc_sub, zc_add_1, zc_add_2, zc_add_3, zc_add_4, zc_add_8, zc_add_10, zc_add_12, zc_add_16, zc_add_20, zc_sub_1, zc_sub_2, zc_sub_4, zc_sub_10, zc_sub_20, zc_sub_48, zc_sub_97, zc_mul_4, t_ltZ, f_ltZ, t_leZ, f_leZ, t_eqZ, f_eqZ, t_ltN, f_ltN, t_leN, f_leN, t_eqN, f_eqN, ↓reduceIte, and_true, true_and, and_false, false_and, and_self, or_true, true_or, or_false, false_or, or_self, not_true_eq_false, not_false_eq_true, tu_same, tu_eq, tu_ne, b_V, b_I, b_J]
  | succ m ih =>
    intro b B Z hbN hI h hC
    obtain ⟨B1, g1, g2, g3⟩ := m_beat (J := J) (τ := τ) hn hbk hrb hD hN (show b < N by omega) hk hL hst hI h hC
    obtain ⟨B2, p1, p2, p4⟩ := ih (b + 1) B1 (btP D stop k L b Z) (by omega) (inv_step hn hD hN (by omega) hL hst hI) g2 (hC.tr (fun x y u => g3 x y (by omega) (by omega)))
    exact ⟨B2, g1.trans p1, p2, fun x y u v => (p4 x y u v).trans (g3 x y u v)⟩
