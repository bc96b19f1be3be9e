/-! run: who is in a trick, the MODE wanted, the steps (class) -/
def itP (S : PS) (p : Nat) : Bool := decide (pT (S p) ≠ 0)
def fiP (S : PS) : Nat := fstF (itP S) 6 0
def wm (D : Nat → TD) (b : Nat) (s : SP) : Nat := dM (D (pT s - 1)) (b - pG s)
def moP (D : Nat → TD) (b : Nat) (S : PS) : Nat := if fiP S = 0 then 0 else wm D b (S (fiP S - 1))
theorem fstF_P (P : Nat → Bool) : ∀ m j, (fstF P m j = 0 ∧ ∀ i, j ≤ i → i < j + m → P i = false) ∨ (∃ i, fstF P m j = i + 1 ∧ j ≤ i ∧ i < j + m ∧ P i = true ∧ ∀ k, j ≤ k → k < i → P k = false) := by
  intro m
  induction m with
  | zero => intro j; exact Or.inl ⟨rfl, fun i h1 h2 => by omega⟩
  | succ m ih =>
    intro j
    cases hp : P j with
    | true => exact Or.inr ⟨j, if_pos hp, by omega, by omega, hp, fun k h1 h2 => by omega⟩
    | false =>
      have e : fstF P (m + 1) j = fstF P m (j + 1) := if_neg (by rw [hp]; exact Bool.false_ne_true)
      rw [e]
      rcases ih (j + 1) with ⟨h1, h2⟩ | ⟨i, h1, h2, h3, h4, h5⟩
      · refine Or.inl ⟨h1, fun i h3 h4 => ?_⟩
        by_cases c : i = j
        · subst c; exact hp
        · exact h2 i (by omega) (by omega)
      · refine Or.inr ⟨i, h1, by omega, by omega, h4, fun k h6 h7 => ?_⟩
        by_cases c : k = j
        · subst c; exact hp
        · exact h5 k (by omega) h7
theorem anyF_t {P : Nat → Bool} : ∀ {m j}, anyF P m j = true ↔ ∃ i, j ≤ i ∧ i < j + m ∧ P i = true := by
  intro m
  induction m with
  | zero => intro j; exact ⟨fun h => (by cases h), fun ⟨i, h1, h2, _⟩ => by omega⟩
  | succ m ih =>
    intro j
    cases hp : P j with
    | true =>
      have e : anyF P (m + 1) j = true := if_pos hp
      exact ⟨fun _ => ⟨j, by omega, by omega, hp⟩, fun _ => e⟩
    | false =>
      have e : anyF P (m + 1) j = anyF P m (j + 1) := if_neg (by rw [hp]; exact Bool.false_ne_true)
      rw [e, ih]
      refine ⟨fun ⟨i, h1, h2, h3⟩ => ⟨i, by omega, by omega, h3⟩, fun ⟨i, h1, h2, h3⟩ => ⟨i, ?_, by omega, h3⟩⟩
      by_cases c : i = j
      · subst c; rw [hp] at h3; cases h3
      · omega
theorem anyF_f {P : Nat → Bool} {m j : Nat} : anyF P m j = false ↔ ∀ i, j ≤ i → i < j + m → P i = false := by
  constructor
  · intro h i h1 h2
    cases hp : P i with
    | false => rfl
    | true => rw [anyF_t.mpr ⟨i, h1, h2, hp⟩] at h; cases h
  · intro h
    cases ha : anyF P m j with
    | false => rfl
    | true =>
      obtain ⟨i, h1, h2, h3⟩ := anyF_t.mp ha
      rw [h i h1 h2] at h3; cases h3
theorem c_129 {A : Nat → Nat → Int32} {J : Nat → Nat → Int64} {τ : tm_Tu} {n b : Nat} {D : Nat → TD} {S : PS} (h : PsA A S) (hS : SOk n D b S) (hn : n ≤ 12) : F_129 [.ref 7] (mk A J τ) = some (some (.int (tI (fiP S))), mk A J τ) := by
  have key : ∀ m j, j + m = 6 → R_129 2 [(0, .ref 7), (1, .int (nI j))] [] (mk A J τ) = some (some (.int (tI (fstF (itP S) m j))), mk A J τ) := by
    intro m
    induction m with
    | zero =>
      intro j hj
      rw [e_129_2]
      simp (disch := first | omega | (simp (disch := omega) only [n_ti, Int32.reduceToInt] <;> omega)) only [n_add, nl_add, nr_add, n_mul, nl_mul, nr_mul, n_sub, nr_dec, n_div, nr_sub_1, nr_sub_2, nr_sub_3, nr_sub_4, nr_sub_7, nr_sub_10, nr_sub_11, nr_sub_20, nr_sub_48, nr_sub_97, nl_sub_3, nl_sub_4, nl_sub_12, nl_sub_24, nl_sub_32, nr_div_2, nr_div_4, z_lt, z_le, z_eq, z_cl, n_ti, Int.toNat_natCast, Int32.reduceToInt, Int32.reduceToNatClampNeg, zc_add, zc_sub, zc_add_1, zc_add_2, zc_add_3, zc_add_4, zc_add_8, zc_add_10, zc_add_12, zc_add_16, zc_add_20, zc_sub_1, zc_sub_2, zc_sub_4, zc_sub_10, zc_sub_20, zc_sub_48, zc_sub_97, zc_mul_4, t_ltZ, f_ltZ, t_leZ, f_leZ, t_eqZ, f_eqZ, t_ltN, f_ltN, t_leN, f_leN, t_eqN, f_eqN, ↓reduceIte, and_true, true_and, and_false, false_and, and_self, or_true, true_or, or_false, false_or, or_self, not_true_eq_false, not_false_eq_true, tu_same, tu_eq, tu_ne, b_V, b_I, b_J]
      rfl
    | succ m ih =>
      intro j hj
      have hp : j < 6 := by omega
      obtain ⟨w1, w2, w3, w4, w5, w6, -⟩ := hS j hp
      have f := c_116 (J := J) (τ := τ) hp (h j hp) w1 (by omega) (fun u => (w6 u).1)
      rw [e_129_2]
      cases hi : itP S j with
      | true =>
        have e : fstF (itP S) (m + 1) j = j + 1 := if_pos hi
        have e2 : b2 (decide (pT (S j) ≠ 0)) = 1 := by unfold itP at hi; rw [hi, b2t]
        rw [e2] at f
        rw [e]
        simp (disch := first | omega | (simp (disch := omega) only [n_ti, Int32.reduceToInt] <;> omega)) only [j_1 hp τ, j_2 hp, f, e_129_17, n_add, nl_add, nr_add, n_mul, nl_mul, nr_mul, n_sub, nr_dec, n_div, nr_sub_1, nr_sub_2, nr_sub_3, nr_sub_4, nr_sub_7, nr_sub_10, nr_sub_11, nr_sub_20, nr_sub_48, nr_sub_97, nl_sub_3, nl_sub_4, nl_sub_12, nl_sub_24, nl_sub_32, nr_div_2, nr_div_4, z_lt, z_le, z_eq, z_cl, n_ti, Int.toNat_natCast, Int32.reduceToInt, Int32.reduceToNatClampNeg, zc_add, zc_sub, zc_add_1, zc_add_2, zc_add_3, zc_add_4, zc_add_8, zc_add_10, zc_add_12, zc_add_16, zc_add_20, zc_sub_1, zc_sub_2, zc_sub_4, zc_sub_10, zc_sub_20, zc_sub_48, zc_sub_97, zc_mul_4, t_ltZ, f_ltZ, t_leZ, f_leZ, t_eqZ, f_eqZ, t_ltN, f_ltN, t_leN, f_leN, t_eqN, f_eqN, ↓reduceIte, and_true, true_and, and_false, false_and, and_self, or_true, true_or, or_false, false_or, or_self, not_true_eq_false, not_false_eq_true, tu_same, tu_eq, tu_ne, b_V, b_I, b_J]
        rfl
      | false =>
        have e : fstF (itP S) (m + 1) j = fstF (itP S) m (j + 1) := if_neg (by rw [hi]; exact Bool.false_ne_true)
        have e2 : b2 (decide (pT (S j) ≠ 0)) = 0 := by unfold itP at hi; rw [hi, b2f]
        rw [e2] at f
        rw [e, ← ih (j + 1) (by omega)]
        simp (disch := first | omega | (simp (disch := omega) only [n_ti, Int32.reduceToInt] <;> omega)) only [j_1 hp τ, j_2 hp, f, e_129_17, n_add, nl_add, nr_add, n_mul, nl_mul, nr_mul, n_sub, nr_dec, n_div, nr_sub_1, nr_sub_2, nr_sub_3, nr_sub_4, nr_sub_7, nr_sub_10, nr_sub_11, nr_sub_20, nr_sub_48, nr_sub_97, nl_sub_3, nl_sub_4, nl_sub_12, nl_sub_24, nl_sub_32, nr_div_2, nr_div_4, z_lt, z_le, z_eq, z_cl, n_ti, Int.toNat_natCast, Int32.reduceToInt, Int32.reduceToNatClampNeg, zc_add, zc_sub, zc_add_1, zc_add_2, zc_add_3, zc_add_4, zc_add_8, zc_add_10, zc_add_12, zc_add_16, zc_add_20, zc_sub_1, zc_sub_2, zc_sub_4, zc_sub_10, zc_sub_20, zc_sub_48, zc_sub_97, zc_mul_4, t_ltZ, f_ltZ, t_leZ, f_leZ, t_eqZ, f_eqZ, t_ltN, f_ltN, t_leN, f_leN, t_eqN, f_eqN, ↓reduceIte, and_true, true_and, and_false, false_and, and_self, or_true, true_or, or_false, false_or, or_self, not_true_eq_false, not_false_eq_true, tu_same, tu_eq, tu_ne, b_V, b_I, b_J]
  rw [e_129]
  exact key 6 0 (by omega)
theorem wm_le {n b : Nat} {D : Nat → TD} {s : SP} (h : sOk n D b s) (hD : DOk n D) (ht : pT s ≠ 0) : wm D b s ≤ 3 ∧ b - pG s < 8 := by
  obtain ⟨w1, w2, w3, w4, w5, w6, -⟩ := h
  obtain ⟨u1, u2, u3⟩ := w6 ht
  have g := hD (pT s - 1) (by omega)
  have q := g.2.1
  exact ⟨g.2.2.2.2.2.2.1 _ (by omega), by omega⟩
theorem c_130 {A : Nat → Nat → Int32} {J : Nat → Nat → Int64} {τ : tm_Tu} {cb n b p : Nat} {D : Nat → TD} {S : PS} (h : PsA A S) (hS : SOk n D b S) (hn : n ≤ 12) (hb : isB cb) (hD : DOk n D) (hA : BkA A cb n D) (hp : p < 6) (ht : pT (S p) ≠ 0) (hb1 : b ≤ 1000) : F_130 [.ref 7, .ref cb, .int (nI p), .int (nI b)] (mk A J τ) = some (some (.int (nI (wm D b (S p)))), mk A J τ) := by
  obtain ⟨h0, h1, h2, h3, h4, h5, h6⟩ := h p hp
  obtain ⟨w1, w2, w3, w4, w5, w6, -⟩ := hS p hp
  obtain ⟨b1, b2', b3, b4⟩ := bk_1 hb τ
  obtain ⟨u1, u2, u3⟩ := w6 ht
  rw [tI_s ht] at h3
  have hx : pT (S p) - 1 < n := by omega
  have k5 := bk_2 hb (show pT (S p) - 1 < 12 by omega) τ
  have hT : isT (cb + 2 + 3 * (pT (S p) - 1)) := ⟨cb, _, hb, by omega, rfl⟩
  have k6 := (bk_3 hT τ).1
  have a84 := s_84t (J := J) (τ := τ) hb hn hA.1 hx
  have s90 := s_90 (J := J) (τ := τ) (b - pG (S p)) hT (hA.2 _ hx) (wm_le (hS p hp) hD ht).2
  have f114 := c_114 (I := A) (J := J) (τ := τ) hp
  rw [e_130]
  simp (disch := first | omega | (simp (disch := omega) only [n_ti, Int32.reduceToInt] <;> omega)) only [f114, e_130_4, j_1 hp τ, j_2 hp, h3, b1, a84, e_130_26, b2', b3, b4, k5, k6, h5, s90, e_130_49, e_130_53, n_add, nl_add, nr_add, n_mul, nl_mul, nr_mul, n_sub, nr_dec, n_div, nr_sub_1, nr_sub_2, nr_sub_3, nr_sub_4, nr_sub_7, nr_sub_10, nr_sub_11, nr_sub_20, nr_sub_48, nr_sub_97, nl_sub_3, nl_sub_4, nl_sub_12, nl_sub_24, nl_sub_32, nr_div_2, nr_div_4, z_lt, z_le, z_eq, z_cl, n_ti, Int.toNat_natCast, Int32.reduceToInt, Int32.reduceToNatClampNeg, zc_add, zc_sub, zc_add_1, zc_add_2, zc_add_3, zc_add_4, zc_add_8, zc_add_10, zc_add_12, zc_add_16, zc_add_20, zc_sub_1, zc_sub_2, zc_sub_4, zc_sub_10, zc_sub_20, zc_sub_48, zc_sub_97, zc_mul_4, t_ltZ, f_ltZ, t_leZ, f_leZ, t_eqZ, f_eqZ, t_ltN, f_ltN, t_leN, f_leN, t_eqN, f_eqN, ↓reduceIte, and_true, true_and, and_false, false_and, and_self, or_true, true_or, or_false, false_or, or_self, not_true_eq_false, not_false_eq_true, tu_same, tu_eq, tu_ne, b_V, b_I, b_J]
  rfl
theorem c_130m {A : Nat → Nat → Int32} {J : Nat → Nat → Int64} {τ : tm_Tu} {cb n b : Nat} {D : Nat → TD} {S : PS} (h : PsA A S) (hS : SOk n D b S) (hn : n ≤ 12) (hb : isB cb) (hD : DOk n D) (hA : BkA A cb n D) (hb1 : b ≤ 1000) : F_130 [.ref 7, .ref cb, .int (tI (fiP S)), .int (nI b)] (mk A J τ) = some (some (.int (nI (moP D b S))), mk A J τ) := by
  unfold moP
  rcases fstF_P (itP S) 6 0 with ⟨e, -⟩ | ⟨i, e, i1, i2, i3, -⟩
  · have e' : fiP S = 0 := e
    rw [e', if_pos rfl]
    have f : F_114 [.int (-1)] (mk A J τ) = some (some (.int 0), mk A J τ) := by
      rw [e_114]
      simp (disch := first | omega | (simp (disch := omega) only [n_ti, Int32.reduceToInt] <;> omega)) only [e_114_14, e_114_15, n_add, nl_add, nr_add, n_mul, nl_mul, nr_mul, n_sub, nr_dec, n_div, nr_sub_1, nr_sub_2, nr_sub_3, nr_sub_4, nr_sub_7, nr_sub_10, nr_sub_11, nr_sub_20, nr_sub_48, nr_sub_97, nl_sub_3, nl_sub_4, nl_sub_12, nl_sub_24, nl_sub_32, nr_div_2, nr_div_4, z_lt, z_le, z_eq, z_cl, n_ti, Int.toNat_natCast, Int32.reduceToInt, Int32.reduceToNatClampNeg, zc_add, zc_sub, zc_add_1, zc_add_2, zc_add_3, zc_add_4, zc_add_8, zc_add_10, zc_add_12, zc_add_16, zc_add_20, zc_sub_1, zc_sub_2, zc_sub_4, zc_sub_10, zc_sub_20, zc_sub_48, zc_sub_97, zc_mul_4, t_ltZ, f_ltZ, t_leZ, f_leZ, t_eqZ, f_eqZ, t_ltN, f_ltN, t_leN, f_leN, t_eqN, f_eqN, ↓reduceIte, and_true, true_and, and_false, false_and, and_self, or_true, true_or, or_false, false_or, or_self, not_true_eq_false, not_false_eq_true, tu_same, tu_eq, tu_ne, b_V, b_I, b_J]
    show F_130 [.ref 7, .ref cb, .int (-1), .int (nI b)] (mk A J τ) = _
    rw [e_130]
    simp (disch := first | omega | (simp (disch := omega) only [n_ti, Int32.reduceToInt] <;> omega)) only [f, e_130_4, n_add, nl_add, nr_add, n_mul, nl_mul, nr_mul, n_sub, nr_dec, n_div, nr_sub_1, nr_sub_2, nr_sub_3, nr_sub_4, nr_sub_7, nr_sub_10, nr_sub_11, nr_sub_20, nr_sub_48, nr_sub_97, nl_sub_3, nl_sub_4, nl_sub_12, nl_sub_24, nl_sub_32, nr_div_2, nr_div_4, z_lt, z_le, z_eq, z_cl, n_ti, Int.toNat_natCast, Int32.reduceToInt, Int32.reduceToNatClampNeg, zc_add, zc_sub, zc_add_1, zc_add_2, zc_add_3, zc_add_4, zc_add_8, zc_add_10, zc_add_12, zc_add_16, zc_add_20, zc_sub_1, zc_sub_2, zc_sub_4, zc_sub_10, zc_sub_20, zc_sub_48, zc_sub_97, zc_mul_4, t_ltZ, f_ltZ, t_leZ, f_leZ, t_eqZ, f_eqZ, t_ltN, f_ltN, t_leN, f_leN, t_eqN, f_eqN, ↓reduceIte, and_true, true_and, and_false, false_and, and_self, or_true, true_or, or_false, false_or, or_self, not_true_eq_false, not_false_eq_true, tu_same, tu_eq, tu_ne, b_V, b_I, b_J]
    rfl
  · have e' : fiP S = i + 1 := e
    rw [e', if_neg (by omega)]
    have ht : pT (S i) ≠ 0 := by unfold itP at i3; exact of_decide_eq_true i3
    exact c_130 h hS hn hb hD hA (by omega) ht hb1
def fs1 (s : SP) : Nat := if pF s = 1 then 2 else 1
def dv (D : Nat → TD) (b : Nat) (s : SP) (i : Nat) : Nat := dnM (pM s) (D (pT s - 1)) (4 * (b - pG s) + i)
def ff (D : Nat → TD) (b : Nat) (s : SP) : Nat → Nat
  | 0 => pF s
  | i + 1 => if dv D b s i = 0 then ff D b s i else dv D b s i
def xx (D : Nat → TD) (b : Nat) (s : SP) : Nat → Nat
  | 0 => 0
  | i + 1 => xx D b s i + dv D b s i * 4 ^ i
def stS (D : Nat → TD) (b : Nat) (s : SP) : SP := if pW s = 1 then (if pT s = 0 then (pW s, mir (fs1 s), pD s, pT s, pM s, pG s, 4 * fs1 s + 64 * mir (fs1 s)) else (pW s, ff D b s 4, pD s, pT s, pM s, pG s, xx D b s 4)) else s
theorem dv_le {n b i : Nat} {D : Nat → TD} {s : SP} (h : sOk n D b s) (hD : DOk n D) (ht : pT s ≠ 0) (hi : i < 4) : dv D b s i ≤ 3 ∧ 4 * (b - pG s) + i < 4 * dQ (D (pT s - 1)) := by
  obtain ⟨w1, w2, w3, w4, w5, w6, -⟩ := h
  obtain ⟨u1, u2, u3⟩ := w6 ht
  have g := hD (pT s - 1) (by omega)
  exact ⟨dnM_le g (by omega), by omega⟩
theorem ff_le {n b : Nat} {D : Nat → TD} {s : SP} (h : sOk n D b s) (hD : DOk n D) (ht : pT s ≠ 0) : ∀ i, i ≤ 4 → ff D b s i ≤ 3 := by
  intro i
  induction i with
  | zero => intro _; exact h.2.1
  | succ i ih =>
    intro hi
    have g := (dv_le (i := i) h hD ht (by omega)).1
    have g2 := ih (by omega)
    show (if dv D b s i = 0 then ff D b s i else dv D b s i) ≤ 3
    split <;> omega
theorem xx_lt {n b : Nat} {D : Nat → TD} {s : SP} (h : sOk n D b s) (hD : DOk n D) (ht : pT s ≠ 0) : ∀ i, i ≤ 4 → xx D b s i < 4 ^ i := by
  intro i
  induction i with
  | zero => intro _; exact Nat.one_pos
  | succ i ih =>
    intro hi
    have g := (dv_le (i := i) h hD ht (by omega)).1
    have g2 := ih (by omega)
    show xx D b s i + dv D b s i * 4 ^ i < 4 ^ (i + 1)
    have g3 : dv D b s i * 4 ^ i ≤ 3 * 4 ^ i := Nat.mul_le_mul_right _ g
    rw [Nat.pow_succ]
    omega
theorem xx_dg {n b : Nat} {D : Nat → TD} {s : SP} (h : sOk n D b s) (hD : DOk n D) (ht : pT s ≠ 0) : ∀ i, i < 4 → xx D b s 4 / 4 ^ i % 4 = dv D b s i := by
  have e0 := (dv_le (i := 0) h hD ht (by omega)).1
  have e1 := (dv_le (i := 1) h hD ht (by omega)).1
  have e2 := (dv_le (i := 2) h hD ht (by omega)).1
  have e3 := (dv_le (i := 3) h hD ht (by omega)).1
  have e : xx D b s 4 = dv D b s 0 + dv D b s 1 * 4 + dv D b s 2 * 16 + dv D b s 3 * 64 := by
    show 0 + dv D b s 0 * 4 ^ 0 + dv D b s 1 * 4 ^ 1 + dv D b s 2 * 4 ^ 2 + dv D b s 3 * 4 ^ 3 = _
    omega
  intro i hi
  rw [e]
  have : i = 0 ∨ i = 1 ∨ i = 2 ∨ i = 3 := by omega
  rcases this with c | c | c | c <;> subst c
  · show (_ / 1) % 4 = _; omega
  · show (_ / 4) % 4 = _; omega
  · show (_ / 16) % 4 = _; omega
  · show (_ / 64) % 4 = _; omega
theorem fs1_c (s : SP) : fs1 s = 1 ∨ fs1 s = 2 := by
  unfold fs1
  split <;> omega
theorem stS_ok {n b : Nat} {D : Nat → TD} {s : SP} (h : sOk n D b s) (hD : DOk n D) : sOk n D b (stS D b s) ∧ pW (stS D b s) = pW s ∧ pT (stS D b s) = pT s ∧ pG (stS D b s) = pG s ∧ pM (stS D b s) = pM s ∧ pD (stS D b s) = pD s := by
  obtain ⟨w1, w2, w3, w4, w5, w6, w7, w8⟩ := id h
  unfold stS
  by_cases c1 : pW s = 1
  · rw [if_pos c1]
    by_cases c2 : pT s = 0
    · rw [if_pos c2]
      refine ⟨⟨w1, ?_, w3, w4, w5, w6, ?_, w8⟩, rfl, rfl, rfl, rfl, rfl⟩
      · show mir (fs1 s) ≤ 3
        rcases fs1_c s with e | e <;> rw [e] <;> decide
      · show 4 * fs1 s + 64 * mir (fs1 s) < 256
        rcases fs1_c s with e | e <;> rw [e] <;> decide
    · rw [if_neg c2]
      exact ⟨⟨w1, ff_le h hD c2 4 (by omega), w3, w4, w5, w6, xx_lt h hD c2 4 (by omega), w8⟩, rfl, rfl, rfl, rfl, rfl⟩
  · rw [if_neg c1]
    exact ⟨h, rfl, rfl, rfl, rfl, rfl⟩
theorem sh2_c : ∀ i : Fin 4, (((2 * nI i.val) &&& 31).toBitVec.smod 32).toNat = 2 * i.val := by decide +kernel
theorem or_pk {x v i : Nat} (hx : x < 4 ^ i) (hv : v ≤ 3) (hi : i < 4) : nI x ||| (nI v <<< ((2 * nI i) &&& 31)) = nI (x + v * 4 ^ i) := by
  have e4 : (4 : Nat) ^ i = 2 ^ (2 * i) := by rw [Nat.pow_mul]
  have hlt : v * 2 ^ (2 * i) < 2 ^ 32 := by
    have h1 : (2 : Nat) ^ (2 * i) ≤ 2 ^ 6 := Nat.pow_le_pow_right (by omega) (by omega)
    have h2 : v * 2 ^ (2 * i) ≤ 3 * 2 ^ 6 := Nat.mul_le_mul hv h1
    omega
  rw [pk_shlN _ (2 * i) (sh2_c ⟨i, hi⟩) hlt, i_or, e4]
  rw [e4] at hx
  have g := Nat.two_pow_add_eq_or_of_lt hx v
  rw [Nat.or_comm, Nat.mul_comm v, ← g, Nat.add_comm]
theorem c_132 {A : Nat → Nat → Int32} {J : Nat → Nat → Int64} {τ : tm_Tu} {c n b p : Nat} {D : Nat → TD} {s : SP} (h : JmA A p s) (hs : sOk n D b s) (hp : p < 6) (ht : pT s ≠ 0) (hn : n ≤ 12) (hD : DOk n D) (hc : isT c) (hT : TrA A c (D (pT s - 1))) (hb1 : b ≤ 1000) : ∃ A', F_132 [.ref (18 + p), .ref c, .int (nI b)] (mk A J τ) = some (none, mk A' J τ) ∧ JmA A' p (pW s, ff D b s 4, pD s, pT s, pM s, pG s, xx D b s 4) ∧ (∀ a k, a ≠ 18 + p → A' a k = A a k) := by
  have k2 := j_2 hp
  have kc := (bk_3 hc τ).1
  have hc45 := (bk_3 hc τ).2.2.2.2.2.2.2.1
  obtain ⟨w1, w2, w3, w4, w5, w6, -⟩ := id hs
  obtain ⟨u1, u2, u3⟩ := w6 ht
  have key : ∀ m i (A : Nat → Nat → Int32), i + m = 4 → JmA A p (pW s, ff D b s i, pD s, pT s, pM s, pG s, xx D b s i) → TrA A c (D (pT s - 1)) → ∃ A', R_132 7 [(0, .ref (18 + p)), (1, .ref c), (2, .int (nI b)), (3, .int (nI i))] [] (mk A J τ) = some (none, mk A' J τ) ∧ JmA A' p (pW s, ff D b s 4, pD s, pT s, pM s, pG s, xx D b s 4) ∧ (∀ a k, a ≠ 18 + p → A' a k = A a k) := by
    intro m
    induction m with
    | zero =>
      intro i A hi hJ hT
      have : i = 4 := by omega
      subst this
      refine ⟨A, ?_, hJ, fun _ _ _ => rfl⟩
      rw [e_132_7]
      simp (disch := first | omega | (simp (disch := omega) only [n_ti, Int32.reduceToInt] <;> omega)) only [n_add, nl_add, nr_add, n_mul, nl_mul, nr_mul, n_sub, nr_dec, n_div, nr_sub_1, nr_sub_2, nr_sub_3, nr_sub_4, nr_sub_7, nr_sub_10, nr_sub_11, nr_sub_20, nr_sub_48, nr_sub_97, nl_sub_3, nl_sub_4, nl_sub_12, nl_sub_24, nl_sub_32, nr_div_2, nr_div_4, z_lt, z_le, z_eq, z_cl, n_ti, Int.toNat_natCast, Int32.reduceToInt, Int32.reduceToNatClampNeg, zc_add, zc_sub, zc_add_1, zc_add_2, zc_add_3, zc_add_4, zc_add_8, zc_add_10, zc_add_12, zc_add_16, zc_add_20, zc_sub_1, zc_sub_2, zc_sub_4, zc_sub_10, zc_sub_20, zc_sub_48, zc_sub_97, zc_mul_4, t_ltZ, f_ltZ, t_leZ, f_leZ, t_eqZ, f_eqZ, t_ltN, f_ltN, t_leN, f_leN, t_eqN, f_eqN, ↓reduceIte, and_true, true_and, and_false, false_and, and_self, or_true, true_or, or_false, false_or, or_self, not_true_eq_false, not_false_eq_true, tu_same, tu_eq, tu_ne, b_V, b_I, b_J]
    | succ m ih =>
      intro i A hi hJ hT
      obtain ⟨h0, h1, h2, h3, h4, h5, h6⟩ := hJ
      change A (18 + p) 0 = nI (pW s) at h0
      change A (18 + p) 1 = nI (ff D b s i) at h1
      change A (18 + p) 2 = nI (pD s) at h2
      change A (18 + p) 3 = tI (pT s) at h3
      change A (18 + p) 4 = nI (pM s) at h4
      change A (18 + p) 5 = nI (pG s) at h5
      change A (18 + p) 6 = nI (xx D b s i) at h6
      obtain ⟨d1, d2⟩ := dv_le (i := i) hs hD ht (by omega)
      have s88 := s_88 (J := J) (τ := τ) (pM s) (4 * (b - pG s) + i) w5 hc (hD _ (by omega)) hT d2
      have s88' : F_88 [.ref c, .int (nI (4 * (b - pG s) + i)), .int (nI (pM s))] (mk A J τ) = some (some (.int (nI (dv D b s i))), mk A J τ) := s88
      have ho := or_pk (x := xx D b s i) (v := dv D b s i) (xx_lt hs hD ht i (by omega)) d1 (show i < 4 by omega)
      have ex : xx D b s (i + 1) = xx D b s i + dv D b s i * 4 ^ i := rfl
      have st : R_132 7 [(0, .ref (18 + p)), (1, .ref c), (2, .int (nI b)), (3, .int (nI i))] [] (mk A J τ) = R_132 30 [(0, .ref (18 + p)), (1, .ref c), (2, .int (nI b)), (3, .int (nI i))] [.int (nI (dv D b s i))] (mk A J τ) := by
        rw [e_132_7]
        simp (disch := first | omega | (simp (disch := omega) only [n_ti, Int32.reduceToInt] <;> omega)) only [k2, kc, h4, h5, s88', n_add, nl_add, nr_add, n_mul, nl_mul, nr_mul, n_sub, nr_dec, n_div, nr_sub_1, nr_sub_2, nr_sub_3, nr_sub_4, nr_sub_7, nr_sub_10, nr_sub_11, nr_sub_20, nr_sub_48, nr_sub_97, nl_sub_3, nl_sub_4, nl_sub_12, nl_sub_24, nl_sub_32, nr_div_2, nr_div_4, z_lt, z_le, z_eq, z_cl, n_ti, Int.toNat_natCast, Int32.reduceToInt, Int32.reduceToNatClampNeg, zc_add, zc_sub, zc_add_1, zc_add_2, zc_add_3, zc_add_4, zc_add_8, zc_add_10, zc_add_12, zc_add_16, zc_add_20, zc_sub_1, zc_sub_2, zc_sub_4, zc_sub_10, zc_sub_20, zc_sub_48, zc_sub_97, zc_mul_4, t_ltZ, f_ltZ, t_leZ, f_leZ, t_eqZ, f_eqZ, t_ltN, f_ltN, t_leN, f_leN, t_eqN, f_eqN, ↓reduceIte, and_true, true_and, and_false, false_and, and_self, or_true, true_or, or_false, false_or, or_self, not_true_eq_false, not_false_eq_true, tu_same, tu_eq, tu_ne, b_V, b_I, b_J]
      by_cases cz : dv D b s i = 0
      · have ef : ff D b s (i + 1) = ff D b s i := if_pos cz
        obtain ⟨A', g1, g2, g3⟩ := ih (i + 1) (tm_u A (18 + p) 6 (nI (xx D b s (i + 1)))) (by omega) ⟨by simp (disch := omega) only [h0, tu_same, tu_eq, tu_ne], by simp (disch := omega) only [h1, tu_same, tu_eq, tu_ne]; rw [ef], by simp (disch := omega) only [h2, tu_same, tu_eq, tu_ne], by simp (disch := omega) only [h3, tu_same, tu_eq, tu_ne], by simp (disch := omega) only [h4, tu_same, tu_eq, tu_ne], by simp (disch := omega) only [h5, tu_same, tu_eq, tu_ne], by simp (disch := omega) only [tu_same, tu_eq, tu_ne]⟩ (hT.tr (fun a k u v => by simp (disch := omega) only [tu_same, tu_eq, tu_ne]))
        refine ⟨A', ?_, g2, fun a k u => by rw [g3 a k u]; simp (disch := omega) only [tu_same, tu_eq, tu_ne]⟩
        rw [st, ← g1, e_132_30, h6, ho, ← ex]
        rw [if_pos k2, if_pos k2, if_pos (show nI (dv D b s i) = 0 by rw [cz]; rfl), e_132_58]
        simp (disch := first | omega | (simp (disch := omega) only [n_ti, Int32.reduceToInt] <;> omega)) only [n_add, nl_add, nr_add, n_mul, nl_mul, nr_mul, n_sub, nr_dec, n_div, nr_sub_1, nr_sub_2, nr_sub_3, nr_sub_4, nr_sub_7, nr_sub_10, nr_sub_11, nr_sub_20, nr_sub_48, nr_sub_97, nl_sub_3, nl_sub_4, nl_sub_12, nl_sub_24, nl_sub_32, nr_div_2, nr_div_4, z_lt, z_le, z_eq, z_cl, n_ti, Int.toNat_natCast, Int32.reduceToInt, Int32.reduceToNatClampNeg, zc_add, zc_sub, zc_add_1, zc_add_2, zc_add_3, zc_add_4, zc_add_8, zc_add_10, zc_add_12, zc_add_16, zc_add_20, zc_sub_1, zc_sub_2, zc_sub_4, zc_sub_10, zc_sub_20, zc_sub_48, zc_sub_97, zc_mul_4, t_ltZ, f_ltZ, t_leZ, f_leZ, t_eqZ, f_eqZ, t_ltN, f_ltN, t_leN, f_leN, t_eqN, f_eqN, ↓reduceIte, and_true, true_and, and_false, false_and, and_self, or_true, true_or, or_false, false_or, or_self, not_true_eq_false, not_false_eq_true, tu_same, tu_eq, tu_ne, b_V, b_I, b_J]
      · have ef : ff D b s (i + 1) = dv D b s i := if_neg cz
        obtain ⟨A', g1, g2, g3⟩ := ih (i + 1) (tm_u (tm_u A (18 + p) 6 (nI (xx D b s (i + 1)))) (18 + p) 1 (nI (dv D b s i))) (by omega) ⟨by simp (disch := omega) only [h0, tu_same, tu_eq, tu_ne], by simp (disch := omega) only [tu_same, tu_eq, tu_ne]; rw [ef], by simp (disch := omega) only [h2, tu_same, tu_eq, tu_ne], by simp (disch := omega) only [h3, tu_same, tu_eq, tu_ne], by simp (disch := omega) only [h4, tu_same, tu_eq, tu_ne], by simp (disch := omega) only [h5, tu_same, tu_eq, tu_ne], by simp (disch := omega) only [tu_same, tu_eq, tu_ne]⟩ (hT.tr (fun a k u v => by simp (disch := omega) only [tu_same, tu_eq, tu_ne]))
        refine ⟨A', ?_, g2, fun a k u => by rw [g3 a k u]; simp (disch := omega) only [tu_same, tu_eq, tu_ne]⟩
        rw [st, ← g1, e_132_30, h6, ho, ← ex]
        rw [if_pos k2, if_pos k2, if_neg (nI_ne0 (by omega) (by omega)), if_pos k2, e_132_58]
        simp (disch := first | omega | (simp (disch := omega) only [n_ti, Int32.reduceToInt] <;> omega)) only [n_add, nl_add, nr_add, n_mul, nl_mul, nr_mul, n_sub, nr_dec, n_div, nr_sub_1, nr_sub_2, nr_sub_3, nr_sub_4, nr_sub_7, nr_sub_10, nr_sub_11, nr_sub_20, nr_sub_48, nr_sub_97, nl_sub_3, nl_sub_4, nl_sub_12, nl_sub_24, nl_sub_32, nr_div_2, nr_div_4, z_lt, z_le, z_eq, z_cl, n_ti, Int.toNat_natCast, Int32.reduceToInt, Int32.reduceToNatClampNeg, zc_add, zc_sub, zc_add_1, zc_add_2, zc_add_3, zc_add_4, zc_add_8, zc_add_10, zc_add_12, zc_add_16, zc_add_20, zc_sub_1, zc_sub_2, zc_sub_4, zc_sub_10, zc_sub_20, zc_sub_48, zc_sub_97, zc_mul_4, t_ltZ, f_ltZ, t_leZ, f_leZ, t_eqZ, f_eqZ, t_ltN, f_ltN, t_leN, f_leN, t_eqN, f_eqN, ↓reduceIte, and_true, true_and, and_false, false_and, and_self, or_true, true_or, or_false, false_or, or_self, not_true_eq_false, not_false_eq_true, tu_same, tu_eq, tu_ne, b_V, b_I, b_J]
  obtain ⟨h0, h1, h2, h3, h4, h5, h6⟩ := h
  obtain ⟨A', g1, g2, g3⟩ := key 4 0 (tm_u A (18 + p) 6 0) (by omega) ⟨by simp (disch := omega) only [h0, tu_same, tu_eq, tu_ne], by simp (disch := omega) only [h1, tu_same, tu_eq, tu_ne]; rfl, by simp (disch := omega) only [h2, tu_same, tu_eq, tu_ne], by simp (disch := omega) only [h3, tu_same, tu_eq, tu_ne], by simp (disch := omega) only [h4, tu_same, tu_eq, tu_ne], by simp (disch := omega) only [h5, tu_same, tu_eq, tu_ne], by simp (disch := omega) only [tu_same, tu_eq, tu_ne]; rfl⟩ (hT.tr (fun a k u v => by simp (disch := omega) only [tu_same, tu_eq, tu_ne]))
  refine ⟨A', ?_, g2, fun a k u => by rw [g3 a k u]; simp (disch := omega) only [tu_same, tu_eq, tu_ne]⟩
  rw [e_132, if_pos k2]
  exact g1
theorem c_131 {A : Nat → Nat → Int32} {J : Nat → Nat → Int64} {τ : tm_Tu} {p : Nat} {s : SP} (h : JmA A p s) (hp : p < 6) (hf : pF s ≤ 3) : ∃ A', F_131 [.ref (18 + p)] (mk A J τ) = some (none, mk A' J τ) ∧ JmA A' p (pW s, mir (fs1 s), pD s, pT s, pM s, pG s, 4 * fs1 s + 64 * mir (fs1 s)) ∧ (∀ a k, a ≠ 18 + p → A' a k = A a k) := by
  have k2 := j_2 hp
  obtain ⟨h0, h1, h2, h3, h4, h5, h6⟩ := h
  have h86 := s_86 (I := A) (J := J) (τ := τ) (v := fs1 s) (by rcases fs1_c s with e | e <;> omega)
  have ex : ((nI (fs1 s) <<< 2) ||| (nI (mir (fs1 s)) <<< 6) : Int32) = nI (4 * fs1 s + 64 * mir (fs1 s)) := by
    rcases fs1_c s with e | e <;> rw [e] <;> decide
  have st : F_131 [.ref (18 + p)] (mk A J τ) = R_131 13 [(0, .ref (18 + p))] [.int (nI (fs1 s))] (mk A J τ) := by
    rw [e_131]
    unfold fs1
    by_cases c : pF s = 1
    · rw [if_pos c]
      rw [c] at h1
      simp (disch := first | omega | (simp (disch := omega) only [n_ti, Int32.reduceToInt] <;> omega)) only [k2, h1, n_add, nl_add, nr_add, n_mul, nl_mul, nr_mul, n_sub, nr_dec, n_div, nr_sub_1, nr_sub_2, nr_sub_3, nr_sub_4, nr_sub_7, nr_sub_10, nr_sub_11, nr_sub_20, nr_sub_48, nr_sub_97, nl_sub_3, nl_sub_4, nl_sub_12, nl_sub_24, nl_sub_32, nr_div_2, nr_div_4, z_lt, z_le, z_eq, z_cl, n_ti, Int.toNat_natCast, Int32.reduceToInt, Int32.reduceToNatClampNeg, zc_add, zc_sub, zc_add_1, zc_add_2, zc_add_3, zc_add_4, zc_add_8, zc_add_10, zc_add_12, zc_add_16, zc_add_20, zc_sub_1, zc_sub_2, zc_sub_4, zc_sub_10, zc_sub_20, zc_sub_48, zc_sub_97, zc_mul_4, t_ltZ, f_ltZ, t_leZ, f_leZ, t_eqZ, f_eqZ, t_ltN, f_ltN, t_leN, f_leN, t_eqN, f_eqN, ↓reduceIte, and_true, true_and, and_false, false_and, and_self, or_true, true_or, or_false, false_or, or_self, not_true_eq_false, not_false_eq_true, tu_same, tu_eq, tu_ne, b_V, b_I, b_J]
      rfl
    · rw [if_neg c]
      simp (disch := first | omega | (simp (disch := omega) only [n_ti, Int32.reduceToInt] <;> omega)) only [k2, h1, n_add, nl_add, nr_add, n_mul, nl_mul, nr_mul, n_sub, nr_dec, n_div, nr_sub_1, nr_sub_2, nr_sub_3, nr_sub_4, nr_sub_7, nr_sub_10, nr_sub_11, nr_sub_20, nr_sub_48, nr_sub_97, nl_sub_3, nl_sub_4, nl_sub_12, nl_sub_24, nl_sub_32, nr_div_2, nr_div_4, z_lt, z_le, z_eq, z_cl, n_ti, Int.toNat_natCast, Int32.reduceToInt, Int32.reduceToNatClampNeg, zc_add, zc_sub, zc_add_1, zc_add_2, zc_add_3, zc_add_4, zc_add_8, zc_add_10, zc_add_12, zc_add_16, zc_add_20, zc_sub_1, zc_sub_2, zc_sub_4, zc_sub_10, zc_sub_20, zc_sub_48, zc_sub_97, zc_mul_4, t_ltZ, f_ltZ, t_leZ, f_leZ, t_eqZ, f_eqZ, t_ltN, f_ltN, t_leN, f_leN, t_eqN, f_eqN, ↓reduceIte, and_true, true_and, and_false, false_and, and_self, or_true, true_or, or_false, false_or, or_self, not_true_eq_false, not_false_eq_true, tu_same, tu_eq, tu_ne, b_V, b_I, b_J]
      rfl
  refine ⟨tm_u (tm_u A (18 + p) 6 (nI (4 * fs1 s + 64 * mir (fs1 s)))) (18 + p) 1 (nI (mir (fs1 s))), ?_, ⟨by simp (disch := omega) only [h0, tu_same, tu_eq, tu_ne], by simp (disch := omega) only [tu_same, tu_eq, tu_ne], by simp (disch := omega) only [h2, tu_same, tu_eq, tu_ne], by simp (disch := omega) only [h3, tu_same, tu_eq, tu_ne], by simp (disch := omega) only [h4, tu_same, tu_eq, tu_ne], by simp (disch := omega) only [h5, tu_same, tu_eq, tu_ne], by simp (disch := omega) only [tu_same, tu_eq, tu_ne]⟩, fun a k u => by simp (disch := omega) only [tu_same, tu_eq, tu_ne]⟩
  rw [st, e_131_13, h86]
  rw [b_I, e_131_18, if_pos k2, if_pos k2, ex]
def stF (D : Nat → TD) (b : Nat) (S : PS) (j : Nat) : PS := fun p => if j ≤ p then stS D b (S p) else S p
theorem stF_step {D : Nat → TD} {b : Nat} {S : PS} {j : Nat} : stF D b (updN S j (stS D b (S j))) (j + 1) = stF D b S j := by
  funext p
  unfold stF updN
  by_cases c : p = j
  · subst c
    rw [if_neg (by omega), if_pos rfl, if_pos (Nat.le_refl _)]
  · by_cases d : j ≤ p
    · rw [if_pos (by omega), if_neg c, if_pos d]
    · rw [if_neg (by omega), if_neg c, if_neg d]
theorem updN_id {α : Type} (f : Nat → α) (k : Nat) : updN f k (f k) = f := by
  funext j
  unfold updN
  split
  · next h => rw [h]
  · rfl
set_option maxHeartbeats 1000000 in
theorem c_133 {J : Nat → Nat → Int64} {τ : tm_Tu} {cb n b : Nat} {D : Nat → TD} (hn : n ≤ 12) (hb : isB cb) (hD : DOk n D) (hb1 : b ≤ 1000) : ∀ m j (A : Nat → Nat → Int32) (S : PS), j + m = 6 → PsA A S → (∀ p, p < 6 → j ≤ p → sOk n D b (S p)) → BkA A cb n D → ∃ A', R_133 2 [(0, .ref 7), (1, .ref cb), (2, .int (nI b)), (3, .int (nI j))] [] (mk A J τ) = some (none, mk A' J τ) ∧ PsA A' (stF D b S j) ∧ (∀ a k, ¬ (18 ≤ a ∧ a ≤ 23) → A' a k = A a k) := by
  have hb43 : 43 ≤ cb := by unfold isB at hb; omega
  obtain ⟨b1, b2', b3, b4⟩ := bk_1 hb τ
  intro m
  induction m with
  | zero =>
    intro j A S hj h hS hA
    refine ⟨A, ?_, fun p hp => ?_, fun _ _ _ => rfl⟩
    · rw [e_133_2]
      simp (disch := first | omega | (simp (disch := omega) only [n_ti, Int32.reduceToInt] <;> omega)) only [n_add, nl_add, nr_add, n_mul, nl_mul, nr_mul, n_sub, nr_dec, n_div, nr_sub_1, nr_sub_2, nr_sub_3, nr_sub_4, nr_sub_7, nr_sub_10, nr_sub_11, nr_sub_20, nr_sub_48, nr_sub_97, nl_sub_3, nl_sub_4, nl_sub_12, nl_sub_24, nl_sub_32, nr_div_2, nr_div_4, z_lt, z_le, z_eq, z_cl, n_ti, Int.toNat_natCast, Int32.reduceToInt, Int32.reduceToNatClampNeg, zc_add, zc_sub, zc_add_1, zc_add_2, zc_add_3, zc_add_4, zc_add_8, zc_add_10, zc_add_12, zc_add_16, zc_add_20, zc_sub_1, zc_sub_2, zc_sub_4, zc_sub_10, zc_sub_20, zc_sub_48, zc_sub_97, zc_mul_4, t_ltZ, f_ltZ, t_leZ, f_leZ, t_eqZ, f_eqZ, t_ltN, f_ltN, t_leN, f_leN, t_eqN, f_eqN, ↓reduceIte, and_true, true_and, and_false, false_and, and_self, or_true, true_or, or_false, false_or, or_self, not_true_eq_false, not_false_eq_true, tu_same, tu_eq, tu_ne, b_V, b_I, b_J]
    · unfold stF
      rw [if_neg (by omega)]
      exact h p hp
  | succ m ih =>
    intro j A S hj h hS hA
    have hp : j < 6 := by omega
    have hs := hS j hp (Nat.le_refl _)
    obtain ⟨w1, w2, w3, w4, w5, w6, -⟩ := id hs
    have f119 := c_119 (J := J) (τ := τ) hp (h j hp) w1 (by omega)
    have f116 := c_116 (J := J) (τ := τ) hp (h j hp) w1 (by omega) (fun u => (w6 u).1)
    have h3 := (h j hp).2.2.2.1
    have k1 := j_1 hp τ
    have k2 := j_2 hp
    -- the step of this person
    have key : ∃ A1, R_133 2 [(0, .ref 7), (1, .ref cb), (2, .int (nI b)), (3, .int (nI j))] [] (mk A J τ) = R_133 68 [(0, .ref 7), (1, .ref cb), (2, .int (nI b)), (3, .int (nI j))] [] (mk A1 J τ) ∧ JmA A1 j (stS D b (S j)) ∧ (∀ a k, a ≠ 18 + j → A1 a k = A a k) := by
      unfold stS
      by_cases c1 : pW (S j) = 1
      · rw [if_pos c1]
        by_cases c2 : pT (S j) = 0
        · rw [if_pos c2]
          have e : b2 (decide (pW (S j) = 1 ∧ pT (S j) = 0)) = 1 := by simp [c1, c2, b2]
          rw [e] at f119
          obtain ⟨A1, g1, g2, g3⟩ := c_131 (J := J) (τ := τ) (h j hp) hp w2
          refine ⟨A1, ?_, g2, g3⟩
          rw [e_133_2]
          simp (disch := first | omega | (simp (disch := omega) only [n_ti, Int32.reduceToInt] <;> omega)) only [k1, k2, f119, e_133_21, g1, e_133_29, n_add, nl_add, nr_add, n_mul, nl_mul, nr_mul, n_sub, nr_dec, n_div, nr_sub_1, nr_sub_2, nr_sub_3, nr_sub_4, nr_sub_7, nr_sub_10, nr_sub_11, nr_sub_20, nr_sub_48, nr_sub_97, nl_sub_3, nl_sub_4, nl_sub_12, nl_sub_24, nl_sub_32, nr_div_2, nr_div_4, z_lt, z_le, z_eq, z_cl, n_ti, Int.toNat_natCast, Int32.reduceToInt, Int32.reduceToNatClampNeg, zc_add, zc_sub, zc_add_1, zc_add_2, zc_add_3, zc_add_4, zc_add_8, zc_add_10, zc_add_12, zc_add_16, zc_add_20, zc_sub_1, zc_sub_2, zc_sub_4, zc_sub_10, zc_sub_20, zc_sub_48, zc_sub_97, zc_mul_4, t_ltZ, f_ltZ, t_leZ, f_leZ, t_eqZ, f_eqZ, t_ltN, f_ltN, t_leN, f_leN, t_eqN, f_eqN, ↓reduceIte, and_true, true_and, and_false, false_and, and_self, or_true, true_or, or_false, false_or, or_self, not_true_eq_false, not_false_eq_true, tu_same, tu_eq, tu_ne, b_V, b_I, b_J]
        · rw [if_neg c2]
          have e : b2 (decide (pW (S j) = 1 ∧ pT (S j) = 0)) = 0 := by simp [c2, b2]
          have e2 : b2 (decide (pT (S j) ≠ 0)) = 1 := by simp [c2, b2]
          rw [e] at f119
          rw [e2] at f116
          rw [tI_s c2] at h3
          have hx : pT (S j) - 1 < n := by omega
          have k5 := bk_2 hb (show pT (S j) - 1 < 12 by omega) τ
          have hT : isT (cb + 2 + 3 * (pT (S j) - 1)) := ⟨cb, _, hb, by omega, rfl⟩
          have a84 := s_84t (J := J) (τ := τ) hb hn hA.1 hx
          obtain ⟨A1, g1, g2, g3⟩ := c_132 (J := J) (τ := τ) (h j hp) hs hp c2 hn hD hT (hA.2 _ hx) hb1
          refine ⟨A1, ?_, g2, g3⟩
          rw [e_133_2]
          simp (disch := first | omega | (simp (disch := omega) only [n_ti, Int32.reduceToInt] <;> omega)) only [k1, k2, f119, e_133_21, f116, e_133_37, h3, b1, a84, e_133_49, b2', b3, b4, k5, g1, n_add, nl_add, nr_add, n_mul, nl_mul, nr_mul, n_sub, nr_dec, n_div, nr_sub_1, nr_sub_2, nr_sub_3, nr_sub_4, nr_sub_7, nr_sub_10, nr_sub_11, nr_sub_20, nr_sub_48, nr_sub_97, nl_sub_3, nl_sub_4, nl_sub_12, nl_sub_24, nl_sub_32, nr_div_2, nr_div_4, z_lt, z_le, z_eq, z_cl, n_ti, Int.toNat_natCast, Int32.reduceToInt, Int32.reduceToNatClampNeg, zc_add, zc_sub, zc_add_1, zc_add_2, zc_add_3, zc_add_4, zc_add_8, zc_add_10, zc_add_12, zc_add_16, zc_add_20, zc_sub_1, zc_sub_2, zc_sub_4, zc_sub_10, zc_sub_20, zc_sub_48, zc_sub_97, zc_mul_4, t_ltZ, f_ltZ, t_leZ, f_leZ, t_eqZ, f_eqZ, t_ltN, f_ltN, t_leN, f_leN, t_eqN, f_eqN, ↓reduceIte, and_true, true_and, and_false, false_and, and_self, or_true, true_or, or_false, false_or, or_self, not_true_eq_false, not_false_eq_true, tu_same, tu_eq, tu_ne, b_V, b_I, b_J]
      · rw [if_neg c1]
        have e : b2 (decide (pW (S j) = 1 ∧ pT (S j) = 0)) = 0 := by simp [c1, b2]
        have c2 : pT (S j) = 0 := by
          by_cases d : pT (S j) = 0
          · exact d
          · exact absurd (w6 d).1 c1
        have e2 : b2 (decide (pT (S j) ≠ 0)) = 0 := by simp [c2, b2]
        rw [e] at f119
        rw [e2] at f116
        refine ⟨A, ?_, h j hp, fun _ _ _ => rfl⟩
        rw [e_133_2]
        simp (disch := first | omega | (simp (disch := omega) only [n_ti, Int32.reduceToInt] <;> omega)) only [k1, k2, f119, e_133_21, f116, e_133_37, n_add, nl_add, nr_add, n_mul, nl_mul, nr_mul, n_sub, nr_dec, n_div, nr_sub_1, nr_sub_2, nr_sub_3, nr_sub_4, nr_sub_7, nr_sub_10, nr_sub_11, nr_sub_20, nr_sub_48, nr_sub_97, nl_sub_3, nl_sub_4, nl_sub_12, nl_sub_24, nl_sub_32, nr_div_2, nr_div_4, z_lt, z_le, z_eq, z_cl, n_ti, Int.toNat_natCast, Int32.reduceToInt, Int32.reduceToNatClampNeg, zc_add, zc_sub, zc_add_1, zc_add_2, zc_add_3, zc_add_4, zc_add_8, zc_add_10, zc_add_12, zc_add_16, zc_add_20, zc_sub_1, zc_sub_2, zc_sub_4, zc_sub_10, zc_sub_20, zc_sub_48, zc_sub_97, zc_mul_4, t_ltZ, f_ltZ, t_leZ, f_leZ, t_eqZ, f_eqZ, t_ltN, f_ltN, t_leN, f_leN, t_eqN, f_eqN, ↓reduceIte, and_true, true_and, and_false, false_and, and_self, or_true, true_or, or_false, false_or, or_self, not_true_eq_false, not_false_eq_true, tu_same, tu_eq, tu_ne, b_V, b_I, b_J]
    obtain ⟨A1, g1, g2, g3⟩ := key
    obtain ⟨A2, p1, p2, p3⟩ := ih (j + 1) A1 (updN S j (stS D b (S j))) (by omega) (h.up (fun a k u v z => g3 a k z) g2) (fun p hp' hj' => by rw [updN_n _ _ (by omega)]; exact hS p hp' (by omega)) (hA.tr hn (fun a k u v => g3 a k (by omega)))
    refine ⟨A2, ?_, ?_, fun a k u => (p3 a k u).trans (g3 a k (by omega))⟩
    · rw [g1, e_133_68, ← p1]
      simp (disch := first | omega | (simp (disch := omega) only [n_ti, Int32.reduceToInt] <;> omega)) only [n_add, nl_add, nr_add, n_mul, nl_mul, nr_mul, n_sub, nr_dec, n_div, nr_sub_1, nr_sub_2, nr_sub_3, nr_sub_4, nr_sub_7, nr_sub_10, nr_sub_11, nr_sub_20, nr_sub_48, nr_sub_97, nl_sub_3, nl_sub_4, nl_sub_12, nl_sub_24, nl_sub_32, nr_div_2, nr_div_4, z_lt, z_le, z_eq, z_cl, n_ti, Int.toNat_natCast, Int32.reduceToInt, Int32.reduceToNatClampNeg, zc_add, zc_sub, zc_add_1, zc_add_2, zc_add_3, zc_add_4, zc_add_8, zc_add_10, zc_add_12, zc_add_16, zc_add_20, zc_sub_1, zc_sub_2, zc_sub_4, zc_sub_10, zc_sub_20, zc_sub_48, zc_sub_97, zc_mul_4, t_ltZ, f_ltZ, t_leZ, f_leZ, t_eqZ, f_eqZ, t_ltN, f_ltN, t_leN, f_leN, t_eqN, f_eqN, ↓reduceIte, and_true, true_and, and_false, false_and, and_self, or_true, true_or, or_false, false_or, or_self, not_true_eq_false, not_false_eq_true, tu_same, tu_eq, tu_ne, b_V, b_I, b_J]
    · rw [stF_step] at p2
      exact p2
