/-! run: tricks that end, hands that change, what is kept of a BEAT (class) -/
abbrev DL : Type := (Nat × (Nat → Nat × Nat × Nat × Nat × Nat)) × Nat × (Nat → Nat)
def DnA (A : Nat → Nat → Int32) (l : DL) : Prop := A 8 8 = nI l.1.1 ∧ (∀ k, k < l.1.1 → k < 100 → A 10 (k * 5) = nI (l.1.2 k).1 ∧ A 10 (k * 5 + 1) = nI (l.1.2 k).2.1 ∧ A 10 (k * 5 + 2) = nI (l.1.2 k).2.2.1 ∧ A 10 (k * 5 + 3) = nI (l.1.2 k).2.2.2.1 ∧ A 10 (k * 5 + 4) = nI (l.1.2 k).2.2.2.2) ∧ A 8 9 = nI l.2.1 ∧ ∀ t, t < 12 → A 13 t = nI (l.2.2 t)
theorem DnA.tr {A A' : Nat → Nat → Int32} {l : DL} (h : DnA A l) (f : ∀ a k, (a = 8 ∧ (k = 8 ∨ k = 9)) ∨ a = 10 ∨ a = 13 → A' a k = A a k) : DnA A' l := ⟨(f _ _ (by omega)).trans h.1, fun k h1 h2 => ⟨(f _ _ (by omega)).trans (h.2.1 k h1 h2).1, (f _ _ (by omega)).trans (h.2.1 k h1 h2).2.1, (f _ _ (by omega)).trans (h.2.1 k h1 h2).2.2.1, (f _ _ (by omega)).trans (h.2.1 k h1 h2).2.2.2.1, (f _ _ (by omega)).trans (h.2.1 k h1 h2).2.2.2.2⟩, (f _ _ (by omega)).trans h.2.2.1, fun t ht => (f _ _ (by omega)).trans (h.2.2.2 t ht)⟩
def gnP (c W : Nat) : Nat := if c = 0 then W else if c = 1 then W / 2 else 0
def adD (l : DL) (g t p m W : Nat) : DL := ((l.1.1 + 1, updN l.1.2 l.1.1 (g, t, p, m, gnP (l.2.2 t) W)), l.2.1 + gnP (l.2.2 t) W, updN l.2.2 t (l.2.2 t + 1))
def lBd (l : DL) (c : Nat) : Prop := l.1.1 ≤ c ∧ ∀ t, l.2.2 t ≤ c
theorem lBd.add {l : DL} {c g t p m W : Nat} (h : lBd l c) : lBd (adD l g t p m W) (c + 1) := by
  refine ⟨by show l.1.1 + 1 ≤ c + 1; have := h.1; omega, fun u => ?_⟩
  show updN l.2.2 t (l.2.2 t + 1) u ≤ c + 1
  by_cases e : u = t
  · subst e; rw [updN_s]; have := h.2 u; omega
  · rw [updN_n _ _ e]; have := h.2 u; omega
theorem lBd.le {l : DL} {c d : Nat} (h : lBd l c) (hd : c ≤ d) : lBd l d := ⟨Nat.le_trans h.1 hd, fun t => Nat.le_trans (h.2 t) hd⟩
theorem c_139 {A : Nat → Nat → Int32} {J : Nat → Nat → Int64} {τ : tm_Tu} {t W c : Nat} (ht : t < 12) (hW : W ≤ 999) (hc : c < 50000) (h : A 13 t = nI c) : F_139 [.ref 8, .int (nI t), .int (nI W)] (mk A J τ) = some (some (.int (nI (gnP c W))), mk (tm_u A 13 t (nI (c + 1))) J τ) := by
  unfold gnP
  rw [e_139]
  by_cases c0 : c = 0
  · rw [if_pos c0]
    subst c0
    simp (disch := first | omega | (simp (disch := omega) only [n_ti, Int32.reduceToInt] <;> omega)) only [h, n_add, nl_add, nr_add, n_mul, nl_mul, nr_mul, n_sub, nr_dec, n_div, nr_sub_1, nr_sub_2, nr_sub_3, nr_sub_4, nr_sub_7, nr_sub_10, nr_sub_11, nr_sub_20, nr_sub_48, nr_sub_97, nl_sub_3, nl_sub_4, nl_sub_12, nl_sub_24, nl_sub_32, nr_div_2, nr_div_4, z_lt, z_le, z_eq, z_cl, n_ti, Int.toNat_natCast, Int32.reduceToInt, Int32.reduceToNatClampNeg, zc_add, zc_sub, zc_add_1, zc_add_2, zc_add_3, zc_add_4, zc_add_8, zc_add_10, zc_add_12, zc_add_16, zc_add_20, zc_sub_1, zc_sub_2, zc_sub_4, zc_sub_10, zc_sub_20, zc_sub_48, zc_sub_97, zc_mul_4, t_ltZ, f_ltZ, t_leZ, f_leZ, t_eqZ, f_eqZ, t_ltN, f_ltN, t_leN, f_leN, t_eqN, f_eqN, ↓reduceIte, and_true, true_and, and_false, false_and, and_self, or_true, true_or, or_false, false_or, or_self, not_true_eq_false, not_false_eq_true, tu_same, tu_eq, tu_ne, b_V, b_I, b_J]
  · rw [if_neg c0]
    by_cases c1 : c = 1
    · rw [if_pos c1]
      subst c1
      simp (disch := first | omega | (simp (disch := omega) only [n_ti, Int32.reduceToInt] <;> omega)) only [h, n_add, nl_add, nr_add, n_mul, nl_mul, nr_mul, n_sub, nr_dec, n_div, nr_sub_1, nr_sub_2, nr_sub_3, nr_sub_4, nr_sub_7, nr_sub_10, nr_sub_11, nr_sub_20, nr_sub_48, nr_sub_97, nl_sub_3, nl_sub_4, nl_sub_12, nl_sub_24, nl_sub_32, nr_div_2, nr_div_4, z_lt, z_le, z_eq, z_cl, n_ti, Int.toNat_natCast, Int32.reduceToInt, Int32.reduceToNatClampNeg, zc_add, zc_sub, zc_add_1, zc_add_2, zc_add_3, zc_add_4, zc_add_8, zc_add_10, zc_add_12, zc_add_16, zc_add_20, zc_sub_1, zc_sub_2, zc_sub_4, zc_sub_10, zc_sub_20, zc_sub_48, zc_sub_97, zc_mul_4, t_ltZ, f_ltZ, t_leZ, f_leZ, t_eqZ, f_eqZ, t_ltN, f_ltN, t_leN, f_leN, t_eqN, f_eqN, ↓reduceIte, and_true, true_and, and_false, false_and, and_self, or_true, true_or, or_false, false_or, or_self, not_true_eq_false, not_false_eq_true, tu_same, tu_eq, tu_ne, b_V, b_I, b_J]
    · rw [if_neg c1]
      simp (disch := first | omega | (simp (disch := omega) only [n_ti, Int32.reduceToInt] <;> omega)) only [h, n_add, nl_add, nr_add, n_mul, nl_mul, nr_mul, n_sub, nr_dec, n_div, nr_sub_1, nr_sub_2, nr_sub_3, nr_sub_4, nr_sub_7, nr_sub_10, nr_sub_11, nr_sub_20, nr_sub_48, nr_sub_97, nl_sub_3, nl_sub_4, nl_sub_12, nl_sub_24, nl_sub_32, nr_div_2, nr_div_4, z_lt, z_le, z_eq, z_cl, n_ti, Int.toNat_natCast, Int32.reduceToInt, Int32.reduceToNatClampNeg, zc_add, zc_sub, zc_add_1, zc_add_2, zc_add_3, zc_add_4, zc_add_8, zc_add_10, zc_add_12, zc_add_16, zc_add_20, zc_sub_1, zc_sub_2, zc_sub_4, zc_sub_10, zc_sub_20, zc_sub_48, zc_sub_97, zc_mul_4, t_ltZ, f_ltZ, t_leZ, f_leZ, t_eqZ, f_eqZ, t_ltN, f_ltN, t_leN, f_leN, t_eqN, f_eqN, ↓reduceIte, and_true, true_and, and_false, false_and, and_self, or_true, true_or, or_false, false_or, or_self, not_true_eq_false, not_false_eq_true, tu_same, tu_eq, tu_ne, b_V, b_I, b_J]
      rfl
set_option maxHeartbeats 1000000 in
theorem c_140 {A : Nat → Nat → Int32} {J : Nat → Nat → Int64} {τ : tm_Tu} {p W : Nat} {s : SP} {l : DL} (h : JmA A p s) (hp : p < 6) (ht : pT s ≠ 0) (ht2 : pT s ≤ 12) (hm : pM s ≤ 1) (hW : W ≤ 999) (hl : DnA A l) (hb : lBd l 40000) : ∃ A', F_140 [.ref 8, .int (nI p), .ref (18 + p), .int (nI W)] (mk A J τ) = some (none, mk A' J τ) ∧ DnA A' (adD l (pG s) (pT s - 1) p (pM s) W) ∧ (∀ a k, ¬ (a = 8 ∧ (k = 8 ∨ k = 9)) → a ≠ 10 → a ≠ 13 → A' a k = A a k) := by
  have k2 := j_2 hp
  obtain ⟨h0, h1, h2, h3, h4, h5, h6⟩ := h
  obtain ⟨l1, l2, l3, l4⟩ := hl
  have b1 := hb.1
  rw [tI_s ht] at h3
  have f139 := c_139 (J := J) (τ := τ) (show pT s - 1 < 12 by omega) hW (Nat.lt_of_le_of_lt (hb.2 (pT s - 1)) (by omega)) (l4 _ (show pT s - 1 < 12 by omega))
  obtain ⟨A1, e1⟩ : ∃ z, z = tm_u A 13 (pT s - 1) (nI (l.2.2 (pT s - 1) + 1)) := ⟨_, rfl⟩
  rw [← e1] at f139
  have a88 : A1 8 8 = nI l.1.1 := by rw [e1]; simp (disch := omega) only [l1, tu_same, tu_eq, tu_ne]
  have a89 : A1 8 9 = nI l.2.1 := by rw [e1]; simp (disch := omega) only [l3, tu_same, tu_eq, tu_ne]
  have a3 : A1 (18 + p) 3 = nI (pT s - 1) := by rw [e1]; simp (disch := omega) only [h3, tu_same, tu_eq, tu_ne]
  have a4 : A1 (18 + p) 4 = nI (pM s) := by rw [e1]; simp (disch := omega) only [h4, tu_same, tu_eq, tu_ne]
  have a5 : A1 (18 + p) 5 = nI (pG s) := by rw [e1]; simp (disch := omega) only [h5, tu_same, tu_eq, tu_ne]
  have a13 : ∀ t, t < 12 → A1 13 t = nI (updN l.2.2 (pT s - 1) (l.2.2 (pT s - 1) + 1) t) := fun t ht => by
    rw [e1]
    by_cases e : t = pT s - 1
    · subst e; rw [updN_s]; simp (disch := omega) only [tu_same, tu_eq, tu_ne]
    · rw [updN_n _ _ e]; simp (disch := omega) only [tu_same, tu_eq, tu_ne]; exact l4 t ht
  obtain ⟨G, eG⟩ : ∃ z, z = gnP (l.2.2 (pT s - 1)) W := ⟨_, rfl⟩
  rw [← eG] at f139
  have hD : adD l (pG s) (pT s - 1) p (pM s) W = ((l.1.1 + 1, updN l.1.2 l.1.1 (pG s, pT s - 1, p, pM s, G)), l.2.1 + G, updN l.2.2 (pT s - 1) (l.2.2 (pT s - 1) + 1)) := by rw [eG]; rfl
  rw [hD]
  by_cases c : l.1.1 < 100
  · refine ⟨tm_u (tm_u (tm_u (tm_u (tm_u (tm_u (tm_u A1 10 (l.1.1 * 5) (nI (pG s))) 10 (l.1.1 * 5 + 1) (nI (pT s - 1))) 10 (l.1.1 * 5 + 2) (nI p)) 10 (l.1.1 * 5 + 3) (nI (pM s))) 10 (l.1.1 * 5 + 4) (nI G)) 8 8 (nI (l.1.1 + 1))) 8 9 (nI (l.2.1 + G)), ?_, ⟨by simp (disch := omega) only [tu_same, tu_eq, tu_ne], fun k u1 u2 => ?_, by simp (disch := omega) only [tu_same, tu_eq, tu_ne], fun t ht => by simp (disch := omega) only [tu_same, tu_eq, tu_ne]; exact a13 t ht⟩, fun a k u v w => by simp (disch := omega) only [tu_same, tu_eq, tu_ne]; rw [e1]; simp (disch := omega) only [tu_same, tu_eq, tu_ne]⟩
    · rw [e_140]
      have hm' : pM s = 0 ∨ pM s = 1 := by omega
      rcases hm' with e | e <;> rw [e] at a4 ⊢ <;> simp (disch := first | omega | (simp (disch := omega) only [n_ti, Int32.reduceToInt] <;> omega)) only [k2, h3, f139, e_140_9, a88, a89, a3, a4, a5, e_140_82, e_140_94, n_add, nl_add, nr_add, n_mul, nl_mul, nr_mul, n_sub, nr_dec, n_div, nr_sub_1, nr_sub_2, nr_sub_3, nr_sub_4, nr_sub_7, nr_sub_10, nr_sub_11, nr_sub_20, nr_sub_48, nr_sub_97, nl_sub_3, nl_sub_4, nl_sub_12, nl_sub_24, nl_sub_32, nr_div_2, nr_div_4, z_lt, z_le, z_eq, z_cl, n_ti, Int.toNat_natCast, Int32.reduceToInt, Int32.reduceToNatClampNeg, zc_add, zc_sub, zc_add_1, zc_add_2, zc_add_3, zc_add_4, zc_add_8, zc_add_10, zc_add_12, zc_add_16, zc_add_20, zc_sub_1, zc_sub_2, zc_sub_4, zc_sub_10, zc_sub_20, zc_sub_48, zc_sub_97, zc_mul_4, t_ltZ, f_ltZ, t_leZ, f_leZ, t_eqZ, f_eqZ, t_ltN, f_ltN, t_leN, f_leN, t_eqN, f_eqN, ↓reduceIte, and_true, true_and, and_false, false_and, and_self, or_true, true_or, or_false, false_or, or_self, not_true_eq_false, not_false_eq_true, tu_same, tu_eq, tu_ne, b_V, b_I, b_J] <;> rfl
    · show _ = nI (updN l.1.2 l.1.1 (pG s, pT s - 1, p, pM s, G) k).1 ∧ _ = nI (updN l.1.2 l.1.1 (pG s, pT s - 1, p, pM s, G) k).2.1 ∧ _ = nI (updN l.1.2 l.1.1 (pG s, pT s - 1, p, pM s, G) k).2.2.1 ∧ _ = nI (updN l.1.2 l.1.1 (pG s, pT s - 1, p, pM s, G) k).2.2.2.1 ∧ _ = nI (updN l.1.2 l.1.1 (pG s, pT s - 1, p, pM s, G) k).2.2.2.2
      by_cases e : k = l.1.1
      · subst e
        rw [updN_s]
        exact ⟨by simp (disch := omega) only [tu_same, tu_eq, tu_ne], by simp (disch := omega) only [tu_same, tu_eq, tu_ne], by simp (disch := omega) only [tu_same, tu_eq, tu_ne], by simp (disch := omega) only [tu_same, tu_eq, tu_ne], by simp (disch := omega) only [tu_same, tu_eq, tu_ne]⟩
      · rw [updN_n _ _ e]
        have u1' : k < l.1.1 := by
          have : k < l.1.1 + 1 := u1
          omega
        obtain ⟨w1, w2, w3, w4, w5⟩ := l2 k u1' u2
        refine ⟨?_, ?_, ?_, ?_, ?_⟩
        · simp (disch := omega) only [tu_same, tu_eq, tu_ne]; rw [e1]; simp (disch := omega) only [w1, tu_same, tu_eq, tu_ne]
        · simp (disch := omega) only [tu_same, tu_eq, tu_ne]; rw [e1]; simp (disch := omega) only [w2, tu_same, tu_eq, tu_ne]
        · simp (disch := omega) only [tu_same, tu_eq, tu_ne]; rw [e1]; simp (disch := omega) only [w3, tu_same, tu_eq, tu_ne]
        · simp (disch := omega) only [tu_same, tu_eq, tu_ne]; rw [e1]; simp (disch := omega) only [w4, tu_same, tu_eq, tu_ne]
        · simp (disch := omega) only [tu_same, tu_eq, tu_ne]; rw [e1]; simp (disch := omega) only [w5, tu_same, tu_eq, tu_ne]
  · refine ⟨tm_u (tm_u A1 8 8 (nI (l.1.1 + 1))) 8 9 (nI (l.2.1 + G)), ?_, ⟨by simp (disch := omega) only [tu_same, tu_eq, tu_ne], fun k u1 u2 => ?_, by simp (disch := omega) only [tu_same, tu_eq, tu_ne], fun t ht => by simp (disch := omega) only [tu_same, tu_eq, tu_ne]; exact a13 t ht⟩, fun a k u v w => by simp (disch := omega) only [tu_same, tu_eq, tu_ne]; rw [e1]; simp (disch := omega) only [tu_same, tu_eq, tu_ne]⟩
    · rw [e_140]
      simp (disch := first | omega | (simp (disch := omega) only [n_ti, Int32.reduceToInt] <;> omega)) only [k2, h3, f139, e_140_9, a88, a89, e_140_94, n_add, nl_add, nr_add, n_mul, nl_mul, nr_mul, n_sub, nr_dec, n_div, nr_sub_1, nr_sub_2, nr_sub_3, nr_sub_4, nr_sub_7, nr_sub_10, nr_sub_11, nr_sub_20, nr_sub_48, nr_sub_97, nl_sub_3, nl_sub_4, nl_sub_12, nl_sub_24, nl_sub_32, nr_div_2, nr_div_4, z_lt, z_le, z_eq, z_cl, n_ti, Int.toNat_natCast, Int32.reduceToInt, Int32.reduceToNatClampNeg, zc_add, zc_sub, zc_add_1, zc_add_2, zc_add_3, zc_add_4, zc_add_8, zc_add_10, zc_add_12, zc_add_16, zc_add_20, zc_sub_1, zc_sub_2, zc_sub_4, zc_sub_10, zc_sub_20, zc_sub_48, zc_sub_97, zc_mul_4, t_ltZ, f_ltZ, t_leZ, f_leZ, t_eqZ, f_eqZ, t_ltN, f_ltN, t_leN, f_leN, t_eqN, f_eqN, ↓reduceIte, and_true, true_and, and_false, false_and, and_self, or_true, true_or, or_false, false_or, or_self, not_true_eq_false, not_false_eq_true, tu_same, tu_eq, tu_ne, b_V, b_I, b_J]
    · show _ = nI (updN l.1.2 l.1.1 (pG s, pT s - 1, p, pM s, G) k).1 ∧ _ = nI (updN l.1.2 l.1.1 (pG s, pT s - 1, p, pM s, G) k).2.1 ∧ _ = nI (updN l.1.2 l.1.1 (pG s, pT s - 1, p, pM s, G) k).2.2.1 ∧ _ = nI (updN l.1.2 l.1.1 (pG s, pT s - 1, p, pM s, G) k).2.2.2.1 ∧ _ = nI (updN l.1.2 l.1.1 (pG s, pT s - 1, p, pM s, G) k).2.2.2.2
      rw [updN_n _ _ (show k ≠ l.1.1 by omega)]
      obtain ⟨w1, w2, w3, w4, w5⟩ := l2 k (by omega) u2
      refine ⟨?_, ?_, ?_, ?_, ?_⟩
      · simp (disch := omega) only [tu_same, tu_eq, tu_ne]; rw [e1]; simp (disch := omega) only [w1, tu_same, tu_eq, tu_ne]
      · simp (disch := omega) only [tu_same, tu_eq, tu_ne]; rw [e1]; simp (disch := omega) only [w2, tu_same, tu_eq, tu_ne]
      · simp (disch := omega) only [tu_same, tu_eq, tu_ne]; rw [e1]; simp (disch := omega) only [w3, tu_same, tu_eq, tu_ne]
      · simp (disch := omega) only [tu_same, tu_eq, tu_ne]; rw [e1]; simp (disch := omega) only [w4, tu_same, tu_eq, tu_ne]
      · simp (disch := omega) only [tu_same, tu_eq, tu_ne]; rw [e1]; simp (disch := omega) only [w5, tu_same, tu_eq, tu_ne]
def enS (D : Nat → TD) (s : SP) : SP := (pW s, pF s, (pD s + tuM (pM s) (D (pT s - 1))) % 4, 0, 0, 0, pX s)
def fnP (D : Nat → TD) (b : Nat) (s : SP) : Bool := decide (pT s ≠ 0) && decide (dQ (D (pT s - 1)) ≤ b - pG s + 1)
def enF (D : Nat → TD) (b : Nat) : Nat → Nat → PS × DL → PS × DL
  | 0, _, X => X
  | m + 1, j, X => enF D b m (j + 1) (if fnP D b (X.1 j) = true then (updN X.1 j (enS D (X.1 j)), adD X.2 (pG (X.1 j)) (pT (X.1 j) - 1) j (pM (X.1 j)) (dW (D (pT (X.1 j) - 1)))) else X)
set_option maxHeartbeats 1000000 in
theorem c_141 {J : Nat → Nat → Int64} {τ : tm_Tu} {cb n b : Nat} {D : Nat → TD} (hn : n ≤ 12) (hb : isB cb) (hD : DOk n D) (hb1 : b ≤ 1000) : ∀ m j (A : Nat → Nat → Int32) (S : PS) (l : DL), j + m = 6 → PsA A S → (∀ p, p < 6 → j ≤ p → sOk n D b (S p)) → BkA A cb n D → DnA A l → lBd l (30000 + j) → ∃ A', R_141 2 [(0, .ref 7), (1, .ref cb), (2, .int (nI b)), (3, .int (nI j))] [] (mk A J τ) = some (none, mk A' J τ) ∧ PsA A' (enF D b m j (S, l)).1 ∧ DnA A' (enF D b m j (S, l)).2 ∧ (∀ a k, ¬ (18 ≤ a ∧ a ≤ 23) → ¬ (a = 8 ∧ (k = 8 ∨ k = 9)) → a ≠ 10 → a ≠ 13 → A' a k = A a k) := by
  have hb43 : 43 ≤ cb := by unfold isB at hb; omega
  obtain ⟨b1, b2', b3, b4⟩ := bk_1 hb τ
  intro m
  induction m with
  | zero =>
    intro j A S l hj h hS hA hl hB
    refine ⟨A, ?_, h, hl, fun _ _ _ _ _ _ => rfl⟩
    rw [e_141_2]
    simp (disch := first | omega | (simp (disch := omega) only [n_ti, Int32.reduceToInt] <;> omega)) only [n_add, nl_add, nr_add, n_mul, nl_mul, nr_mul, n_sub, nr_dec, n_div, nr_sub_1, nr_sub_2, nr_sub_3, nr_sub_4, nr_sub_7, nr_sub_10, nr_sub_11, nr_sub_20, nr_sub_48, nr_sub_97, nl_sub_3, nl_sub_4, nl_sub_12, nl_sub_24, nl_sub_32, nr_div_2, nr_div_4, z_lt, z_le, z_eq, z_cl, n_ti, Int.toNat_natCast, Int32.reduceToInt, Int32.reduceToNatClampNeg, zc_add, zc_sub, zc_add_1, zc_add_2, zc_add_3, zc_add_4, zc_add_8, zc_add_10, zc_add_12, zc_add_16, zc_add_20, zc_sub_1, zc_sub_2, zc_sub_4, zc_sub_10, zc_sub_20, zc_sub_48, zc_sub_97, zc_mul_4, t_ltZ, f_ltZ, t_leZ, f_leZ, t_eqZ, f_eqZ, t_ltN, f_ltN, t_leN, f_leN, t_eqN, f_eqN, ↓reduceIte, and_true, true_and, and_false, false_and, and_self, or_true, true_or, or_false, false_or, or_self, not_true_eq_false, not_false_eq_true, tu_same, tu_eq, tu_ne, b_V, b_I, b_J]
  | succ m ih =>
    intro j A S l hj h hS hA hl hB
    have hp : j < 6 := by omega
    have hs := hS j hp (Nat.le_refl _)
    obtain ⟨w1, w2, w3, w4, w5, w6, -⟩ := id hs
    have f116 := c_116 (J := J) (τ := τ) hp (h j hp) w1 (by omega) (fun u => (w6 u).1)
    obtain ⟨h0, h1, h2, h3, h4, h5, h6⟩ := h j hp
    have k1 := j_1 hp τ
    have k2 := j_2 hp
    -- nothing ends here
    have no : fnP D b (S j) = false → R_141 2 [(0, .ref 7), (1, .ref cb), (2, .int (nI b)), (3, .int (nI j))] [] (mk A J τ) = R_141 111 [(0, .ref 7), (1, .ref cb), (2, .int (nI b)), (3, .int (nI j))] [] (mk A J τ) → ∃ A', R_141 2 [(0, .ref 7), (1, .ref cb), (2, .int (nI b)), (3, .int (nI j))] [] (mk A J τ) = some (none, mk A' J τ) ∧ PsA A' (enF D b (m + 1) j (S, l)).1 ∧ DnA A' (enF D b (m + 1) j (S, l)).2 ∧ (∀ a k, ¬ (18 ≤ a ∧ a ≤ 23) → ¬ (a = 8 ∧ (k = 8 ∨ k = 9)) → a ≠ 10 → a ≠ 13 → A' a k = A a k) := by
      intro hf st
      have e : enF D b (m + 1) j (S, l) = enF D b m (j + 1) (S, l) := by
        show enF D b m (j + 1) (if fnP D b (S j) = true then _ else (S, l)) = _
        rw [if_neg (by rw [hf]; exact Bool.false_ne_true)]
      rw [e]
      obtain ⟨A', g1, g2, g3, g4⟩ := ih (j + 1) A S l (by omega) h (fun p u v => hS p u (by omega)) hA hl (hB.le (by omega))
      refine ⟨A', ?_, g2, g3, g4⟩
      rw [st, ← g1, e_141_111]
      simp (disch := first | omega | (simp (disch := omega) only [n_ti, Int32.reduceToInt] <;> omega)) only [n_add, nl_add, nr_add, n_mul, nl_mul, nr_mul, n_sub, nr_dec, n_div, nr_sub_1, nr_sub_2, nr_sub_3, nr_sub_4, nr_sub_7, nr_sub_10, nr_sub_11, nr_sub_20, nr_sub_48, nr_sub_97, nl_sub_3, nl_sub_4, nl_sub_12, nl_sub_24, nl_sub_32, nr_div_2, nr_div_4, z_lt, z_le, z_eq, z_cl, n_ti, Int.toNat_natCast, Int32.reduceToInt, Int32.reduceToNatClampNeg, zc_add, zc_sub, zc_add_1, zc_add_2, zc_add_3, zc_add_4, zc_add_8, zc_add_10, zc_add_12, zc_add_16, zc_add_20, zc_sub_1, zc_sub_2, zc_sub_4, zc_sub_10, zc_sub_20, zc_sub_48, zc_sub_97, zc_mul_4, t_ltZ, f_ltZ, t_leZ, f_leZ, t_eqZ, f_eqZ, t_ltN, f_ltN, t_leN, f_leN, t_eqN, f_eqN, ↓reduceIte, and_true, true_and, and_false, false_and, and_self, or_true, true_or, or_false, false_or, or_self, not_true_eq_false, not_false_eq_true, tu_same, tu_eq, tu_ne, b_V, b_I, b_J]
    by_cases c : pT (S j) = 0
    · have e2 : b2 (decide (pT (S j) ≠ 0)) = 0 := by simp [c, b2]
      rw [e2] at f116
      refine no (and_f1 (decide_eq_false (fun u => u c))) ?_
      rw [e_141_2]
      simp (disch := first | omega | (simp (disch := omega) only [n_ti, Int32.reduceToInt] <;> omega)) only [k1, k2, f116, e_141_21, n_add, nl_add, nr_add, n_mul, nl_mul, nr_mul, n_sub, nr_dec, n_div, nr_sub_1, nr_sub_2, nr_sub_3, nr_sub_4, nr_sub_7, nr_sub_10, nr_sub_11, nr_sub_20, nr_sub_48, nr_sub_97, nl_sub_3, nl_sub_4, nl_sub_12, nl_sub_24, nl_sub_32, nr_div_2, nr_div_4, z_lt, z_le, z_eq, z_cl, n_ti, Int.toNat_natCast, Int32.reduceToInt, Int32.reduceToNatClampNeg, zc_add, zc_sub, zc_add_1, zc_add_2, zc_add_3, zc_add_4, zc_add_8, zc_add_10, zc_add_12, zc_add_16, zc_add_20, zc_sub_1, zc_sub_2, zc_sub_4, zc_sub_10, zc_sub_20, zc_sub_48, zc_sub_97, zc_mul_4, t_ltZ, f_ltZ, t_leZ, f_leZ, t_eqZ, f_eqZ, t_ltN, f_ltN, t_leN, f_leN, t_eqN, f_eqN, ↓reduceIte, and_true, true_and, and_false, false_and, and_self, or_true, true_or, or_false, false_or, or_self, not_true_eq_false, not_false_eq_true, tu_same, tu_eq, tu_ne, b_V, b_I, b_J]
    · have e2 : b2 (decide (pT (S j) ≠ 0)) = 1 := by simp [c, b2]
      rw [e2] at f116
      have h3' := h3
      rw [tI_s c] at h3'
      obtain ⟨u1, u2, u3⟩ := w6 c
      have hx : pT (S j) - 1 < n := by omega
      have k5 := bk_2 hb (show pT (S j) - 1 < 12 by omega) τ
      have hT : isT (cb + 2 + 3 * (pT (S j) - 1)) := ⟨cb, _, hb, by omega, rfl⟩
      have k6 := (bk_3 hT τ).1
      have a84 := s_84t (J := J) (τ := τ) hb hn hA.1 hx
      obtain ⟨t4, t3, -⟩ := hA.2 _ hx
      have dq1 := (hD _ hx).1
      have dq8 := (hD _ hx).2.1
      have dw := (hD _ hx).2.2.1
      by_cases d : dQ (D (pT (S j) - 1)) ≤ b - pG (S j) + 1
      · have hf : fnP D b (S j) = true := and_t (decide_eq_true c) (decide_eq_true d)
        obtain ⟨A1, g1, g2, g3⟩ := c_140 (J := J) (τ := τ) (h j hp) hp c (by omega) w5 dw hl (hB.le (by omega))
        have s85 := s_85 (A := A1) (J := J) (τ := τ) (pM (S j)) w5 hT (hD _ hx) ((hA.2 _ hx).tr (fun a k v w => g3 a k (by omega) (by omega) (by omega)))
        have tl := tuM_le (mi := pM (S j)) (hD _ hx)
        have i4 : A1 (18 + j) 4 = nI (pM (S j)) := (g3 _ _ (by omega) (by omega) (by omega)).trans h4
        have i2 : A1 (18 + j) 2 = nI (pD (S j)) := (g3 _ _ (by omega) (by omega) (by omega)).trans h2
        have ea : nI (pD (S j) + tuM (pM (S j)) (D (pT (S j) - 1))) &&& 3 = nI ((pD (S j) + tuM (pM (S j)) (D (pT (S j) - 1))) % 4) := n_and3 (by omega)
        obtain ⟨A2, p1, p2, p3⟩ := c_110 (A := tm_u A1 (18 + j) 2 (nI ((pD (S j) + tuM (pM (S j)) (D (pT (S j) - 1))) % 4))) (J := J) (τ := τ) (s := (pW (S j), pF (S j), (pD (S j) + tuM (pM (S j)) (D (pT (S j) - 1))) % 4, pT (S j), pM (S j), pG (S j), pX (S j))) hp ⟨by simp (disch := omega) only [tu_same, tu_eq, tu_ne]; exact (g3 _ _ (by omega) (by omega) (by omega)).trans h0, by simp (disch := omega) only [tu_same, tu_eq, tu_ne]; exact (g3 _ _ (by omega) (by omega) (by omega)).trans h1, by simp (disch := omega) only [tu_same, tu_eq, tu_ne], by simp (disch := omega) only [tu_same, tu_eq, tu_ne]; exact (g3 _ _ (by omega) (by omega) (by omega)).trans h3, by simp (disch := omega) only [tu_same, tu_eq, tu_ne]; exact i4, by simp (disch := omega) only [tu_same, tu_eq, tu_ne]; exact (g3 _ _ (by omega) (by omega) (by omega)).trans h5, by simp (disch := omega) only [tu_same, tu_eq, tu_ne]; exact (g3 _ _ (by omega) (by omega) (by omega)).trans h6⟩
        have F2 : ∀ a k, a ≠ 18 + j → ¬ (a = 8 ∧ (k = 8 ∨ k = 9)) → a ≠ 10 → a ≠ 13 → A2 a k = A a k := fun a k v1 v2 v3 v4 => by
          rw [p3 a k v1]
          simp (disch := omega) only [tu_same, tu_eq, tu_ne]
          exact g3 a k v2 v3 v4
        have e : enF D b (m + 1) j (S, l) = enF D b m (j + 1) (updN S j (enS D (S j)), adD l (pG (S j)) (pT (S j) - 1) j (pM (S j)) (dW (D (pT (S j) - 1)))) := by
          show enF D b m (j + 1) (if fnP D b (S j) = true then _ else (S, l)) = _
          rw [if_pos hf]
        rw [e]
        obtain ⟨A', q1, q2, q3, q4⟩ := ih (j + 1) A2 (updN S j (enS D (S j))) (adD l (pG (S j)) (pT (S j) - 1) j (pM (S j)) (dW (D (pT (S j) - 1)))) (by omega) (h.up (fun a k v1 v2 v3 => F2 a k v3 (by omega) (by omega) (by omega)) p2) (fun p v1 v2 => by rw [updN_n _ _ (by omega)]; exact hS p v1 (by omega)) (hA.tr hn (fun a k v1 v2 => F2 a k (by omega) (by omega) (by omega) (by omega))) (g2.tr (fun a k v => by rw [p3 a k (by omega)]; simp (disch := omega) only [tu_same, tu_eq, tu_ne])) (hB.add.le (by omega))
        refine ⟨A', ?_, q2, q3, fun a k v1 v2 v3 v4 => (q4 a k v1 v2 v3 v4).trans (F2 a k (by omega) v2 v3 v4)⟩
        rw [← q1, e_141_2]
        simp (disch := first | omega | (simp (disch := omega) only [n_ti, Int32.reduceToInt] <;> omega)) only [k1, k2, f116, e_141_21, h3', b1, a84, e_141_33, b2', b3, b4, k5, k6, h5, t4, t3, g1, e_141_83, i4, i2, s85, e_141_100, ea, p1, e_141_111, n_add, nl_add, nr_add, n_mul, nl_mul, nr_mul, n_sub, nr_dec, n_div, nr_sub_1, nr_sub_2, nr_sub_3, nr_sub_4, nr_sub_7, nr_sub_10, nr_sub_11, nr_sub_20, nr_sub_48, nr_sub_97, nl_sub_3, nl_sub_4, nl_sub_12, nl_sub_24, nl_sub_32, nr_div_2, nr_div_4, z_lt, z_le, z_eq, z_cl, n_ti, Int.toNat_natCast, Int32.reduceToInt, Int32.reduceToNatClampNeg, zc_add, zc_sub, zc_add_1, zc_add_2, zc_add_3, zc_add_4, zc_add_8, zc_add_10, zc_add_12, zc_add_16, zc_add_20, zc_sub_1, zc_sub_2, zc_sub_4, zc_sub_10, zc_sub_20, zc_sub_48, zc_sub_97, zc_mul_4, t_ltZ, f_ltZ, t_leZ, f_leZ, t_eqZ, f_eqZ, t_ltN, f_ltN, t_leN, f_leN, t_eqN, f_eqN, ↓reduceIte, and_true, true_and, and_false, false_and, and_self, or_true, true_or, or_false, false_or, or_self, not_true_eq_false, not_false_eq_true, tu_same, tu_eq, tu_ne, b_V, b_I, b_J]
      · refine no (and_f2 (decide_eq_false d)) ?_
        rw [e_141_2]
        simp (disch := first | omega | (simp (disch := omega) only [n_ti, Int32.reduceToInt] <;> omega)) only [k1, k2, f116, e_141_21, h3', b1, a84, e_141_33, b2', b3, b4, k5, k6, h5, t4, n_add, nl_add, nr_add, n_mul, nl_mul, nr_mul, n_sub, nr_dec, n_div, nr_sub_1, nr_sub_2, nr_sub_3, nr_sub_4, nr_sub_7, nr_sub_10, nr_sub_11, nr_sub_20, nr_sub_48, nr_sub_97, nl_sub_3, nl_sub_4, nl_sub_12, nl_sub_24, nl_sub_32, nr_div_2, nr_div_4, z_lt, z_le, z_eq, z_cl, n_ti, Int.toNat_natCast, Int32.reduceToInt, Int32.reduceToNatClampNeg, zc_add, zc_sub, zc_add_1, zc_add_2, zc_add_3, zc_add_4, zc_add_8, zc_add_10, zc_add_12, zc_add_16, zc_add_20, zc_sub_1, zc_sub_2, zc_sub_4, zc_sub_10, zc_sub_20, zc_sub_48, zc_sub_97, zc_mul_4, t_ltZ, f_ltZ, t_leZ, f_leZ, t_eqZ, f_eqZ, t_ltN, f_ltN, t_leN, f_leN, t_eqN, f_eqN, ↓reduceIte, and_true, true_and, and_false, false_and, and_self, or_true, true_or, or_false, false_or, or_self, not_true_eq_false, not_false_eq_true, tu_same, tu_eq, tu_ne, b_V, b_I, b_J]
def zz : SP := (0, 0, 0, 0, 0, 0, 0)
def chP (e : Nat) (X : PS × ES) : PS × ES := if eK (X.2 e) = 0 then X else if eQ (X.2 e) = 0 then (X.1, updN X.2 e (eH (X.2 e), eK (X.2 e), 1)) else (updN (updN X.1 (eH (X.2 e)) zz) (eK (X.2 e) - 1) (2 + e, 0, 0, 0, 0, 0, 0), updN X.2 e (eK (X.2 e) - 1, 0, 0))
def EBd (E : ES) : Prop := ∀ e, e < 2 → eH (E e) < 6 ∧ eK (E e) ≤ 6 ∧ eQ (E e) ≤ 1
theorem EnA.up {A A' : Nat → Nat → Int32} {E : ES} {q : Nat} {x : EN} (h : EnA A E) (f : ∀ a k, 15 ≤ a → a ≤ 17 → k ≠ q → A' a k = A a k) (g : A' 15 q = nI (eH x) ∧ A' 16 q = tI (eK x) ∧ (eK x ≠ 0 → A' 17 q = nI (eQ x))) : EnA A' (updN E q x) := by
  intro e he
  by_cases c : e = q
  · subst c; rw [updN_s]; exact g
  · rw [updN_n _ _ c]
    exact ⟨(f _ _ (by omega) (by omega) c).trans (h e he).1, (f _ _ (by omega) (by omega) c).trans (h e he).2.1, fun u => (f _ _ (by omega) (by omega) c).trans ((h e he).2.2 u)⟩
set_option maxHeartbeats 1000000 in
theorem c_142e {A : Nat → Nat → Int32} {J : Nat → Nat → Int64} {τ : tm_Tu} {e : Nat} {S : PS} {E : ES} (he : e < 2) (h : PsA A S) (hE : EnA A E) (hB : EBd E) : ∃ A', R_142 2 [(0, .ref 7), (1, .int (nI e))] [] (mk A J τ) = R_142 2 [(0, .ref 7), (1, .int (nI (e + 1)))] [] (mk A' J τ) ∧ PsA A' (chP e (S, E)).1 ∧ EnA A' (chP e (S, E)).2 ∧ fLn A A' := by
  obtain ⟨e1, e2, e3⟩ := hE e he
  obtain ⟨q1, q2, q3⟩ := hB e he
  unfold chP
  by_cases c : eK (E e) = 0
  · rw [if_pos c]
    rw [tI_z c] at e2
    have f : F_114 [.int (-1)] (mk A J τ) = some (some (.int 0), mk A J τ) := by
      rw [e_114]
      simp (disch := first | omega | (simp (disch := omega) only [n_ti, Int32.reduceToInt] <;> omega)) only [e_114_14, e_114_15, n_add, nl_add, nr_add, n_mul, nl_mul, nr_mul, n_sub, nr_dec, n_div, nr_sub_1, nr_sub_2, nr_sub_3, nr_sub_4, nr_sub_7, nr_sub_10, nr_sub_11, nr_sub_20, nr_sub_48, nr_sub_97, nl_sub_3, nl_sub_4, nl_sub_12, nl_sub_24, nl_sub_32, nr_div_2, nr_div_4, z_lt, z_le, z_eq, z_cl, n_ti, Int.toNat_natCast, Int32.reduceToInt, Int32.reduceToNatClampNeg, zc_add, zc_sub, zc_add_1, zc_add_2, zc_add_3, zc_add_4, zc_add_8, zc_add_10, zc_add_12, zc_add_16, zc_add_20, zc_sub_1, zc_sub_2, zc_sub_4, zc_sub_10, zc_sub_20, zc_sub_48, zc_sub_97, zc_mul_4, t_ltZ, f_ltZ, t_leZ, f_leZ, t_eqZ, f_eqZ, t_ltN, f_ltN, t_leN, f_leN, t_eqN, f_eqN, ↓reduceIte, and_true, true_and, and_false, false_and, and_self, or_true, true_or, or_false, false_or, or_self, not_true_eq_false, not_false_eq_true, tu_same, tu_eq, tu_ne, b_V, b_I, b_J]
    refine ⟨A, ?_, h, hE, fun _ _ _ => rfl⟩
    rw [e_142_2]
    simp (disch := first | omega | (simp (disch := omega) only [n_ti, Int32.reduceToInt] <;> omega)) only [e2, f, e_142_16, e_142_114, n_add, nl_add, nr_add, n_mul, nl_mul, nr_mul, n_sub, nr_dec, n_div, nr_sub_1, nr_sub_2, nr_sub_3, nr_sub_4, nr_sub_7, nr_sub_10, nr_sub_11, nr_sub_20, nr_sub_48, nr_sub_97, nl_sub_3, nl_sub_4, nl_sub_12, nl_sub_24, nl_sub_32, nr_div_2, nr_div_4, z_lt, z_le, z_eq, z_cl, n_ti, Int.toNat_natCast, Int32.reduceToInt, Int32.reduceToNatClampNeg, zc_add, zc_sub, zc_add_1, zc_add_2, zc_add_3, zc_add_4, zc_add_8, zc_add_10, zc_add_12, zc_add_16, zc_add_20, zc_sub_1, zc_sub_2, zc_sub_4, zc_sub_10, zc_sub_20, zc_sub_48, zc_sub_97, zc_mul_4, t_ltZ, f_ltZ, t_leZ, f_leZ, t_eqZ, f_eqZ, t_ltN, f_ltN, t_leN, f_leN, t_eqN, f_eqN, ↓reduceIte, and_true, true_and, and_false, false_and, and_self, or_true, true_or, or_false, false_or, or_self, not_true_eq_false, not_false_eq_true, tu_same, tu_eq, tu_ne, b_V, b_I, b_J]
  · rw [if_neg c]
    rw [tI_s c] at e2
    have e3 := e3 c
    have f1 := c_114 (I := A) (J := J) (τ := τ) (show eK (E e) - 1 < 6 by omega)
    have f2 := c_114 (I := A) (J := J) (τ := τ) q1
    by_cases d : eQ (E e) = 0
    · rw [if_pos d]
      rw [d] at e3
      refine ⟨tm_u A 17 e 1, ?_, h.tr (fun a k u v => by simp (disch := omega) only [tu_same, tu_eq, tu_ne]), hE.up (fun a k u v w => by simp (disch := omega) only [tu_same, tu_eq, tu_ne]) ⟨by simp (disch := omega) only [e1, tu_same, tu_eq, tu_ne], by simp (disch := omega) only [e2, tu_same, tu_eq, tu_ne]; rw [tI_s c], fun _ => by simp (disch := omega) only [tu_same, tu_eq, tu_ne]; rfl⟩, fun a k u => by simp (disch := omega) only [tu_same, tu_eq, tu_ne]⟩
      rw [e_142_2]
      have ea : (1 : Int32) &&& 1 = 1 := by decide
      simp (disch := first | omega | (simp (disch := omega) only [n_ti, Int32.reduceToInt] <;> omega)) only [e2, f1, e_142_16, e1, f2, e_142_28, e3, e_142_94, e_142_113, ea, e_142_114, n_add, nl_add, nr_add, n_mul, nl_mul, nr_mul, n_sub, nr_dec, n_div, nr_sub_1, nr_sub_2, nr_sub_3, nr_sub_4, nr_sub_7, nr_sub_10, nr_sub_11, nr_sub_20, nr_sub_48, nr_sub_97, nl_sub_3, nl_sub_4, nl_sub_12, nl_sub_24, nl_sub_32, nr_div_2, nr_div_4, z_lt, z_le, z_eq, z_cl, n_ti, Int.toNat_natCast, Int32.reduceToInt, Int32.reduceToNatClampNeg, zc_add, zc_sub, zc_add_1, zc_add_2, zc_add_3, zc_add_4, zc_add_8, zc_add_10, zc_add_12, zc_add_16, zc_add_20, zc_sub_1, zc_sub_2, zc_sub_4, zc_sub_10, zc_sub_20, zc_sub_48, zc_sub_97, zc_mul_4, t_ltZ, f_ltZ, t_leZ, f_leZ, t_eqZ, f_eqZ, t_ltN, f_ltN, t_leN, f_leN, t_eqN, f_eqN, ↓reduceIte, and_true, true_and, and_false, false_and, and_self, or_true, true_or, or_false, false_or, or_self, not_true_eq_false, not_false_eq_true, tu_same, tu_eq, tu_ne, b_V, b_I, b_J]
    · rw [if_neg d]
      have d1 : eQ (E e) = 1 := by omega
      rw [d1] at e3
      obtain ⟨A1, g1, g2, g3⟩ := c_111 (A := A) (J := J) (τ := τ) (w := 0) q1
      have g1' : F_111 [.ref (18 + eH (E e)), .int 0] (mk A J τ) = some (none, mk A1 J τ) := g1
      have i2 : A1 16 e = nI (eK (E e) - 1) := (g3 _ _ (by omega)).trans e2
      have i3 : A1 17 e = nI 1 := (g3 _ _ (by omega)).trans e3
      obtain ⟨A2, p1, p2, p3⟩ := c_111 (A := A1) (J := J) (τ := τ) (w := 2 + e) (show eK (E e) - 1 < 6 by omega)
      have y2 : A2 16 e = nI (eK (E e) - 1) := (p3 _ _ (by omega)).trans i2
      have y3 : A2 17 e = nI 1 := (p3 _ _ (by omega)).trans i3
      have kh := j_1 q1 τ
      have kh2 := j_2 q1
      have kt := j_1 (show eK (E e) - 1 < 6 by omega) τ
      have kt2 := j_2 (show eK (E e) - 1 < 6 by omega)
      have h1 : PsA A1 (updN S (eH (E e)) zz) := h.up (fun a k u v w => g3 a k w) g2
      have h2 : PsA A2 (updN (updN S (eH (E e)) zz) (eK (E e) - 1) (2 + e, 0, 0, 0, 0, 0, 0)) := h1.up (fun a k u v w => p3 a k w) p2
      refine ⟨tm_u (tm_u (tm_u A2 15 e (nI (eK (E e) - 1))) 16 e (-1)) 17 e 0, ?_, h2.tr (fun a k u v => by simp (disch := omega) only [tu_same, tu_eq, tu_ne]), hE.up (fun a k u v w => ?_) ⟨by simp (disch := omega) only [tu_same, tu_eq, tu_ne], by simp (disch := omega) only [tu_same, tu_eq, tu_ne]; rfl, fun _ => by simp (disch := omega) only [tu_same, tu_eq, tu_ne]; rfl⟩, fun a k u => ?_⟩
      · rw [e_142_2]
        have ea : (0 : Int32) &&& 1 = 0 := by decide
        simp (disch := first | omega | (simp (disch := omega) only [n_ti, Int32.reduceToInt] <;> omega)) only [e2, f1, e_142_16, e1, f2, e_142_28, e3, kh, kh2, g1', e_142_58, i2, kt, kt2, p1, e_142_75, y2, e_142_94, y3, e_142_113, ea, e_142_114, n_add, nl_add, nr_add, n_mul, nl_mul, nr_mul, n_sub, nr_dec, n_div, nr_sub_1, nr_sub_2, nr_sub_3, nr_sub_4, nr_sub_7, nr_sub_10, nr_sub_11, nr_sub_20, nr_sub_48, nr_sub_97, nl_sub_3, nl_sub_4, nl_sub_12, nl_sub_24, nl_sub_32, nr_div_2, nr_div_4, z_lt, z_le, z_eq, z_cl, n_ti, Int.toNat_natCast, Int32.reduceToInt, Int32.reduceToNatClampNeg, zc_add, zc_sub, zc_add_1, zc_add_2, zc_add_3, zc_add_4, zc_add_8, zc_add_10, zc_add_12, zc_add_16, zc_add_20, zc_sub_1, zc_sub_2, zc_sub_4, zc_sub_10, zc_sub_20, zc_sub_48, zc_sub_97, zc_mul_4, t_ltZ, f_ltZ, t_leZ, f_leZ, t_eqZ, f_eqZ, t_ltN, f_ltN, t_leN, f_leN, t_eqN, f_eqN, ↓reduceIte, and_true, true_and, and_false, false_and, and_self, or_true, true_or, or_false, false_or, or_self, not_true_eq_false, not_false_eq_true, tu_same, tu_eq, tu_ne, b_V, b_I, b_J]
      · simp (disch := omega) only [tu_same, tu_eq, tu_ne]
        rw [p3 a k (by omega), g3 a k (by omega)]
      · simp (disch := omega) only [tu_same, tu_eq, tu_ne]
        rw [p3 a k (by omega), g3 a k (by omega)]
theorem chP_E {e f : Nat} {S : PS} {E : ES} (h : f ≠ e) : (chP e (S, E)).2 f = E f := by
  unfold chP
  by_cases c : eK (E e) = 0
  · rw [if_pos c]
  · rw [if_neg c]
    by_cases d : eQ (E e) = 0
    · rw [if_pos d]; exact updN_n _ _ h
    · rw [if_neg d]; exact updN_n _ _ h
def chA (X : PS × ES) : PS × ES := chP 1 (chP 0 X)
theorem chP_B {e : Nat} {S : PS} {E : ES} (hB : EBd E) (he : e < 2) : EBd (chP e (S, E)).2 := by
  intro f hf
  by_cases c : f = e
  · subst c
    obtain ⟨q1, q2, q3⟩ := hB f hf
    unfold chP
    by_cases c1 : eK (E f) = 0
    · rw [if_pos c1]; exact ⟨q1, q2, q3⟩
    · rw [if_neg c1]
      by_cases d : eQ (E f) = 0
      · rw [if_pos d]
        show eH (updN E f _ f) < 6 ∧ eK (updN E f _ f) ≤ 6 ∧ eQ (updN E f _ f) ≤ 1
        rw [updN_s]
        exact ⟨q1, q2, Nat.le_refl _⟩
      · rw [if_neg d]
        show eH (updN E f _ f) < 6 ∧ eK (updN E f _ f) ≤ 6 ∧ eQ (updN E f _ f) ≤ 1
        rw [updN_s]
        exact ⟨by show eK (E f) - 1 < 6; omega, by show 0 ≤ 6; omega, by show 0 ≤ 1; omega⟩
  · rw [chP_E c]; exact hB f hf
theorem c_142 {A : Nat → Nat → Int32} {J : Nat → Nat → Int64} {τ : tm_Tu} {S : PS} {E : ES} (h : PsA A S) (hE : EnA A E) (hB : EBd E) : ∃ A', F_142 [.ref 7] (mk A J τ) = some (none, mk A' J τ) ∧ PsA A' (chA (S, E)).1 ∧ EnA A' (chA (S, E)).2 ∧ fLn A A' := by
  obtain ⟨A1, g1, g2, g3, g4⟩ := c_142e (J := J) (τ := τ) (e := 0) (by omega) h hE hB
  obtain ⟨A2, p1, p2, p3, p4⟩ := c_142e (J := J) (τ := τ) (e := 1) (by omega) g2 g3 (chP_B hB (by omega))
  have g1' : R_142 2 [(0, .ref 7), (1, .int 0)] [] (mk A J τ) = R_142 2 [(0, .ref 7), (1, .int (nI 1))] [] (mk A1 J τ) := g1
  refine ⟨A2, ?_, p2, p3, fun a k u => (p4 a k u).trans (g4 a k u)⟩
  rw [e_142, g1', p1, e_142_2]
  simp (disch := first | omega | (simp (disch := omega) only [n_ti, Int32.reduceToInt] <;> omega)) only [n_add, nl_add, nr_add, n_mul, nl_mul, nr_mul, n_sub, nr_dec, n_div, nr_sub_1, nr_sub_2, nr_sub_3, nr_sub_4, nr_sub_7, nr_sub_10, nr_sub_11, nr_sub_20, nr_sub_48, nr_sub_97, nl_sub_3, nl_sub_4, nl_sub_12, nl_sub_24, nl_sub_32, nr_div_2, nr_div_4, z_lt, z_le, z_eq, z_cl, n_ti, Int.toNat_natCast, Int32.reduceToInt, Int32.reduceToNatClampNeg, zc_add, zc_sub, zc_add_1, zc_add_2, zc_add_3, zc_add_4, zc_add_8, zc_add_10, zc_add_12, zc_add_16, zc_add_20, zc_sub_1, zc_sub_2, zc_sub_4, zc_sub_10, zc_sub_20, zc_sub_48, zc_sub_97, zc_mul_4, t_ltZ, f_ltZ, t_leZ, f_leZ, t_eqZ, f_eqZ, t_ltN, f_ltN, t_leN, f_leN, t_eqN, f_eqN, ↓reduceIte, and_true, true_and, and_false, false_and, and_self, or_true, true_or, or_false, false_or, or_self, not_true_eq_false, not_false_eq_true, tu_same, tu_eq, tu_ne, b_V, b_I, b_J]
