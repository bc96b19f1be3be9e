/-! run: persons, ends, misses as plain numbers; the class's small calls -/
abbrev SP : Type := Nat × Nat × Nat × Nat × Nat × Nat × Nat
abbrev pW (s : SP) : Nat := s.1
abbrev pF (s : SP) : Nat := s.2.1
abbrev pD (s : SP) : Nat := s.2.2.1
abbrev pT (s : SP) : Nat := s.2.2.2.1
abbrev pM (s : SP) : Nat := s.2.2.2.2.1
abbrev pG (s : SP) : Nat := s.2.2.2.2.2.1
abbrev pX (s : SP) : Nat := s.2.2.2.2.2.2
abbrev EN : Type := Nat × Nat × Nat
abbrev eH (e : EN) : Nat := e.1
abbrev eK (e : EN) : Nat := e.2.1
abbrev eQ (e : EN) : Nat := e.2.2
abbrev PS : Type := Nat → SP
abbrev ES : Type := Nat → EN
def tI : Nat → Int32
  | 0 => -1
  | k + 1 => nI k
def JmA (A : Nat → Nat → Int32) (p : Nat) (s : SP) : Prop := A (18 + p) 0 = nI (pW s) ∧ A (18 + p) 1 = nI (pF s) ∧ A (18 + p) 2 = nI (pD s) ∧ A (18 + p) 3 = tI (pT s) ∧ A (18 + p) 4 = nI (pM s) ∧ A (18 + p) 5 = nI (pG s) ∧ A (18 + p) 6 = nI (pX s)
def PsA (A : Nat → Nat → Int32) (S : PS) : Prop := ∀ p, p < 6 → JmA A p (S p)
def EnA (A : Nat → Nat → Int32) (E : ES) : Prop := ∀ e, e < 2 → A 15 e = nI (eH (E e)) ∧ A 16 e = tI (eK (E e)) ∧ (eK (E e) ≠ 0 → A 17 e = nI (eQ (E e)))
abbrev ML : Type := Nat × (Nat → Nat × Nat × Nat)
def MsA (A : Nat → Nat → Int32) (m : ML) : Prop := A 8 7 = nI m.1 ∧ ∀ k, k < m.1 → k < 200 → A 9 (k * 3) = nI (m.2 k).1 ∧ A 9 (k * 3 + 1) = nI (m.2 k).2.1 ∧ A 9 (k * 3 + 2) = nI (m.2 k).2.2
def MsB (B : Nat → Nat → Int32) (m : ML) : Prop := B 131 60 = nI m.1 ∧ ∀ k, k < m.1 → k < 200 → B 165 k = nI (m.2 k).1 ∧ B 166 k = nI (m.2 k).2.1 ∧ B 167 k = nI (m.2 k).2.2
def adM (m : ML) (x : Nat × Nat × Nat) : ML := (m.1 + 1, updN m.2 m.1 x)
/-- a person as one may stand at BEAT b -/
def sOk (n : Nat) (D : Nat → TD) (b : Nat) (s : SP) : Prop := pW s ≤ 5 ∧ pF s ≤ 3 ∧ pD s ≤ 3 ∧ pT s ≤ n ∧ pM s ≤ 1 ∧ (pT s ≠ 0 → pW s = 1 ∧ pG s ≤ b ∧ b - pG s < dQ (D (pT s - 1))) ∧ pX s < 256 ∧ pG s ≤ 1000
def SOk (n : Nat) (D : Nat → TD) (b : Nat) (S : PS) : Prop := ∀ p, p < 6 → sOk n D b (S p)
def EOk (S : PS) (E : ES) : Prop := ∀ e, e < 2 → eH (E e) < 6 ∧ eK (E e) ≤ 6 ∧ eQ (E e) ≤ 1 ∧ (∀ p, p < 6 → (pW (S p) = 2 + e ↔ p = eH (E e))) ∧ (∀ p, p < 6 → (pW (S p) = 4 + e ↔ p + 1 = eK (E e)))
def anyF (P : Nat → Bool) : Nat → Nat → Bool
  | 0, _ => false
  | m + 1, j => if P j = true then true else anyF P m (j + 1)
def fstF (P : Nat → Bool) : Nat → Nat → Nat
  | 0, _ => 0
  | m + 1, j => if P j = true then j + 1 else fstF P m (j + 1)
def cntF (P : Nat → Bool) : Nat → Nat → Nat
  | 0, _ => 0
  | m + 1, j => (if P j = true then 1 else 0) + cntF P m (j + 1)
theorem tI_s {t : Nat} (h : t ≠ 0) : tI t = nI (t - 1) := by
  obtain ⟨k, rfl⟩ : ∃ k, t = k + 1 := ⟨t - 1, by omega⟩
  rfl
theorem tI_z {t : Nat} (h : t = 0) : tI t = -1 := by subst h; rfl
theorem tI_lo {t : Nat} (h : t < 1000) : (tI t).toInt = (t : Int) - 1 := by
  by_cases c : t = 0
  · subst c; decide
  · rw [tI_s c, n_ti (by omega)]; omega
theorem j_c : ∀ p : Fin 6, (tm_rtl.getD 14 []).getD p.val 0 = 18 + p.val ∧ kdm (18 + p.val) = 103 := by decide +kernel
theorem j_1 {p : Nat} (hp : p < 6) (τ : tm_Tu) : tm_RT τ 14 p = 18 + p := (rt_o (by omega) (by omega)).trans (j_c ⟨p, hp⟩).1
theorem j_2 {p : Nat} (hp : p < 6) : kdm (18 + p) = 103 := (j_c ⟨p, hp⟩).2
theorem JmA.tr {A A' : Nat → Nat → Int32} {p : Nat} {s : SP} (h : JmA A p s) (f : ∀ k, A' (18 + p) k = A (18 + p) k) : JmA A' p s := ⟨(f 0).trans h.1, (f 1).trans h.2.1, (f 2).trans h.2.2.1, (f 3).trans h.2.2.2.1, (f 4).trans h.2.2.2.2.1, (f 5).trans h.2.2.2.2.2.1, (f 6).trans h.2.2.2.2.2.2⟩
theorem PsA.tr {A A' : Nat → Nat → Int32} {S : PS} (h : PsA A S) (f : ∀ a k, 18 ≤ a → a ≤ 23 → A' a k = A a k) : PsA A' S := fun p hp => (h p hp).tr (fun k => f _ k (by omega) (by omega))
theorem EnA.tr {A A' : Nat → Nat → Int32} {E : ES} (h : EnA A E) (f : ∀ a k, 15 ≤ a → a ≤ 17 → A' a k = A a k) : EnA A' E := fun e he => ⟨(f _ _ (by omega) (by omega)).trans (h e he).1, (f _ _ (by omega) (by omega)).trans (h e he).2.1, fun u => (f _ _ (by omega) (by omega)).trans ((h e he).2.2 u)⟩
theorem MsA.tr {A A' : Nat → Nat → Int32} {m : ML} (h : MsA A m) (f : ∀ a k, (a = 8 ∧ k = 7) ∨ a = 9 → A' a k = A a k) : MsA A' m := ⟨(f _ _ (by omega)).trans h.1, fun k h1 h2 => ⟨(f _ _ (by omega)).trans (h.2 k h1 h2).1, (f _ _ (by omega)).trans (h.2 k h1 h2).2.1, (f _ _ (by omega)).trans (h.2 k h1 h2).2.2⟩⟩
theorem MsB.tr {B B' : Nat → Nat → Int32} {m : ML} (h : MsB B m) (f : ∀ a k, (a = 131 ∧ k = 60) ∨ (165 ≤ a ∧ a ≤ 167) → B' a k = B a k) : MsB B' m := ⟨(f _ _ (by omega)).trans h.1, fun k h1 h2 => ⟨(f _ _ (by omega)).trans (h.2 k h1 h2).1, (f _ _ (by omega)).trans (h.2 k h1 h2).2.1, (f _ _ (by omega)).trans (h.2 k h1 h2).2.2⟩⟩
theorem PsA.up {A A' : Nat → Nat → Int32} {S : PS} {q : Nat} {s : SP} (h : PsA A S) (f : ∀ a k, 18 ≤ a → a ≤ 23 → a ≠ 18 + q → A' a k = A a k) (g : JmA A' q s) : PsA A' (updN S q s) := by
  intro p hp
  unfold updN
  by_cases e : p = q
  · rw [if_pos e, e]; exact g
  · rw [if_neg e]; exact (h p hp).tr (fun k => f _ k (by omega) (by omega) (by omega))
theorem updN_s {α : Type} (f : Nat → α) (k : Nat) (v : α) : updN f k v k = v := if_pos rfl
theorem updN_n {α : Type} (f : Nat → α) {k j : Nat} (v : α) (h : j ≠ k) : updN f k v j = f j := if_neg h
theorem c_125 {A : Nat → Nat → Int32} {J : Nat → Nat → Int64} {τ : tm_Tu} {m : ML} (h : MsA A m) (hm : m.1 < 100000) (x y z : Nat) : ∃ A', F_125 [.ref 8, .int (nI x), .int (nI y), .int (nI z)] (mk A J τ) = some (none, mk A' J τ) ∧ MsA A' (adM m (x, y, z)) ∧ (∀ a k, ¬ (a = 8 ∧ k = 7) → a ≠ 9 → A' a k = A a k) := by
  obtain ⟨h1, h2⟩ := h
  by_cases c : m.1 < 200
  · refine ⟨tm_u (tm_u (tm_u (tm_u A 9 (m.1 * 3) (nI x)) 9 (m.1 * 3 + 1) (nI y)) 9 (m.1 * 3 + 2) (nI z)) 8 7 (nI (m.1 + 1)), ?_, ⟨by simp (disch := omega) only [tu_same, tu_eq, tu_ne]; rfl, fun k k1 k2 => ?_⟩, fun a k u v => by simp (disch := omega) only [tu_same, tu_eq, tu_ne]⟩
    · rw [e_125]
      simp (disch := first | omega | (simp (disch := omega) only [n_ti, Int32.reduceToInt] <;> omega)) only [h1, e_125_46, n_add, nl_add, nr_add, n_mul, nl_mul, nr_mul, n_sub, nr_dec, n_div, nr_sub_1, nr_sub_2, nr_sub_3, nr_sub_4, nr_sub_7, nr_sub_10, nr_sub_11, nr_sub_20, nr_sub_48, nr_sub_97, nl_sub_3, nl_sub_4, nl_sub_12, nl_sub_24, nl_sub_32, nr_div_2, nr_div_4, z_lt, z_le, z_eq, z_cl, n_ti, Int.toNat_natCast, Int32.reduceToInt, Int32.reduceToNatClampNeg, zc_add, zc_sub, zc_add_1, zc_add_2, zc_add_3, zc_add_4, zc_add_8, zc_add_10, zc_add_12, zc_add_16, zc_add_20, zc_sub_1, zc_sub_2, zc_sub_4, zc_sub_10, zc_sub_20, zc_sub_48, zc_sub_97, zc_mul_4, t_ltZ, f_ltZ, t_leZ, f_leZ, t_eqZ, f_eqZ, t_ltN, f_ltN, t_leN, f_leN, t_eqN, f_eqN, ↓reduceIte, and_true, true_and, and_false, false_and, and_self, or_true, true_or, or_false, false_or, or_self, not_true_eq_false, not_false_eq_true, tu_same, tu_eq, tu_ne, b_V, b_I, b_J]
    · show _ = nI (updN m.2 m.1 (x, y, z) k).1 ∧ _ = nI (updN m.2 m.1 (x, y, z) k).2.1 ∧ _ = nI (updN m.2 m.1 (x, y, z) k).2.2
      by_cases e : k = m.1
      · subst e
        rw [updN_s]
        exact ⟨by simp (disch := omega) only [tu_same, tu_eq, tu_ne], by simp (disch := omega) only [tu_same, tu_eq, tu_ne], by simp (disch := omega) only [tu_same, tu_eq, tu_ne]⟩
      · rw [updN_n _ _ e]
        have k1' : k < m.1 := by
          have : k < m.1 + 1 := k1
          omega
        obtain ⟨w1, w2, w3⟩ := h2 k k1' k2
        exact ⟨by simp (disch := omega) only [w1, tu_same, tu_eq, tu_ne], by simp (disch := omega) only [w2, tu_same, tu_eq, tu_ne], by simp (disch := omega) only [w3, tu_same, tu_eq, tu_ne]⟩
  · refine ⟨tm_u A 8 7 (nI (m.1 + 1)), ?_, ⟨by simp (disch := omega) only [tu_same, tu_eq, tu_ne]; rfl, fun k k1 k2 => ?_⟩, fun a k u v => by simp (disch := omega) only [tu_same, tu_eq, tu_ne]⟩
    · rw [e_125]
      simp (disch := first | omega | (simp (disch := omega) only [n_ti, Int32.reduceToInt] <;> omega)) only [h1, e_125_46, n_add, nl_add, nr_add, n_mul, nl_mul, nr_mul, n_sub, nr_dec, n_div, nr_sub_1, nr_sub_2, nr_sub_3, nr_sub_4, nr_sub_7, nr_sub_10, nr_sub_11, nr_sub_20, nr_sub_48, nr_sub_97, nl_sub_3, nl_sub_4, nl_sub_12, nl_sub_24, nl_sub_32, nr_div_2, nr_div_4, z_lt, z_le, z_eq, z_cl, n_ti, Int.toNat_natCast, Int32.reduceToInt, Int32.reduceToNatClampNeg, zc_add, zc_sub, zc_add_1, zc_add_2, zc_add_3, zc_add_4, zc_add_8, zc_add_10, zc_add_12, zc_add_16, zc_add_20, zc_sub_1, zc_sub_2, zc_sub_4, zc_sub_10, zc_sub_20, zc_sub_48, zc_sub_97, zc_mul_4, t_ltZ, f_ltZ, t_leZ, f_leZ, t_eqZ, f_eqZ, t_ltN, f_ltN, t_leN, f_leN, t_eqN, f_eqN, ↓reduceIte, and_true, true_and, and_false, false_and, and_self, or_true, true_or, or_false, false_or, or_self, not_true_eq_false, not_false_eq_true, tu_same, tu_eq, tu_ne, b_V, b_I, b_J]
    · show _ = nI (updN m.2 m.1 (x, y, z) k).1 ∧ _ = nI (updN m.2 m.1 (x, y, z) k).2.1 ∧ _ = nI (updN m.2 m.1 (x, y, z) k).2.2
      rw [updN_n _ _ (show k ≠ m.1 by omega)]
      obtain ⟨w1, w2, w3⟩ := h2 k (by omega) k2
      exact ⟨by simp (disch := omega) only [w1, tu_same, tu_eq, tu_ne], by simp (disch := omega) only [w2, tu_same, tu_eq, tu_ne], by simp (disch := omega) only [w3, tu_same, tu_eq, tu_ne]⟩
theorem m_150 {B : Nat → Nat → Int32} {J : Nat → Nat → Int64} {τ : tm_Tu} {m : ML} {b : Nat} (h : MsB B m) (hm : m.1 < 100000) (h59 : B 131 59 = nI b) (y z : Nat) : ∃ B', F_150 [.ref 131, .int (nI y), .int (nI z)] (mk B J τ) = some (none, mk B' J τ) ∧ MsB B' (adM m (b, y, z)) ∧ (∀ a k, ¬ (a = 131 ∧ k = 60) → ¬ (165 ≤ a ∧ a ≤ 167) → B' a k = B a k) := by
  obtain ⟨h1, h2⟩ := h
  by_cases c : m.1 < 200
  · refine ⟨tm_u (tm_u (tm_u (tm_u B 165 m.1 (nI b)) 166 m.1 (nI y)) 167 m.1 (nI z)) 131 60 (nI (m.1 + 1)), ?_, ⟨by simp (disch := omega) only [tu_same, tu_eq, tu_ne]; rfl, fun k k1 k2 => ?_⟩, fun a k u v => by simp (disch := omega) only [tu_same, tu_eq, tu_ne]⟩
    · rw [e_150]
      simp (disch := first | omega | (simp (disch := omega) only [n_ti, Int32.reduceToInt] <;> omega)) only [h1, h59, e_150_43, n_add, nl_add, nr_add, n_mul, nl_mul, nr_mul, n_sub, nr_dec, n_div, nr_sub_1, nr_sub_2, nr_sub_3, nr_sub_4, nr_sub_7, nr_sub_10, nr_sub_11, nr_sub_20, nr_sub_48, nr_sub_97, nl_sub_3, nl_sub_4, nl_sub_12, nl_sub_24, nl_sub_32, nr_div_2, nr_div_4, z_lt, z_le, z_eq, z_cl, n_ti, Int.toNat_natCast, Int32.reduceToInt, Int32.reduceToNatClampNeg, zc_add, zc_sub, zc_add_1, zc_add_2, zc_add_3, zc_add_4, zc_add_8, zc_add_10, zc_add_12, zc_add_16, zc_add_20, zc_sub_1, zc_sub_2, zc_sub_4, zc_sub_10, zc_sub_20, zc_sub_48, zc_sub_97, zc_mul_4, t_ltZ, f_ltZ, t_leZ, f_leZ, t_eqZ, f_eqZ, t_ltN, f_ltN, t_leN, f_leN, t_eqN, f_eqN, ↓reduceIte, and_true, true_and, and_false, false_and, and_self, or_true, true_or, or_false, false_or, or_self, not_true_eq_false, not_false_eq_true, tu_same, tu_eq, tu_ne, b_V, b_I, b_J]
    · show _ = nI (updN m.2 m.1 (b, y, z) k).1 ∧ _ = nI (updN m.2 m.1 (b, y, z) k).2.1 ∧ _ = nI (updN m.2 m.1 (b, y, z) k).2.2
      by_cases e : k = m.1
      · subst e
        rw [updN_s]
        exact ⟨by simp (disch := omega) only [tu_same, tu_eq, tu_ne], by simp (disch := omega) only [tu_same, tu_eq, tu_ne], by simp (disch := omega) only [tu_same, tu_eq, tu_ne]⟩
      · rw [updN_n _ _ e]
        have k1' : k < m.1 := by
          have : k < m.1 + 1 := k1
          omega
        obtain ⟨w1, w2, w3⟩ := h2 k k1' k2
        exact ⟨by simp (disch := omega) only [w1, tu_same, tu_eq, tu_ne], by simp (disch := omega) only [w2, tu_same, tu_eq, tu_ne], by simp (disch := omega) only [w3, tu_same, tu_eq, tu_ne]⟩
  · refine ⟨tm_u B 131 60 (nI (m.1 + 1)), ?_, ⟨by simp (disch := omega) only [tu_same, tu_eq, tu_ne]; rfl, fun k k1 k2 => ?_⟩, fun a k u v => by simp (disch := omega) only [tu_same, tu_eq, tu_ne]⟩
    · rw [e_150]
      simp (disch := first | omega | (simp (disch := omega) only [n_ti, Int32.reduceToInt] <;> omega)) only [h1, e_150_43, n_add, nl_add, nr_add, n_mul, nl_mul, nr_mul, n_sub, nr_dec, n_div, nr_sub_1, nr_sub_2, nr_sub_3, nr_sub_4, nr_sub_7, nr_sub_10, nr_sub_11, nr_sub_20, nr_sub_48, nr_sub_97, nl_sub_3, nl_sub_4, nl_sub_12, nl_sub_24, nl_sub_32, nr_div_2, nr_div_4, z_lt, z_le, z_eq, z_cl, n_ti, Int.toNat_natCast, Int32.reduceToInt, Int32.reduceToNatClampNeg, zc_add, zc_sub, zc_add_1, zc_add_2, zc_add_3, zc_add_4, zc_add_8, zc_add_10, zc_add_12, zc_add_16, zc_add_20, zc_sub_1, zc_sub_2, zc_sub_4, zc_sub_10, zc_sub_20, zc_sub_48, zc_sub_97, zc_mul_4, t_ltZ, f_ltZ, t_leZ, f_leZ, t_eqZ, f_eqZ, t_ltN, f_ltN, t_leN, f_leN, t_eqN, f_eqN, ↓reduceIte, and_true, true_and, and_false, false_and, and_self, or_true, true_or, or_false, false_or, or_self, not_true_eq_false, not_false_eq_true, tu_same, tu_eq, tu_ne, b_V, b_I, b_J]
    · show _ = nI (updN m.2 m.1 (b, y, z) k).1 ∧ _ = nI (updN m.2 m.1 (b, y, z) k).2.1 ∧ _ = nI (updN m.2 m.1 (b, y, z) k).2.2
      rw [updN_n _ _ (show k ≠ m.1 by omega)]
      obtain ⟨w1, w2, w3⟩ := h2 k (by omega) k2
      exact ⟨by simp (disch := omega) only [w1, tu_same, tu_eq, tu_ne], by simp (disch := omega) only [w2, tu_same, tu_eq, tu_ne], by simp (disch := omega) only [w3, tu_same, tu_eq, tu_ne]⟩
theorem c_110 {A : Nat → Nat → Int32} {J : Nat → Nat → Int64} {τ : tm_Tu} {p : Nat} {s : SP} (hp : p < 6) (h : JmA A p s) : ∃ A', F_110 [.ref (18 + p)] (mk A J τ) = some (none, mk A' J τ) ∧ JmA A' p (pW s, pF s, pD s, 0, 0, 0, pX s) ∧ (∀ a k, a ≠ 18 + p → A' a k = A a k) := by
  obtain ⟨h0, h1, h2, h3, h4, h5, h6⟩ := h
  refine ⟨tm_u (tm_u (tm_u A (18 + p) 3 (-1)) (18 + p) 4 0) (18 + p) 5 0, ?_, ⟨by simp (disch := omega) only [h0, tu_same, tu_eq, tu_ne], by simp (disch := omega) only [h1, tu_same, tu_eq, tu_ne], by simp (disch := omega) only [h2, tu_same, tu_eq, tu_ne], by simp (disch := omega) only [tu_same, tu_eq, tu_ne]; rfl, by simp (disch := omega) only [tu_same, tu_eq, tu_ne]; rfl, by simp (disch := omega) only [tu_same, tu_eq, tu_ne]; rfl, by simp (disch := omega) only [h6, tu_same, tu_eq, tu_ne]⟩, fun a k u => by simp (disch := omega) only [tu_same, tu_eq, tu_ne]⟩
  rw [e_110]
  simp (disch := first | omega | (simp (disch := omega) only [n_ti, Int32.reduceToInt] <;> omega)) only [j_2 hp, n_add, nl_add, nr_add, n_mul, nl_mul, nr_mul, n_sub, nr_dec, n_div, nr_sub_1, nr_sub_2, nr_sub_3, nr_sub_4, nr_sub_7, nr_sub_10, nr_sub_11, nr_sub_20, nr_sub_48, nr_sub_97, nl_sub_3, nl_sub_4, nl_sub_12, nl_sub_24, nl_sub_32, nr_div_2, nr_div_4, z_lt, z_le, z_eq, z_cl, n_ti, Int.toNat_natCast, Int32.reduceToInt, Int32.reduceToNatClampNeg, zc_add, zc_sub, zc_add_1, zc_add_2, zc_add_3, zc_add_4, zc_add_8, zc_add_10, zc_add_12, zc_add_16, zc_add_20, zc_sub_1, zc_sub_2, zc_sub_4, zc_sub_10, zc_sub_20, zc_sub_48, zc_sub_97, zc_mul_4, t_ltZ, f_ltZ, t_leZ, f_leZ, t_eqZ, f_eqZ, t_ltN, f_ltN, t_leN, f_leN, t_eqN, f_eqN, ↓reduceIte, and_true, true_and, and_false, false_and, and_self, or_true, true_or, or_false, false_or, or_self, not_true_eq_false, not_false_eq_true, tu_same, tu_eq, tu_ne, b_V, b_I, b_J]
theorem c_111 {A : Nat → Nat → Int32} {J : Nat → Nat → Int64} {τ : tm_Tu} {p w : Nat} (hp : p < 6) : ∃ A', F_111 [.ref (18 + p), .int (nI w)] (mk A J τ) = some (none, mk A' J τ) ∧ JmA A' p (w, 0, 0, 0, 0, 0, 0) ∧ (∀ a k, a ≠ 18 + p → A' a k = A a k) := by
  have k := j_2 hp
  refine ⟨tm_u (tm_u (tm_u (tm_u (tm_u (tm_u (tm_u A (18 + p) 0 (nI w)) (18 + p) 1 0) (18 + p) 2 0) (18 + p) 6 0) (18 + p) 3 (-1)) (18 + p) 4 0) (18 + p) 5 0, ?_, ⟨by simp (disch := omega) only [tu_same, tu_eq, tu_ne], by simp (disch := omega) only [tu_same, tu_eq, tu_ne]; rfl, by simp (disch := omega) only [tu_same, tu_eq, tu_ne]; rfl, by simp (disch := omega) only [tu_same, tu_eq, tu_ne]; rfl, by simp (disch := omega) only [tu_same, tu_eq, tu_ne]; rfl, by simp (disch := omega) only [tu_same, tu_eq, tu_ne]; rfl, by simp (disch := omega) only [tu_same, tu_eq, tu_ne]; rfl⟩, fun a k u => by simp (disch := omega) only [tu_same, tu_eq, tu_ne]⟩
  rw [e_111]
  simp (disch := first | omega | (simp (disch := omega) only [n_ti, Int32.reduceToInt] <;> omega)) only [k, e_110, e_111_24, n_add, nl_add, nr_add, n_mul, nl_mul, nr_mul, n_sub, nr_dec, n_div, nr_sub_1, nr_sub_2, nr_sub_3, nr_sub_4, nr_sub_7, nr_sub_10, nr_sub_11, nr_sub_20, nr_sub_48, nr_sub_97, nl_sub_3, nl_sub_4, nl_sub_12, nl_sub_24, nl_sub_32, nr_div_2, nr_div_4, z_lt, z_le, z_eq, z_cl, n_ti, Int.toNat_natCast, Int32.reduceToInt, Int32.reduceToNatClampNeg, zc_add, zc_sub, zc_add_1, zc_add_2, zc_add_3, zc_add_4, zc_add_8, zc_add_10, zc_add_12, zc_add_16, zc_add_20, zc_sub_1, zc_sub_2, zc_sub_4, zc_sub_10, zc_sub_20, zc_sub_48, zc_sub_97, zc_mul_4, t_ltZ, f_ltZ, t_leZ, f_leZ, t_eqZ, f_eqZ, t_ltN, f_ltN, t_leN, f_leN, t_eqN, f_eqN, ↓reduceIte, and_true, true_and, and_false, false_and, and_self, or_true, true_or, or_false, false_or, or_self, not_true_eq_false, not_false_eq_true, tu_same, tu_eq, tu_ne, b_V, b_I, b_J]
theorem c_116 {A : Nat → Nat → Int32} {J : Nat → Nat → Int64} {τ : tm_Tu} {p : Nat} {s : SP} (hp : p < 6) (h : JmA A p s) (hw : pW s ≤ 5) (ht : pT s ≤ 12) (hx : pT s ≠ 0 → pW s = 1) : F_116 [.ref (18 + p)] (mk A J τ) = some (some (.int (b2 (decide (pT s ≠ 0)))), mk A J τ) := by
  obtain ⟨h0, -, -, h3, -⟩ := h
  rw [e_116]
  by_cases c : pT s = 0
  · have e : b2 (decide (pT s ≠ 0)) = 0 := by simp [c, b2]
    rw [tI_z c] at h3
    rw [e]
    by_cases d : pW s = 1
    · rw [d] at h0
      simp (disch := first | omega | (simp (disch := omega) only [n_ti, Int32.reduceToInt] <;> omega)) only [j_2 hp, h0, h3, e_116_20, e_116_21, n_add, nl_add, nr_add, n_mul, nl_mul, nr_mul, n_sub, nr_dec, n_div, nr_sub_1, nr_sub_2, nr_sub_3, nr_sub_4, nr_sub_7, nr_sub_10, nr_sub_11, nr_sub_20, nr_sub_48, nr_sub_97, nl_sub_3, nl_sub_4, nl_sub_12, nl_sub_24, nl_sub_32, nr_div_2, nr_div_4, z_lt, z_le, z_eq, z_cl, n_ti, Int.toNat_natCast, Int32.reduceToInt, Int32.reduceToNatClampNeg, zc_add, zc_sub, zc_add_1, zc_add_2, zc_add_3, zc_add_4, zc_add_8, zc_add_10, zc_add_12, zc_add_16, zc_add_20, zc_sub_1, zc_sub_2, zc_sub_4, zc_sub_10, zc_sub_20, zc_sub_48, zc_sub_97, zc_mul_4, t_ltZ, f_ltZ, t_leZ, f_leZ, t_eqZ, f_eqZ, t_ltN, f_ltN, t_leN, f_leN, t_eqN, f_eqN, ↓reduceIte, and_true, true_and, and_false, false_and, and_self, or_true, true_or, or_false, false_or, or_self, not_true_eq_false, not_false_eq_true, tu_same, tu_eq, tu_ne, b_V, b_I, b_J]
    · simp (disch := first | omega | (simp (disch := omega) only [n_ti, Int32.reduceToInt] <;> omega)) only [j_2 hp, h0, h3, e_116_20, e_116_21, n_add, nl_add, nr_add, n_mul, nl_mul, nr_mul, n_sub, nr_dec, n_div, nr_sub_1, nr_sub_2, nr_sub_3, nr_sub_4, nr_sub_7, nr_sub_10, nr_sub_11, nr_sub_20, nr_sub_48, nr_sub_97, nl_sub_3, nl_sub_4, nl_sub_12, nl_sub_24, nl_sub_32, nr_div_2, nr_div_4, z_lt, z_le, z_eq, z_cl, n_ti, Int.toNat_natCast, Int32.reduceToInt, Int32.reduceToNatClampNeg, zc_add, zc_sub, zc_add_1, zc_add_2, zc_add_3, zc_add_4, zc_add_8, zc_add_10, zc_add_12, zc_add_16, zc_add_20, zc_sub_1, zc_sub_2, zc_sub_4, zc_sub_10, zc_sub_20, zc_sub_48, zc_sub_97, zc_mul_4, t_ltZ, f_ltZ, t_leZ, f_leZ, t_eqZ, f_eqZ, t_ltN, f_ltN, t_leN, f_leN, t_eqN, f_eqN, ↓reduceIte, and_true, true_and, and_false, false_and, and_self, or_true, true_or, or_false, false_or, or_self, not_true_eq_false, not_false_eq_true, tu_same, tu_eq, tu_ne, b_V, b_I, b_J]
  · have e : b2 (decide (pT s ≠ 0)) = 1 := by simp [c, b2]
    rw [tI_s c] at h3
    rw [hx c] at h0
    rw [e]
    simp (disch := first | omega | (simp (disch := omega) only [n_ti, Int32.reduceToInt] <;> omega)) only [j_2 hp, h0, h3, e_116_20, e_116_21, n_add, nl_add, nr_add, n_mul, nl_mul, nr_mul, n_sub, nr_dec, n_div, nr_sub_1, nr_sub_2, nr_sub_3, nr_sub_4, nr_sub_7, nr_sub_10, nr_sub_11, nr_sub_20, nr_sub_48, nr_sub_97, nl_sub_3, nl_sub_4, nl_sub_12, nl_sub_24, nl_sub_32, nr_div_2, nr_div_4, z_lt, z_le, z_eq, z_cl, n_ti, Int.toNat_natCast, Int32.reduceToInt, Int32.reduceToNatClampNeg, zc_add, zc_sub, zc_add_1, zc_add_2, zc_add_3, zc_add_4, zc_add_8, zc_add_10, zc_add_12, zc_add_16, zc_add_20, zc_sub_1, zc_sub_2, zc_sub_4, zc_sub_10, zc_sub_20, zc_sub_48, zc_sub_97, zc_mul_4, t_ltZ, f_ltZ, t_leZ, f_leZ, t_eqZ, f_eqZ, t_ltN, f_ltN, t_leN, f_leN, t_eqN, f_eqN, ↓reduceIte, and_true, true_and, and_false, false_and, and_self, or_true, true_or, or_false, false_or, or_self, not_true_eq_false, not_false_eq_true, tu_same, tu_eq, tu_ne, b_V, b_I, b_J]
theorem c_119 {A : Nat → Nat → Int32} {J : Nat → Nat → Int64} {τ : tm_Tu} {p : Nat} {s : SP} (hp : p < 6) (h : JmA A p s) (hw : pW s ≤ 5) (ht : pT s ≤ 12) : F_119 [.ref (18 + p)] (mk A J τ) = some (some (.int (b2 (decide (pW s = 1 ∧ pT s = 0)))), mk A J τ) := by
  obtain ⟨h0, -, -, h3, -⟩ := h
  rw [e_119]
  by_cases d : pW s = 1
  · by_cases c : pT s = 0
    · have e : b2 (decide (pW s = 1 ∧ pT s = 0)) = 1 := by simp [c, d, b2]
      rw [tI_z c] at h3
      rw [d] at h0
      rw [e]
      simp (disch := first | omega | (simp (disch := omega) only [n_ti, Int32.reduceToInt] <;> omega)) only [j_2 hp, h0, h3, e_119_20, e_119_21, n_add, nl_add, nr_add, n_mul, nl_mul, nr_mul, n_sub, nr_dec, n_div, nr_sub_1, nr_sub_2, nr_sub_3, nr_sub_4, nr_sub_7, nr_sub_10, nr_sub_11, nr_sub_20, nr_sub_48, nr_sub_97, nl_sub_3, nl_sub_4, nl_sub_12, nl_sub_24, nl_sub_32, nr_div_2, nr_div_4, z_lt, z_le, z_eq, z_cl, n_ti, Int.toNat_natCast, Int32.reduceToInt, Int32.reduceToNatClampNeg, zc_add, zc_sub, zc_add_1, zc_add_2, zc_add_3, zc_add_4, zc_add_8, zc_add_10, zc_add_12, zc_add_16, zc_add_20, zc_sub_1, zc_sub_2, zc_sub_4, zc_sub_10, zc_sub_20, zc_sub_48, zc_sub_97, zc_mul_4, t_ltZ, f_ltZ, t_leZ, f_leZ, t_eqZ, f_eqZ, t_ltN, f_ltN, t_leN, f_leN, t_eqN, f_eqN, ↓reduceIte, and_true, true_and, and_false, false_and, and_self, or_true, true_or, or_false, false_or, or_self, not_true_eq_false, not_false_eq_true, tu_same, tu_eq, tu_ne, b_V, b_I, b_J]
    · have e : b2 (decide (pW s = 1 ∧ pT s = 0)) = 0 := by simp [c, b2]
      rw [tI_s c] at h3
      rw [d] at h0
      rw [e]
      simp (disch := first | omega | (simp (disch := omega) only [n_ti, Int32.reduceToInt] <;> omega)) only [j_2 hp, h0, h3, e_119_20, e_119_21, n_add, nl_add, nr_add, n_mul, nl_mul, nr_mul, n_sub, nr_dec, n_div, nr_sub_1, nr_sub_2, nr_sub_3, nr_sub_4, nr_sub_7, nr_sub_10, nr_sub_11, nr_sub_20, nr_sub_48, nr_sub_97, nl_sub_3, nl_sub_4, nl_sub_12, nl_sub_24, nl_sub_32, nr_div_2, nr_div_4, z_lt, z_le, z_eq, z_cl, n_ti, Int.toNat_natCast, Int32.reduceToInt, Int32.reduceToNatClampNeg, zc_add, zc_sub, zc_add_1, zc_add_2, zc_add_3, zc_add_4, zc_add_8, zc_add_10, zc_add_12, zc_add_16, zc_add_20, zc_sub_1, zc_sub_2, zc_sub_4, zc_sub_10, zc_sub_20, zc_sub_48, zc_sub_97, zc_mul_4, t_ltZ, f_ltZ, t_leZ, f_leZ, t_eqZ, f_eqZ, t_ltN, f_ltN, t_leN, f_leN, t_eqN, f_eqN, ↓reduceIte, and_true, true_and, and_false, false_and, and_self, or_true, true_or, or_false, false_or, or_self, not_true_eq_false, not_false_eq_true, tu_same, tu_eq, tu_ne, b_V, b_I, b_J]
  · have e : b2 (decide (pW s = 1 ∧ pT s = 0)) = 0 := by simp [d, b2]
    rw [e]
    simp (disch := first | omega | (simp (disch := omega) only [n_ti, Int32.reduceToInt] <;> omega)) only [j_2 hp, h0, e_119_20, e_119_21, n_add, nl_add, nr_add, n_mul, nl_mul, nr_mul, n_sub, nr_dec, n_div, nr_sub_1, nr_sub_2, nr_sub_3, nr_sub_4, nr_sub_7, nr_sub_10, nr_sub_11, nr_sub_20, nr_sub_48, nr_sub_97, nl_sub_3, nl_sub_4, nl_sub_12, nl_sub_24, nl_sub_32, nr_div_2, nr_div_4, z_lt, z_le, z_eq, z_cl, n_ti, Int.toNat_natCast, Int32.reduceToInt, Int32.reduceToNatClampNeg, zc_add, zc_sub, zc_add_1, zc_add_2, zc_add_3, zc_add_4, zc_add_8, zc_add_10, zc_add_12, zc_add_16, zc_add_20, zc_sub_1, zc_sub_2, zc_sub_4, zc_sub_10, zc_sub_20, zc_sub_48, zc_sub_97, zc_mul_4, t_ltZ, f_ltZ, t_leZ, f_leZ, t_eqZ, f_eqZ, t_ltN, f_ltN, t_leN, f_leN, t_eqN, f_eqN, ↓reduceIte, and_true, true_and, and_false, false_and, and_self, or_true, true_or, or_false, false_or, or_self, not_true_eq_false, not_false_eq_true, tu_same, tu_eq, tu_ne, b_V, b_I, b_J]
