/-! reading: a trick and the whole BOOK (model) -/
def inK (b a y : Nat) : Prop := ((136 ≤ a ∧ a ≤ 140 ∨ a = 143) ∧ 12 * b ≤ y ∧ y < 12 * b + 12) ∨ (a = 141 ∧ 384 * b ≤ y ∧ y < 384 * b + 384) ∨ (a = 142 ∧ 96 * b ≤ y ∧ y < 96 * b + 96) ∨ (a = 135 ∧ y = b)
def fK (B B' : Nat → Nat → Int32) (b : Nat) : Prop := ∀ a y, ¬ (a = 131 ∧ 4 ≤ y ∧ y ≤ 9) → ¬ inK b a y → B' a y = B a y
def jK (J J' : Nat → Nat → Int64) (b : Nat) : Prop := ∀ a y, ¬ (a = 131 ∧ y = 10) → ¬ (a = 134 ∧ 12 * b ≤ y ∧ y < 12 * b + 12) → J' a y = J a y
theorem inB_K {b k a y : Nat} (hk : k < 12) (h : inB (12 * b + k) a y) : inK b a y := by
  unfold inB at h
  unfold inK
  omega
theorem fr.K {B B' : Nat → Nat → Int32} {b k : Nat} (h : fr B B' (12 * b + k)) (hk : k < 12) : fK B B' b := fun a y u w => h a y u (fun e => w (inB_K hk e))
theorem jr.K {J J' : Nat → Nat → Int64} {b k : Nat} (h : jr J J' (12 * b + k)) (hk : k < 12) : jK J J' b := fun a y u w => h a y u (fun e => w (by omega))
theorem fK.then {B B1 B2 : Nat → Nat → Int32} {b : Nat} (h : fK B B1 b) (g : fK B1 B2 b) : fK B B2 b := fun a y u w => (g a y u w).trans (h a y u w)
theorem jK.then {J J1 J2 : Nat → Nat → Int64} {b : Nat} (h : jK J J1 b) (g : jK J1 J2 b) : jK J J2 b := fun a y u w => (g a y u w).trans (h a y u w)
theorem fK.u {B B1 : Nat → Nat → Int32} {b : Nat} (h : fK B B1 b) (v : Int32) : fK B (tm_u B1 135 b v) b := by
  intro a y u w
  have : ¬ (a = 135 ∧ y = b) := fun e => w (Or.inr (Or.inr (Or.inr e)))
  simp (disch := omega) only [tu_same, tu_eq, tu_ne]
  exact h a y u w
theorem fK.b {B B1 : Nat → Nat → Int32} {b : Nat} (h : fK B B1 b) (x z : Int32) : fK B (tm_u (tm_u B1 131 4 x) 131 5 z) b := by
  intro a y u w
  simp (disch := omega) only [tu_same, tu_eq, tu_ne]
  exact h a y u w
theorem TrB.fr {B B' : Nat → Nat → Int32} {m m' : Nat} {D : TD} (h : TrB B m' D) (hD : TDok D) (hm : m' ≠ m) (f : fr B B' m) : TrB B' m' D := by
  obtain ⟨h1, h2, h3, h4, h5, h6, h7, h8⟩ := h
  have o2 := hD.2.1
  have g : ∀ a y, 136 ≤ a → a ≤ 143 → (a ≠ 141 → a ≠ 142 → y = m') → (a = 141 → 32 * m' ≤ y ∧ y < 32 * m' + 32) → (a = 142 → 8 * m' ≤ y ∧ y < 8 * m' + 8) → B' a y = B a y := fun a y u1 u2 u3 u4 u5 => f a y (by omega) (fun e => by unfold inB at e; omega)
  exact ⟨(g 137 m' (by omega) (by omega) (by omega) (by omega) (by omega)).trans h1, (g 136 m' (by omega) (by omega) (by omega) (by omega) (by omega)).trans h2, (g 138 m' (by omega) (by omega) (by omega) (by omega) (by omega)).trans h3, (g 139 m' (by omega) (by omega) (by omega) (by omega) (by omega)).trans h4, (g 140 m' (by omega) (by omega) (by omega) (by omega) (by omega)).trans h5, (g 143 m' (by omega) (by omega) (by omega) (by omega) (by omega)).trans h6, fun i hi => (g 141 _ (by omega) (by omega) (by omega) (by omega) (by omega)).trans (h7 i hi), fun i hi => by rw [g 142 _ (by omega) (by omega) (by omega) (by omega) (by omega)]; exact h8 i hi⟩
theorem pHead_T {s : Nat → Int} {n k : Nat} {nm : Nat → List Nat} {t : TK} : ∀ q, pHead s n k nm t = .inr q → dT q.1.2 = 0 := by
  intro q h
  unfold pHead at h
  repeat' (split at h)
  all_goals first | (cases h; rfl) | cases h
def BkM (B : Nat → Nat → Int32) (J : Nat → Nat → Int64) (b k : Nat) (N : NmD) : Prop := B 131 22 = nI b ∧ B 135 b = nI k ∧ (∀ j, j < k → TrB B (12 * b + j) (N.2 j)) ∧ DOk k N.2 ∧ NmB J b k N.1
set_option maxHeartbeats 2000000 in
theorem m_72 {τ : tm_Tu} {s : Nat → Int} {n b k : Nat} {B : Nat → Nat → Int32} {J : Nat → Nat → Int64} {t : TK} {N : NmD} (h : MoS s n B J t) (hk0 : tK t = 0) (hb : b < 2) (hk : k < 12) (hN : BkM B J b k N) : ∃ B' J', F_72 [.ref 131] (mk B J τ) = some (none, mk B' J' τ) ∧ fK B B' b ∧ jK J J' b ∧ ((∃ e, (pHead s n k N.1 t = .inl e ∨ ∃ q, pHead s n k N.1 t = .inr q ∧ pParts s n 1400 q.1.2 q.2 = .inl e) ∧ BadB B' e) ∨ (∃ q q2, pHead s n k N.1 t = .inr q ∧ pParts s n 1400 q.1.2 q.2 = .inr q2 ∧ MoS s n B' J' q2.2 ∧ BkM B' J' b (k + 1) (updN N.1 k q.1.1, updN N.2 k q2.1))) := by
  obtain ⟨h22, h135, hT, hD, hNm⟩ := hN
  have hm : 12 * b + k < 24 := by omega
  obtain ⟨B1, J1, f1, g1, r1⟩ := m_72h (τ := τ) h hk0 hb hk h22 h135 hNm
  have ni : ∀ a y, (a = 131 ∨ a = 135) → ¬ inB (12 * b + k) a y := fun a y u w => by
    unfold inB at w
    omega
  cases hp : pHead s n k N.1 t with
  | inl e =>
    rw [hp] at r1
    exact ⟨B1, J1, r1.1, f1.K hk, g1.K hk, Or.inl ⟨e, Or.inl rfl, r1.2⟩⟩
  | inr q =>
    rw [hp] at r1
    obtain ⟨u1, u2, u3, u4, u5, u6, u7, u8⟩ := r1
    have hn14 := u2.1.1
    have hx : Fl 0 q.1.2 := Or.inl ⟨rfl, pHead_T q hp⟩
    obtain ⟨B2, J2, v1, v2, v3, v4⟩ := m_parts (τ := τ) (s := s) (n := n) (m := 12 * b + k) hm 1400 q.1.2 q.2 B1 J1 0 (by omega) u2 u3 u4 hx
    have f2 : fr B B2 (12 * b + k) := fun a y c d => (v2 a y c d).trans (f1 a y c d)
    have g2 : jr J J2 (12 * b + k) := fun a y c d => (v3 a y c).trans (g1 a y c d)
    have s71 : F_71 [.ref 131, .int (nI (12 * b + k))] (mk B1 J1 τ) = some (none, mk B2 J2 τ) := by rw [e_71]; exact v1
    have pre : F_72 [.ref 131] (mk B J τ) = R_72 318 [(0, .ref 131)] [] (mk B2 J2 τ) := by
      rw [u1, e_72_313]
      simp (disch := first | omega | (simp (disch := omega) only [n_ti, Int32.reduceToInt] <;> omega)) only [s71, n_add, nl_add, nr_add, n_mul, nl_mul, nr_mul, n_sub, nr_dec, n_div, nr_sub_1, nr_sub_2, nr_sub_3, nr_sub_4, nr_sub_7, nr_sub_10, nr_sub_11, nr_sub_20, nr_sub_48, nr_sub_97, nl_sub_3, nl_sub_4, nl_sub_12, nl_sub_24, nl_sub_32, nr_div_2, nr_div_4, z_lt, z_le, z_eq, z_cl, n_ti, Int.toNat_natCast, Int32.reduceToInt, Int32.reduceToNatClampNeg, zc_add, zc_sub, zc_add_1, zc_add_2, zc_add_3, zc_add_4, zc_add_8, zc_add_10, zc_add_12, zc_add_16, zc_add_20, zc_sub_1, zc_sub_2, zc_sub_4, zc_sub_10, zc_sub_20, zc_sub_48, zc_sub_97, zc_mul_4, t_ltZ, f_ltZ, t_leZ, f_leZ, t_eqZ, f_eqZ, t_ltN, f_ltN, t_leN, f_leN, t_eqN, f_eqN, ↓reduceIte, and_true, true_and, and_false, false_and, and_self, or_true, true_or, or_false, false_or, or_self, not_true_eq_false, not_false_eq_true, tu_same, tu_eq, tu_ne, b_V, b_I, b_J]
    have h22a : B2 131 22 = nI b := (f2 131 22 (by omega) (ni _ _ (by omega))).trans h22
    have h135a : B2 135 b = nI k := (f2 135 b (by omega) (ni _ _ (by omega))).trans h135
    rcases v4 with ⟨e, w1, w2⟩ | ⟨D', t', w1, w2, w3, w4⟩
    · obtain ⟨z, z1, z2⟩ := w2.2.2.2.2
      have tx : TxB B2 s n := h.1.tr (fun a y c => f2 a y (by omega) (fun e => by unfold inB at e; omega))
      obtain ⟨r, hr⟩ := w_68 (τ := τ) (J := J2) (c := 59) tx z2 (by omega) (Or.inr rfl)
      have hr' : F_68 [.ref 131, .int 59] (mk B2 J2 τ) = some (some (.int r), mk B2 J2 τ) := hr
      have gm := m_must0 (τ := τ) (J := J2) (x := r) w2
      refine ⟨tm_u B2 135 b (nI (k + 1)), J2, ?_, (f2.K hk).u _, g2.K hk, Or.inl ⟨e, Or.inr ⟨q, rfl, w1⟩, w2.u _ _ _ (by omega)⟩⟩
      rw [pre, e_72_318]
      simp (disch := first | omega | (simp (disch := omega) only [n_ti, Int32.reduceToInt] <;> omega)) only [hr', e_72_325, gm, e_72_328, h22a, h135a, n_add, nl_add, nr_add, n_mul, nl_mul, nr_mul, n_sub, nr_dec, n_div, nr_sub_1, nr_sub_2, nr_sub_3, nr_sub_4, nr_sub_7, nr_sub_10, nr_sub_11, nr_sub_20, nr_sub_48, nr_sub_97, nl_sub_3, nl_sub_4, nl_sub_12, nl_sub_24, nl_sub_32, nr_div_2, nr_div_4, z_lt, z_le, z_eq, z_cl, n_ti, Int.toNat_natCast, Int32.reduceToInt, Int32.reduceToNatClampNeg, zc_add, zc_sub, zc_add_1, zc_add_2, zc_add_3, zc_add_4, zc_add_8, zc_add_10, zc_add_12, zc_add_16, zc_add_20, zc_sub_1, zc_sub_2, zc_sub_4, zc_sub_10, zc_sub_20, zc_sub_48, zc_sub_97, zc_mul_4, t_ltZ, f_ltZ, t_leZ, f_leZ, t_eqZ, f_eqZ, t_ltN, f_ltN, t_leN, f_leN, t_eqN, f_eqN, ↓reduceIte, and_true, true_and, and_false, false_and, and_self, or_true, true_or, or_false, false_or, or_self, not_true_eq_false, not_false_eq_true, tu_same, tu_eq, tu_ne, b_V, b_I, b_J]
    · have hi := m_is (τ := τ) (c := 59) w2 (Or.inr rfl)
      have hi' : F_68 [.ref 131, .int 59] (mk B2 J2 τ) = some (some (.int (b2 (decide (tK t' = 34)))), mk B2 J2 τ) := hi
      by_cases c : tK t' = 34
      · have e : b2 (decide (tK t' = 34)) = 1 := by simp [c, b2]
        rw [e] at hi'
        rw [if_pos c] at w1
        obtain ⟨B3, J3, p1, p2, p3⟩ := m_must1 (τ := τ) w2 (by omega)
        have f3 := f2.mo p3
        have g3 := g2.mo p3
        have h22b : B3 131 22 = nI b := (p3.1 131 22 (by omega)).trans h22a
        have h135b : B3 135 b = nI k := (p3.1 135 b (by omega)).trans h135a
        refine ⟨tm_u B3 135 b (nI (k + 1)), J3, ?_, (f3.K hk).u _, g3.K hk, Or.inr ⟨q, (D', nx s n t'), rfl, w1, p2.tr (fun a y c => by simp (disch := omega) only [tu_same, tu_eq, tu_ne]) rfl, by simp (disch := omega) only [h22b, tu_same, tu_eq, tu_ne], by simp (disch := omega) only [tu_same, tu_eq, tu_ne], fun j hj => ?_, fun j hj => ?_, fun j hj => ?_⟩⟩
        · rw [pre, e_72_318]
          simp (disch := first | omega | (simp (disch := omega) only [n_ti, Int32.reduceToInt] <;> omega)) only [hi', e_72_325, p1, e_72_328, h22b, h135b, n_add, nl_add, nr_add, n_mul, nl_mul, nr_mul, n_sub, nr_dec, n_div, nr_sub_1, nr_sub_2, nr_sub_3, nr_sub_4, nr_sub_7, nr_sub_10, nr_sub_11, nr_sub_20, nr_sub_48, nr_sub_97, nl_sub_3, nl_sub_4, nl_sub_12, nl_sub_24, nl_sub_32, nr_div_2, nr_div_4, z_lt, z_le, z_eq, z_cl, n_ti, Int.toNat_natCast, Int32.reduceToInt, Int32.reduceToNatClampNeg, zc_add, zc_sub, zc_add_1, zc_add_2, zc_add_3, zc_add_4, zc_add_8, zc_add_10, zc_add_12, zc_add_16, zc_add_20, zc_sub_1, zc_sub_2, zc_sub_4, zc_sub_10, zc_sub_20, zc_sub_48, zc_sub_97, zc_mul_4, t_ltZ, f_ltZ, t_leZ, f_leZ, t_eqZ, f_eqZ, t_ltN, f_ltN, t_leN, f_leN, t_eqN, f_eqN, ↓reduceIte, and_true, true_and, and_false, false_and, and_self, or_true, true_or, or_false, false_or, or_self, not_true_eq_false, not_false_eq_true, tu_same, tu_eq, tu_ne, b_V, b_I, b_J]
        · refine TrB.tr (B := B3) ?_ (fun a y c d => by simp (disch := omega) only [tu_same, tu_eq, tu_ne])
          show TrB B3 (12 * b + j) (if j = k then D' else N.2 j)
          by_cases ej : j = k
          · rw [if_pos ej, ej]; exact w3.mo p3
          · rw [if_neg ej]; exact (hT j (by omega)).fr (hD j (by omega)) (by omega) f3
        · show TDok (if j = k then D' else N.2 j)
          by_cases ej : j = k
          · rw [if_pos ej]; exact w4
          · rw [if_neg ej]; exact hD j (by omega)
        · show J3 134 (12 * b + j) = lN (en256 (if j = k then q.1.1 else N.1 j)) ∧ (if j = k then q.1.1 else N.1 j).length ≤ 8 ∧ okL (if j = k then q.1.1 else N.1 j)
          by_cases ej : j = k
          · rw [if_pos ej, ej]
            exact ⟨(p3.2 134 _ (by omega)).trans ((v3 134 _ (by omega)).trans u5), u6, u7⟩
          · rw [if_neg ej]
            rw [g3 134 (12 * b + j) (by omega) (by omega)]
            exact hNm j (by omega)
      · have e : b2 (decide (tK t' = 34)) = 0 := by simp [c, b2]
        rw [e] at hi'
        rw [if_neg c] at w1
        have wr := m_mustN (τ := τ) w2
        have bad := BadB.of w2 2 (by omega) (by omega)
        refine ⟨tm_u (tm_u (tm_u B2 131 4 (nI (flt t' 2).1)) 131 5 (nI (flt t' 2).2)) 135 b (nI (k + 1)), J2, ?_, ((f2.b _ _).K hk).u _, g2.K hk, Or.inl ⟨flt t' 2, Or.inr ⟨q, rfl, w1⟩, bad.u _ _ _ (by omega)⟩⟩
        rw [pre, e_72_318]
        simp (disch := first | omega | (simp (disch := omega) only [n_ti, Int32.reduceToInt] <;> omega)) only [hi', e_72_325, wr, e_72_328, h22a, h135a, n_add, nl_add, nr_add, n_mul, nl_mul, nr_mul, n_sub, nr_dec, n_div, nr_sub_1, nr_sub_2, nr_sub_3, nr_sub_4, nr_sub_7, nr_sub_10, nr_sub_11, nr_sub_20, nr_sub_48, nr_sub_97, nl_sub_3, nl_sub_4, nl_sub_12, nl_sub_24, nl_sub_32, nr_div_2, nr_div_4, z_lt, z_le, z_eq, z_cl, n_ti, Int.toNat_natCast, Int32.reduceToInt, Int32.reduceToNatClampNeg, zc_add, zc_sub, zc_add_1, zc_add_2, zc_add_3, zc_add_4, zc_add_8, zc_add_10, zc_add_12, zc_add_16, zc_add_20, zc_sub_1, zc_sub_2, zc_sub_4, zc_sub_10, zc_sub_20, zc_sub_48, zc_sub_97, zc_mul_4, t_ltZ, f_ltZ, t_leZ, f_leZ, t_eqZ, f_eqZ, t_ltN, f_ltN, t_leN, f_leN, t_eqN, f_eqN, ↓reduceIte, and_true, true_and, and_false, false_and, and_self, or_true, true_or, or_false, false_or, or_self, not_true_eq_false, not_false_eq_true, tu_same, tu_eq, tu_ne, b_V, b_I, b_J]
