/-! routine: the lines (class), and routine (class), whole -/
theorem pAct_ok {s : Nat → Int} {n kk : Nat} {nm : Nat → List Nat} {t : TK} (hk : kk ≤ 12) : ∀ q, pAct s n nm kk t = .inr q → ((q.1.1 = 16 ∨ q.1.1 = 17 ∨ q.1.1 = 20) ∧ q.1.2.1 ≤ 1 ∧ q.1.2.2 = 0) ∨ (q.1.1 = 18 ∧ q.1.2.1 < kk ∧ q.1.2.2 ≤ 1) := by
  intro q h
  unfold pAct at h
  by_cases c1 : tK t = 16 ∨ tK t = 17 ∨ tK t = 20
  · rw [if_pos c1] at h
    by_cases c2 : tK (nx s n t) = 21
    · rw [if_pos c2] at h; cases h; exact Or.inl ⟨c1, by show 0 ≤ 1; omega, rfl⟩
    · rw [if_neg c2] at h
      by_cases c3 : tK (nx s n t) = 22
      · rw [if_pos c3] at h; cases h; exact Or.inl ⟨c1, by show 1 ≤ 1; omega, rfl⟩
      · rw [if_neg c3] at h; cases h
  · rw [if_neg c1] at h
    by_cases c2 : tK t = 18
    · rw [if_pos c2] at h
      by_cases c3 : tK (nx s n t) = 30
      · rw [if_pos c3] at h
        rcases fnd_c nm (tL (nx s n t)) kk 0 (by omega) with ⟨-, e2⟩ | ⟨i, u1, u2, u3, -⟩
        · rw [if_pos e2] at h; cases h
        · have ti : (nI i).toInt = i := n_ti (by omega)
          have tn : (fnd nm (tL (nx s n t)) kk 0).toInt.toNat < kk := by rw [u3, ti]; omega
          have ne : ¬ (fnd nm (tL (nx s n t)) kk 0).toInt = -1 := by rw [u3, ti]; omega
          rw [if_neg ne] at h
          by_cases c4 : tK (nx s n (nx s n t)) = 19
          · rw [if_pos c4] at h; cases h; exact Or.inr ⟨rfl, tn, by show 1 ≤ 1; omega⟩
          · rw [if_neg c4] at h; cases h; exact Or.inr ⟨rfl, tn, by show 0 ≤ 1; omega⟩
      · rw [if_neg c3] at h; cases h
    · rw [if_neg c2] at h; cases h
/-- a line as it may stand -/
def LOk (kk N : Nat) (L : LD) : Prop := L.1 < N ∧ L.2.1 ≤ 5 ∧ (((L.2.2.1 = 16 ∨ L.2.2.1 = 17 ∨ L.2.2.1 = 20) ∧ L.2.2.2.1 ≤ 1 ∧ L.2.2.2.2 = 0) ∨ (L.2.2.1 = 18 ∧ L.2.2.2.1 < kk ∧ L.2.2.2.2 ≤ 1))
theorem pLine_ok {s : Nat → Int} {n kk N lo : Nat} {nm : Nat → List Nat} {t : TK} (hk : kk ≤ 12) (hN : 1 ≤ N) : ∀ q, pLine s n nm kk N lo t = .inr q → LOk kk N q.1 ∧ lo ≤ q.1.1 := by
  intro q h
  unfold pLine at h
  cases hn : nf (nx s n t) lo (N - 1) with
  | some f => rw [hn] at h; cases h
  | none =>
    rw [hn] at h
    obtain ⟨-, q2, q3⟩ := nf_none hn
    simp only [] at h
    cases hn2 : nf (nx s n (nx s n t)) 0 5 with
    | some f => rw [hn2] at h; cases h
    | none =>
      rw [hn2] at h
      obtain ⟨-, r2, r3⟩ := nf_none hn2
      simp only [] at h
      cases hp : pAct s n nm kk (nx s n (nx s n (nx s n t))) with
      | inl f => rw [hp] at h; cases h
      | inr z =>
        rw [hp] at h
        have g := pAct_ok hk z hp
        simp only [] at h
        by_cases c : tK z.2 = 34
        · rw [if_pos c] at h
          cases h
          exact ⟨⟨by show tV (nx s n t) < N; omega, r3, g⟩, q2⟩
        · rw [if_neg c] at h; cases h
def LsOk (kk N k : Nat) (L : Nat → LD) : Prop := (∀ j, j < k → LOk kk N (L j)) ∧ ∀ j, j + 1 < k → (L j).1 ≤ (L (j + 1)).1
theorem LsOk.add {kk N k lo : Nat} {L : Nat → LD} {q : LD} (h : LsOk kk N k L) (hl : k = 0 ∨ (1 ≤ k ∧ (L (k - 1)).1 = lo)) (hq : LOk kk N q) (hlo : lo ≤ q.1) : LsOk kk N (k + 1) (updN L k q) := by
  refine ⟨fun j hj => ?_, fun j hj => ?_⟩
  · unfold updN
    by_cases e : j = k
    · rw [if_pos e]; exact hq
    · rw [if_neg e]; exact h.1 j (by omega)
  · unfold updN
    by_cases e : j + 1 = k
    · rw [if_neg (show ¬ j = k by omega), if_pos e]
      have : k - 1 = j := by omega
      rcases hl with e2 | ⟨-, e2⟩
      · omega
      · rw [this] at e2
        omega
    · rw [if_neg (show ¬ j = k by omega), if_neg e]
      exact h.2 j (by omega)
theorem pLines_ok {s : Nat → Int} {n kk N : Nat} {nm : Nat → List Nat} (hk : kk ≤ 12) (hN : 1 ≤ N) : ∀ f k lo (L : Nat → LD) (t : TK), LsOk kk N k L → (k = 0 ∨ (1 ≤ k ∧ (L (k - 1)).1 = lo)) → ∀ q, pLines s n nm kk N f k lo L t = .inr q → LsOk kk N q.1 q.2 ∧ q.1 ≤ k + f := by
  intro f
  induction f with
  | zero =>
    intro k lo L t h hl q hq
    unfold pLines at hq
    by_cases c : tK t = 35
    · rw [if_pos c] at hq; cases hq; exact ⟨h, Nat.le_refl _⟩
    · rw [if_neg c] at hq; cases hq
  | succ f ih =>
    intro k lo L t h hl q hq
    unfold pLines at hq
    by_cases c0 : tK t = 15
    · rw [if_pos c0] at hq
      cases hp : pLine s n nm kk N lo t with
      | inl e => rw [hp] at hq; cases hq
      | inr z =>
        rw [hp] at hq
        have g := pLine_ok hk hN z hp
        obtain ⟨w1, w2⟩ := ih (k + 1) z.1.1 (updN L k z.1) z.2 (h.add hl g.1 g.2) (Or.inr ⟨by omega, by unfold updN; rw [if_pos (by omega)]⟩) q hq
        exact ⟨w1, by omega⟩
    · rw [if_neg c0] at hq
      by_cases c : tK t = 35
      · rw [if_pos c] at hq; cases hq; exact ⟨h, by show k ≤ _; omega⟩
      · rw [if_neg c] at hq; cases hq
def PoR (A A' : Nat → Nat → Int32) (J J' : Nat → Nat → Int64) (a N : Nat) (r : Sum (Nat × Nat) (Nat × (Nat → LD))) (res : Int32) : Prop := (∀ x y, x ≠ 4 → ¬ (a ≤ x ∧ x ≤ a + 5) → A' x y = A x y) ∧ (∀ x y, ¬ (x = 4 ∧ y = 9) → J' x y = J x y) ∧ (match r with
    | .inl f => res = 0 ∧ A' 4 4 = nI f.1 ∧ A' 4 5 = nI f.2
    | .inr q => res = 1 ∧ A' a 6 = nI q.1 ∧ A' a 5 = nI N ∧ (∀ j, j < q.1 → LnA A' a j (q.2 j)) ∧ A' 4 4 = A 4 4 ∧ A' 4 5 = A 4 5)
set_option maxHeartbeats 2000000 in
theorem c_78l {τ : tm_Tu} (hτ : τ.2.2.2.2 = 3) {s : Nat → Int} {n a cb m N : Nat} {nm : Nat → List Nat} (ha : isR a) (hNb : 1 ≤ N ∧ N ≤ 200) (hb : isB cb) (hm : m ≤ 12) : ∀ f k lo (A : Nat → Nat → Int32) (J : Nat → Nat → Int64) (t : TK) (L : Nat → LD), k + f = 60 → lo < 200 → ClS s n A J t → A a 6 = nI k → A a 5 = nI N → ((k = 0 ∧ lo = 0) ∨ (1 ≤ k ∧ A (a + 1) (k - 1) = nI lo)) → (∀ j, j < k → LnA A a j (L j)) → A cb 1 = nI m → NmA J cb m nm → ∃ A' J' r, R_78 50 [(0, .ref a), (1, .ref 4), (2, .ref cb)] [] (mk A J τ) = some (some (.int r), mk A' J' τ) ∧ PoR A A' J J' a N (pLines s n nm m N f k lo L t) r := by
  have ha' : 119 ≤ a := by unfold isR at ha; omega
  have hb' : cb ≤ 81 := by unfold isB at hb; omega
  have hb43 : 43 ≤ cb := by unfold isB at hb; omega
  obtain ⟨k1, k2, k3, k4, k5, k6⟩ := ro_1 ha τ
  have fin : ∀ k (A : Nat → Nat → Int32) (J : Nat → Nat → Int64) (t : TK) (L : Nat → LD), k ≤ 60 → (tK t ≠ 15 ∨ k = 60) → ClS s n A J t → A a 6 = nI k → A a 5 = nI N → (∀ j, j < k → LnA A a j (L j)) → ∃ A' J' r, R_78 50 [(0, .ref a), (1, .ref 4), (2, .ref cb)] [] (mk A J τ) = some (some (.int r), mk A' J' τ) ∧ PoR A A' J J' a N (if tK t = 35 then .inr (k, L) else .inl (flt t 2)) r := by
    intro k A J t L hk h0 h h6 h5 hL
    have kk := h.2.1.2.1
    have hK := h.2.2.2.2.2.2.1
    have st : R_78 50 [(0, .ref a), (1, .ref 4), (2, .ref cb)] [] (mk A J τ) = R_78 92 [(1, .ref 4)] [] (mk A J τ) := by
      rw [e_78_50]
      by_cases d : k = 60
      · subst d
        simp (disch := first | omega | (simp (disch := omega) only [n_ti, Int32.reduceToInt] <;> omega)) only [k1, h6, n_add, nl_add, nr_add, n_mul, nl_mul, nr_mul, n_sub, nr_dec, n_div, nr_sub_1, nr_sub_2, nr_sub_3, nr_sub_4, nr_sub_7, nr_sub_10, nr_sub_11, nr_sub_20, nr_sub_48, nr_sub_97, nl_sub_3, nl_sub_4, nl_sub_12, nl_sub_24, nl_sub_32, nr_div_2, nr_div_4, z_lt, z_le, z_eq, z_cl, n_ti, Int.toNat_natCast, Int32.reduceToInt, Int32.reduceToNatClampNeg, zc_add, zc_sub, zc_add_1, zc_add_2, zc_add_3, zc_add_4, zc_add_8, zc_add_10, zc_add_12, zc_add_16, zc_add_20, zc_sub_1, zc_sub_2, zc_sub_4, zc_sub_10, zc_sub_20, zc_sub_48, zc_sub_97, zc_mul_4, t_ltZ, f_ltZ, t_leZ, f_leZ, t_eqZ, f_eqZ, t_ltN, f_ltN, t_leN, f_leN, t_eqN, f_eqN, ↓reduceIte, and_true, true_and, and_false, false_and, and_self, or_true, true_or, or_false, false_or, or_self, not_true_eq_false, not_false_eq_true, tu_same, tu_eq, tu_ne, b_V, b_I, b_J]
      · have : ¬ tK t = 15 := by omega
        simp (disch := first | omega | (simp (disch := omega) only [n_ti, Int32.reduceToInt] <;> omega)) only [k1, h6, kk, n_add, nl_add, nr_add, n_mul, nl_mul, nr_mul, n_sub, nr_dec, n_div, nr_sub_1, nr_sub_2, nr_sub_3, nr_sub_4, nr_sub_7, nr_sub_10, nr_sub_11, nr_sub_20, nr_sub_48, nr_sub_97, nl_sub_3, nl_sub_4, nl_sub_12, nl_sub_24, nl_sub_32, nr_div_2, nr_div_4, z_lt, z_le, z_eq, z_cl, n_ti, Int.toNat_natCast, Int32.reduceToInt, Int32.reduceToNatClampNeg, zc_add, zc_sub, zc_add_1, zc_add_2, zc_add_3, zc_add_4, zc_add_8, zc_add_10, zc_add_12, zc_add_16, zc_add_20, zc_sub_1, zc_sub_2, zc_sub_4, zc_sub_10, zc_sub_20, zc_sub_48, zc_sub_97, zc_mul_4, t_ltZ, f_ltZ, t_leZ, f_leZ, t_eqZ, f_eqZ, t_ltN, f_ltN, t_leN, f_leN, t_eqN, f_eqN, ↓reduceIte, and_true, true_and, and_false, false_and, and_self, or_true, true_or, or_false, false_or, or_self, not_true_eq_false, not_false_eq_true, tu_same, tu_eq, tu_ne, b_V, b_I, b_J]
    rw [st, e_78_92]
    by_cases c : tK t = 35
    · rw [if_pos c]
      refine ⟨A, J, 1, ?_, fun _ _ _ _ => rfl, fun _ _ _ => rfl, rfl, h6, h5, hL, rfl, rfl⟩
      simp (disch := first | omega | (simp (disch := omega) only [n_ti, Int32.reduceToInt] <;> omega)) only [kk, c, e_78_109, e_78_114, n_add, nl_add, nr_add, n_mul, nl_mul, nr_mul, n_sub, nr_dec, n_div, nr_sub_1, nr_sub_2, nr_sub_3, nr_sub_4, nr_sub_7, nr_sub_10, nr_sub_11, nr_sub_20, nr_sub_48, nr_sub_97, nl_sub_3, nl_sub_4, nl_sub_12, nl_sub_24, nl_sub_32, nr_div_2, nr_div_4, z_lt, z_le, z_eq, z_cl, n_ti, Int.toNat_natCast, Int32.reduceToInt, Int32.reduceToNatClampNeg, zc_add, zc_sub, zc_add_1, zc_add_2, zc_add_3, zc_add_4, zc_add_8, zc_add_10, zc_add_12, zc_add_16, zc_add_20, zc_sub_1, zc_sub_2, zc_sub_4, zc_sub_10, zc_sub_20, zc_sub_48, zc_sub_97, zc_mul_4, t_ltZ, f_ltZ, t_leZ, f_leZ, t_eqZ, f_eqZ, t_ltN, f_ltN, t_leN, f_leN, t_eqN, f_eqN, ↓reduceIte, and_true, true_and, and_false, false_and, and_self, or_true, true_or, or_false, false_or, or_self, not_true_eq_false, not_false_eq_true, tu_same, tu_eq, tu_ne, b_V, b_I, b_J]
    · rw [if_neg c]
      have r2 : F_30 [.ref 4, .int 2] (mk A J τ) = _ := c_ref (τ := τ) h 2
      refine ⟨tm_u (tm_u A 4 4 (nI (flt t 2).1)) 4 5 (nI (flt t 2).2), J, 0, ?_, fun a y u v => by simp (disch := omega) only [tu_same, tu_eq, tu_ne], fun _ _ _ => rfl, rfl, by simp (disch := omega) only [tu_same, tu_eq, tu_ne], by simp (disch := omega) only [tu_same, tu_eq, tu_ne]⟩
      simp (disch := first | omega | (simp (disch := omega) only [n_ti, Int32.reduceToInt] <;> omega)) only [kk, r2, e_78_106, e_78_114, n_add, nl_add, nr_add, n_mul, nl_mul, nr_mul, n_sub, nr_dec, n_div, nr_sub_1, nr_sub_2, nr_sub_3, nr_sub_4, nr_sub_7, nr_sub_10, nr_sub_11, nr_sub_20, nr_sub_48, nr_sub_97, nl_sub_3, nl_sub_4, nl_sub_12, nl_sub_24, nl_sub_32, nr_div_2, nr_div_4, z_lt, z_le, z_eq, z_cl, n_ti, Int.toNat_natCast, Int32.reduceToInt, Int32.reduceToNatClampNeg, zc_add, zc_sub, zc_add_1, zc_add_2, zc_add_3, zc_add_4, zc_add_8, zc_add_10, zc_add_12, zc_add_16, zc_add_20, zc_sub_1, zc_sub_2, zc_sub_4, zc_sub_10, zc_sub_20, zc_sub_48, zc_sub_97, zc_mul_4, t_ltZ, f_ltZ, t_leZ, f_leZ, t_eqZ, f_eqZ, t_ltN, f_ltN, t_leN, f_leN, t_eqN, f_eqN, ↓reduceIte, and_true, true_and, and_false, false_and, and_self, or_true, true_or, or_false, false_or, or_self, not_true_eq_false, not_false_eq_true, tu_same, tu_eq, tu_ne, b_V, b_I, b_J]
  intro f
  induction f with
  | zero =>
    intro k lo A J t L hk hlo h h6 h5 hl hL hb1 hN
    exact fin k A J t L (by omega) (Or.inr (by omega)) h h6 h5 hL
  | succ f ih =>
    intro k lo A J t L hk hlo h h6 h5 hl hL hb1 hN
    by_cases c0 : tK t = 15
    · unfold pLines
      rw [if_pos c0]
      have kk := h.2.1.2.1
      obtain ⟨A1, J1, r1, g1, g2⟩ := c_77 hτ h c0 ha (show k < 60 by omega) h6 hNb h5 hlo hl hb hm hb1 hN
      cases hp : pLine s n nm m N lo t with
      | inl e =>
        rw [hp] at g2
        obtain ⟨y1, y2, rfl, y3, y4⟩ := g2
        refine ⟨A1, J1, 0, ?_, fun a y u v => y1 a y u (by omega), y2, rfl, y3, y4⟩
        rw [e_78_50]
        simp (disch := first | omega | (simp (disch := omega) only [n_ti, Int32.reduceToInt] <;> omega)) only [k1, h6, kk, c0, g1, e_78_74, n_add, nl_add, nr_add, n_mul, nl_mul, nr_mul, n_sub, nr_dec, n_div, nr_sub_1, nr_sub_2, nr_sub_3, nr_sub_4, nr_sub_7, nr_sub_10, nr_sub_11, nr_sub_20, nr_sub_48, nr_sub_97, nl_sub_3, nl_sub_4, nl_sub_12, nl_sub_24, nl_sub_32, nr_div_2, nr_div_4, z_lt, z_le, z_eq, z_cl, n_ti, Int.toNat_natCast, Int32.reduceToInt, Int32.reduceToNatClampNeg, zc_add, zc_sub, zc_add_1, zc_add_2, zc_add_3, zc_add_4, zc_add_8, zc_add_10, zc_add_12, zc_add_16, zc_add_20, zc_sub_1, zc_sub_2, zc_sub_4, zc_sub_10, zc_sub_20, zc_sub_48, zc_sub_97, zc_mul_4, t_ltZ, f_ltZ, t_leZ, f_leZ, t_eqZ, f_eqZ, t_ltN, f_ltN, t_leN, f_leN, t_eqN, f_eqN, ↓reduceIte, and_true, true_and, and_false, false_and, and_self, or_true, true_or, or_false, false_or, or_self, not_true_eq_false, not_false_eq_true, tu_same, tu_eq, tu_ne, b_V, b_I, b_J]
      | inr q =>
        have ok := pLine_ok hm hNb.1 q hp
        rw [hp] at g2
        obtain ⟨y1, y2, rfl, S1, y3, y4, y5⟩ := g2
        have h61 : A1 a 6 = nI k := (y1 a 6 (by omega) (by omega)).trans h6
        have h51 : A1 a 5 = nI N := (y1 a 5 (by omega) (by omega)).trans h5
        obtain ⟨A3, J3, r3, v1, v2⟩ := ih (k + 1) q.1.1 (tm_u A1 a 6 (nI (k + 1))) J1 q.2 (updN L k q.1) (by omega) (by have := ok.1.1; omega) (S1.tr (fun a y u => by simp (disch := omega) only [tu_same, tu_eq, tu_ne]) (fun _ _ _ => rfl)) (by simp (disch := omega) only [tu_same, tu_eq, tu_ne]) (by simp (disch := omega) only [h51, tu_same, tu_eq, tu_ne]) (Or.inr ⟨by omega, by simp (disch := omega) only [tu_same, tu_eq, tu_ne]; exact y3.1⟩) (fun j hj => by
            unfold updN
            by_cases e : j = k
            · rw [if_pos e, e]
              exact ⟨by simp (disch := omega) only [tu_same, tu_eq, tu_ne]; exact y3.1, by simp (disch := omega) only [tu_same, tu_eq, tu_ne]; exact y3.2.1, by simp (disch := omega) only [tu_same, tu_eq, tu_ne]; exact y3.2.2.1, by simp (disch := omega) only [tu_same, tu_eq, tu_ne]; exact y3.2.2.2.1, by simp (disch := omega) only [tu_same, tu_eq, tu_ne]; exact y3.2.2.2.2⟩
            · rw [if_neg e]
              obtain ⟨w1, w2, w3, w4, w5⟩ := hL j (by omega)
              exact ⟨by simp (disch := omega) only [tu_same, tu_eq, tu_ne]; exact (y1 _ _ (by omega) (by omega)).trans w1, by simp (disch := omega) only [tu_same, tu_eq, tu_ne]; exact (y1 _ _ (by omega) (by omega)).trans w2, by simp (disch := omega) only [tu_same, tu_eq, tu_ne]; exact (y1 _ _ (by omega) (by omega)).trans w3, by simp (disch := omega) only [tu_same, tu_eq, tu_ne]; exact (y1 _ _ (by omega) (by omega)).trans w4, by simp (disch := omega) only [tu_same, tu_eq, tu_ne]; exact (y1 _ _ (by omega) (by omega)).trans w5⟩) (by simp (disch := omega) only [tu_same, tu_eq, tu_ne]; exact (y1 cb 1 (by omega) (by omega)).trans hb1) (fun i hi => by rw [y2 _ _ (by omega)]; exact hN i hi)
        refine ⟨A3, J3, r3, ?_, ?_⟩
        · rw [← v1, e_78_50]
          simp (disch := first | omega | (simp (disch := omega) only [n_ti, Int32.reduceToInt] <;> omega)) only [k1, h6, kk, c0, g1, e_78_74, h61, n_add, nl_add, nr_add, n_mul, nl_mul, nr_mul, n_sub, nr_dec, n_div, nr_sub_1, nr_sub_2, nr_sub_3, nr_sub_4, nr_sub_7, nr_sub_10, nr_sub_11, nr_sub_20, nr_sub_48, nr_sub_97, nl_sub_3, nl_sub_4, nl_sub_12, nl_sub_24, nl_sub_32, nr_div_2, nr_div_4, z_lt, z_le, z_eq, z_cl, n_ti, Int.toNat_natCast, Int32.reduceToInt, Int32.reduceToNatClampNeg, zc_add, zc_sub, zc_add_1, zc_add_2, zc_add_3, zc_add_4, zc_add_8, zc_add_10, zc_add_12, zc_add_16, zc_add_20, zc_sub_1, zc_sub_2, zc_sub_4, zc_sub_10, zc_sub_20, zc_sub_48, zc_sub_97, zc_mul_4, t_ltZ, f_ltZ, t_leZ, f_leZ, t_eqZ, f_eqZ, t_ltN, f_ltN, t_leN, f_leN, t_eqN, f_eqN, ↓reduceIte, and_true, true_and, and_false, false_and, and_self, or_true, true_or, or_false, false_or, or_self, not_true_eq_false, not_false_eq_true, tu_same, tu_eq, tu_ne, b_V, b_I, b_J]
        · obtain ⟨w1, w2, w3⟩ := v2
          refine ⟨fun x y u v => ?_, fun x y u => (w2 x y u).trans (y2 x y u), ?_⟩
          · rw [w1 x y u v]
            simp (disch := omega) only [tu_same, tu_eq, tu_ne]
            exact y1 x y u (by omega)
          · show match pLines s n nm m N f (k + 1) q.1.1 (updN L k q.1) q.2 with
              | .inl f => r3 = 0 ∧ A3 4 4 = nI f.1 ∧ A3 4 5 = nI f.2
              | .inr q => r3 = 1 ∧ A3 a 6 = nI q.1 ∧ A3 a 5 = nI N ∧ (∀ j, j < q.1 → LnA A3 a j (q.2 j)) ∧ A3 4 4 = A 4 4 ∧ A3 4 5 = A 4 5
            cases hr : pLines s n nm m N f (k + 1) q.1.1 (updN L k q.1) q.2 with
            | inl e => rw [hr] at w3; exact w3
            | inr e =>
              rw [hr] at w3
              obtain ⟨u1, u2, u3, u4, u5, u6⟩ := w3
              refine ⟨u1, u2, u3, u4, u5.trans ?_, u6.trans ?_⟩
              · simp (disch := omega) only [tu_same, tu_eq, tu_ne]
                exact y4
              · simp (disch := omega) only [tu_same, tu_eq, tu_ne]
                exact y5
    · have e : pLines s n nm m N (f + 1) k lo L t = (if tK t = 35 then .inr (k, L) else .inl (flt t 2)) := by
        unfold pLines
        rw [if_neg c0]
      rw [e]
      exact fin k A J t L (by omega) (Or.inl c0) h h6 h5 hL
def PoS (A A' : Nat → Nat → Int32) (J J' : Nat → Nat → Int64) (a : Nat) (r : Sum (Nat × Nat) (Nat × Nat × (Nat → LD))) (res : Int32) : Prop := (∀ x y, x ≠ 4 → ¬ (a ≤ x ∧ x ≤ a + 5) → A' x y = A x y) ∧ (∀ x y, ¬ (x = 4 ∧ y = 9) → J' x y = J x y) ∧ (match r with
    | .inl f => res = 0 ∧ A' 4 4 = nI f.1 ∧ A' 4 5 = nI f.2
    | .inr q => res = 1 ∧ A' a 6 = nI q.2.1 ∧ A' a 5 = nI q.1 ∧ (∀ j, j < q.2.1 → LnA A' a j (q.2.2 j)) ∧ A' 4 4 = A 4 4 ∧ A' 4 5 = A 4 5)
theorem PoS.f {A A1 : Nat → Nat → Int32} {J J1 : Nat → Nat → Int64} {a : Nat} {f : Nat × Nat} (h : ∀ x y, x ≠ 4 → ¬ (a ≤ x ∧ x ≤ a + 5) → A1 x y = A x y) (g : ∀ x y, ¬ (x = 4 ∧ y = 9) → J1 x y = J x y) : PoS A (tm_u (tm_u A1 4 4 (nI f.1)) 4 5 (nI f.2)) J J1 a (.inl f) 0 := ⟨fun x y u v => by simp (disch := omega) only [tu_same, tu_eq, tu_ne]; exact h x y u v, g, rfl, by simp (disch := omega) only [tu_same, tu_eq, tu_ne], by simp (disch := omega) only [tu_same, tu_eq, tu_ne]⟩
set_option maxHeartbeats 2000000 in
theorem c_78 {τ : tm_Tu} (hτ : τ.2.2.2.2 = 3) {s : Nat → Int} {n a cb m : Nat} {nm : Nat → List Nat} {A : Nat → Nat → Int32} {J : Nat → Nat → Int64} {t : TK} (L0 : Nat → LD) (h : ClS s n A J t) (ha : isR a) (hb : isB cb) (hm : m ≤ 12) (hb1 : A cb 1 = nI m) (hN : NmA J cb m nm) : ∃ A' J' r, F_78 [.ref a, .ref 4, .ref cb] (mk A J τ) = some (some (.int r), mk A' J' τ) ∧ PoS A A' J J' a (pRout s n nm m L0 t) r := by
  have ha' : 119 ≤ a := by unfold isR at ha; omega
  have hb' : cb ≤ 81 := by unfold isB at hb; omega
  have hb43 : 43 ≤ cb := by unfold isB at hb; omega
  obtain ⟨k1, k2, k3, k4, k5, k6⟩ := ro_1 ha τ
  unfold pRout
  have h0 : ClS s n (tm_u A a 6 0) J t := h.tr (fun x y u => by simp (disch := omega) only [tu_same, tu_eq, tu_ne]) (fun _ _ _ => rfl)
  rcases c_pass (w := 14) hτ h0 (by omega) with ⟨ck, A1, J1, g1, g2, g3⟩ | ⟨ck, g1⟩
  case inr =>
    rw [if_neg ck]
    have g1' : F_31 [.ref 4, .int 14] (mk (tm_u A a 6 0) J τ) = some (some (.int 0), mk (tm_u (tm_u (tm_u A a 6 0) 4 4 (nI (flt t 2).1)) 4 5 (nI (flt t 2).2)) J τ) := g1
    refine ⟨_, J, 0, ?_, PoS.f (A1 := tm_u A a 6 0) (f := flt t 2) (fun x y u v => by simp (disch := omega) only [tu_same, tu_eq, tu_ne]) (fun _ _ _ => rfl)⟩
    rw [e_78]
    simp (disch := first | omega | (simp (disch := omega) only [n_ti, Int32.reduceToInt] <;> omega)) only [k1, g1', e_78_11, e_78_25, n_add, nl_add, nr_add, n_mul, nl_mul, nr_mul, n_sub, nr_dec, n_div, nr_sub_1, nr_sub_2, nr_sub_3, nr_sub_4, nr_sub_7, nr_sub_10, nr_sub_11, nr_sub_20, nr_sub_48, nr_sub_97, nl_sub_3, nl_sub_4, nl_sub_12, nl_sub_24, nl_sub_32, nr_div_2, nr_div_4, z_lt, z_le, z_eq, z_cl, n_ti, Int.toNat_natCast, Int32.reduceToInt, Int32.reduceToNatClampNeg, zc_add, zc_sub, zc_add_1, zc_add_2, zc_add_3, zc_add_4, zc_add_8, zc_add_10, zc_add_12, zc_add_16, zc_add_20, zc_sub_1, zc_sub_2, zc_sub_4, zc_sub_10, zc_sub_20, zc_sub_48, zc_sub_97, zc_mul_4, t_ltZ, f_ltZ, t_leZ, f_leZ, t_eqZ, f_eqZ, t_ltN, f_ltN, t_leN, f_leN, t_eqN, f_eqN, ↓reduceIte, and_true, true_and, and_false, false_and, and_self, or_true, true_or, or_false, false_or, or_self, not_true_eq_false, not_false_eq_true, tu_same, tu_eq, tu_ne, b_V, b_I, b_J]
  rw [if_pos ck]
  have g1' : F_31 [.ref 4, .int 14] (mk (tm_u A a 6 0) J τ) = some (some (.int 1), mk A1 J1 τ) := g1
  have num : F_36 [.ref 4, .int 1, .int 200] (mk A1 J1 τ) = _ := c_num (τ := τ) (lo := 1) (hi := 200) g2 (by omega) (by omega)
  have F1 : ∀ x y, ¬ (x = 4 ∧ y ≠ 4 ∧ y ≠ 5) → ¬ (x = a ∧ y = 6) → A1 x y = A x y := fun x y u v => by
    rw [g3.1 x y (by omega)]
    simp (disch := omega) only [tu_same, tu_eq, tu_ne]
  cases hn : nf (nx s n t) 1 200 with
  | some f =>
    rw [hn] at num
    refine ⟨_, J1, 0, ?_, PoS.f (A1 := A1) (f := f) (fun x y u v => F1 x y (by omega) (by omega)) g3.2⟩
    rw [e_78]
    simp (disch := first | omega | (simp (disch := omega) only [n_ti, Int32.reduceToInt] <;> omega)) only [k1, g1', e_78_11, num, e_78_22, e_78_25, n_add, nl_add, nr_add, n_mul, nl_mul, nr_mul, n_sub, nr_dec, n_div, nr_sub_1, nr_sub_2, nr_sub_3, nr_sub_4, nr_sub_7, nr_sub_10, nr_sub_11, nr_sub_20, nr_sub_48, nr_sub_97, nl_sub_3, nl_sub_4, nl_sub_12, nl_sub_24, nl_sub_32, nr_div_2, nr_div_4, z_lt, z_le, z_eq, z_cl, n_ti, Int.toNat_natCast, Int32.reduceToInt, Int32.reduceToNatClampNeg, zc_add, zc_sub, zc_add_1, zc_add_2, zc_add_3, zc_add_4, zc_add_8, zc_add_10, zc_add_12, zc_add_16, zc_add_20, zc_sub_1, zc_sub_2, zc_sub_4, zc_sub_10, zc_sub_20, zc_sub_48, zc_sub_97, zc_mul_4, t_ltZ, f_ltZ, t_leZ, f_leZ, t_eqZ, f_eqZ, t_ltN, f_ltN, t_leN, f_leN, t_eqN, f_eqN, ↓reduceIte, and_true, true_and, and_false, false_and, and_self, or_true, true_or, or_false, false_or, or_self, not_true_eq_false, not_false_eq_true, tu_same, tu_eq, tu_ne, b_V, b_I, b_J]
  | none =>
    rw [hn] at num
    obtain ⟨q1, q2, q3⟩ := nf_none hn
    have v8 := g2.2.1.2.2.2.1 (Or.inl q1)
    have hA : ClS s n (tm_u A1 a 5 (nI (tV (nx s n t)))) J1 (nx s n t) := g2.tr (fun x y u => by simp (disch := omega) only [tu_same, tu_eq, tu_ne]) (fun _ _ _ => rfl)
    obtain ⟨A2, J2, p1, p2, p3⟩ := c_adv hτ hA (by omega)
    have F2 : ∀ x y, ¬ (x = 4 ∧ y ≠ 4 ∧ y ≠ 5) → ¬ (x = a ∧ (y = 5 ∨ y = 6)) → A2 x y = A x y := fun x y u v => by
      rw [p3.1 x y (by omega)]
      simp (disch := omega) only [tu_same, tu_eq, tu_ne]
      exact F1 x y u (by omega)
    have G2 : ∀ x y, ¬ (x = 4 ∧ y = 9) → J2 x y = J x y := fun x y u => (p3.2 x y u).trans (g3.2 x y u)
    have pre : F_78 [.ref a, .ref 4, .ref cb] (mk A J τ) = R_78 39 [(0, .ref a), (1, .ref 4), (2, .ref cb)] [] (mk A2 J2 τ) := by
      rw [e_78]
      simp (disch := first | omega | (simp (disch := omega) only [n_ti, Int32.reduceToInt] <;> omega)) only [k1, g1', e_78_11, num, e_78_22, v8, p1, n_add, nl_add, nr_add, n_mul, nl_mul, nr_mul, n_sub, nr_dec, n_div, nr_sub_1, nr_sub_2, nr_sub_3, nr_sub_4, nr_sub_7, nr_sub_10, nr_sub_11, nr_sub_20, nr_sub_48, nr_sub_97, nl_sub_3, nl_sub_4, nl_sub_12, nl_sub_24, nl_sub_32, nr_div_2, nr_div_4, z_lt, z_le, z_eq, z_cl, n_ti, Int.toNat_natCast, Int32.reduceToInt, Int32.reduceToNatClampNeg, zc_add, zc_sub, zc_add_1, zc_add_2, zc_add_3, zc_add_4, zc_add_8, zc_add_10, zc_add_12, zc_add_16, zc_add_20, zc_sub_1, zc_sub_2, zc_sub_4, zc_sub_10, zc_sub_20, zc_sub_48, zc_sub_97, zc_mul_4, t_ltZ, f_ltZ, t_leZ, f_leZ, t_eqZ, f_eqZ, t_ltN, f_ltN, t_leN, f_leN, t_eqN, f_eqN, ↓reduceIte, and_true, true_and, and_false, false_and, and_self, or_true, true_or, or_false, false_or, or_self, not_true_eq_false, not_false_eq_true, tu_same, tu_eq, tu_ne, b_V, b_I, b_J]
    show ∃ A' J' r, _ ∧ PoS A A' J J' a (if tK (nx s n (nx s n t)) = 34 then _ else _) r
    rcases c_pass (w := 34) hτ p2 (by omega) with ⟨ck2, A3, J3, o1, o2, o3⟩ | ⟨ck2, o1⟩
    case inr =>
      rw [if_neg ck2]
      have o1' : F_31 [.ref 4, .int 34] (mk A2 J2 τ) = some (some (.int 0), mk (tm_u (tm_u A2 4 4 (nI (flt (nx s n (nx s n t)) 2).1)) 4 5 (nI (flt (nx s n (nx s n t)) 2).2)) J2 τ) := o1
      refine ⟨_, J2, 0, ?_, PoS.f (A1 := A2) (f := flt (nx s n (nx s n t)) 2) (fun x y u v => F2 x y (by omega) (by omega)) G2⟩
      rw [pre, e_78_39]
      simp (disch := first | omega | (simp (disch := omega) only [n_ti, Int32.reduceToInt] <;> omega)) only [o1', e_78_45, n_add, nl_add, nr_add, n_mul, nl_mul, nr_mul, n_sub, nr_dec, n_div, nr_sub_1, nr_sub_2, nr_sub_3, nr_sub_4, nr_sub_7, nr_sub_10, nr_sub_11, nr_sub_20, nr_sub_48, nr_sub_97, nl_sub_3, nl_sub_4, nl_sub_12, nl_sub_24, nl_sub_32, nr_div_2, nr_div_4, z_lt, z_le, z_eq, z_cl, n_ti, Int.toNat_natCast, Int32.reduceToInt, Int32.reduceToNatClampNeg, zc_add, zc_sub, zc_add_1, zc_add_2, zc_add_3, zc_add_4, zc_add_8, zc_add_10, zc_add_12, zc_add_16, zc_add_20, zc_sub_1, zc_sub_2, zc_sub_4, zc_sub_10, zc_sub_20, zc_sub_48, zc_sub_97, zc_mul_4, t_ltZ, f_ltZ, t_leZ, f_leZ, t_eqZ, f_eqZ, t_ltN, f_ltN, t_leN, f_leN, t_eqN, f_eqN, ↓reduceIte, and_true, true_and, and_false, false_and, and_self, or_true, true_or, or_false, false_or, or_self, not_true_eq_false, not_false_eq_true, tu_same, tu_eq, tu_ne, b_V, b_I, b_J]
    rw [if_pos ck2]
    have o1' : F_31 [.ref 4, .int 34] (mk A2 J2 τ) = some (some (.int 1), mk A3 J3 τ) := o1
    have G3 : ∀ x y, ¬ (x = 4 ∧ y = 9) → J3 x y = J x y := fun x y u => (o3.2 x y u).trans (G2 x y u)
    have h63 : A3 a 6 = nI 0 := by
      rw [o3.1 a 6 (by omega), p3.1 a 6 (by omega)]
      simp (disch := omega) only [tu_same, tu_eq, tu_ne]
      rw [g3.1 a 6 (by omega)]
      simp (disch := omega) only [tu_same, tu_eq, tu_ne]
      rfl
    have h53 : A3 a 5 = nI (tV (nx s n t)) := by
      rw [o3.1 a 5 (by omega), p3.1 a 5 (by omega)]
      simp (disch := omega) only [tu_same, tu_eq, tu_ne]
    obtain ⟨A4, J4, r, t1, t2⟩ := c_78l (nm := nm) (m := m) (N := tV (nx s n t)) hτ ha ⟨q2, q3⟩ hb hm 60 0 0 A3 J3 (nx s n (nx s n (nx s n t))) L0 (by omega) (by omega) o2 h63 h53 (Or.inl ⟨rfl, rfl⟩) (fun j hj => by omega) ((o3.1 cb 1 (by omega)).trans ((F2 cb 1 (by omega) (by omega)).trans hb1)) (fun i hi => by rw [G3 _ _ (by omega)]; exact hN i hi)
    obtain ⟨w1, w2, w3⟩ := t2
    refine ⟨A4, J4, r, ?_, fun x y u v => (w1 x y u v).trans ((o3.1 x y (by omega)).trans (F2 x y (by omega) (by omega))), fun x y u => (w2 x y u).trans (G3 x y u), ?_⟩
    · rw [pre, e_78_39]
      simp (disch := first | omega | (simp (disch := omega) only [n_ti, Int32.reduceToInt] <;> omega)) only [o1', e_78_45, t1, n_add, nl_add, nr_add, n_mul, nl_mul, nr_mul, n_sub, nr_dec, n_div, nr_sub_1, nr_sub_2, nr_sub_3, nr_sub_4, nr_sub_7, nr_sub_10, nr_sub_11, nr_sub_20, nr_sub_48, nr_sub_97, nl_sub_3, nl_sub_4, nl_sub_12, nl_sub_24, nl_sub_32, nr_div_2, nr_div_4, z_lt, z_le, z_eq, z_cl, n_ti, Int.toNat_natCast, Int32.reduceToInt, Int32.reduceToNatClampNeg, zc_add, zc_sub, zc_add_1, zc_add_2, zc_add_3, zc_add_4, zc_add_8, zc_add_10, zc_add_12, zc_add_16, zc_add_20, zc_sub_1, zc_sub_2, zc_sub_4, zc_sub_10, zc_sub_20, zc_sub_48, zc_sub_97, zc_mul_4, t_ltZ, f_ltZ, t_leZ, f_leZ, t_eqZ, f_eqZ, t_ltN, f_ltN, t_leN, f_leN, t_eqN, f_eqN, ↓reduceIte, and_true, true_and, and_false, false_and, and_self, or_true, true_or, or_false, false_or, or_self, not_true_eq_false, not_false_eq_true, tu_same, tu_eq, tu_ne, b_V, b_I, b_J]
    · show match (match pLines s n nm m (tV (nx s n t)) 60 0 0 L0 (nx s n (nx s n (nx s n t))) with
        | .inl e => Sum.inl e
        | .inr q => .inr (tV (nx s n t), q)) with
        | .inl f => r = 0 ∧ A4 4 4 = nI f.1 ∧ A4 4 5 = nI f.2
        | .inr q => r = 1 ∧ A4 a 6 = nI q.2.1 ∧ A4 a 5 = nI q.1 ∧ (∀ j, j < q.2.1 → LnA A4 a j (q.2.2 j)) ∧ A4 4 4 = A 4 4 ∧ A4 4 5 = A 4 5
      cases hr : pLines s n nm m (tV (nx s n t)) 60 0 0 L0 (nx s n (nx s n (nx s n t))) with
      | inl e => rw [hr] at w3; exact w3
      | inr e =>
        rw [hr] at w3
        obtain ⟨u1, u2, u3, u4, u5, u6⟩ := w3
        exact ⟨u1, u2, u3, u4, u5.trans ((o3.1 4 4 (by omega)).trans (F2 4 4 (by omega) (by omega))), u6.trans ((o3.1 4 5 (by omega)).trans (F2 4 5 (by omega) (by omega)))⟩
set_option maxHeartbeats 1000000 in
theorem c_79 {x b c d : Nat} {J : Nat → Nat → Int64} {n m : Nat} {nm : Nat → List Nat} {s : Nat → Int} {A : Nat → Nat → Int32} (hn : n ≤ 1400) (h2 : A 2 11 = nI n) (hs : ∀ i, i < n → (A 3 i).toInt = s i ∧ -128 ≤ s i ∧ s i ≤ 127) (hb : isB x) (hd : isR d) (hW : WLt J) (hm : m ≤ 12) (hb1 : A x 1 = nI m) (hN : NmA J x m nm) (L0 : Nat → LD) : ∃ A' J' τ' r, F_79 [.ref 2] (mk A J (x, b, c, d, 3)) = some (some (.int r), mk A' J' τ') ∧ A' 2 11 = 0 ∧ (∀ a y, ¬ (a = 4 ∧ y = 9) → J' a y = J a y) ∧ (match pRout s n nm m L0 (tok s n 0) with
    | .inl f => r = -1 ∧ τ' = (x, b, c, d, 3) ∧ A' 4 4 = nI f.1 ∧ A' 4 5 = nI f.2 ∧ (∀ a y, a ≠ 4 → ¬ (a = 2 ∧ y = 11) → ¬ (d ≤ a ∧ a ≤ d + 5) → A' a y = A a y)
    | .inr q => r = nI q.2.1 ∧ τ' = (x, b, d, c, 3) ∧ A' 4 4 = 0 ∧ A' 4 5 = -1 ∧ A' d 6 = nI q.2.1 ∧ A' d 5 = nI q.1 ∧ (∀ j, j < q.2.1 → LnA A' d j (q.2.2 j)) ∧ A' 2 10 = 1 ∧ A' 8 5 = 0 ∧ A' 8 6 = 0 ∧ (∀ a y, a ≠ 4 → ¬ (a = 2 ∧ (y = 10 ∨ y = 11)) → ¬ (a = 8 ∧ (y = 5 ∨ y = 6)) → ¬ (d ≤ a ∧ a ≤ d + 5) → A' a y = A a y)) := by
  have hd' : 119 ≤ d := by unfold isR at hd; omega
  have hb' : x ≤ 81 := by unfold isB at hb; omega
  have hb43 : 43 ≤ x := by unfold isB at hb; omega
  obtain ⟨k1, -⟩ := ro_1 hd (x, b, c, d, 3)
  obtain ⟨A2, e2⟩ : ∃ z, z = tm_u (tm_u (tm_u (tm_u (tm_u A 2 11 0) 4 2 (nI n)) 4 3 0) 4 4 0) 4 5 (-1) := ⟨_, rfl⟩
  have tx : TxA A2 s n := ⟨hn, by rw [e2]; simp (disch := omega) only [tu_same, tu_eq, tu_ne], fun i hi => by rw [e2]; simp (disch := omega) only [tu_same, tu_eq, tu_ne]; exact hs i hi⟩
  obtain ⟨A3, J3, p1, p2, p3, p4⟩ := s_28 (τ := (x, b, c, d, 3)) rfl (p := 0) tx (Nat.zero_le n) (by rw [e2]; simp (disch := omega) only [tu_same, tu_eq, tu_ne]; rfl) hW
  have hS : ClS s n A3 J3 (tok s n 0) := ⟨tx.tr (fun a k u => p3 a k (by omega)), p2, fun k hk => by rw [p4 6 k (by omega)]; exact hW k hk, (tok_ok (Nat.zero_le n)).1⟩
  obtain ⟨A4, J4, r, q1, q2, q3, q4⟩ := c_78 (τ := (x, b, c, d, 3)) rfl L0 hS hd hb hm (by rw [p3 x 1 (by omega), e2]; simp (disch := omega) only [hb1, tu_same, tu_eq, tu_ne]) (fun i hi => by rw [p4 _ _ (by omega)]; exact hN i hi)
  have hif : (if (1400 : Int32) < nI n then (1400 : Int32) else nI n) = nI n := by
    simp (disch := first | omega | (simp (disch := omega) only [n_ti, Int32.reduceToInt] <;> omega)) only [n_add, nl_add, nr_add, n_mul, nl_mul, nr_mul, n_sub, nr_dec, n_div, nr_sub_1, nr_sub_2, nr_sub_3, nr_sub_4, nr_sub_7, nr_sub_10, nr_sub_11, nr_sub_20, nr_sub_48, nr_sub_97, nl_sub_3, nl_sub_4, nl_sub_12, nl_sub_24, nl_sub_32, nr_div_2, nr_div_4, z_lt, z_le, z_eq, z_cl, n_ti, Int.toNat_natCast, Int32.reduceToInt, Int32.reduceToNatClampNeg, zc_add, zc_sub, zc_add_1, zc_add_2, zc_add_3, zc_add_4, zc_add_8, zc_add_10, zc_add_12, zc_add_16, zc_add_20, zc_sub_1, zc_sub_2, zc_sub_4, zc_sub_10, zc_sub_20, zc_sub_48, zc_sub_97, zc_mul_4, t_ltZ, f_ltZ, t_leZ, f_leZ, t_eqZ, f_eqZ, t_ltN, f_ltN, t_leN, f_leN, t_eqN, f_eqN, ↓reduceIte, and_true, true_and, and_false, false_and, and_self, or_true, true_or, or_false, false_or, or_self, not_true_eq_false, not_false_eq_true, tu_same, tu_eq, tu_ne, b_V, b_I, b_J]
  have s29 : F_29 [.ref 4, .ref 3, .int (nI n)] (mk (tm_u A 2 11 0) J (x, b, c, d, 3)) = some (none, mk A3 J3 (x, b, c, d, 3)) := by
    rw [e_29, sr_40, hif, ← e2]
    simp (disch := first | omega | (simp (disch := omega) only [n_ti, Int32.reduceToInt] <;> omega)) only [p1, e_29_34, n_add, nl_add, nr_add, n_mul, nl_mul, nr_mul, n_sub, nr_dec, n_div, nr_sub_1, nr_sub_2, nr_sub_3, nr_sub_4, nr_sub_7, nr_sub_10, nr_sub_11, nr_sub_20, nr_sub_48, nr_sub_97, nl_sub_3, nl_sub_4, nl_sub_12, nl_sub_24, nl_sub_32, nr_div_2, nr_div_4, z_lt, z_le, z_eq, z_cl, n_ti, Int.toNat_natCast, Int32.reduceToInt, Int32.reduceToNatClampNeg, zc_add, zc_sub, zc_add_1, zc_add_2, zc_add_3, zc_add_4, zc_add_8, zc_add_10, zc_add_12, zc_add_16, zc_add_20, zc_sub_1, zc_sub_2, zc_sub_4, zc_sub_10, zc_sub_20, zc_sub_48, zc_sub_97, zc_mul_4, t_ltZ, f_ltZ, t_leZ, f_leZ, t_eqZ, f_eqZ, t_ltN, f_ltN, t_leN, f_leN, t_eqN, f_eqN, ↓reduceIte, and_true, true_and, and_false, false_and, and_self, or_true, true_or, or_false, false_or, or_self, not_true_eq_false, not_false_eq_true, tu_same, tu_eq, tu_ne, b_V, b_I, b_J]
  have pre : F_79 [.ref 2] (mk A J (x, b, c, d, 3)) = R_79 30 [(0, .ref 2)] [.int r] (mk A4 J4 (x, b, c, d, 3)) := by
    rw [e_79, e_19, h2]
    simp (disch := first | omega | (simp (disch := omega) only [n_ti, Int32.reduceToInt] <;> omega)) only [e_79_12, s29, e_79_15, k1, q1, n_add, nl_add, nr_add, n_mul, nl_mul, nr_mul, n_sub, nr_dec, n_div, nr_sub_1, nr_sub_2, nr_sub_3, nr_sub_4, nr_sub_7, nr_sub_10, nr_sub_11, nr_sub_20, nr_sub_48, nr_sub_97, nl_sub_3, nl_sub_4, nl_sub_12, nl_sub_24, nl_sub_32, nr_div_2, nr_div_4, z_lt, z_le, z_eq, z_cl, n_ti, Int.toNat_natCast, Int32.reduceToInt, Int32.reduceToNatClampNeg, zc_add, zc_sub, zc_add_1, zc_add_2, zc_add_3, zc_add_4, zc_add_8, zc_add_10, zc_add_12, zc_add_16, zc_add_20, zc_sub_1, zc_sub_2, zc_sub_4, zc_sub_10, zc_sub_20, zc_sub_48, zc_sub_97, zc_mul_4, t_ltZ, f_ltZ, t_leZ, f_leZ, t_eqZ, f_eqZ, t_ltN, f_ltN, t_leN, f_leN, t_eqN, f_eqN, ↓reduceIte, and_true, true_and, and_false, false_and, and_self, or_true, true_or, or_false, false_or, or_self, not_true_eq_false, not_false_eq_true, tu_same, tu_eq, tu_ne, b_V, b_I, b_J]
  have F4 : ∀ a y, a ≠ 4 → ¬ (a = 2 ∧ y = 11) → ¬ (d ≤ a ∧ a ≤ d + 5) → A4 a y = A a y := fun a y u v w => by
    rw [q2 a y u w, p3 a y (by omega), e2]
    simp (disch := omega) only [tu_same, tu_eq, tu_ne]
  have h11 : A4 2 11 = 0 := by
    rw [q2 2 11 (by omega) (by omega), p3 2 11 (by omega), e2]
    simp (disch := omega) only [tu_same, tu_eq, tu_ne]
  have G4 : ∀ a y, ¬ (a = 4 ∧ y = 9) → J4 a y = J a y := fun a y u => (q3 a y u).trans (p4 a y u)
  cases hp : pRout s n nm m L0 (tok s n 0) with
  | inl f =>
    rw [hp] at q4
    obtain ⟨rfl, u1, u2⟩ := q4
    refine ⟨A4, J4, (x, b, c, d, 3), -1, ?_, h11, G4, rfl, rfl, u1, u2, F4⟩
    rw [pre, e_79_30]
    simp (disch := first | omega | (simp (disch := omega) only [n_ti, Int32.reduceToInt] <;> omega)) only [n_add, nl_add, nr_add, n_mul, nl_mul, nr_mul, n_sub, nr_dec, n_div, nr_sub_1, nr_sub_2, nr_sub_3, nr_sub_4, nr_sub_7, nr_sub_10, nr_sub_11, nr_sub_20, nr_sub_48, nr_sub_97, nl_sub_3, nl_sub_4, nl_sub_12, nl_sub_24, nl_sub_32, nr_div_2, nr_div_4, z_lt, z_le, z_eq, z_cl, n_ti, Int.toNat_natCast, Int32.reduceToInt, Int32.reduceToNatClampNeg, zc_add, zc_sub, zc_add_1, zc_add_2, zc_add_3, zc_add_4, zc_add_8, zc_add_10, zc_add_12, zc_add_16, zc_add_20, zc_sub_1, zc_sub_2, zc_sub_4, zc_sub_10, zc_sub_20, zc_sub_48, zc_sub_97, zc_mul_4, t_ltZ, f_ltZ, t_leZ, f_leZ, t_eqZ, f_eqZ, t_ltN, f_ltN, t_leN, f_leN, t_eqN, f_eqN, ↓reduceIte, and_true, true_and, and_false, false_and, and_self, or_true, true_or, or_false, false_or, or_self, not_true_eq_false, not_false_eq_true, tu_same, tu_eq, tu_ne, b_V, b_I, b_J]
  | inr q =>
    rw [hp] at q4
    obtain ⟨rfl, u1, u2, u3, u5, u6⟩ := q4
    have h44 : A4 4 4 = 0 := by
      rw [u5, p3 4 4 (by omega), e2]
      simp (disch := omega) only [tu_same, tu_eq, tu_ne]
    have h45 : A4 4 5 = -1 := by
      rw [u6, p3 4 5 (by omega), e2]
      simp (disch := omega) only [tu_same, tu_eq, tu_ne]
    refine ⟨tm_u (tm_u (tm_u A4 2 10 1) 8 5 0) 8 6 0, J4, (x, b, d, c, 3), nI q.2.1, ?_, by simp (disch := omega) only [h11, tu_same, tu_eq, tu_ne], G4, rfl, rfl, by simp (disch := omega) only [h44, tu_same, tu_eq, tu_ne], by simp (disch := omega) only [h45, tu_same, tu_eq, tu_ne], by simp (disch := omega) only [u1, tu_same, tu_eq, tu_ne], by simp (disch := omega) only [u2, tu_same, tu_eq, tu_ne], fun j hj => ?_, by simp (disch := omega) only [tu_same, tu_eq, tu_ne], by simp (disch := omega) only [tu_same, tu_eq, tu_ne], by simp (disch := omega) only [tu_same, tu_eq, tu_ne], fun a y v1 v2 v3 v4 => ?_⟩
    · rw [pre, e_79_30, if_neg (by decide), sr_29, sr_28]
      simp (disch := first | omega | (simp (disch := omega) only [n_ti, Int32.reduceToInt] <;> omega)) only [e_52, e_79_68, k1, u1, n_add, nl_add, nr_add, n_mul, nl_mul, nr_mul, n_sub, nr_dec, n_div, nr_sub_1, nr_sub_2, nr_sub_3, nr_sub_4, nr_sub_7, nr_sub_10, nr_sub_11, nr_sub_20, nr_sub_48, nr_sub_97, nl_sub_3, nl_sub_4, nl_sub_12, nl_sub_24, nl_sub_32, nr_div_2, nr_div_4, z_lt, z_le, z_eq, z_cl, n_ti, Int.toNat_natCast, Int32.reduceToInt, Int32.reduceToNatClampNeg, zc_add, zc_sub, zc_add_1, zc_add_2, zc_add_3, zc_add_4, zc_add_8, zc_add_10, zc_add_12, zc_add_16, zc_add_20, zc_sub_1, zc_sub_2, zc_sub_4, zc_sub_10, zc_sub_20, zc_sub_48, zc_sub_97, zc_mul_4, t_ltZ, f_ltZ, t_leZ, f_leZ, t_eqZ, f_eqZ, t_ltN, f_ltN, t_leN, f_leN, t_eqN, f_eqN, ↓reduceIte, and_true, true_and, and_false, false_and, and_self, or_true, true_or, or_false, false_or, or_self, not_true_eq_false, not_false_eq_true, tu_same, tu_eq, tu_ne, b_V, b_I, b_J]
    · obtain ⟨w1, w2, w3, w4, w5⟩ := u3 j hj
      exact ⟨by simp (disch := omega) only [w1, tu_same, tu_eq, tu_ne], by simp (disch := omega) only [w2, tu_same, tu_eq, tu_ne], by simp (disch := omega) only [w3, tu_same, tu_eq, tu_ne], by simp (disch := omega) only [w4, tu_same, tu_eq, tu_ne], by simp (disch := omega) only [w5, tu_same, tu_eq, tu_ne]⟩
    · simp (disch := omega) only [tu_same, tu_eq, tu_ne]
      exact F4 a y v1 (by omega) v4
