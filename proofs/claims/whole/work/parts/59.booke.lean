/-! reading: a BOOK (class), whole -/
def updN {α : Type} (f : Nat → α) (k : Nat) (v : α) : Nat → α := fun j => if j = k then v else f j
def pBook (s : Nat → Int) (n : Nat) : Nat → Nat → NmD → TK → Sum (Nat × Nat) (Nat × NmD)
  | 0, k, N, t => if tK t = 35 then .inr (k, N) else .inl (flt t 2)
  | f + 1, k, N, t => if tK t = 0 then (match pHead s n k N.1 t with
    | .inl e => .inl e
    | .inr q => (match pParts s n 1400 q.1.2 q.2 with
      | .inl e => .inl e
      | .inr q2 => pBook s n f (k + 1) (updN N.1 k q.1.1, updN N.2 k q2.1) q2.2)) else if tK t = 35 then .inr (k, N) else .inl (flt t 2)
theorem pParts_ok {s : Nat → Int} {n : Nat} : ∀ f (D : TD) (t : TK), TDok D → TokOk s n t → ∀ q, pParts s n f D t = .inr q → TDok q.1 := by
  intro f
  induction f with
  | zero =>
    intro D t hD ht q h
    unfold pParts at h
    by_cases c : tK t = 34
    · rw [if_pos c] at h; cases h; exact hD
    · rw [if_neg c] at h; cases h
  | succ f ih =>
    intro D t hD ht q h
    unfold pParts at h
    by_cases c : tK t = 34
    · rw [if_pos c] at h; cases h; exact hD
    · rw [if_neg c] at h
      cases hs : pStep s n D t with
      | inl e => rw [hs] at h; cases h
      | inr q1 =>
        rw [hs] at h
        have g := pStep_ok hD ht q1 hs
        exact ih q1.1 q1.2 g.1 g.2.1 q h
def BkS (A : Nat → Nat → Int32) (J : Nat → Nat → Int64) (cb k : Nat) (N : NmD) : Prop := BkA A cb k N.2 ∧ DOk k N.2 ∧ NmA J cb k N.1
def PoK (A A' : Nat → Nat → Int32) (J J' : Nat → Nat → Int64) (cb : Nat) (r : Sum (Nat × Nat) (Nat × NmD)) (res : Int32) : Prop := (∀ a y, a ≠ 4 → ¬ (cb ≤ a ∧ a ≤ cb + 37) → A' a y = A a y) ∧ (∀ a y, ¬ (a = 4 ∧ y = 9) → ¬ (cb ≤ a ∧ a ≤ cb + 37) → J' a y = J a y) ∧ (match r with
    | .inl f => res = 0 ∧ A' 4 4 = nI f.1 ∧ A' 4 5 = nI f.2
    | .inr q => res = 1 ∧ q.1 ≤ 12 ∧ BkS A' J' cb q.1 q.2 ∧ A' 4 4 = A 4 4 ∧ A' 4 5 = A 4 5)
set_option maxHeartbeats 2000000 in
theorem c_50l {τ : tm_Tu} (hτ : τ.2.2.2.2 = 3) {s : Nat → Int} {n cb : Nat} (hb : isB cb) : ∀ f k (A : Nat → Nat → Int32) (J : Nat → Nat → Int64) (t : TK) (N : NmD), k + f = 12 → ClS s n A J t → BkS A J cb k N → ∃ A' J' r, R_50 5 [(0, .ref cb), (1, .ref 4)] [] (mk A J τ) = some (some (.int r), mk A' J' τ) ∧ PoK A A' J J' cb (pBook s n f k N t) r := by
  obtain ⟨k1, k2, k3, k4⟩ := bk_1 hb τ
  have hb43 : 43 ≤ cb := by unfold isB at hb; omega
  have fin : ∀ k (A : Nat → Nat → Int32) (J : Nat → Nat → Int64) (t : TK) (N : NmD), k ≤ 12 → (tK t ≠ 0 ∨ k = 12) → ClS s n A J t → BkS A J cb k N → ∃ A' J' r, R_50 5 [(0, .ref cb), (1, .ref 4)] [] (mk A J τ) = some (some (.int r), mk A' J' τ) ∧ PoK A A' J J' cb (if tK t = 35 then .inr (k, N) else .inl (flt t 2)) r := by
    intro k A J t N hk h0 h hB
    have h1 := hB.1.1
    have kk := h.2.1.2.1
    have hK := h.2.2.2.2.2.2.1
    have st : R_50 5 [(0, .ref cb), (1, .ref 4)] [] (mk A J τ) = R_50 70 [(1, .ref 4)] [] (mk A J τ) := by
      rw [e_50_5]
      by_cases c : k = 12
      · simp (disch := first | omega | (simp (disch := omega) only [n_ti, Int32.reduceToInt] <;> omega)) only [k1, h1, n_add, nl_add, nr_add, n_mul, nl_mul, nr_mul, n_sub, nr_dec, n_div, nr_sub_1, nr_sub_2, nr_sub_3, nr_sub_4, nr_sub_7, nr_sub_10, nr_sub_11, nr_sub_20, nr_sub_48, nr_sub_97, nl_sub_3, nl_sub_4, nl_sub_12, nl_sub_24, nl_sub_32, nr_div_2, nr_div_4, z_lt, z_le, z_eq, z_cl, n_ti, Int.toNat_natCast, Int32.reduceToInt, Int32.reduceToNatClampNeg, zc_add, zc_sub, zc_add_1, zc_add_2, zc_add_3, zc_add_4, zc_add_8, zc_add_10, zc_add_12, zc_add_16, zc_add_20, zc_sub_1, zc_sub_2, zc_sub_4, zc_sub_10, zc_sub_20, zc_sub_48, zc_sub_97, zc_mul_4, t_ltZ, f_ltZ, t_leZ, f_leZ, t_eqZ, f_eqZ, t_ltN, f_ltN, t_leN, f_leN, t_eqN, f_eqN, ↓reduceIte, and_true, true_and, and_false, false_and, and_self, or_true, true_or, or_false, false_or, or_self, not_true_eq_false, not_false_eq_true, tu_same, tu_eq, tu_ne, b_V, b_I, b_J]
      · have c0 : tK t ≠ 0 := by omega
        simp (disch := first | omega | (simp (disch := omega) only [n_ti, Int32.reduceToInt] <;> omega)) only [k1, h1, kk, n_add, nl_add, nr_add, n_mul, nl_mul, nr_mul, n_sub, nr_dec, n_div, nr_sub_1, nr_sub_2, nr_sub_3, nr_sub_4, nr_sub_7, nr_sub_10, nr_sub_11, nr_sub_20, nr_sub_48, nr_sub_97, nl_sub_3, nl_sub_4, nl_sub_12, nl_sub_24, nl_sub_32, nr_div_2, nr_div_4, z_lt, z_le, z_eq, z_cl, n_ti, Int.toNat_natCast, Int32.reduceToInt, Int32.reduceToNatClampNeg, zc_add, zc_sub, zc_add_1, zc_add_2, zc_add_3, zc_add_4, zc_add_8, zc_add_10, zc_add_12, zc_add_16, zc_add_20, zc_sub_1, zc_sub_2, zc_sub_4, zc_sub_10, zc_sub_20, zc_sub_48, zc_sub_97, zc_mul_4, t_ltZ, f_ltZ, t_leZ, f_leZ, t_eqZ, f_eqZ, t_ltN, f_ltN, t_leN, f_leN, t_eqN, f_eqN, ↓reduceIte, and_true, true_and, and_false, false_and, and_self, or_true, true_or, or_false, false_or, or_self, not_true_eq_false, not_false_eq_true, tu_same, tu_eq, tu_ne, b_V, b_I, b_J]
    rw [st, e_50_70]
    by_cases c : tK t = 35
    · rw [if_pos c]
      refine ⟨A, J, 1, ?_, fun _ _ _ _ => rfl, fun _ _ _ _ => rfl, rfl, hk, hB, rfl, rfl⟩
      simp (disch := first | omega | (simp (disch := omega) only [n_ti, Int32.reduceToInt] <;> omega)) only [kk, c, e_50_87, e_50_92, n_add, nl_add, nr_add, n_mul, nl_mul, nr_mul, n_sub, nr_dec, n_div, nr_sub_1, nr_sub_2, nr_sub_3, nr_sub_4, nr_sub_7, nr_sub_10, nr_sub_11, nr_sub_20, nr_sub_48, nr_sub_97, nl_sub_3, nl_sub_4, nl_sub_12, nl_sub_24, nl_sub_32, nr_div_2, nr_div_4, z_lt, z_le, z_eq, z_cl, n_ti, Int.toNat_natCast, Int32.reduceToInt, Int32.reduceToNatClampNeg, zc_add, zc_sub, zc_add_1, zc_add_2, zc_add_3, zc_add_4, zc_add_8, zc_add_10, zc_add_12, zc_add_16, zc_add_20, zc_sub_1, zc_sub_2, zc_sub_4, zc_sub_10, zc_sub_20, zc_sub_48, zc_sub_97, zc_mul_4, t_ltZ, f_ltZ, t_leZ, f_leZ, t_eqZ, f_eqZ, t_ltN, f_ltN, t_leN, f_leN, t_eqN, f_eqN, ↓reduceIte, and_true, true_and, and_false, false_and, and_self, or_true, true_or, or_false, false_or, or_self, not_true_eq_false, not_false_eq_true, tu_same, tu_eq, tu_ne, b_V, b_I, b_J]
    · rw [if_neg c]
      have r2 : F_30 [.ref 4, .int 2] (mk A J τ) = _ := c_ref (τ := τ) h 2
      refine ⟨tm_u (tm_u A 4 4 (nI (flt t 2).1)) 4 5 (nI (flt t 2).2), J, 0, ?_, fun a y u v => by simp (disch := omega) only [tu_same, tu_eq, tu_ne], fun _ _ _ _ => rfl, rfl, by simp (disch := omega) only [tu_same, tu_eq, tu_ne], by simp (disch := omega) only [tu_same, tu_eq, tu_ne]⟩
      simp (disch := first | omega | (simp (disch := omega) only [n_ti, Int32.reduceToInt] <;> omega)) only [kk, r2, e_50_84, e_50_92, n_add, nl_add, nr_add, n_mul, nl_mul, nr_mul, n_sub, nr_dec, n_div, nr_sub_1, nr_sub_2, nr_sub_3, nr_sub_4, nr_sub_7, nr_sub_10, nr_sub_11, nr_sub_20, nr_sub_48, nr_sub_97, nl_sub_3, nl_sub_4, nl_sub_12, nl_sub_24, nl_sub_32, nr_div_2, nr_div_4, z_lt, z_le, z_eq, z_cl, n_ti, Int.toNat_natCast, Int32.reduceToInt, Int32.reduceToNatClampNeg, zc_add, zc_sub, zc_add_1, zc_add_2, zc_add_3, zc_add_4, zc_add_8, zc_add_10, zc_add_12, zc_add_16, zc_add_20, zc_sub_1, zc_sub_2, zc_sub_4, zc_sub_10, zc_sub_20, zc_sub_48, zc_sub_97, zc_mul_4, t_ltZ, f_ltZ, t_leZ, f_leZ, t_eqZ, f_eqZ, t_ltN, f_ltN, t_leN, f_leN, t_eqN, f_eqN, ↓reduceIte, and_true, true_and, and_false, false_and, and_self, or_true, true_or, or_false, false_or, or_self, not_true_eq_false, not_false_eq_true, tu_same, tu_eq, tu_ne, b_V, b_I, b_J]
  intro f
  induction f with
  | zero =>
    intro k A J t N hk h hB
    exact fin k A J t N (by omega) (Or.inr (by omega)) h hB
  | succ f ih =>
    intro k A J t N hk h hB
    by_cases c0 : tK t = 0
    · unfold pBook
      rw [if_pos c0]
      obtain ⟨hB1, hB2, hB3⟩ := id hB
      have h1 := hB1.1
      have kk := h.2.1.2.1
      have k5 := bk_2 hb (show k < 12 by omega) τ
      have hc : isT (cb + 2 + 3 * k) := ⟨cb, k, hb, by omega, rfl⟩
      obtain ⟨A1, J1, r1, g1, g2⟩ := c_41 hτ h c0 hb (by omega) h1 hB3
      have a1 : A1 cb 1 = nI k := (g2.1 cb 1 (by omega) (by omega)).trans h1
      cases hp : pHead s n k N.1 t with
      | inl e =>
        rw [hp] at g2
        obtain ⟨y1, y2, rfl, y3, y4⟩ := g2
        refine ⟨A1, J1, 0, ?_, fun a y u v => y1 a y u (by omega), fun a y u v => y2 a y u (by omega), rfl, y3, y4⟩
        rw [e_50_5]
        simp (disch := first | omega | (simp (disch := omega) only [n_ti, Int32.reduceToInt] <;> omega)) only [k1, h1, kk, c0, k2, k3, k4, k5, g1, e_50_35, e_50_55, n_add, nl_add, nr_add, n_mul, nl_mul, nr_mul, n_sub, nr_dec, n_div, nr_sub_1, nr_sub_2, nr_sub_3, nr_sub_4, nr_sub_7, nr_sub_10, nr_sub_11, nr_sub_20, nr_sub_48, nr_sub_97, nl_sub_3, nl_sub_4, nl_sub_12, nl_sub_24, nl_sub_32, nr_div_2, nr_div_4, z_lt, z_le, z_eq, z_cl, n_ti, Int.toNat_natCast, Int32.reduceToInt, Int32.reduceToNatClampNeg, zc_add, zc_sub, zc_add_1, zc_add_2, zc_add_3, zc_add_4, zc_add_8, zc_add_10, zc_add_12, zc_add_16, zc_add_20, zc_sub_1, zc_sub_2, zc_sub_4, zc_sub_10, zc_sub_20, zc_sub_48, zc_sub_97, zc_mul_4, t_ltZ, f_ltZ, t_leZ, f_leZ, t_eqZ, f_eqZ, t_ltN, f_ltN, t_leN, f_leN, t_eqN, f_eqN, ↓reduceIte, and_true, true_and, and_false, false_and, and_self, or_true, true_or, or_false, false_or, or_self, not_true_eq_false, not_false_eq_true, tu_same, tu_eq, tu_ne, b_V, b_I, b_J]
      | inr q =>
        rw [hp] at g2
        obtain ⟨y1, y2, rfl, S1, T1, O1, j1, l1, l2, z1, z2⟩ := g2
        obtain ⟨A2, J2, r2, p1, p2⟩ := c_parts (cb := cb) hτ hb hc 1400 0 A1 J1 q.2 q.1.2 (by omega) S1 T1 O1
        have s49 : F_49 [.ref cb, .ref 4, .ref (cb + 2 + 3 * k)] (mk A1 J1 τ) = some (some (.int r2), mk A2 J2 τ) := by
          rw [e_49]
          exact p1
        have a2 : A2 cb 1 = nI k := (p2.1 cb 1 (by omega) (by omega)).trans a1
        show ∃ A' J' r, _ ∧ PoK A A' J J' cb (match pParts s n 1400 q.1.2 q.2 with
          | .inl e => .inl e
          | .inr q2 => pBook s n f (k + 1) (updN N.1 k q.1.1, updN N.2 k q2.1) q2.2) r
        cases hq : pParts s n 1400 q.1.2 q.2 with
        | inl e =>
          rw [hq] at p2
          obtain ⟨x1, x2, rfl, x3, x4⟩ := p2
          refine ⟨A2, J2, 0, ?_, fun a y u v => (x1 a y u (by omega)).trans (y1 a y u (by omega)), fun a y u v => (x2 a y u).trans (y2 a y u (by omega)), rfl, x3, x4⟩
          rw [e_50_5]
          simp (disch := first | omega | (simp (disch := omega) only [n_ti, Int32.reduceToInt] <;> omega)) only [k1, h1, kk, c0, k2, k3, k4, k5, g1, e_50_35, a1, s49, e_50_52, e_50_55, n_add, nl_add, nr_add, n_mul, nl_mul, nr_mul, n_sub, nr_dec, n_div, nr_sub_1, nr_sub_2, nr_sub_3, nr_sub_4, nr_sub_7, nr_sub_10, nr_sub_11, nr_sub_20, nr_sub_48, nr_sub_97, nl_sub_3, nl_sub_4, nl_sub_12, nl_sub_24, nl_sub_32, nr_div_2, nr_div_4, z_lt, z_le, z_eq, z_cl, n_ti, Int.toNat_natCast, Int32.reduceToInt, Int32.reduceToNatClampNeg, zc_add, zc_sub, zc_add_1, zc_add_2, zc_add_3, zc_add_4, zc_add_8, zc_add_10, zc_add_12, zc_add_16, zc_add_20, zc_sub_1, zc_sub_2, zc_sub_4, zc_sub_10, zc_sub_20, zc_sub_48, zc_sub_97, zc_mul_4, t_ltZ, f_ltZ, t_leZ, f_leZ, t_eqZ, f_eqZ, t_ltN, f_ltN, t_leN, f_leN, t_eqN, f_eqN, ↓reduceIte, and_true, true_and, and_false, false_and, and_self, or_true, true_or, or_false, false_or, or_self, not_true_eq_false, not_false_eq_true, tu_same, tu_eq, tu_ne, b_V, b_I, b_J]
        | inr q2 =>
          have O2 := pParts_ok 1400 q.1.2 q.2 O1 S1.2.2.2 q2 hq
          rw [hq] at p2
          obtain ⟨x1, x2, rfl, S2, T2, x3, x4⟩ := p2
          have hS3 : BkS (tm_u A2 cb 1 (nI (k + 1))) J2 cb (k + 1) (updN N.1 k q.1.1, updN N.2 k q2.1) := by
            refine ⟨⟨by simp (disch := omega) only [tu_same, tu_eq, tu_ne], fun j hj => ?_⟩, fun j hj => ?_, fun j hj => ?_⟩
            · show TrA (tm_u A2 cb 1 (nI (k + 1))) (cb + 2 + 3 * j) (updN N.2 k q2.1 j)
              unfold updN
              by_cases e : j = k
              · subst e
                rw [if_pos rfl]
                exact T2.tr (fun a y u v => by simp (disch := omega) only [tu_same, tu_eq, tu_ne])
              · rw [if_neg e]
                exact (hB1.2 j (by omega)).tr (fun a y u v => by
                  simp (disch := omega) only [tu_same, tu_eq, tu_ne]
                  rw [x1 a y (by omega) (by omega), y1 a y (by omega) (by omega)])
            · show TDok (updN N.2 k q2.1 j)
              unfold updN
              by_cases e : j = k
              · rw [if_pos e]; exact O2
              · rw [if_neg e]; exact hB2 j (by omega)
            · show J2 (cb + 2 + 3 * j) 2 = lN (en32 (updN N.1 k q.1.1 j)) ∧ (updN N.1 k q.1.1 j).length ≤ 8 ∧ okL (updN N.1 k q.1.1 j)
              unfold updN
              by_cases e : j = k
              · subst e
                rw [if_pos rfl]
                exact ⟨(x2 _ _ (by omega)).trans j1, l1, l2⟩
              · rw [if_neg e]
                obtain ⟨u1, u2, u3⟩ := hB3 j (by omega)
                refine ⟨?_, u2, u3⟩
                rw [x2 _ _ (by omega), y2 _ _ (by omega) (by omega)]
                exact u1
          obtain ⟨A3, J3, r3, v1, v2⟩ := ih (k + 1) (tm_u A2 cb 1 (nI (k + 1))) J2 q2.2 (updN N.1 k q.1.1, updN N.2 k q2.1) (by omega) (S2.tr (fun a y u => by simp (disch := omega) only [tu_same, tu_eq, tu_ne]) (fun _ _ _ => rfl)) hS3
          refine ⟨A3, J3, r3, ?_, ?_⟩
          · rw [← v1, e_50_5]
            simp (disch := first | omega | (simp (disch := omega) only [n_ti, Int32.reduceToInt] <;> omega)) only [k1, h1, kk, c0, k2, k3, k4, k5, g1, e_50_35, a1, s49, e_50_52, a2, n_add, nl_add, nr_add, n_mul, nl_mul, nr_mul, n_sub, nr_dec, n_div, nr_sub_1, nr_sub_2, nr_sub_3, nr_sub_4, nr_sub_7, nr_sub_10, nr_sub_11, nr_sub_20, nr_sub_48, nr_sub_97, nl_sub_3, nl_sub_4, nl_sub_12, nl_sub_24, nl_sub_32, nr_div_2, nr_div_4, z_lt, z_le, z_eq, z_cl, n_ti, Int.toNat_natCast, Int32.reduceToInt, Int32.reduceToNatClampNeg, zc_add, zc_sub, zc_add_1, zc_add_2, zc_add_3, zc_add_4, zc_add_8, zc_add_10, zc_add_12, zc_add_16, zc_add_20, zc_sub_1, zc_sub_2, zc_sub_4, zc_sub_10, zc_sub_20, zc_sub_48, zc_sub_97, zc_mul_4, t_ltZ, f_ltZ, t_leZ, f_leZ, t_eqZ, f_eqZ, t_ltN, f_ltN, t_leN, f_leN, t_eqN, f_eqN, ↓reduceIte, and_true, true_and, and_false, false_and, and_self, or_true, true_or, or_false, false_or, or_self, not_true_eq_false, not_false_eq_true, tu_same, tu_eq, tu_ne, b_V, b_I, b_J]
          · obtain ⟨w1, w2, w3⟩ := v2
            refine ⟨fun a y u v => ?_, fun a y u v => ?_, ?_⟩
            · rw [w1 a y u v]
              simp (disch := omega) only [tu_same, tu_eq, tu_ne]
              rw [x1 a y u (by omega), y1 a y u (by omega)]
            · rw [w2 a y u v, x2 a y u, y2 a y u (by omega)]
            · show match pBook s n f (k + 1) (updN N.1 k q.1.1, updN N.2 k q2.1) q2.2 with
                | .inl f => r3 = 0 ∧ A3 4 4 = nI f.1 ∧ A3 4 5 = nI f.2
                | .inr q => r3 = 1 ∧ q.1 ≤ 12 ∧ BkS A3 J3 cb q.1 q.2 ∧ A3 4 4 = A 4 4 ∧ A3 4 5 = A 4 5
              cases hr : pBook s n f (k + 1) (updN N.1 k q.1.1, updN N.2 k q2.1) q2.2 with
              | inl e => rw [hr] at w3; exact w3
              | inr e =>
                rw [hr] at w3
                obtain ⟨u1, u2, u3, u4, u5⟩ := w3
                refine ⟨u1, u2, u3, u4.trans ?_, u5.trans ?_⟩
                · simp (disch := omega) only [tu_same, tu_eq, tu_ne]
                  exact x3.trans z1
                · simp (disch := omega) only [tu_same, tu_eq, tu_ne]
                  exact x4.trans z2
    · have e : pBook s n (f + 1) k N t = (if tK t = 35 then .inr (k, N) else .inl (flt t 2)) := by
        unfold pBook
        rw [if_neg c0]
      rw [e]
      exact fin k A J t N (by omega) (Or.inl c0) h hB
