/-! run: what a line keeps (pure); a line in the model's loop -/
theorem cntF_out {S : PS} {q : Nat} {s : SP} : ∀ m j, ¬ (j ≤ q ∧ q < j + m) → cntF (inP (updN S q s)) m j = cntF (inP S) m j := by
  intro m
  induction m with
  | zero => intro j _; rfl
  | succ m ih =>
    intro j h
    show (if inP (updN S q s) j = true then 1 else 0) + cntF (inP (updN S q s)) m (j + 1) = (if inP S j = true then 1 else 0) + cntF (inP S) m (j + 1)
    rw [ih (j + 1) (by omega)]
    unfold inP
    rw [updN_n _ _ (show j ≠ q by omega)]
theorem cntF_up {S : PS} {q : Nat} {s : SP} : ∀ m j, j ≤ q → q < j + m → cntF (inP (updN S q s)) m j + (if pW (S q) = 1 then 1 else 0) = cntF (inP S) m j + (if pW s = 1 then 1 else 0) := by
  intro m
  induction m with
  | zero => intro j h1 h2; omega
  | succ m ih =>
    intro j h1 h2
    show (if inP (updN S q s) j = true then 1 else 0) + cntF (inP (updN S q s)) m (j + 1) + _ = (if inP S j = true then 1 else 0) + cntF (inP S) m (j + 1) + _
    by_cases e : j = q
    · subst e
      rw [cntF_out m (j + 1) (by omega)]
      unfold inP
      rw [updN_s]
      simp only [decide_eq_true_eq]
      omega
    · have g := ih (j + 1) (by omega) (by omega)
      unfold inP at g ⊢
      rw [updN_n _ _ e]
      omega
theorem cnt_up {S : PS} {q : Nat} {s : SP} (h : q < 6) : cnt (updN S q s) + (if pW (S q) = 1 then 1 else 0) = cnt S + (if pW s = 1 then 1 else 0) := cntF_up 6 0 (by omega) (by omega)
theorem EOk.up {S : PS} {E : ES} {q : Nat} {s : SP} (h : EOk S E) (hq : q < 6) (h1 : pW (S q) ≤ 1) (h2 : pW s ≤ 1) : EOk (updN S q s) E := by
  intro e he
  obtain ⟨a1, a2, a3, a4, a5⟩ := h e he
  refine ⟨a1, a2, a3, fun p hp => ?_, fun p hp => ?_⟩
  · by_cases c : p = q
    · subst c
      rw [updN_s]
      have := a4 p hp
      omega
    · rw [updN_n _ _ c]; exact a4 p hp
  · by_cases c : p = q
    · subst c
      rw [updN_s]
      have := a5 p hp
      omega
    · rw [updN_n _ _ c]; exact a5 p hp
theorem SOk.up {n b q : Nat} {D : Nat → TD} {S : PS} {s : SP} (h : SOk n D b S) (g : sOk n D b s) : SOk n D b (updN S q s) := by
  intro p hp
  by_cases c : p = q
  · subst c; rw [updN_s]; exact g
  · rw [updN_n _ _ c]; exact h p hp
theorem frS_t {s : SP} (h : frS s = true) : pW s = 1 ∧ pT s = 0 := of_decide_eq_true h
theorem law0 {D : Nat → TD} {mb : Nat} {S : PS} {E : ES} {L : LD} (h : lawP D mb S E L = 0) : (L.2.2.1 = 16 → pW (S L.2.1) = 0 ∧ cnt S < 3) ∧ (L.2.2.1 = 17 → frS (S L.2.1) = true) ∧ (L.2.2.1 = 18 → frS (S L.2.1) = true) ∧ (L.2.2.1 = 20 → (pW (S L.2.1) = 0 ∨ frS (S L.2.1) = true) ∧ eK (E L.2.2.2.1) = 0) := by
  unfold lawP at h
  refine ⟨fun c => ?_, fun c => ?_, fun c => ?_, fun c => ?_⟩
  · rw [if_pos c] at h
    by_cases c1 : pW (S L.2.1) = 0
    · by_cases c2 : 3 ≤ cnt S
      · rw [if_neg (show ¬ pW (S L.2.1) ≠ 0 from fun u => u c1), if_pos c2] at h
        cases h
      · exact ⟨c1, by omega⟩
    · rw [if_pos c1] at h
      cases h
  · rw [if_neg (show ¬ L.2.2.1 = 16 by omega), if_pos c] at h
    cases hf : frS (S L.2.1) with
    | true => rfl
    | false => rw [hf, if_neg Bool.false_ne_true] at h; cases h
  · rw [if_neg (show ¬ L.2.2.1 = 16 by omega), if_neg (show ¬ L.2.2.1 = 17 by omega), if_pos c] at h
    cases hf : frS (S L.2.1) with
    | true => rfl
    | false => rw [hf, if_neg Bool.false_ne_true] at h; cases h
  · rw [if_neg (show ¬ L.2.2.1 = 16 by omega), if_neg (show ¬ L.2.2.1 = 17 by omega), if_neg (show ¬ L.2.2.1 = 18 by omega)] at h
    by_cases d : (pW (S L.2.1) = 0 ∨ frS (S L.2.1) = true) ∧ eK (E L.2.2.2.1) = 0
    · exact d
    · rw [if_neg d] at h; cases h
theorem line_ok {n N b mb : Nat} {D : Nat → TD} {X : XS} {L : LD} (hS : SOk n D b X.1) (hE : EOk X.1 X.2.1) (hc : cnt X.1 ≤ 3) (hL : LOk n N L) (hb : b ≤ 1000) (hn : n ≤ 12) (hD : DOk n D) : SOk n D b (lineP D mb b X L).1 ∧ EOk (lineP D mb b X L).1 (lineP D mb b X L).2.1 ∧ cnt (lineP D mb b X L).1 ≤ 3 ∧ (lineP D mb b X L).2.2.1 ≤ X.2.2.1 + 1 := by
  unfold lineP
  by_cases c0 : lawP D mb X.1 X.2.1 L = 0
  · rw [if_pos c0]
    obtain ⟨g1, g2, g3, g4⟩ := law0 c0
    obtain ⟨o1, o2, o3⟩ := hL
    have hp : L.2.1 < 6 := by omega
    have hs := hS L.2.1 hp
    unfold actP
    rcases o3 with ⟨o4, o5, o6⟩ | ⟨o4, o5, o6⟩
    · rcases o4 with o4 | o4 | o4
      · rw [if_pos o4]
        obtain ⟨u1, u2⟩ := g1 o4
        refine ⟨hS.up ⟨by show 1 ≤ 5; omega, ?_, by show 0 ≤ 3; omega, by show 0 ≤ n; omega, by show 0 ≤ 1; omega, fun u => absurd rfl u, by show 0 < 256; omega, by show 0 ≤ 1000; omega⟩, hE.up hp (by omega) (by show 1 ≤ 1; omega), ?_, by show X.2.2.1 ≤ _; omega⟩
        · show (if L.2.2.2.1 = 0 then 1 else 2) ≤ 3
          split <;> omega
        · have g := cnt_up (S := X.1) (s := (1, (if L.2.2.2.1 = 0 then 1 else 2), 0, 0, 0, 0, 0)) hp
          rw [if_neg (show ¬ pW (X.1 L.2.1) = 1 by omega), if_pos (show pW ((1, (if L.2.2.2.1 = 0 then 1 else 2), 0, 0, 0, 0, 0) : SP) = 1 from rfl)] at g
          show cnt (updN X.1 L.2.1 (1, (if L.2.2.2.1 = 0 then 1 else 2), 0, 0, 0, 0, 0)) ≤ 3
          omega
      · rw [if_neg (show ¬ L.2.2.1 = 16 by omega), if_pos o4]
        have u1 := frS_t (g2 o4)
        refine ⟨hS.up ⟨by show 0 ≤ 5; omega, by show 0 ≤ 3; omega, by show 0 ≤ 3; omega, by show 0 ≤ n; omega, by show 0 ≤ 1; omega, fun u => absurd rfl u, by show 0 < 256; omega, by show 0 ≤ 1000; omega⟩, hE.up hp (by omega) (by show 0 ≤ 1; omega), ?_, by show X.2.2.1 ≤ _; omega⟩
        have g := cnt_up (S := X.1) (s := (0, 0, 0, 0, 0, 0, 0)) hp
        rw [if_pos u1.1, if_neg (show ¬ pW ((0, 0, 0, 0, 0, 0, 0) : SP) = 1 from fun u => by cases u)] at g
        show cnt (updN X.1 L.2.1 (0, 0, 0, 0, 0, 0, 0)) ≤ 3
        omega
      · rw [if_neg (show ¬ L.2.2.1 = 16 by omega), if_neg (show ¬ L.2.2.1 = 17 by omega), if_neg (show ¬ L.2.2.1 = 18 by omega)]
        obtain ⟨u1, u2⟩ := g4 o4
        have u3 : pW (X.1 L.2.1) ≤ 1 := by
          rcases u1 with u | u
          · omega
          · have := frS_t u; omega
        refine ⟨hS.up ⟨by show 4 + L.2.2.2.1 ≤ 5; omega, by show 0 ≤ 3; omega, by show 0 ≤ 3; omega, by show 0 ≤ n; omega, by show 0 ≤ 1; omega, fun u => absurd rfl u, by show 0 < 256; omega, by show 0 ≤ 1000; omega⟩, ?_, ?_, by show X.2.2.1 ≤ _; omega⟩
        · intro e he
          obtain ⟨a1, a2, a3, a4, a5⟩ := hE e he
          show eH (updN X.2.1 L.2.2.2.1 (eH (X.2.1 L.2.2.2.1), L.2.1 + 1, 0) e) < 6 ∧ eK (updN X.2.1 L.2.2.2.1 (eH (X.2.1 L.2.2.2.1), L.2.1 + 1, 0) e) ≤ 6 ∧ eQ (updN X.2.1 L.2.2.2.1 (eH (X.2.1 L.2.2.2.1), L.2.1 + 1, 0) e) ≤ 1 ∧ (∀ p, p < 6 → (pW (updN X.1 L.2.1 (4 + L.2.2.2.1, 0, 0, 0, 0, 0, 0) p) = 2 + e ↔ p = eH (updN X.2.1 L.2.2.2.1 (eH (X.2.1 L.2.2.2.1), L.2.1 + 1, 0) e))) ∧ (∀ p, p < 6 → (pW (updN X.1 L.2.1 (4 + L.2.2.2.1, 0, 0, 0, 0, 0, 0) p) = 4 + e ↔ p + 1 = eK (updN X.2.1 L.2.2.2.1 (eH (X.2.1 L.2.2.2.1), L.2.1 + 1, 0) e)))
          by_cases ce : e = L.2.2.2.1
          · subst ce
            rw [updN_s]
            refine ⟨a1, by show L.2.1 + 1 ≤ 6; omega, by show 0 ≤ 1; omega, fun p hp' => ?_, fun p hp' => ?_⟩
            · have z := a4 p hp'
              show _ ↔ p = eH (X.2.1 L.2.2.2.1)
              by_cases c : p = L.2.1
              · subst c
                rw [updN_s]
                show 4 + L.2.2.2.1 = 2 + L.2.2.2.1 ↔ _
                omega
              · rw [updN_n _ _ c]; exact z
            · have z := a5 p hp'
              show _ ↔ p + 1 = L.2.1 + 1
              by_cases c : p = L.2.1
              · subst c
                rw [updN_s]
                show 4 + L.2.2.2.1 = 4 + L.2.2.2.1 ↔ _
                omega
              · rw [updN_n _ _ c]
                rw [u2] at z
                omega
          · rw [updN_n _ _ ce]
            refine ⟨a1, a2, a3, fun p hp' => ?_, fun p hp' => ?_⟩
            · have z := a4 p hp'
              by_cases c : p = L.2.1
              · subst c
                rw [updN_s]
                show 4 + L.2.2.2.1 = 2 + e ↔ _
                omega
              · rw [updN_n _ _ c]; exact z
            · have z := a5 p hp'
              by_cases c : p = L.2.1
              · subst c
                rw [updN_s]
                show 4 + L.2.2.2.1 = 4 + e ↔ _
                omega
              · rw [updN_n _ _ c]; exact z
        · have g := cnt_up (S := X.1) (s := (4 + L.2.2.2.1, 0, 0, 0, 0, 0, 0)) hp
          rw [if_neg (show ¬ pW ((4 + L.2.2.2.1, 0, 0, 0, 0, 0, 0) : SP) = 1 by show ¬ 4 + L.2.2.2.1 = 1; omega)] at g
          show cnt (updN X.1 L.2.1 (4 + L.2.2.2.1, 0, 0, 0, 0, 0, 0)) ≤ 3
          omega
    · rw [if_neg (show ¬ L.2.2.1 = 16 by omega), if_neg (show ¬ L.2.2.1 = 17 by omega), if_pos o4]
      have u1 := frS_t (g3 o4)
      obtain ⟨w1, w2, w3, w4, w5, w6, w7, w8⟩ := hs
      have dq := (hD _ o5).1
      refine ⟨hS.up ⟨w1, w2, w3, by show L.2.2.2.1 + 1 ≤ n; omega, o6, fun _ => ⟨u1.1, Nat.le_refl _, ?_⟩, w7, hb⟩, hE.up hp (by omega) (by show pW (X.1 L.2.1) ≤ 1; omega), ?_, by show X.2.2.1 ≤ _; omega⟩
      · show b - b < dQ (D (L.2.2.2.1 + 1 - 1))
        rw [show b - b = 0 by omega, show L.2.2.2.1 + 1 - 1 = L.2.2.2.1 by omega]
        omega
      · have g := cnt_up (S := X.1) (s := (pW (X.1 L.2.1), pF (X.1 L.2.1), pD (X.1 L.2.1), L.2.2.2.1 + 1, L.2.2.2.2, b, pX (X.1 L.2.1))) hp
        show cnt (updN X.1 L.2.1 (pW (X.1 L.2.1), pF (X.1 L.2.1), pD (X.1 L.2.1), L.2.2.2.1 + 1, L.2.2.2.2, b, pX (X.1 L.2.1))) ≤ 3
        change _ = cnt X.1 + (if pW (X.1 L.2.1) = 1 then 1 else 0) at g
        omega
  · rw [if_neg c0]
    exact ⟨hS, hE, hc, Nat.le_refl _⟩
def XsB (B : Nat → Nat → Int32) (b : Nat) (X : XS) : Prop := PsB B b X.1 ∧ EnB B X.2.1 ∧ MsB B X.2.2
set_option maxHeartbeats 1000000 in
theorem m_line {B : Nat → Nat → Int32} {J : Nat → Nat → Int64} {τ : tm_Tu} {n b bk mb i e N : Nat} {D : Nat → TD} {X : XS} {L : LD} (h : XsB B b X) (hS : SOk n D b X.1) (hO : EOk X.1 X.2.1) (hc3 : cnt X.1 ≤ 3) (hn : n ≤ 12) (hD : DOk n D) (hbk : bk < 2) (hB : BkB B bk n D) (h65 : B 131 65 = nI mb) (hmb : mb ≤ 3) (h59 : B 131 59 = nI b) (hb : b ≤ 1000) (hms : X.2.2.1 < 100000) (hi : i < e) (he : e ≤ 120) (hL : LnB B i L) (hok : LOk n N L) (hLb : L.1 = b) : ∃ B', R_164 77 [(0, .ref 131), (1, .int (nI i)), (2, .int (nI e)), (3, .int 0)] [] (mk B J τ) = R_164 77 [(0, .ref 131), (1, .int (nI (i + 1))), (2, .int (nI e)), (3, .int 0)] [] (mk B' J τ) ∧ XsB B' b (lineP D mb b X L) ∧ (∀ x y, ¬ (151 ≤ x ∧ x ≤ 157) → ¬ (165 ≤ x ∧ x ≤ 167) → x ≠ 172 → x ≠ 174 → ¬ (x = 131 ∧ y = 60) → B' x y = B x y) := by
  obtain ⟨hP, hE, hM⟩ := h
  have l1 := hL.1
  have l2 := hL.2.1
  rw [hLb] at l1
  have o2 := hok.2.1
  have hl6 := law_le D mb X.1 X.2.1 L
  have f149 := m_149 (J := J) (τ := τ) hP hE hS hO hc3 hn hD hbk hB h65 hmb (show i < 120 by omega) hL hok
  unfold lineP
  by_cases c0 : lawP D mb X.1 X.2.1 L = 0
  · rw [if_pos c0]
    obtain ⟨g1, g2, g3, g4⟩ := law0 c0
    rw [c0] at f149
    have hs := hS L.2.1 (by omega)
    have t0 : pW (X.1 L.2.1) = 0 → pT (X.1 L.2.1) = 0 := fun u => by
      by_cases d : pT (X.1 L.2.1) = 0
      · exact d
      · have := (hs.2.2.2.2.2.1 d).1; omega
    obtain ⟨B1, p1, p2, p3, p4⟩ := m_151 (J := J) (τ := τ) (n := n) (N := N) hP hE (fun u v => by
      rcases hok.2.2 with ⟨w | w | w, -, -⟩ | ⟨w, -, -⟩
      · exact absurd w u
      · exact (frS_t (g2 w)).2
      · rcases (g4 w).1 with z | z
        · exact t0 z
        · exact (frS_t z).2
      · exact absurd w v) (fun u => t0 (g1 u).1) hb (fun u => (frS_t (g3 u)).1) hn h59 (show i < 120 by omega) hL hok
    refine ⟨B1, ?_, ⟨p2, p3, hM.tr (fun a k u => p4 a k (by omega) (by omega) (by omega))⟩, fun x y u v w z t => p4 x y u w z⟩
    rw [e_164_77]
    simp (disch := first | omega | (simp (disch := omega) only [n_ti, Int32.reduceToInt] <;> omega)) only [l1, h59, f149, e_164_108, p1, e_164_139, n_add, nl_add, nr_add, n_mul, nl_mul, nr_mul, n_sub, nr_dec, n_div, nr_sub_1, nr_sub_2, nr_sub_3, nr_sub_4, nr_sub_7, nr_sub_10, nr_sub_11, nr_sub_20, nr_sub_48, nr_sub_97, nl_sub_3, nl_sub_4, nl_sub_12, nl_sub_24, nl_sub_32, nr_div_2, nr_div_4, z_lt, z_le, z_eq, z_cl, n_ti, Int.toNat_natCast, Int32.reduceToInt, Int32.reduceToNatClampNeg, zc_add, zc_sub, zc_add_1, zc_add_2, zc_add_3, zc_add_4, zc_add_8, zc_add_10, zc_add_12, zc_add_16, zc_add_20, zc_sub_1, zc_sub_2, zc_sub_4, zc_sub_10, zc_sub_20, zc_sub_48, zc_sub_97, zc_mul_4, t_ltZ, f_ltZ, t_leZ, f_leZ, t_eqZ, f_eqZ, t_ltN, f_ltN, t_leN, f_leN, t_eqN, f_eqN, ↓reduceIte, and_true, true_and, and_false, false_and, and_self, or_true, true_or, or_false, false_or, or_self, not_true_eq_false, not_false_eq_true, tu_same, tu_eq, tu_ne, b_V, b_I, b_J]
  · rw [if_neg c0]
    obtain ⟨B1, p1, p2, p3⟩ := m_150 (J := J) (τ := τ) hM hms h59 (lawP D mb X.1 X.2.1 L) L.2.1
    refine ⟨B1, ?_, ⟨hP.tr (fun a k u => p3 a k (by omega) (by omega)), hE.tr (fun a k u => p3 a k (by omega) (by omega)), p2⟩, fun x y u v w z t => p3 x y t v⟩
    rw [e_164_77]
    simp (disch := first | omega | (simp (disch := omega) only [n_ti, Int32.reduceToInt] <;> omega)) only [l1, h59, f149, e_164_108, l2, p1, e_164_127, e_164_139, n_add, nl_add, nr_add, n_mul, nl_mul, nr_mul, n_sub, nr_dec, n_div, nr_sub_1, nr_sub_2, nr_sub_3, nr_sub_4, nr_sub_7, nr_sub_10, nr_sub_11, nr_sub_20, nr_sub_48, nr_sub_97, nl_sub_3, nl_sub_4, nl_sub_12, nl_sub_24, nl_sub_32, nr_div_2, nr_div_4, z_lt, z_le, z_eq, z_cl, n_ti, Int.toNat_natCast, Int32.reduceToInt, Int32.reduceToNatClampNeg, zc_add, zc_sub, zc_add_1, zc_add_2, zc_add_3, zc_add_4, zc_add_8, zc_add_10, zc_add_12, zc_add_16, zc_add_20, zc_sub_1, zc_sub_2, zc_sub_4, zc_sub_10, zc_sub_20, zc_sub_48, zc_sub_97, zc_mul_4, t_ltZ, f_ltZ, t_leZ, f_leZ, t_eqZ, f_eqZ, t_ltN, f_ltN, t_leN, f_leN, t_eqN, f_eqN, ↓reduceIte, and_true, true_and, and_false, false_and, and_self, or_true, true_or, or_false, false_or, or_self, not_true_eq_false, not_false_eq_true, tu_same, tu_eq, tu_ne, b_V, b_I, b_J]
