/-! run: hands (pure and model), what is noted (model) -/
theorem ch_ok {n b e : Nat} {D : Nat → TD} {S : PS} {E : ES} (he : e < 2) (hS : SOk n D b S) (hE : EOk S E) : SOk n D b (chP e (S, E)).1 ∧ EOk (chP e (S, E)).1 (chP e (S, E)).2 ∧ cnt (chP e (S, E)).1 = cnt S ∧ (∀ p, p < 6 → (pW ((chP e (S, E)).1 p) = 1 ↔ pW (S p) = 1)) ∧ (∀ p, p < 6 → pW (S p) = 1 → (chP e (S, E)).1 p = S p) := by
  have hz : ∀ w, w ≤ 5 → sOk n D b ((w, 0, 0, 0, 0, 0, 0) : SP) := fun w hw => ⟨hw, Nat.zero_le _, Nat.zero_le _, Nat.zero_le _, Nat.zero_le _, fun u => absurd rfl u, by show 0 < 256; omega, Nat.zero_le _⟩
  obtain ⟨a1, a2, a3, a4, a5⟩ := hE e he
  unfold chP
  by_cases c : eK (E e) = 0
  · rw [if_pos c]
    exact ⟨hS, hE, rfl, fun p hp => Iff.rfl, fun _ _ _ => rfl⟩
  · rw [if_neg c]
    by_cases d : eQ (E e) = 0
    · rw [if_pos d]
      refine ⟨hS, fun f hf => ?_, rfl, fun p hp => Iff.rfl, fun _ _ _ => rfl⟩
      show eH (updN E e (eH (E e), eK (E e), 1) f) < 6 ∧ eK (updN E e (eH (E e), eK (E e), 1) f) ≤ 6 ∧ eQ (updN E e (eH (E e), eK (E e), 1) f) ≤ 1 ∧ (∀ p, p < 6 → (pW (S p) = 2 + f ↔ p = eH (updN E e (eH (E e), eK (E e), 1) f))) ∧ (∀ p, p < 6 → (pW (S p) = 4 + f ↔ p + 1 = eK (updN E e (eH (E e), eK (E e), 1) f)))
      by_cases cf : f = e
      · subst cf
        rw [updN_s]
        exact ⟨a1, a2, Nat.le_refl _, a4, a5⟩
      · rw [updN_n _ _ cf]
        exact hE f hf
    · rw [if_neg d]
      obtain ⟨H, eH'⟩ : ∃ z, z = eH (E e) := ⟨_, rfl⟩
      obtain ⟨K, eK'⟩ : ∃ z, z = eK (E e) - 1 := ⟨_, rfl⟩
      have hK : eK (E e) = K + 1 := by omega
      have hK6 : K < 6 := by omega
      rw [← eH'] at a1 a4
      have wH := (a4 H a1).mpr rfl
      have wK : pW (S K) = 4 + e := (a5 K hK6).mpr hK.symm
      have hne : K ≠ H := fun u => by rw [u] at wK; omega
      show SOk n D b (updN (updN S (eH (E e)) zz) (eK (E e) - 1) (2 + e, 0, 0, 0, 0, 0, 0)) ∧ EOk (updN (updN S (eH (E e)) zz) (eK (E e) - 1) (2 + e, 0, 0, 0, 0, 0, 0)) (updN E e (eK (E e) - 1, 0, 0)) ∧ cnt (updN (updN S (eH (E e)) zz) (eK (E e) - 1) (2 + e, 0, 0, 0, 0, 0, 0)) = cnt S ∧ (∀ p, p < 6 → (pW (updN (updN S (eH (E e)) zz) (eK (E e) - 1) (2 + e, 0, 0, 0, 0, 0, 0) p) = 1 ↔ pW (S p) = 1)) ∧ (∀ p, p < 6 → pW (S p) = 1 → updN (updN S (eH (E e)) zz) (eK (E e) - 1) (2 + e, 0, 0, 0, 0, 0, 0) p = S p)
      rw [← eH', ← eK']
      have hW : ∀ p, p < 6 → pW (updN (updN S H zz) K (2 + e, 0, 0, 0, 0, 0, 0) p) = (if p = K then 2 + e else if p = H then 0 else pW (S p)) := fun p hp => by
        by_cases q : p = K
        · subst q; rw [updN_s, if_pos rfl]
        · rw [updN_n _ _ q, if_neg q]
          by_cases r : p = H
          · subst r; rw [updN_s, if_pos rfl]; rfl
          · rw [updN_n _ _ r, if_neg r]
      refine ⟨(hS.up (hz 0 (by omega))).up (hz (2 + e) (by omega)), fun f hf => ?_, ?_, fun p hp => ?_, fun p hp u => ?_⟩
      · obtain ⟨f1, f2, f3, f4, f5⟩ := hE f hf
        by_cases cf : f = e
        · subst cf
          rw [updN_s]
          refine ⟨hK6, by show 0 ≤ 6; omega, by show 0 ≤ 1; omega, fun p hp => ?_, fun p hp => ?_⟩
          · rw [hW p hp]
            show _ ↔ p = K
            by_cases q : p = K
            · rw [if_pos q]; omega
            · rw [if_neg q]
              by_cases r : p = H
              · rw [if_pos r]; omega
              · rw [if_neg r]
                have := a4 p hp
                omega
          · rw [hW p hp]
            show _ ↔ p + 1 = 0
            by_cases q : p = K
            · rw [if_pos q]; omega
            · rw [if_neg q]
              by_cases r : p = H
              · rw [if_pos r]; omega
              · rw [if_neg r]
                have := a5 p hp
                omega
        · rw [updN_n _ _ cf]
          refine ⟨f1, f2, f3, fun p hp => ?_, fun p hp => ?_⟩
          · have z := f4 p hp
            rw [hW p hp]
            by_cases q : p = K
            · rw [if_pos q]
              rw [q, wK] at z
              rw [q]
              omega
            · rw [if_neg q]
              by_cases r : p = H
              · rw [if_pos r]
                rw [r, wH] at z
                rw [r]
                omega
              · rw [if_neg r]; exact z
          · have z := f5 p hp
            rw [hW p hp]
            by_cases q : p = K
            · rw [if_pos q]
              rw [q, wK] at z
              rw [q]
              omega
            · rw [if_neg q]
              by_cases r : p = H
              · rw [if_pos r]
                rw [r, wH] at z
                rw [r]
                omega
              · rw [if_neg r]; exact z
      · have g1 := cnt_up (S := S) (s := zz) a1
        rw [if_neg (show ¬ pW (S H) = 1 by omega), if_neg (show ¬ pW zz = 1 from fun u => by cases u)] at g1
        have g2 := cnt_up (S := updN S H zz) (s := (2 + e, 0, 0, 0, 0, 0, 0)) hK6
        rw [updN_n _ _ hne, if_neg (show ¬ pW (S K) = 1 by omega), if_neg (show ¬ pW ((2 + e, 0, 0, 0, 0, 0, 0) : SP) = 1 by show ¬ 2 + e = 1; omega)] at g2
        omega
      · rw [hW p hp]
        by_cases q : p = K
        · rw [if_pos q, q, wK]; omega
        · rw [if_neg q]
          by_cases r : p = H
          · rw [if_pos r, r, wH]; omega
          · rw [if_neg r]
      · have q : p ≠ K := fun q => by rw [q, wK] at u; omega
        have r : p ≠ H := fun r => by rw [r, wH] at u; omega
        rw [updN_n _ _ q, updN_n _ _ r]
theorem cha_ok {n b : Nat} {D : Nat → TD} {S : PS} {E : ES} (hS : SOk n D b S) (hE : EOk S E) : SOk n D b (chA (S, E)).1 ∧ EOk (chA (S, E)).1 (chA (S, E)).2 ∧ cnt (chA (S, E)).1 = cnt S ∧ (∀ p, p < 6 → (pW ((chA (S, E)).1 p) = 1 ↔ pW (S p) = 1)) ∧ (∀ p, p < 6 → pW (S p) = 1 → (chA (S, E)).1 p = S p) := by
  obtain ⟨g1, g2, g3, g4, g5⟩ := ch_ok (e := 0) (by omega) hS hE
  obtain ⟨k1, k2, k3, k4, k5⟩ := ch_ok (e := 1) (by omega) g1 g2
  exact ⟨k1, k2, k3.trans g3, fun p hp => (k4 p hp).trans (g4 p hp), fun p hp u => (k5 p hp ((g4 p hp).mpr u)).trans (g5 p hp u)⟩
theorem EnB.up {B B' : Nat → Nat → Int32} {E : ES} {q : Nat} {x : EN} (h : EnB B E) (f : ∀ a k, a = 156 ∨ a = 157 → k ≠ q → B' a k = B a k) (g : B' 157 q = tI (eK x) ∧ (eK x ≠ 0 → B' 156 q = nI (eQ x))) : EnB B' (updN E q x) := by
  intro e he
  by_cases c : e = q
  · subst c; rw [updN_s]; exact g
  · rw [updN_n _ _ c]
    exact ⟨(f _ _ (by omega) c).trans (h e he).1, fun u => (f _ _ (by omega) c).trans ((h e he).2 u)⟩
set_option maxHeartbeats 1000000 in
theorem m_161e {B : Nat → Nat → Int32} {J : Nat → Nat → Int64} {τ : tm_Tu} {n b c e : Nat} {D : Nat → TD} {S : PS} {E : ES} (he : e < 2) (h : PsB B c S) (hE : EnB B E) (hS : SOk n D b S) (hO : EOk S E) : ∃ B', R_161 2 [(0, .ref 131), (1, .int (nI e))] [] (mk B J τ) = R_161 2 [(0, .ref 131), (1, .int (nI (e + 1)))] [] (mk B' J τ) ∧ PsB B' c (chP e (S, E)).1 ∧ EnB B' (chP e (S, E)).2 ∧ (∀ a k, a ≠ 151 → a ≠ 156 → a ≠ 157 → B' a k = B a k) := by
  obtain ⟨x1, x2⟩ := hE e he
  obtain ⟨a1, a2, a3, a4, a5⟩ := hO e he
  unfold chP
  by_cases k : eK (E e) = 0
  · rw [if_pos k]
    rw [tI_z k] at x1
    refine ⟨B, ?_, h, hE, fun _ _ _ _ _ => rfl⟩
    rw [e_161_2]
    simp (disch := first | omega | (simp (disch := omega) only [n_ti, Int32.reduceToInt] <;> omega)) only [x1, e_161_96, n_add, nl_add, nr_add, n_mul, nl_mul, nr_mul, n_sub, nr_dec, n_div, nr_sub_1, nr_sub_2, nr_sub_3, nr_sub_4, nr_sub_7, nr_sub_10, nr_sub_11, nr_sub_20, nr_sub_48, nr_sub_97, nl_sub_3, nl_sub_4, nl_sub_12, nl_sub_24, nl_sub_32, nr_div_2, nr_div_4, z_lt, z_le, z_eq, z_cl, n_ti, Int.toNat_natCast, Int32.reduceToInt, Int32.reduceToNatClampNeg, zc_add, zc_sub, zc_add_1, zc_add_2, zc_add_3, zc_add_4, zc_add_8, zc_add_10, zc_add_12, zc_add_16, zc_add_20, zc_sub_1, zc_sub_2, zc_sub_4, zc_sub_10, zc_sub_20, zc_sub_48, zc_sub_97, zc_mul_4, t_ltZ, f_ltZ, t_leZ, f_leZ, t_eqZ, f_eqZ, t_ltN, f_ltN, t_leN, f_leN, t_eqN, f_eqN, ↓reduceIte, and_true, true_and, and_false, false_and, and_self, or_true, true_or, or_false, false_or, or_self, not_true_eq_false, not_false_eq_true, tu_same, tu_eq, tu_ne, b_V, b_I, b_J]
  · rw [if_neg k]
    have x2' := x2 k
    have x1' := x1
    rw [tI_s k] at x1'
    by_cases d : eQ (E e) = 0
    · rw [if_pos d]
      rw [d] at x2'
      refine ⟨tm_u B 156 e (nI 1), ?_, h.tr (fun a y u => by simp (disch := omega) only [tu_same, tu_eq, tu_ne]), hE.up (fun a y u v => by simp (disch := omega) only [tu_same, tu_eq, tu_ne]) ⟨by simp (disch := omega) only [tu_same, tu_eq, tu_ne]; exact x1, fun _ => by simp (disch := omega) only [tu_same, tu_eq, tu_ne]⟩, fun a y u v w => by simp (disch := omega) only [tu_same, tu_eq, tu_ne]⟩
      rw [e_161_2]
      simp (disch := first | omega | (simp (disch := omega) only [n_ti, Int32.reduceToInt] <;> omega)) only [x1', x2', e_161_96, n_add, nl_add, nr_add, n_mul, nl_mul, nr_mul, n_sub, nr_dec, n_div, nr_sub_1, nr_sub_2, nr_sub_3, nr_sub_4, nr_sub_7, nr_sub_10, nr_sub_11, nr_sub_20, nr_sub_48, nr_sub_97, nl_sub_3, nl_sub_4, nl_sub_12, nl_sub_24, nl_sub_32, nr_div_2, nr_div_4, z_lt, z_le, z_eq, z_cl, n_ti, Int.toNat_natCast, Int32.reduceToInt, Int32.reduceToNatClampNeg, zc_add, zc_sub, zc_add_1, zc_add_2, zc_add_3, zc_add_4, zc_add_8, zc_add_10, zc_add_12, zc_add_16, zc_add_20, zc_sub_1, zc_sub_2, zc_sub_4, zc_sub_10, zc_sub_20, zc_sub_48, zc_sub_97, zc_mul_4, t_ltZ, f_ltZ, t_leZ, f_leZ, t_eqZ, f_eqZ, t_ltN, f_ltN, t_leN, f_leN, t_eqN, f_eqN, ↓reduceIte, and_true, true_and, and_false, false_and, and_self, or_true, true_or, or_false, false_or, or_self, not_true_eq_false, not_false_eq_true, tu_same, tu_eq, tu_ne, b_V, b_I, b_J]
    · rw [if_neg d]
      have d1 : eQ (E e) = 1 := by omega
      rw [d1] at x2'
      obtain ⟨H, eH'⟩ : ∃ z, z = eH (E e) := ⟨_, rfl⟩
      obtain ⟨K, eK'⟩ : ∃ z, z = eK (E e) - 1 := ⟨_, rfl⟩
      have hK : eK (E e) = K + 1 := by omega
      have hK6 : K < 6 := by omega
      show ∃ B', _ ∧ PsB B' c (updN (updN S (eH (E e)) zz) (eK (E e) - 1) (2 + e, 0, 0, 0, 0, 0, 0)) ∧ EnB B' (updN E e (eK (E e) - 1, 0, 0)) ∧ _
      rw [← eH', ← eK']
      rw [← eK'] at x1'
      rw [← eH'] at a1 a4
      have wH := (a4 H a1).mpr rfl
      have wK : pW (S K) = 4 + e := (a5 K hK6).mpr hK.symm
      have hne : K ≠ H := fun u => by rw [u] at wK; omega
      have tH : pT (S H) = 0 := by
        by_cases q : pT (S H) = 0
        · exact q
        · have := ((hS H a1).2.2.2.2.2.1 q).1; omega
      have tK : pT (S K) = 0 := by
        by_cases q : pT (S K) = 0
        · exact q
        · have := ((hS K hK6).2.2.2.2.2.1 q).1; omega
      obtain ⟨B1, e1⟩ : ∃ z, z = tm_u B 156 e (nI 2) := ⟨_, rfl⟩
      have h1 : ∀ p, p < 6 → B1 151 p = nI (pW (S p)) := fun p hp => by rw [e1]; simp (disch := omega) only [tu_same, tu_eq, tu_ne]; exact (h p hp).1
      -- who held it goes out
      have loop : ∀ m j (B2 : Nat → Nat → Int32), j + m = 6 → (∀ p, p < 6 → B2 151 p = nI (if p < j ∧ p = H then 0 else pW (S p))) → (∀ a y, a ≠ 151 → B2 a y = B1 a y) → ∃ B3, R_161 44 [(0, .ref 131), (1, .int (nI e)), (2, .int (nI j))] [] (mk B2 J τ) = R_161 44 [(0, .ref 131), (1, .int (nI e)), (2, .int (nI 6))] [] (mk B3 J τ) ∧ (∀ p, p < 6 → B3 151 p = nI (if p = H then 0 else pW (S p))) ∧ (∀ a y, a ≠ 151 → B3 a y = B1 a y) := by
        intro m
        induction m with
        | zero =>
          intro j B2 hj f1 f2
          have : j = 6 := by omega
          subst this
          refine ⟨B2, rfl, fun p hp => ?_, f2⟩
          rw [f1 p hp]
          by_cases q : p = H
          · rw [if_pos ⟨hp, q⟩, if_pos q]
          · rw [if_neg (fun u => q u.2), if_neg q]
        | succ m ih =>
          intro j B2 hj f1 f2
          have hp : j < 6 := by omega
          have g := f1 j hp
          rw [if_neg (show ¬ (j < j ∧ j = H) by omega)] at g
          have w5 := (hS j hp).1
          by_cases q : j = H
          · have gw : pW (S j) = 2 + e := by rw [q]; exact wH
            rw [gw] at g
            obtain ⟨B3, p1, p2, p3⟩ := ih (j + 1) (tm_u B2 151 j 0) (by omega) (fun p hp' => by
              by_cases r : p = j
              · subst r
                rw [if_pos ⟨by omega, q⟩]
                simp (disch := omega) only [tu_same, tu_eq, tu_ne]
                rfl
              · simp (disch := omega) only [tu_same, tu_eq, tu_ne]
                rw [f1 p hp']
                by_cases s : p < j ∧ p = H
                · rw [if_pos s, if_pos ⟨by omega, s.2⟩]
                · rw [if_neg s, if_neg (fun u => by omega)]) (fun a y u => by simp (disch := omega) only [tu_same, tu_eq, tu_ne]; exact f2 a y u)
            refine ⟨B3, ?_, p2, p3⟩
            rw [← p1, e_161_44]
            simp (disch := first | omega | (simp (disch := omega) only [n_ti, Int32.reduceToInt] <;> omega)) only [g, e_161_69, n_add, nl_add, nr_add, n_mul, nl_mul, nr_mul, n_sub, nr_dec, n_div, nr_sub_1, nr_sub_2, nr_sub_3, nr_sub_4, nr_sub_7, nr_sub_10, nr_sub_11, nr_sub_20, nr_sub_48, nr_sub_97, nl_sub_3, nl_sub_4, nl_sub_12, nl_sub_24, nl_sub_32, nr_div_2, nr_div_4, z_lt, z_le, z_eq, z_cl, n_ti, Int.toNat_natCast, Int32.reduceToInt, Int32.reduceToNatClampNeg, zc_add, zc_sub, zc_add_1, zc_add_2, zc_add_3, zc_add_4, zc_add_8, zc_add_10, zc_add_12, zc_add_16, zc_add_20, zc_sub_1, zc_sub_2, zc_sub_4, zc_sub_10, zc_sub_20, zc_sub_48, zc_sub_97, zc_mul_4, t_ltZ, f_ltZ, t_leZ, f_leZ, t_eqZ, f_eqZ, t_ltN, f_ltN, t_leN, f_leN, t_eqN, f_eqN, ↓reduceIte, and_true, true_and, and_false, false_and, and_self, or_true, true_or, or_false, false_or, or_self, not_true_eq_false, not_false_eq_true, tu_same, tu_eq, tu_ne, b_V, b_I, b_J]
          · have gw : pW (S j) ≠ 2 + e := fun u => q ((a4 j hp).mp u)
            obtain ⟨B3, p1, p2, p3⟩ := ih (j + 1) B2 (by omega) (fun p hp' => by
              rw [f1 p hp']
              by_cases s : p < j ∧ p = H
              · rw [if_pos s, if_pos ⟨by omega, s.2⟩]
              · rw [if_neg s, if_neg (fun u => by omega)]) f2
            refine ⟨B3, ?_, p2, p3⟩
            rw [← p1, e_161_44]
            simp (disch := first | omega | (simp (disch := omega) only [n_ti, Int32.reduceToInt] <;> omega)) only [g, e_161_69, n_add, nl_add, nr_add, n_mul, nl_mul, nr_mul, n_sub, nr_dec, n_div, nr_sub_1, nr_sub_2, nr_sub_3, nr_sub_4, nr_sub_7, nr_sub_10, nr_sub_11, nr_sub_20, nr_sub_48, nr_sub_97, nl_sub_3, nl_sub_4, nl_sub_12, nl_sub_24, nl_sub_32, nr_div_2, nr_div_4, z_lt, z_le, z_eq, z_cl, n_ti, Int.toNat_natCast, Int32.reduceToInt, Int32.reduceToNatClampNeg, zc_add, zc_sub, zc_add_1, zc_add_2, zc_add_3, zc_add_4, zc_add_8, zc_add_10, zc_add_12, zc_add_16, zc_add_20, zc_sub_1, zc_sub_2, zc_sub_4, zc_sub_10, zc_sub_20, zc_sub_48, zc_sub_97, zc_mul_4, t_ltZ, f_ltZ, t_leZ, f_leZ, t_eqZ, f_eqZ, t_ltN, f_ltN, t_leN, f_leN, t_eqN, f_eqN, ↓reduceIte, and_true, true_and, and_false, false_and, and_self, or_true, true_or, or_false, false_or, or_self, not_true_eq_false, not_false_eq_true, tu_same, tu_eq, tu_ne, b_V, b_I, b_J]
      obtain ⟨B3, p1, p2, p3⟩ := loop 6 0 B1 (by omega) (fun p hp => by rw [if_neg (by omega)]; exact h1 p hp) (fun _ _ _ => rfl)
      have p1' : R_161 44 [(0, .ref 131), (1, .int (nI e)), (2, .int 0)] [] (mk B1 J τ) = R_161 44 [(0, .ref 131), (1, .int (nI e)), (2, .int (nI 6))] [] (mk B3 J τ) := p1
      have i157 : B3 157 e = nI K := by rw [p3 _ _ (by omega), e1]; simp (disch := omega) only [x1', tu_same, tu_eq, tu_ne]
      have F3 : ∀ a y, a ≠ 151 → a ≠ 156 → B3 a y = B a y := fun a y u v => by rw [p3 a y u, e1]; simp (disch := omega) only [tu_same, tu_eq, tu_ne]
      refine ⟨tm_u (tm_u B3 151 K (nI (2 + e))) 157 e (-1), ?_, fun p hp => ?_, hE.up (fun a y u v => ?_) ⟨by simp (disch := omega) only [tu_same, tu_eq, tu_ne]; rfl, fun u => absurd rfl u⟩, fun a y u v w => by simp (disch := omega) only [tu_same, tu_eq, tu_ne]; exact F3 a y u v⟩
      · have st : R_161 2 [(0, .ref 131), (1, .int (nI e))] [] (mk B J τ) = R_161 44 [(0, .ref 131), (1, .int (nI e)), (2, .int 0)] [] (mk B1 J τ) := by
          rw [e_161_2, e1]
          simp (disch := first | omega | (simp (disch := omega) only [n_ti, Int32.reduceToInt] <;> omega)) only [x1', x2', n_add, nl_add, nr_add, n_mul, nl_mul, nr_mul, n_sub, nr_dec, n_div, nr_sub_1, nr_sub_2, nr_sub_3, nr_sub_4, nr_sub_7, nr_sub_10, nr_sub_11, nr_sub_20, nr_sub_48, nr_sub_97, nl_sub_3, nl_sub_4, nl_sub_12, nl_sub_24, nl_sub_32, nr_div_2, nr_div_4, z_lt, z_le, z_eq, z_cl, n_ti, Int.toNat_natCast, Int32.reduceToInt, Int32.reduceToNatClampNeg, zc_add, zc_sub, zc_add_1, zc_add_2, zc_add_3, zc_add_4, zc_add_8, zc_add_10, zc_add_12, zc_add_16, zc_add_20, zc_sub_1, zc_sub_2, zc_sub_4, zc_sub_10, zc_sub_20, zc_sub_48, zc_sub_97, zc_mul_4, t_ltZ, f_ltZ, t_leZ, f_leZ, t_eqZ, f_eqZ, t_ltN, f_ltN, t_leN, f_leN, t_eqN, f_eqN, ↓reduceIte, and_true, true_and, and_false, false_and, and_self, or_true, true_or, or_false, false_or, or_self, not_true_eq_false, not_false_eq_true, tu_same, tu_eq, tu_ne, b_V, b_I, b_J]
        rw [st, p1', e_161_44]
        simp (disch := first | omega | (simp (disch := omega) only [n_ti, Int32.reduceToInt] <;> omega)) only [i157, e_161_96, n_add, nl_add, nr_add, n_mul, nl_mul, nr_mul, n_sub, nr_dec, n_div, nr_sub_1, nr_sub_2, nr_sub_3, nr_sub_4, nr_sub_7, nr_sub_10, nr_sub_11, nr_sub_20, nr_sub_48, nr_sub_97, nl_sub_3, nl_sub_4, nl_sub_12, nl_sub_24, nl_sub_32, nr_div_2, nr_div_4, z_lt, z_le, z_eq, z_cl, n_ti, Int.toNat_natCast, Int32.reduceToInt, Int32.reduceToNatClampNeg, zc_add, zc_sub, zc_add_1, zc_add_2, zc_add_3, zc_add_4, zc_add_8, zc_add_10, zc_add_12, zc_add_16, zc_add_20, zc_sub_1, zc_sub_2, zc_sub_4, zc_sub_10, zc_sub_20, zc_sub_48, zc_sub_97, zc_mul_4, t_ltZ, f_ltZ, t_leZ, f_leZ, t_eqZ, f_eqZ, t_ltN, f_ltN, t_leN, f_leN, t_eqN, f_eqN, ↓reduceIte, and_true, true_and, and_false, false_and, and_self, or_true, true_or, or_false, false_or, or_self, not_true_eq_false, not_false_eq_true, tu_same, tu_eq, tu_ne, b_V, b_I, b_J]
      · obtain ⟨y0, y1, y3, y4⟩ := h p hp
        by_cases q : p = K
        · subst q
          rw [updN_s]
          refine ⟨by simp (disch := omega) only [tu_same, tu_eq, tu_ne], fun u => ?_, ?_, fun u => absurd rfl u⟩
          · have : 2 + e = 1 := u
            omega
          · simp (disch := omega) only [tu_same, tu_eq, tu_ne]
            rw [F3 154 p (by omega) (by omega), y3, tK]
        · rw [updN_n _ _ q]
          by_cases r : p = H
          · subst r
            rw [updN_s]
            refine ⟨?_, fun u => (by cases u), ?_, fun u => absurd rfl u⟩
            · simp (disch := omega) only [tu_same, tu_eq, tu_ne]
              rw [p2 p hp, if_pos rfl]
              rfl
            · simp (disch := omega) only [tu_same, tu_eq, tu_ne]
              rw [F3 154 p (by omega) (by omega), y3, tH]
              rfl
          · rw [updN_n _ _ r]
            refine ⟨?_, fun u => ⟨?_, ?_⟩, ?_, fun u => ⟨?_, ?_, ?_⟩⟩
            · simp (disch := omega) only [tu_same, tu_eq, tu_ne]
              rw [p2 p hp, if_neg r]
            · simp (disch := omega) only [tu_same, tu_eq, tu_ne]; rw [F3 _ _ (by omega) (by omega)]; exact (y1 u).1
            · simp (disch := omega) only [tu_same, tu_eq, tu_ne]; rw [F3 _ _ (by omega) (by omega)]; exact (y1 u).2
            · simp (disch := omega) only [tu_same, tu_eq, tu_ne]; rw [F3 _ _ (by omega) (by omega)]; exact y3
            · simp (disch := omega) only [tu_same, tu_eq, tu_ne]; rw [F3 _ _ (by omega) (by omega)]; exact (y4 u).1
            · simp (disch := omega) only [tu_same, tu_eq, tu_ne]; rw [F3 _ _ (by omega) (by omega)]; exact (y4 u).2.1
            · simp (disch := omega) only [tu_same, tu_eq, tu_ne]; rw [F3 _ _ (by omega) (by omega)]; exact (y4 u).2.2
      · rcases u with u | u <;> subst u
        · simp (disch := omega) only [tu_same, tu_eq, tu_ne]
          rw [p3 _ _ (by omega), e1]
          simp (disch := omega) only [tu_same, tu_eq, tu_ne]
        · simp (disch := omega) only [tu_same, tu_eq, tu_ne]
          exact F3 _ _ (by omega) (by omega)
theorem m_161 {B : Nat → Nat → Int32} {J : Nat → Nat → Int64} {τ : tm_Tu} {n b c : Nat} {D : Nat → TD} {S : PS} {E : ES} (h : PsB B c S) (hE : EnB B E) (hS : SOk n D b S) (hO : EOk S E) : ∃ B', F_161 [.ref 131] (mk B J τ) = some (none, mk B' J τ) ∧ PsB B' c (chA (S, E)).1 ∧ EnB B' (chA (S, E)).2 ∧ (∀ a k, a ≠ 151 → a ≠ 156 → a ≠ 157 → B' a k = B a k) := by
  obtain ⟨B1, g1, g2, g3, g4⟩ := m_161e (J := J) (τ := τ) (e := 0) (by omega) h hE hS hO
  obtain ⟨k1, k2, -⟩ := ch_ok (e := 0) (by omega) hS hO
  obtain ⟨B2, p1, p2, p3, p4⟩ := m_161e (J := J) (τ := τ) (e := 1) (by omega) g2 g3 k1 k2
  have g1' : R_161 2 [(0, .ref 131), (1, .int 0)] [] (mk B J τ) = R_161 2 [(0, .ref 131), (1, .int (nI 1))] [] (mk B1 J τ) := g1
  refine ⟨B2, ?_, p2, p3, fun a k u v w => (p4 a k u v w).trans (g4 a k u v w)⟩
  rw [e_161, g1', p1, e_161_2]
  simp (disch := first | omega | (simp (disch := omega) only [n_ti, Int32.reduceToInt] <;> omega)) only [n_add, nl_add, nr_add, n_mul, nl_mul, nr_mul, n_sub, nr_dec, n_div, nr_sub_1, nr_sub_2, nr_sub_3, nr_sub_4, nr_sub_7, nr_sub_10, nr_sub_11, nr_sub_20, nr_sub_48, nr_sub_97, nl_sub_3, nl_sub_4, nl_sub_12, nl_sub_24, nl_sub_32, nr_div_2, nr_div_4, z_lt, z_le, z_eq, z_cl, n_ti, Int.toNat_natCast, Int32.reduceToInt, Int32.reduceToNatClampNeg, zc_add, zc_sub, zc_add_1, zc_add_2, zc_add_3, zc_add_4, zc_add_8, zc_add_10, zc_add_12, zc_add_16, zc_add_20, zc_sub_1, zc_sub_2, zc_sub_4, zc_sub_10, zc_sub_20, zc_sub_48, zc_sub_97, zc_mul_4, t_ltZ, f_ltZ, t_leZ, f_leZ, t_eqZ, f_eqZ, t_ltN, f_ltN, t_leN, f_leN, t_eqN, f_eqN, ↓reduceIte, and_true, true_and, and_false, false_and, and_self, or_true, true_or, or_false, false_or, or_self, not_true_eq_false, not_false_eq_true, tu_same, tu_eq, tu_ne, b_V, b_I, b_J]
/-- what the model has noted of a person behind a BEAT -/
def CeB (B : Nat → Nat → Int32) (c p : Nat) (s : SP) : Prop := B 160 (200 * p + c) = nI (pW s) ∧ B 161 (200 * p + c) = (if pW s = 1 then nI (pF s) else -1) ∧ B 162 (200 * p + c) = (if pW s = 1 then nI (pD s) else -1) ∧ B 163 (200 * p + c) = tI (pT s)
def FeR (B : Nat → Nat → Int32) (c p : Nat) (s : SP) : Prop := ∀ i, i < 4 → B 164 (800 * p + 4 * c + i) = (if pW s = 1 then nI (pX s / 4 ^ i % 4) else -1)
theorem m_163 {J : Nat → Nat → Int64} {τ : tm_Tu} {c b : Nat} {S : PS} (hb : b < 200) (hW : ∀ p, p < 6 → pW (S p) ≤ 5) : ∀ m j (B : Nat → Nat → Int32), j + m = 6 → PsB B c S → B 131 59 = nI b → ∃ B', R_163 2 [(0, .ref 131), (1, .int (nI j))] [] (mk B J τ) = some (none, mk B' J τ) ∧ (∀ p, j ≤ p → p < 6 → CeB B' b p (S p)) ∧ (∀ a k, ¬ (160 ≤ a ∧ a ≤ 163) → B' a k = B a k) ∧ (∀ a p q, p < 6 → q < 200 → (p < j ∨ q ≠ b) → B' a (200 * p + q) = B a (200 * p + q)) := by
  intro m
  induction m with
  | zero =>
    intro j B hj h h59
    refine ⟨B, ?_, fun p u v => by omega, fun _ _ _ => rfl, fun _ _ _ _ _ _ => rfl⟩
    rw [e_163_2]
    simp (disch := first | omega | (simp (disch := omega) only [n_ti, Int32.reduceToInt] <;> omega)) only [n_add, nl_add, nr_add, n_mul, nl_mul, nr_mul, n_sub, nr_dec, n_div, nr_sub_1, nr_sub_2, nr_sub_3, nr_sub_4, nr_sub_7, nr_sub_10, nr_sub_11, nr_sub_20, nr_sub_48, nr_sub_97, nl_sub_3, nl_sub_4, nl_sub_12, nl_sub_24, nl_sub_32, nr_div_2, nr_div_4, z_lt, z_le, z_eq, z_cl, n_ti, Int.toNat_natCast, Int32.reduceToInt, Int32.reduceToNatClampNeg, zc_add, zc_sub, zc_add_1, zc_add_2, zc_add_3, zc_add_4, zc_add_8, zc_add_10, zc_add_12, zc_add_16, zc_add_20, zc_sub_1, zc_sub_2, zc_sub_4, zc_sub_10, zc_sub_20, zc_sub_48, zc_sub_97, zc_mul_4, t_ltZ, f_ltZ, t_leZ, f_leZ, t_eqZ, f_eqZ, t_ltN, f_ltN, t_leN, f_leN, t_eqN, f_eqN, ↓reduceIte, and_true, true_and, and_false, false_and, and_self, or_true, true_or, or_false, false_or, or_self, not_true_eq_false, not_false_eq_true, tu_same, tu_eq, tu_ne, b_V, b_I, b_J]
  | succ m ih =>
    intro j B hj h h59
    have hp : j < 6 := by omega
    obtain ⟨y0, y1, y3, y4⟩ := h j hp
    have w5 := hW j hp
    obtain ⟨B1, e1⟩ : ∃ z, z = tm_u (tm_u (tm_u (tm_u B 160 (200 * j + b) (nI (pW (S j)))) 161 (200 * j + b) (if pW (S j) = 1 then nI (pF (S j)) else -1)) 162 (200 * j + b) (if pW (S j) = 1 then nI (pD (S j)) else -1)) 163 (200 * j + b) (tI (pT (S j))) := ⟨_, rfl⟩
    have F1 : ∀ a k, ¬ (160 ≤ a ∧ a ≤ 163 ∧ k = 200 * j + b) → B1 a k = B a k := fun a k u => by rw [e1]; simp (disch := omega) only [tu_same, tu_eq, tu_ne]
    obtain ⟨B', g1, g2, g3, g4⟩ := ih (j + 1) B1 (by omega) (h.tr (fun a k u => F1 a k (by omega))) ((F1 _ _ (by omega)).trans h59)
    refine ⟨B', ?_, fun p u v => ?_, fun a k u => (g3 a k u).trans (F1 a k (by omega)), fun a p q u v w => ?_⟩
    · rw [← g1, e_163_2, e1]
      by_cases cw : pW (S j) = 1
      · rw [if_pos cw, if_pos cw]
        obtain ⟨z1, z2⟩ := y1 cw
        rw [cw] at y0 ⊢
        simp (disch := first | omega | (simp (disch := omega) only [n_ti, Int32.reduceToInt] <;> omega)) only [h59, y0, z1, z2, y3, e_163_63, e_163_98, n_add, nl_add, nr_add, n_mul, nl_mul, nr_mul, n_sub, nr_dec, n_div, nr_sub_1, nr_sub_2, nr_sub_3, nr_sub_4, nr_sub_7, nr_sub_10, nr_sub_11, nr_sub_20, nr_sub_48, nr_sub_97, nl_sub_3, nl_sub_4, nl_sub_12, nl_sub_24, nl_sub_32, nr_div_2, nr_div_4, z_lt, z_le, z_eq, z_cl, n_ti, Int.toNat_natCast, Int32.reduceToInt, Int32.reduceToNatClampNeg, zc_add, zc_sub, zc_add_1, zc_add_2, zc_add_3, zc_add_4, zc_add_8, zc_add_10, zc_add_12, zc_add_16, zc_add_20, zc_sub_1, zc_sub_2, zc_sub_4, zc_sub_10, zc_sub_20, zc_sub_48, zc_sub_97, zc_mul_4, t_ltZ, f_ltZ, t_leZ, f_leZ, t_eqZ, f_eqZ, t_ltN, f_ltN, t_leN, f_leN, t_eqN, f_eqN, ↓reduceIte, and_true, true_and, and_false, false_and, and_self, or_true, true_or, or_false, false_or, or_self, not_true_eq_false, not_false_eq_true, tu_same, tu_eq, tu_ne, b_V, b_I, b_J]
      · rw [if_neg cw, if_neg cw]
        simp (disch := first | omega | (simp (disch := omega) only [n_ti, Int32.reduceToInt] <;> omega)) only [h59, y0, y3, e_163_63, e_163_98, n_add, nl_add, nr_add, n_mul, nl_mul, nr_mul, n_sub, nr_dec, n_div, nr_sub_1, nr_sub_2, nr_sub_3, nr_sub_4, nr_sub_7, nr_sub_10, nr_sub_11, nr_sub_20, nr_sub_48, nr_sub_97, nl_sub_3, nl_sub_4, nl_sub_12, nl_sub_24, nl_sub_32, nr_div_2, nr_div_4, z_lt, z_le, z_eq, z_cl, n_ti, Int.toNat_natCast, Int32.reduceToInt, Int32.reduceToNatClampNeg, zc_add, zc_sub, zc_add_1, zc_add_2, zc_add_3, zc_add_4, zc_add_8, zc_add_10, zc_add_12, zc_add_16, zc_add_20, zc_sub_1, zc_sub_2, zc_sub_4, zc_sub_10, zc_sub_20, zc_sub_48, zc_sub_97, zc_mul_4, t_ltZ, f_ltZ, t_leZ, f_leZ, t_eqZ, f_eqZ, t_ltN, f_ltN, t_leN, f_leN, t_eqN, f_eqN, ↓reduceIte, and_true, true_and, and_false, false_and, and_self, or_true, true_or, or_false, false_or, or_self, not_true_eq_false, not_false_eq_true, tu_same, tu_eq, tu_ne, b_V, b_I, b_J]
    · by_cases e : p = j
      · subst e
        refine ⟨?_, ?_, ?_, ?_⟩
        · rw [g4 _ p b v hb (Or.inl (by omega)), e1]; simp (disch := omega) only [tu_same, tu_eq, tu_ne]
        · rw [g4 _ p b v hb (Or.inl (by omega)), e1]; simp (disch := omega) only [tu_same, tu_eq, tu_ne]
        · rw [g4 _ p b v hb (Or.inl (by omega)), e1]; simp (disch := omega) only [tu_same, tu_eq, tu_ne]
        · rw [g4 _ p b v hb (Or.inl (by omega)), e1]; simp (disch := omega) only [tu_same, tu_eq, tu_ne]
      · exact g2 p (by omega) v
    · rw [g4 a p q u v (by omega)]
      exact F1 _ _ (by omega)
