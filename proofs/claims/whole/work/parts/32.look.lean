/-! what is SEEN: pick, look; saw, seenAt -/
def pl (good : Nat → Bool) : Nat → List Nat
  | 0 => []
  | j + 1 => if good j = true then j :: pl good j else pl good j
theorem pl_mem (good : Nat → Bool) : ∀ n j, j ∈ pl good n → j < n := by
  intro n
  induction n with
  | zero => intro j h; cases h
  | succ n ih =>
    intro j h
    unfold pl at h
    by_cases hg : good n = true
    · rw [if_pos hg] at h
      rcases List.mem_cons.mp h with e | e
      · omega
      · have := ih j e; omega
    · rw [if_neg hg] at h
      have := ih j h; omega
theorem pl_len (good : Nat → Bool) : ∀ n, (pl good n).length ≤ n := by
  intro n
  induction n with
  | zero => exact Nat.le_refl _
  | succ n ih =>
    unfold pl
    by_cases hg : good n = true
    · rw [if_pos hg]; show (pl good n).length + 1 ≤ _; omega
    · rw [if_neg hg]; omega
def lkl (jd sg : Nat → Nat) : List Nat → Nat → Nat → Nat
  | [], _, a => a
  | j :: r, m, a => if sg j = 4 then lkl jd sg r m a else if m.testBit (jd j) = true then lkl jd sg r m a else if m ≠ 0 ∧ sg j ≠ a then 4 else lkl jd sg r (m ||| 2 ^ jd j) (sg j)
def sw (good : Nat → Bool) (jd sg : Nat → Nat) (x : Nat) : Nat → Nat
  | 0 => 4
  | j + 1 => if good j = true ∧ jd j = x ∧ sg j ≠ 4 then sg j else sw good jd sg x j
/-- of three judges (4: saw nothing) what is SEEN -/
def cmb (a b c : Nat) : Nat := if a = 4 then (if b = 4 then c else if c = 4 then b else if b = c then b else 4) else if b = 4 then (if c = 4 then a else if a = c then a else 4) else if a = b then (if c = 4 then a else if a = c then a else 4) else 4
def hrd (m a x s : Nat) : Nat := if m.testBit x = true then a else s
theorem lk_eq (good : Nat → Bool) (jd sg : Nat → Nat) : ∀ n, (∀ j, j < n → jd j < 3) → ∀ m a, m < 8 → (m = 0 → a = 4) → (m ≠ 0 → a ≠ 4) → lkl jd sg (pl good n) m a = cmb (hrd m a 0 (sw good jd sg 0 n)) (hrd m a 1 (sw good jd sg 1 n)) (hrd m a 2 (sw good jd sg 2 n)) := by
  intro n
  induction n with
  | zero =>
    intro _ m a hm h0 h1
    have hc : m = 0 ∨ m = 1 ∨ m = 2 ∨ m = 3 ∨ m = 4 ∨ m = 5 ∨ m = 6 ∨ m = 7 := by omega
    rcases hc with rfl | rfl | rfl | rfl | rfl | rfl | rfl | rfl <;> simp [pl, lkl, sw, hrd, cmb, Nat.testBit] <;> first | omega | (intros; omega) | skip
  | succ n ih =>
    intro hj m a hm h0 h1
    have ih' := ih (fun j h => hj j (by omega))
    by_cases hg : good n = true
    · have hp : pl good (n + 1) = n :: pl good n := by
        show (if good n = true then n :: pl good n else pl good n) = _
        rw [if_pos hg]
      rw [hp]
      show (if sg n = 4 then lkl jd sg (pl good n) m a else if m.testBit (jd n) = true then lkl jd sg (pl good n) m a else if m ≠ 0 ∧ sg n ≠ a then 4 else lkl jd sg (pl good n) (m ||| 2 ^ jd n) (sg n)) = _
      have hsw : ∀ x, sw good jd sg x (n + 1) = if good n = true ∧ jd n = x ∧ sg n ≠ 4 then sg n else sw good jd sg x n := fun x => rfl
      rw [hsw, hsw, hsw]
      by_cases hs : sg n = 4
      · rw [if_pos hs, if_neg (by omega), if_neg (by omega), if_neg (by omega)]
        exact ih' m a hm h0 h1
      · rw [if_neg hs]
        have hd := hj n (by omega)
        have hdc : jd n = 0 ∨ jd n = 1 ∨ jd n = 2 := by omega
        by_cases hb : m.testBit (jd n) = true
        · rw [if_pos hb, ih' m a hm h0 h1]
          rcases hdc with e | e | e <;> rw [e] at hb ⊢ <;> simp [hg, hs, hrd, hb]
        · rw [if_neg hb]
          have hc : m = 0 ∨ m = 1 ∨ m = 2 ∨ m = 3 ∨ m = 4 ∨ m = 5 ∨ m = 6 ∨ m = 7 := by omega
          generalize sw good jd sg 0 n = s0 at ih' ⊢
          generalize sw good jd sg 1 n = s1 at ih' ⊢
          generalize sw good jd sg 2 n = s2 at ih' ⊢
          generalize sg n = v at hs ⊢
          by_cases hva : m ≠ 0 ∧ v ≠ a
          · rw [if_pos hva]
            rcases hdc with e | e | e <;> rw [e] at hb ⊢ <;> rcases hc with rfl | rfl | rfl | rfl | rfl | rfl | rfl | rfl <;> simp [Nat.testBit] at hb <;> simp [hg, hs, hrd, Nat.testBit, cmb] <;> (repeat' split) <;> omega
          · rw [if_neg hva, ih' (m ||| 2 ^ jd n) v (by
              rcases hdc with e | e | e <;> rw [e] <;> rcases hc with rfl | rfl | rfl | rfl | rfl | rfl | rfl | rfl <;> decide) (by
              intro h; exfalso; revert h
              rcases hdc with e | e | e <;> rw [e] <;> rcases hc with rfl | rfl | rfl | rfl | rfl | rfl | rfl | rfl <;> decide) (fun _ => hs)]
            rcases hdc with e | e | e <;> rw [e] at hb ⊢ <;> rcases hc with rfl | rfl | rfl | rfl | rfl | rfl | rfl | rfl <;> simp [Nat.testBit] at hb <;> simp [Nat.testBit] at hva <;> simp [hg, hs, hrd, Nat.testBit] <;> (try subst hva) <;> rfl
    · have hp : pl good (n + 1) = pl good n := by
        show (if good n = true then n :: pl good n else pl good n) = _
        rw [if_neg hg]
      have hsw : ∀ x, sw good jd sg x (n + 1) = sw good jd sg x n := fun x => by
        show (if good n = true ∧ jd n = x ∧ sg n ≠ 4 then sg n else sw good jd sg x n) = _
        rw [if_neg (fun h => hg h.1)]
      rw [hp, hsw, hsw, hsw]
      exact ih' m a hm h0 h1
/-- what is SEEN, out of the judges' tapes -/
def sn (good : Nat → Bool) (jd sg : Nat → Nat) (n : Nat) : Nat := cmb (sw good jd sg 0 n) (sw good jd sg 1 n) (sw good jd sg 2 n)
theorem lk_sn (good : Nat → Bool) (jd sg : Nat → Nat) (n : Nat) (h : ∀ j, j < n → jd j < 3) : lkl jd sg (pl good n) 0 4 = sn good jd sg n := by
  rw [lk_eq good jd sg n h 0 4 (by omega) (fun _ => rfl) (fun h => absurd rfl h)]
  rfl
theorem sw_le (good : Nat → Bool) (jd sg : Nat → Nat) (x : Nat) : ∀ n, (∀ j, j < n → sg j ≤ 4) → sw good jd sg x n ≤ 4 := by
  intro n
  induction n with
  | zero => intro _; exact Nat.le_refl _
  | succ n ih =>
    intro h
    unfold sw
    by_cases c : good n = true ∧ jd n = x ∧ sg n ≠ 4
    · rw [if_pos c]; exact h n (by omega)
    · rw [if_neg c]; exact ih (fun j hj => h j (by omega))
/-- the class's tapes at a tick -/
def JA (A : Nat → Nat → Int32) (J : Nat → Nat → Int64) (jd sg : Nat → Nat) (tick j : Nat) : Prop := A 36 j = nI (jd j) ∧ jd j < 3 ∧ sg j ≤ 4 ∧ ∃ f l : Nat, f ≤ 796 ∧ l ≤ 200 ∧ A 38 j = nI f ∧ A 39 j = nI l ∧ (tick < f ∨ f + l ≤ tick → sg j = 4) ∧ (f ≤ tick → tick < f + l → sgJ J j (tick - f) = sg j)
def JG (A : Nat → Nat → Int32) (good : Nat → Bool) (p k : Int32) (j : Nat) : Prop := good j = true ↔ (A 37 j = p ∧ (A 40 j).toInt ≤ k.toInt ∧ ((A 41 j).toInt = -1 ∨ k.toInt < (A 41 j).toInt))
theorem s_234 {A : Nat → Nat → Int32} {J : Nat → Nat → Int64} {τ : tm_Tu} {jd sg : Nat → Nat} (tick j : Nat) (hj : j < 30) (ht : tick < 800) (h : JA A J jd sg tick j) : F_234 [.ref 34, .int (nI j), .int (nI tick)] (mk A J τ) = some (some (.int (nI (sg j))), mk A J τ) := by
  obtain ⟨h1, h2, h3, f, l, h4, h5, h6, h7, h8, h9⟩ := h
  by_cases c1 : tick < f
  · rw [e_234, h8 (Or.inl c1)]
    have e : (nI tick - nI f).toInt = (tick : Int) - f := pk_sub_toInt (by omega) (by omega)
    simp (disch := first | omega | (simp (disch := omega) only [n_ti, Int32.reduceToInt] <;> omega)) only [h6, h7, e, e_234_30, n_add, nl_add, nr_add, n_mul, nl_mul, nr_mul, n_sub, nr_dec, n_div, nr_sub_1, nr_sub_2, nr_sub_3, nr_sub_4, nr_sub_7, nr_sub_10, nr_sub_11, nr_sub_20, nr_sub_48, nr_sub_97, nl_sub_3, nl_sub_4, nl_sub_12, nl_sub_24, nl_sub_32, nr_div_2, nr_div_4, z_lt, z_le, z_eq, z_cl, n_ti, Int.toNat_natCast, Int32.reduceToInt, Int32.reduceToNatClampNeg, zc_add, zc_sub, zc_add_1, zc_add_2, zc_add_3, zc_add_4, zc_add_8, zc_add_10, zc_add_12, zc_add_16, zc_add_20, zc_sub_1, zc_sub_2, zc_sub_4, zc_sub_10, zc_sub_20, zc_sub_48, zc_sub_97, zc_mul_4, t_ltZ, f_ltZ, t_leZ, f_leZ, t_eqZ, f_eqZ, t_ltN, f_ltN, t_leN, f_leN, t_eqN, f_eqN, ↓reduceIte, and_true, true_and, and_false, false_and, and_self, or_true, true_or, or_false, false_or, or_self, not_true_eq_false, not_false_eq_true, tu_same, tu_eq, tu_ne, b_V, b_I, b_J]
    rfl
  · by_cases c2 : tick < f + l
    · have e : (tick - f) - (tick - f) / 20 * 20 = (tick - f) % 20 := by omega
      have r : (J 35 (j * 10 + (tick - f) / 20) >>> ((nI (3 * ((tick - f) % 20))).toInt64 &&& 63)).toInt32 &&& 7 = nI (sg j) := (dg_rd (J 35 (j * 10 + (tick - f) / 20)) (k := 3 * ((tick - f) % 20)) (w := 3) (by omega) (by omega) (by omega)).trans (congrArg nI (h9 (by omega) c2))
      rw [e_234]
      simp (disch := first | omega | (simp (disch := omega) only [n_ti, Int32.reduceToInt] <;> omega)) only [h6, h7, nr_div_20, e, r, n_add, nl_add, nr_add, n_mul, nl_mul, nr_mul, n_sub, nr_dec, n_div, nr_sub_1, nr_sub_2, nr_sub_3, nr_sub_4, nr_sub_7, nr_sub_10, nr_sub_11, nr_sub_20, nr_sub_48, nr_sub_97, nl_sub_3, nl_sub_4, nl_sub_12, nl_sub_24, nl_sub_32, nr_div_2, nr_div_4, z_lt, z_le, z_eq, z_cl, n_ti, Int.toNat_natCast, Int32.reduceToInt, Int32.reduceToNatClampNeg, zc_add, zc_sub, zc_add_1, zc_add_2, zc_add_3, zc_add_4, zc_add_8, zc_add_10, zc_add_12, zc_add_16, zc_add_20, zc_sub_1, zc_sub_2, zc_sub_4, zc_sub_10, zc_sub_20, zc_sub_48, zc_sub_97, zc_mul_4, t_ltZ, f_ltZ, t_leZ, f_leZ, t_eqZ, f_eqZ, t_ltN, f_ltN, t_leN, f_leN, t_eqN, f_eqN, ↓reduceIte, and_true, true_and, and_false, false_and, and_self, or_true, true_or, or_false, false_or, or_self, not_true_eq_false, not_false_eq_true, tu_same, tu_eq, tu_ne, b_V, b_I, b_J]
    · rw [e_234, h8 (Or.inr (by omega))]
      simp (disch := first | omega | (simp (disch := omega) only [n_ti, Int32.reduceToInt] <;> omega)) only [h6, h7, e_234_30, n_add, nl_add, nr_add, n_mul, nl_mul, nr_mul, n_sub, nr_dec, n_div, nr_sub_1, nr_sub_2, nr_sub_3, nr_sub_4, nr_sub_7, nr_sub_10, nr_sub_11, nr_sub_20, nr_sub_48, nr_sub_97, nl_sub_3, nl_sub_4, nl_sub_12, nl_sub_24, nl_sub_32, nr_div_2, nr_div_4, z_lt, z_le, z_eq, z_cl, n_ti, Int.toNat_natCast, Int32.reduceToInt, Int32.reduceToNatClampNeg, zc_add, zc_sub, zc_add_1, zc_add_2, zc_add_3, zc_add_4, zc_add_8, zc_add_10, zc_add_12, zc_add_16, zc_add_20, zc_sub_1, zc_sub_2, zc_sub_4, zc_sub_10, zc_sub_20, zc_sub_48, zc_sub_97, zc_mul_4, t_ltZ, f_ltZ, t_leZ, f_leZ, t_eqZ, f_eqZ, t_ltN, f_ltN, t_leN, f_leN, t_eqN, f_eqN, ↓reduceIte, and_true, true_and, and_false, false_and, and_self, or_true, true_or, or_false, false_or, or_self, not_true_eq_false, not_false_eq_true, tu_same, tu_eq, tu_ne, b_V, b_I, b_J]
      rfl
theorem msk_t : ∀ m : Fin 8, ∀ d : Fin 3, ((nI m.val &&& (1 <<< (nI d.val &&& 31))).toInt = 0 ↔ ¬ m.val.testBit d.val = true) ∧ (nI m.val ||| (1 <<< (nI d.val &&& 31))) = nI (m.val ||| 2 ^ d.val) ∧ (m.val ||| 2 ^ d.val) < 8 := by decide +kernel
theorem l_235 {A : Nat → Nat → Int32} {J : Nat → Nat → Int64} {τ : tm_Tu} {jd sg : Nat → Nat} (tick n : Nat) (hn : n ≤ 30) (ht : tick < 800) (hJ : ∀ j, j < n → JA A J jd sg tick j) : ∀ (r : List Nat) (i m a : Nat), (∀ j, j ∈ r → j < n) → A 34 10 = nI (i + r.length) → i + r.length ≤ 30 → (∀ q, q < r.length → A 42 (i + q) = nI (r.getD q 0)) → m < 8 → a ≤ 4 →
    R_235 16 [(0, .ref 34), (1, .int (nI tick)), (2, .int (nI a)), (3, .int (nI m)), (4, .int (nI i))] [] (mk A J τ) = some (some (.int (nI (lkl jd sg r m a))), mk A J τ) := by
  intro r
  induction r with
  | nil =>
    intro i m a _ h1 _ _ _ _
    rw [e_235_16]
    have h1' : A 34 10 = nI i := h1
    have : i ≤ 30 := by assumption
    simp (disch := first | omega | (simp (disch := omega) only [n_ti, Int32.reduceToInt] <;> omega)) only [h1', n_add, nl_add, nr_add, n_mul, nl_mul, nr_mul, n_sub, nr_dec, n_div, nr_sub_1, nr_sub_2, nr_sub_3, nr_sub_4, nr_sub_7, nr_sub_10, nr_sub_11, nr_sub_20, nr_sub_48, nr_sub_97, nl_sub_3, nl_sub_4, nl_sub_12, nl_sub_24, nl_sub_32, nr_div_2, nr_div_4, z_lt, z_le, z_eq, z_cl, n_ti, Int.toNat_natCast, Int32.reduceToInt, Int32.reduceToNatClampNeg, zc_add, zc_sub, zc_add_1, zc_add_2, zc_add_3, zc_add_4, zc_add_8, zc_add_10, zc_add_12, zc_add_16, zc_add_20, zc_sub_1, zc_sub_2, zc_sub_4, zc_sub_10, zc_sub_20, zc_sub_48, zc_sub_97, zc_mul_4, t_ltZ, f_ltZ, t_leZ, f_leZ, t_eqZ, f_eqZ, t_ltN, f_ltN, t_leN, f_leN, t_eqN, f_eqN, ↓reduceIte, and_true, true_and, and_false, false_and, and_self, or_true, true_or, or_false, false_or, or_self, not_true_eq_false, not_false_eq_true, tu_same, tu_eq, tu_ne, b_V, b_I, b_J]
    rfl
  | cons j r ih =>
    intro i m a hm h1 h2 h3 h4 h5
    have hl : (j :: r).length = r.length + 1 := rfl
    rw [hl] at h1 h2 h3
    have hj : j < n := hm j List.mem_cons_self
    have hp : A 42 i = nI j := h3 0 (by omega)
    have hs := s_234 (J := J) (τ := τ) tick j (by omega) ht (hJ j hj)
    obtain ⟨g1, g2, g3, -⟩ := hJ j hj
    have hk := msk_t ⟨m, h4⟩ ⟨jd j, g2⟩
    obtain ⟨k1, k2, k3⟩ := hk
    dsimp only at k1 k2 k3
    have ih' := fun m a => ih (i + 1) m a (fun x hx => hm x (List.mem_cons_of_mem _ hx)) (by rw [h1]; congr 1; omega) (by omega) (fun q hq => by
      have := h3 (q + 1) (by omega)
      rw [show i + 1 + q = i + (q + 1) by omega, this]
      rfl)
    show _ = some (some (Value.int (nI (if sg j = 4 then lkl jd sg r m a else if m.testBit (jd j) = true then lkl jd sg r m a else if m ≠ 0 ∧ sg j ≠ a then 4 else lkl jd sg r (m ||| 2 ^ jd j) (sg j)))), mk A J τ)
    rw [e_235_16]
    by_cases c1 : sg j = 4
    · rw [if_pos c1, ← ih' m a h4 h5]
      simp (disch := first | omega | (simp (disch := omega) only [n_ti, Int32.reduceToInt] <;> omega)) only [h1, hp, hs, e_235_37, e_235_91, c1, n_add, nl_add, nr_add, n_mul, nl_mul, nr_mul, n_sub, nr_dec, n_div, nr_sub_1, nr_sub_2, nr_sub_3, nr_sub_4, nr_sub_7, nr_sub_10, nr_sub_11, nr_sub_20, nr_sub_48, nr_sub_97, nl_sub_3, nl_sub_4, nl_sub_12, nl_sub_24, nl_sub_32, nr_div_2, nr_div_4, z_lt, z_le, z_eq, z_cl, n_ti, Int.toNat_natCast, Int32.reduceToInt, Int32.reduceToNatClampNeg, zc_add, zc_sub, zc_add_1, zc_add_2, zc_add_3, zc_add_4, zc_add_8, zc_add_10, zc_add_12, zc_add_16, zc_add_20, zc_sub_1, zc_sub_2, zc_sub_4, zc_sub_10, zc_sub_20, zc_sub_48, zc_sub_97, zc_mul_4, t_ltZ, f_ltZ, t_leZ, f_leZ, t_eqZ, f_eqZ, t_ltN, f_ltN, t_leN, f_leN, t_eqN, f_eqN, ↓reduceIte, and_true, true_and, and_false, false_and, and_self, or_true, true_or, or_false, false_or, or_self, not_true_eq_false, not_false_eq_true, tu_same, tu_eq, tu_ne, b_V, b_I, b_J]
    · rw [if_neg c1]
      by_cases c2 : m.testBit (jd j) = true
      · rw [if_pos c2, ← ih' m a h4 h5]
        have k1' : ¬ (nI m &&& (1 <<< (nI (jd j) &&& 31))).toInt = 0 := fun e => (k1.mp e) c2
        simp (disch := first | omega | (simp (disch := omega) only [n_ti, Int32.reduceToInt] <;> omega)) only [h1, hp, hs, e_235_37, e_235_91, g1, n_add, nl_add, nr_add, n_mul, nl_mul, nr_mul, n_sub, nr_dec, n_div, nr_sub_1, nr_sub_2, nr_sub_3, nr_sub_4, nr_sub_7, nr_sub_10, nr_sub_11, nr_sub_20, nr_sub_48, nr_sub_97, nl_sub_3, nl_sub_4, nl_sub_12, nl_sub_24, nl_sub_32, nr_div_2, nr_div_4, z_lt, z_le, z_eq, z_cl, n_ti, Int.toNat_natCast, Int32.reduceToInt, Int32.reduceToNatClampNeg, zc_add, zc_sub, zc_add_1, zc_add_2, zc_add_3, zc_add_4, zc_add_8, zc_add_10, zc_add_12, zc_add_16, zc_add_20, zc_sub_1, zc_sub_2, zc_sub_4, zc_sub_10, zc_sub_20, zc_sub_48, zc_sub_97, zc_mul_4, t_ltZ, f_ltZ, t_leZ, f_leZ, t_eqZ, f_eqZ, t_ltN, f_ltN, t_leN, f_leN, t_eqN, f_eqN, ↓reduceIte, and_true, true_and, and_false, false_and, and_self, or_true, true_or, or_false, false_or, or_self, not_true_eq_false, not_false_eq_true, tu_same, tu_eq, tu_ne, b_V, b_I, b_J]
      · rw [if_neg c2]
        have k1' := k1.mpr c2
        by_cases c3 : m ≠ 0 ∧ sg j ≠ a
        · rw [if_pos c3]
          obtain ⟨c3, c4⟩ := c3
          simp (disch := first | omega | (simp (disch := omega) only [n_ti, Int32.reduceToInt] <;> omega)) only [h1, hp, hs, e_235_37, e_235_91, g1, k1', n_add, nl_add, nr_add, n_mul, nl_mul, nr_mul, n_sub, nr_dec, n_div, nr_sub_1, nr_sub_2, nr_sub_3, nr_sub_4, nr_sub_7, nr_sub_10, nr_sub_11, nr_sub_20, nr_sub_48, nr_sub_97, nl_sub_3, nl_sub_4, nl_sub_12, nl_sub_24, nl_sub_32, nr_div_2, nr_div_4, z_lt, z_le, z_eq, z_cl, n_ti, Int.toNat_natCast, Int32.reduceToInt, Int32.reduceToNatClampNeg, zc_add, zc_sub, zc_add_1, zc_add_2, zc_add_3, zc_add_4, zc_add_8, zc_add_10, zc_add_12, zc_add_16, zc_add_20, zc_sub_1, zc_sub_2, zc_sub_4, zc_sub_10, zc_sub_20, zc_sub_48, zc_sub_97, zc_mul_4, t_ltZ, f_ltZ, t_leZ, f_leZ, t_eqZ, f_eqZ, t_ltN, f_ltN, t_leN, f_leN, t_eqN, f_eqN, ↓reduceIte, and_true, true_and, and_false, false_and, and_self, or_true, true_or, or_false, false_or, or_self, not_true_eq_false, not_false_eq_true, tu_same, tu_eq, tu_ne, b_V, b_I, b_J]
          rfl
        · rw [if_neg c3, ← ih' (m ||| 2 ^ jd j) (sg j) k3 g3]
          by_cases c4 : m = 0
          · simp (disch := first | omega | (simp (disch := omega) only [n_ti, Int32.reduceToInt] <;> omega)) only [h1, hp, hs, e_235_37, e_235_83, e_235_91, g1, k1', k2, n_add, nl_add, nr_add, n_mul, nl_mul, nr_mul, n_sub, nr_dec, n_div, nr_sub_1, nr_sub_2, nr_sub_3, nr_sub_4, nr_sub_7, nr_sub_10, nr_sub_11, nr_sub_20, nr_sub_48, nr_sub_97, nl_sub_3, nl_sub_4, nl_sub_12, nl_sub_24, nl_sub_32, nr_div_2, nr_div_4, z_lt, z_le, z_eq, z_cl, n_ti, Int.toNat_natCast, Int32.reduceToInt, Int32.reduceToNatClampNeg, zc_add, zc_sub, zc_add_1, zc_add_2, zc_add_3, zc_add_4, zc_add_8, zc_add_10, zc_add_12, zc_add_16, zc_add_20, zc_sub_1, zc_sub_2, zc_sub_4, zc_sub_10, zc_sub_20, zc_sub_48, zc_sub_97, zc_mul_4, t_ltZ, f_ltZ, t_leZ, f_leZ, t_eqZ, f_eqZ, t_ltN, f_ltN, t_leN, f_leN, t_eqN, f_eqN, ↓reduceIte, and_true, true_and, and_false, false_and, and_self, or_true, true_or, or_false, false_or, or_self, not_true_eq_false, not_false_eq_true, tu_same, tu_eq, tu_ne, b_V, b_I, b_J]
          · have c5 : sg j = a := by omega
            simp (disch := first | omega | (simp (disch := omega) only [n_ti, Int32.reduceToInt] <;> omega)) only [h1, hp, hs, e_235_37, e_235_83, e_235_91, g1, k1', k2, n_add, nl_add, nr_add, n_mul, nl_mul, nr_mul, n_sub, nr_dec, n_div, nr_sub_1, nr_sub_2, nr_sub_3, nr_sub_4, nr_sub_7, nr_sub_10, nr_sub_11, nr_sub_20, nr_sub_48, nr_sub_97, nl_sub_3, nl_sub_4, nl_sub_12, nl_sub_24, nl_sub_32, nr_div_2, nr_div_4, z_lt, z_le, z_eq, z_cl, n_ti, Int.toNat_natCast, Int32.reduceToInt, Int32.reduceToNatClampNeg, zc_add, zc_sub, zc_add_1, zc_add_2, zc_add_3, zc_add_4, zc_add_8, zc_add_10, zc_add_12, zc_add_16, zc_add_20, zc_sub_1, zc_sub_2, zc_sub_4, zc_sub_10, zc_sub_20, zc_sub_48, zc_sub_97, zc_mul_4, t_ltZ, f_ltZ, t_leZ, f_leZ, t_eqZ, f_eqZ, t_ltN, f_ltN, t_leN, f_leN, t_eqN, f_eqN, ↓reduceIte, and_true, true_and, and_false, false_and, and_self, or_true, true_or, or_false, false_or, or_self, not_true_eq_false, not_false_eq_true, tu_same, tu_eq, tu_ne, b_V, b_I, b_J]
def px (j : Nat) : Int32 := if j = 0 then -1 else nI (j - 1)
theorem px_s (j : Nat) : px (j + 1) = nI j := by
  unfold px
  rw [if_neg (by omega)]
  rfl
theorem px_d (j : Nat) (h : j < 100) : nI j + (-1) = px j := by
  unfold px
  by_cases c : j = 0
  · subst c; rfl
  · rw [if_neg c, nr_dec (by omega)]
theorem px_m (j : Nat) (h : j < 100) : nI j - 1 = px j := by
  unfold px
  by_cases c : j = 0
  · subst c; rfl
  · rw [if_neg c]
    simp (disch := first | omega | (simp (disch := omega) only [n_ti, Int32.reduceToInt] <;> omega)) only [n_add, nl_add, nr_add, n_mul, nl_mul, nr_mul, n_sub, nr_dec, n_div, nr_sub_1, nr_sub_2, nr_sub_3, nr_sub_4, nr_sub_7, nr_sub_10, nr_sub_11, nr_sub_20, nr_sub_48, nr_sub_97, nl_sub_3, nl_sub_4, nl_sub_12, nl_sub_24, nl_sub_32, nr_div_2, nr_div_4, z_lt, z_le, z_eq, z_cl, n_ti, Int.toNat_natCast, Int32.reduceToInt, Int32.reduceToNatClampNeg, zc_add, zc_sub, zc_add_1, zc_add_2, zc_add_3, zc_add_4, zc_add_8, zc_add_10, zc_add_12, zc_add_16, zc_add_20, zc_sub_1, zc_sub_2, zc_sub_4, zc_sub_10, zc_sub_20, zc_sub_48, zc_sub_97, zc_mul_4]
set_option maxHeartbeats 4000000 in
theorem l_233 {J : Nat → Nat → Int64} {τ : tm_Tu} {good : Nat → Bool} (p k : Int32) : ∀ (j c : Nat) (A : Nat → Nat → Int32), c + j ≤ 30 → (∀ i, i < j → JG A good p k i) → A 34 10 = nI c →
    ∃ A', R_233 17 [(0, .ref 34), (1, .int p), (2, .int k), (3, .int (px j))] [] (mk A J τ) = some (none, mk A' J τ) ∧ A' 34 10 = nI (c + (pl good j).length) ∧ (∀ q, q < (pl good j).length → A' 42 (c + q) = nI ((pl good j).getD q 0)) ∧ (∀ a y, ¬ (a = 34 ∧ y = 10) → ¬ (a = 42 ∧ c ≤ y) → A' a y = A a y) := by
  intro j
  induction j with
  | zero =>
    intro c A _ _ h
    refine ⟨A, ?_, h, (fun q hq => by cases hq), fun _ _ _ _ => rfl⟩
    rw [e_233_17]
    simp (disch := first | omega | (simp (disch := omega) only [n_ti, Int32.reduceToInt] <;> omega)) only [px, n_add, nl_add, nr_add, n_mul, nl_mul, nr_mul, n_sub, nr_dec, n_div, nr_sub_1, nr_sub_2, nr_sub_3, nr_sub_4, nr_sub_7, nr_sub_10, nr_sub_11, nr_sub_20, nr_sub_48, nr_sub_97, nl_sub_3, nl_sub_4, nl_sub_12, nl_sub_24, nl_sub_32, nr_div_2, nr_div_4, z_lt, z_le, z_eq, z_cl, n_ti, Int.toNat_natCast, Int32.reduceToInt, Int32.reduceToNatClampNeg, zc_add, zc_sub, zc_add_1, zc_add_2, zc_add_3, zc_add_4, zc_add_8, zc_add_10, zc_add_12, zc_add_16, zc_add_20, zc_sub_1, zc_sub_2, zc_sub_4, zc_sub_10, zc_sub_20, zc_sub_48, zc_sub_97, zc_mul_4, t_ltZ, f_ltZ, t_leZ, f_leZ, t_eqZ, f_eqZ, t_ltN, f_ltN, t_leN, f_leN, t_eqN, f_eqN, ↓reduceIte, and_true, true_and, and_false, false_and, and_self, or_true, true_or, or_false, false_or, or_self, not_true_eq_false, not_false_eq_true, tu_same, tu_eq, tu_ne, b_V, b_I, b_J]
  | succ j ih =>
    intro c A hc hg h
    have hgj := hg j (by omega)
    unfold JG at hgj
    rw [px_s]
    by_cases hx : good j = true
    · have hp : pl good (j + 1) = j :: pl good j := by
        show (if good j = true then j :: pl good j else pl good j) = _
        rw [if_pos hx]
      rw [hp]
      obtain ⟨g1, g2, g3⟩ := hgj.mp hx
      obtain ⟨A', q1, q2, q3, q4⟩ := ih (c + 1) (tm_u (tm_u A 42 c (nI j)) 34 10 (nI (c + 1))) (by omega) (fun i hi => by
        have := hg i (by omega)
        unfold JG at this ⊢
        simp (disch := omega) only [tu_same, tu_eq, tu_ne]
        exact this) (by simp (disch := omega) only [tu_same, tu_eq, tu_ne])
      refine ⟨A', ?_, ?_, ?_, ?_⟩
      · rw [← q1, e_233_17, ← px_d j (by omega)]
        rcases g3 with g3 | g3
        · simp (disch := first | omega | (simp (disch := omega) only [n_ti, Int32.reduceToInt] <;> omega)) only [e_233_45, e_233_46, e_233_93, g1, h, n_add, nl_add, nr_add, n_mul, nl_mul, nr_mul, n_sub, nr_dec, n_div, nr_sub_1, nr_sub_2, nr_sub_3, nr_sub_4, nr_sub_7, nr_sub_10, nr_sub_11, nr_sub_20, nr_sub_48, nr_sub_97, nl_sub_3, nl_sub_4, nl_sub_12, nl_sub_24, nl_sub_32, nr_div_2, nr_div_4, z_lt, z_le, z_eq, z_cl, n_ti, Int.toNat_natCast, Int32.reduceToInt, Int32.reduceToNatClampNeg, zc_add, zc_sub, zc_add_1, zc_add_2, zc_add_3, zc_add_4, zc_add_8, zc_add_10, zc_add_12, zc_add_16, zc_add_20, zc_sub_1, zc_sub_2, zc_sub_4, zc_sub_10, zc_sub_20, zc_sub_48, zc_sub_97, zc_mul_4, t_ltZ, f_ltZ, t_leZ, f_leZ, t_eqZ, f_eqZ, t_ltN, f_ltN, t_leN, f_leN, t_eqN, f_eqN, ↓reduceIte, and_true, true_and, and_false, false_and, and_self, or_true, true_or, or_false, false_or, or_self, not_true_eq_false, not_false_eq_true, tu_same, tu_eq, tu_ne, b_V, b_I, b_J]
        · by_cases c0 : (A 41 j).toInt = -1
          · simp (disch := first | omega | (simp (disch := omega) only [n_ti, Int32.reduceToInt] <;> omega)) only [e_233_45, e_233_46, e_233_93, g1, h, n_add, nl_add, nr_add, n_mul, nl_mul, nr_mul, n_sub, nr_dec, n_div, nr_sub_1, nr_sub_2, nr_sub_3, nr_sub_4, nr_sub_7, nr_sub_10, nr_sub_11, nr_sub_20, nr_sub_48, nr_sub_97, nl_sub_3, nl_sub_4, nl_sub_12, nl_sub_24, nl_sub_32, nr_div_2, nr_div_4, z_lt, z_le, z_eq, z_cl, n_ti, Int.toNat_natCast, Int32.reduceToInt, Int32.reduceToNatClampNeg, zc_add, zc_sub, zc_add_1, zc_add_2, zc_add_3, zc_add_4, zc_add_8, zc_add_10, zc_add_12, zc_add_16, zc_add_20, zc_sub_1, zc_sub_2, zc_sub_4, zc_sub_10, zc_sub_20, zc_sub_48, zc_sub_97, zc_mul_4, t_ltZ, f_ltZ, t_leZ, f_leZ, t_eqZ, f_eqZ, t_ltN, f_ltN, t_leN, f_leN, t_eqN, f_eqN, ↓reduceIte, and_true, true_and, and_false, false_and, and_self, or_true, true_or, or_false, false_or, or_self, not_true_eq_false, not_false_eq_true, tu_same, tu_eq, tu_ne, b_V, b_I, b_J]
          · simp (disch := first | omega | (simp (disch := omega) only [n_ti, Int32.reduceToInt] <;> omega)) only [e_233_45, e_233_46, e_233_93, g1, h, n_add, nl_add, nr_add, n_mul, nl_mul, nr_mul, n_sub, nr_dec, n_div, nr_sub_1, nr_sub_2, nr_sub_3, nr_sub_4, nr_sub_7, nr_sub_10, nr_sub_11, nr_sub_20, nr_sub_48, nr_sub_97, nl_sub_3, nl_sub_4, nl_sub_12, nl_sub_24, nl_sub_32, nr_div_2, nr_div_4, z_lt, z_le, z_eq, z_cl, n_ti, Int.toNat_natCast, Int32.reduceToInt, Int32.reduceToNatClampNeg, zc_add, zc_sub, zc_add_1, zc_add_2, zc_add_3, zc_add_4, zc_add_8, zc_add_10, zc_add_12, zc_add_16, zc_add_20, zc_sub_1, zc_sub_2, zc_sub_4, zc_sub_10, zc_sub_20, zc_sub_48, zc_sub_97, zc_mul_4, t_ltZ, f_ltZ, t_leZ, f_leZ, t_eqZ, f_eqZ, t_ltN, f_ltN, t_leN, f_leN, t_eqN, f_eqN, ↓reduceIte, and_true, true_and, and_false, false_and, and_self, or_true, true_or, or_false, false_or, or_self, not_true_eq_false, not_false_eq_true, tu_same, tu_eq, tu_ne, b_V, b_I, b_J]
      · rw [q2]
        show _ = nI (c + ((pl good j).length + 1))
        congr 1
        omega
      · intro q hq
        by_cases c0 : q = 0
        · subst c0
          rw [q4 42 (c + 0) (by omega) (by omega)]
          simp (disch := omega) only [tu_same, tu_eq, tu_ne]
          rfl
        · obtain ⟨q', rfl⟩ : ∃ q', q = q' + 1 := ⟨q - 1, by omega⟩
          have hq' : q' < (pl good j).length := by
            have : (j :: pl good j).length = (pl good j).length + 1 := rfl
            omega
          rw [show c + (q' + 1) = c + 1 + q' by omega, q3 q' hq']
          rfl
      · intro a y h1 h2
        rw [q4 a y h1 (by omega)]
        simp (disch := omega) only [tu_same, tu_eq, tu_ne]
    · have hp : pl good (j + 1) = pl good j := by
        show (if good j = true then j :: pl good j else pl good j) = _
        rw [if_neg hx]
      rw [hp]
      obtain ⟨A', q1, q2, q3, q4⟩ := ih c A (by omega) (fun i hi => hg i (by omega)) h
      refine ⟨A', ?_, q2, q3, q4⟩
      have hn : ¬ (A 37 j = p ∧ (A 40 j).toInt ≤ k.toInt ∧ ((A 41 j).toInt = -1 ∨ k.toInt < (A 41 j).toInt)) := fun e => hx (hgj.mpr e)
      rw [z_eq] at hn
      rw [← q1, e_233_17, ← px_d j (by omega)]
      by_cases c1 : (A 41 j).toInt = -1
      · by_cases c2 : (A 37 j).toInt = p.toInt
        · simp (disch := first | omega | (simp (disch := omega) only [n_ti, Int32.reduceToInt] <;> omega)) only [e_233_45, e_233_46, e_233_93, n_add, nl_add, nr_add, n_mul, nl_mul, nr_mul, n_sub, nr_dec, n_div, nr_sub_1, nr_sub_2, nr_sub_3, nr_sub_4, nr_sub_7, nr_sub_10, nr_sub_11, nr_sub_20, nr_sub_48, nr_sub_97, nl_sub_3, nl_sub_4, nl_sub_12, nl_sub_24, nl_sub_32, nr_div_2, nr_div_4, z_lt, z_le, z_eq, z_cl, n_ti, Int.toNat_natCast, Int32.reduceToInt, Int32.reduceToNatClampNeg, zc_add, zc_sub, zc_add_1, zc_add_2, zc_add_3, zc_add_4, zc_add_8, zc_add_10, zc_add_12, zc_add_16, zc_add_20, zc_sub_1, zc_sub_2, zc_sub_4, zc_sub_10, zc_sub_20, zc_sub_48, zc_sub_97, zc_mul_4, t_ltZ, f_ltZ, t_leZ, f_leZ, t_eqZ, f_eqZ, t_ltN, f_ltN, t_leN, f_leN, t_eqN, f_eqN, ↓reduceIte, and_true, true_and, and_false, false_and, and_self, or_true, true_or, or_false, false_or, or_self, not_true_eq_false, not_false_eq_true, tu_same, tu_eq, tu_ne, b_V, b_I, b_J]
        · simp (disch := first | omega | (simp (disch := omega) only [n_ti, Int32.reduceToInt] <;> omega)) only [e_233_45, e_233_46, e_233_93, n_add, nl_add, nr_add, n_mul, nl_mul, nr_mul, n_sub, nr_dec, n_div, nr_sub_1, nr_sub_2, nr_sub_3, nr_sub_4, nr_sub_7, nr_sub_10, nr_sub_11, nr_sub_20, nr_sub_48, nr_sub_97, nl_sub_3, nl_sub_4, nl_sub_12, nl_sub_24, nl_sub_32, nr_div_2, nr_div_4, z_lt, z_le, z_eq, z_cl, n_ti, Int.toNat_natCast, Int32.reduceToInt, Int32.reduceToNatClampNeg, zc_add, zc_sub, zc_add_1, zc_add_2, zc_add_3, zc_add_4, zc_add_8, zc_add_10, zc_add_12, zc_add_16, zc_add_20, zc_sub_1, zc_sub_2, zc_sub_4, zc_sub_10, zc_sub_20, zc_sub_48, zc_sub_97, zc_mul_4, t_ltZ, f_ltZ, t_leZ, f_leZ, t_eqZ, f_eqZ, t_ltN, f_ltN, t_leN, f_leN, t_eqN, f_eqN, ↓reduceIte, and_true, true_and, and_false, false_and, and_self, or_true, true_or, or_false, false_or, or_self, not_true_eq_false, not_false_eq_true, tu_same, tu_eq, tu_ne, b_V, b_I, b_J]
      · by_cases c3 : k.toInt < (A 41 j).toInt
        · by_cases c2 : (A 37 j).toInt = p.toInt
          · simp (disch := first | omega | (simp (disch := omega) only [n_ti, Int32.reduceToInt] <;> omega)) only [e_233_45, e_233_46, e_233_93, n_add, nl_add, nr_add, n_mul, nl_mul, nr_mul, n_sub, nr_dec, n_div, nr_sub_1, nr_sub_2, nr_sub_3, nr_sub_4, nr_sub_7, nr_sub_10, nr_sub_11, nr_sub_20, nr_sub_48, nr_sub_97, nl_sub_3, nl_sub_4, nl_sub_12, nl_sub_24, nl_sub_32, nr_div_2, nr_div_4, z_lt, z_le, z_eq, z_cl, n_ti, Int.toNat_natCast, Int32.reduceToInt, Int32.reduceToNatClampNeg, zc_add, zc_sub, zc_add_1, zc_add_2, zc_add_3, zc_add_4, zc_add_8, zc_add_10, zc_add_12, zc_add_16, zc_add_20, zc_sub_1, zc_sub_2, zc_sub_4, zc_sub_10, zc_sub_20, zc_sub_48, zc_sub_97, zc_mul_4, t_ltZ, f_ltZ, t_leZ, f_leZ, t_eqZ, f_eqZ, t_ltN, f_ltN, t_leN, f_leN, t_eqN, f_eqN, ↓reduceIte, and_true, true_and, and_false, false_and, and_self, or_true, true_or, or_false, false_or, or_self, not_true_eq_false, not_false_eq_true, tu_same, tu_eq, tu_ne, b_V, b_I, b_J]
          · simp (disch := first | omega | (simp (disch := omega) only [n_ti, Int32.reduceToInt] <;> omega)) only [e_233_45, e_233_46, e_233_93, n_add, nl_add, nr_add, n_mul, nl_mul, nr_mul, n_sub, nr_dec, n_div, nr_sub_1, nr_sub_2, nr_sub_3, nr_sub_4, nr_sub_7, nr_sub_10, nr_sub_11, nr_sub_20, nr_sub_48, nr_sub_97, nl_sub_3, nl_sub_4, nl_sub_12, nl_sub_24, nl_sub_32, nr_div_2, nr_div_4, z_lt, z_le, z_eq, z_cl, n_ti, Int.toNat_natCast, Int32.reduceToInt, Int32.reduceToNatClampNeg, zc_add, zc_sub, zc_add_1, zc_add_2, zc_add_3, zc_add_4, zc_add_8, zc_add_10, zc_add_12, zc_add_16, zc_add_20, zc_sub_1, zc_sub_2, zc_sub_4, zc_sub_10, zc_sub_20, zc_sub_48, zc_sub_97, zc_mul_4, t_ltZ, f_ltZ, t_leZ, f_leZ, t_eqZ, f_eqZ, t_ltN, f_ltN, t_leN, f_leN, t_eqN, f_eqN, ↓reduceIte, and_true, true_and, and_false, false_and, and_self, or_true, true_or, or_false, false_or, or_self, not_true_eq_false, not_false_eq_true, tu_same, tu_eq, tu_ne, b_V, b_I, b_J]
        · by_cases c2 : (A 37 j).toInt = p.toInt
          · by_cases c4 : k.toInt < (A 40 j).toInt
            · simp (disch := first | omega | (simp (disch := omega) only [n_ti, Int32.reduceToInt] <;> omega)) only [e_233_45, e_233_46, e_233_93, n_add, nl_add, nr_add, n_mul, nl_mul, nr_mul, n_sub, nr_dec, n_div, nr_sub_1, nr_sub_2, nr_sub_3, nr_sub_4, nr_sub_7, nr_sub_10, nr_sub_11, nr_sub_20, nr_sub_48, nr_sub_97, nl_sub_3, nl_sub_4, nl_sub_12, nl_sub_24, nl_sub_32, nr_div_2, nr_div_4, z_lt, z_le, z_eq, z_cl, n_ti, Int.toNat_natCast, Int32.reduceToInt, Int32.reduceToNatClampNeg, zc_add, zc_sub, zc_add_1, zc_add_2, zc_add_3, zc_add_4, zc_add_8, zc_add_10, zc_add_12, zc_add_16, zc_add_20, zc_sub_1, zc_sub_2, zc_sub_4, zc_sub_10, zc_sub_20, zc_sub_48, zc_sub_97, zc_mul_4, t_ltZ, f_ltZ, t_leZ, f_leZ, t_eqZ, f_eqZ, t_ltN, f_ltN, t_leN, f_leN, t_eqN, f_eqN, ↓reduceIte, and_true, true_and, and_false, false_and, and_self, or_true, true_or, or_false, false_or, or_self, not_true_eq_false, not_false_eq_true, tu_same, tu_eq, tu_ne, b_V, b_I, b_J]
            · simp (disch := first | omega | (simp (disch := omega) only [n_ti, Int32.reduceToInt] <;> omega)) only [e_233_45, e_233_46, e_233_93, n_add, nl_add, nr_add, n_mul, nl_mul, nr_mul, n_sub, nr_dec, n_div, nr_sub_1, nr_sub_2, nr_sub_3, nr_sub_4, nr_sub_7, nr_sub_10, nr_sub_11, nr_sub_20, nr_sub_48, nr_sub_97, nl_sub_3, nl_sub_4, nl_sub_12, nl_sub_24, nl_sub_32, nr_div_2, nr_div_4, z_lt, z_le, z_eq, z_cl, n_ti, Int.toNat_natCast, Int32.reduceToInt, Int32.reduceToNatClampNeg, zc_add, zc_sub, zc_add_1, zc_add_2, zc_add_3, zc_add_4, zc_add_8, zc_add_10, zc_add_12, zc_add_16, zc_add_20, zc_sub_1, zc_sub_2, zc_sub_4, zc_sub_10, zc_sub_20, zc_sub_48, zc_sub_97, zc_mul_4, t_ltZ, f_ltZ, t_leZ, f_leZ, t_eqZ, f_eqZ, t_ltN, f_ltN, t_leN, f_leN, t_eqN, f_eqN, ↓reduceIte, and_true, true_and, and_false, false_and, and_self, or_true, true_or, or_false, false_or, or_self, not_true_eq_false, not_false_eq_true, tu_same, tu_eq, tu_ne, b_V, b_I, b_J]
          · simp (disch := first | omega | (simp (disch := omega) only [n_ti, Int32.reduceToInt] <;> omega)) only [e_233_45, e_233_46, e_233_93, n_add, nl_add, nr_add, n_mul, nl_mul, nr_mul, n_sub, nr_dec, n_div, nr_sub_1, nr_sub_2, nr_sub_3, nr_sub_4, nr_sub_7, nr_sub_10, nr_sub_11, nr_sub_20, nr_sub_48, nr_sub_97, nl_sub_3, nl_sub_4, nl_sub_12, nl_sub_24, nl_sub_32, nr_div_2, nr_div_4, z_lt, z_le, z_eq, z_cl, n_ti, Int.toNat_natCast, Int32.reduceToInt, Int32.reduceToNatClampNeg, zc_add, zc_sub, zc_add_1, zc_add_2, zc_add_3, zc_add_4, zc_add_8, zc_add_10, zc_add_12, zc_add_16, zc_add_20, zc_sub_1, zc_sub_2, zc_sub_4, zc_sub_10, zc_sub_20, zc_sub_48, zc_sub_97, zc_mul_4, t_ltZ, f_ltZ, t_leZ, f_leZ, t_eqZ, f_eqZ, t_ltN, f_ltN, t_leN, f_leN, t_eqN, f_eqN, ↓reduceIte, and_true, true_and, and_false, false_and, and_self, or_true, true_or, or_false, false_or, or_self, not_true_eq_false, not_false_eq_true, tu_same, tu_eq, tu_ne, b_V, b_I, b_J]
theorem s_233 {J : Nat → Nat → Int64} {τ : tm_Tu} {good : Nat → Bool} (p k : Int32) (n : Nat) (A : Nat → Nat → Int32) (hn : n ≤ 30) (h7 : A 34 7 = nI n) (hg : ∀ i, i < n → JG A good p k i) :
    ∃ A', F_233 [.ref 34, .int p, .int k] (mk A J τ) = some (none, mk A' J τ) ∧ A' 34 10 = nI (pl good n).length ∧ (∀ q, q < (pl good n).length → A' 42 q = nI ((pl good n).getD q 0)) ∧ (∀ a y, ¬ (a = 34 ∧ y = 10) → a ≠ 42 → A' a y = A a y) := by
  obtain ⟨A', q1, q2, q3, q4⟩ := l_233 (J := J) (τ := τ) (good := good) p k n 0 (tm_u A 34 10 0) (by omega) (fun i hi => by
    have := hg i hi
    unfold JG at this ⊢
    simp (disch := omega) only [tu_same, tu_eq, tu_ne]
    exact this) (by simp (disch := omega) only [tu_same, tu_eq, tu_ne]; rfl)
  refine ⟨A', ?_, ?_, ?_, ?_⟩
  · rw [← q1, e_233, ← px_m n (by omega)]
    simp (disch := first | omega | (simp (disch := omega) only [n_ti, Int32.reduceToInt] <;> omega)) only [h7, n_add, nl_add, nr_add, n_mul, nl_mul, nr_mul, n_sub, nr_dec, n_div, nr_sub_1, nr_sub_2, nr_sub_3, nr_sub_4, nr_sub_7, nr_sub_10, nr_sub_11, nr_sub_20, nr_sub_48, nr_sub_97, nl_sub_3, nl_sub_4, nl_sub_12, nl_sub_24, nl_sub_32, nr_div_2, nr_div_4, z_lt, z_le, z_eq, z_cl, n_ti, Int.toNat_natCast, Int32.reduceToInt, Int32.reduceToNatClampNeg, zc_add, zc_sub, zc_add_1, zc_add_2, zc_add_3, zc_add_4, zc_add_8, zc_add_10, zc_add_12, zc_add_16, zc_add_20, zc_sub_1, zc_sub_2, zc_sub_4, zc_sub_10, zc_sub_20, zc_sub_48, zc_sub_97, zc_mul_4, t_ltZ, f_ltZ, t_leZ, f_leZ, t_eqZ, f_eqZ, t_ltN, f_ltN, t_leN, f_leN, t_eqN, f_eqN, ↓reduceIte, and_true, true_and, and_false, false_and, and_self, or_true, true_or, or_false, false_or, or_self, not_true_eq_false, not_false_eq_true, tu_same, tu_eq, tu_ne, b_V, b_I, b_J]
  · rw [q2, Nat.zero_add]
  · intro q hq
    have := q3 q hq
    rwa [Nat.zero_add] at this
  · intro a y h1 h2
    rw [q4 a y h1 (by omega)]
    simp (disch := omega) only [tu_same, tu_eq, tu_ne]
/-- a class's picture of what is picked -/
def Pck (A : Nat → Nat → Int32) (good : Nat → Bool) (n : Nat) : Prop := A 34 10 = nI (pl good n).length ∧ (∀ q, q < (pl good n).length → A 42 q = nI ((pl good n).getD q 0))
theorem s_232t {I : Nat → Nat → Int32} {J : Nat → Nat → Int64} {τ : tm_Tu} {x : Int32} (h : 0 ≤ x.toInt) (h2 : x.toInt < 800) : F_232 [.int x] (mk I J τ) = some (some (.int 1), mk I J τ) := by
  simp (disch := first | omega | (simp (disch := omega) only [n_ti, Int32.reduceToInt] <;> omega)) only [e_232, e_232_15, e_232_16, n_add, nl_add, nr_add, n_mul, nl_mul, nr_mul, n_sub, nr_dec, n_div, nr_sub_1, nr_sub_2, nr_sub_3, nr_sub_4, nr_sub_7, nr_sub_10, nr_sub_11, nr_sub_20, nr_sub_48, nr_sub_97, nl_sub_3, nl_sub_4, nl_sub_12, nl_sub_24, nl_sub_32, nr_div_2, nr_div_4, z_lt, z_le, z_eq, z_cl, n_ti, Int.toNat_natCast, Int32.reduceToInt, Int32.reduceToNatClampNeg, zc_add, zc_sub, zc_add_1, zc_add_2, zc_add_3, zc_add_4, zc_add_8, zc_add_10, zc_add_12, zc_add_16, zc_add_20, zc_sub_1, zc_sub_2, zc_sub_4, zc_sub_10, zc_sub_20, zc_sub_48, zc_sub_97, zc_mul_4, t_ltZ, f_ltZ, t_leZ, f_leZ, t_eqZ, f_eqZ, t_ltN, f_ltN, t_leN, f_leN, t_eqN, f_eqN, ↓reduceIte, and_true, true_and, and_false, false_and, and_self, or_true, true_or, or_false, false_or, or_self, not_true_eq_false, not_false_eq_true, tu_same, tu_eq, tu_ne, b_V, b_I, b_J]
theorem s_232f {I : Nat → Nat → Int32} {J : Nat → Nat → Int64} {τ : tm_Tu} {x : Int32} (h : x.toInt < 0 ∨ 800 ≤ x.toInt) : F_232 [.int x] (mk I J τ) = some (some (.int 0), mk I J τ) := by
  rcases h with h | h
  · simp (disch := first | omega | (simp (disch := omega) only [n_ti, Int32.reduceToInt] <;> omega)) only [e_232, e_232_15, e_232_16, n_add, nl_add, nr_add, n_mul, nl_mul, nr_mul, n_sub, nr_dec, n_div, nr_sub_1, nr_sub_2, nr_sub_3, nr_sub_4, nr_sub_7, nr_sub_10, nr_sub_11, nr_sub_20, nr_sub_48, nr_sub_97, nl_sub_3, nl_sub_4, nl_sub_12, nl_sub_24, nl_sub_32, nr_div_2, nr_div_4, z_lt, z_le, z_eq, z_cl, n_ti, Int.toNat_natCast, Int32.reduceToInt, Int32.reduceToNatClampNeg, zc_add, zc_sub, zc_add_1, zc_add_2, zc_add_3, zc_add_4, zc_add_8, zc_add_10, zc_add_12, zc_add_16, zc_add_20, zc_sub_1, zc_sub_2, zc_sub_4, zc_sub_10, zc_sub_20, zc_sub_48, zc_sub_97, zc_mul_4, t_ltZ, f_ltZ, t_leZ, f_leZ, t_eqZ, f_eqZ, t_ltN, f_ltN, t_leN, f_leN, t_eqN, f_eqN, ↓reduceIte, and_true, true_and, and_false, false_and, and_self, or_true, true_or, or_false, false_or, or_self, not_true_eq_false, not_false_eq_true, tu_same, tu_eq, tu_ne, b_V, b_I, b_J]
  · simp (disch := first | omega | (simp (disch := omega) only [n_ti, Int32.reduceToInt] <;> omega)) only [e_232, e_232_15, e_232_16, n_add, nl_add, nr_add, n_mul, nl_mul, nr_mul, n_sub, nr_dec, n_div, nr_sub_1, nr_sub_2, nr_sub_3, nr_sub_4, nr_sub_7, nr_sub_10, nr_sub_11, nr_sub_20, nr_sub_48, nr_sub_97, nl_sub_3, nl_sub_4, nl_sub_12, nl_sub_24, nl_sub_32, nr_div_2, nr_div_4, z_lt, z_le, z_eq, z_cl, n_ti, Int.toNat_natCast, Int32.reduceToInt, Int32.reduceToNatClampNeg, zc_add, zc_sub, zc_add_1, zc_add_2, zc_add_3, zc_add_4, zc_add_8, zc_add_10, zc_add_12, zc_add_16, zc_add_20, zc_sub_1, zc_sub_2, zc_sub_4, zc_sub_10, zc_sub_20, zc_sub_48, zc_sub_97, zc_mul_4, t_ltZ, f_ltZ, t_leZ, f_leZ, t_eqZ, f_eqZ, t_ltN, f_ltN, t_leN, f_leN, t_eqN, f_eqN, ↓reduceIte, and_true, true_and, and_false, false_and, and_self, or_true, true_or, or_false, false_or, or_self, not_true_eq_false, not_false_eq_true, tu_same, tu_eq, tu_ne, b_V, b_I, b_J]
theorem s_235 {A : Nat → Nat → Int32} {J : Nat → Nat → Int64} {τ : tm_Tu} {good : Nat → Bool} {jd sg : Nat → Nat} (tick n : Nat) (hn : n ≤ 30) (ht : tick < 800) (hJ : ∀ j, j < n → JA A J jd sg tick j) (hP : Pck A good n) : F_235 [.ref 34, .int (nI tick)] (mk A J τ) = some (some (.int (nI (sn good jd sg n))), mk A J τ) := by
  have hl := pl_len good n
  have := l_235 (J := J) (τ := τ) (jd := jd) (sg := sg) tick n hn ht hJ (pl good n) 0 0 4 (pl_mem good n) (by rw [Nat.zero_add]; exact hP.1) (by omega) (fun q hq => by rw [Nat.zero_add]; exact hP.2 q hq) (by omega) (by omega)
  rw [lk_sn good jd sg n (fun j hj => (hJ j hj).2.1)] at this
  rw [← this, e_235]
  simp (disch := first | omega | (simp (disch := omega) only [n_ti, Int32.reduceToInt] <;> omega)) only [s_232t, e_235_4, n_add, nl_add, nr_add, n_mul, nl_mul, nr_mul, n_sub, nr_dec, n_div, nr_sub_1, nr_sub_2, nr_sub_3, nr_sub_4, nr_sub_7, nr_sub_10, nr_sub_11, nr_sub_20, nr_sub_48, nr_sub_97, nl_sub_3, nl_sub_4, nl_sub_12, nl_sub_24, nl_sub_32, nr_div_2, nr_div_4, z_lt, z_le, z_eq, z_cl, n_ti, Int.toNat_natCast, Int32.reduceToInt, Int32.reduceToNatClampNeg, zc_add, zc_sub, zc_add_1, zc_add_2, zc_add_3, zc_add_4, zc_add_8, zc_add_10, zc_add_12, zc_add_16, zc_add_20, zc_sub_1, zc_sub_2, zc_sub_4, zc_sub_10, zc_sub_20, zc_sub_48, zc_sub_97, zc_mul_4, t_ltZ, f_ltZ, t_leZ, f_leZ, t_eqZ, f_eqZ, t_ltN, f_ltN, t_leN, f_leN, t_eqN, f_eqN, ↓reduceIte, and_true, true_and, and_false, false_and, and_self, or_true, true_or, or_false, false_or, or_self, not_true_eq_false, not_false_eq_true, tu_same, tu_eq, tu_ne, b_V, b_I, b_J]
  rfl
theorem s_235o {A : Nat → Nat → Int32} {J : Nat → Nat → Int64} {τ : tm_Tu} {x : Int32} (h : 800 ≤ x.toInt) : F_235 [.ref 34, .int x] (mk A J τ) = some (some (.int 4), mk A J τ) := by
  rw [e_235, s_232f (Or.inr h)]
  simp (disch := first | omega | (simp (disch := omega) only [n_ti, Int32.reduceToInt] <;> omega)) only [e_235_4, n_add, nl_add, nr_add, n_mul, nl_mul, nr_mul, n_sub, nr_dec, n_div, nr_sub_1, nr_sub_2, nr_sub_3, nr_sub_4, nr_sub_7, nr_sub_10, nr_sub_11, nr_sub_20, nr_sub_48, nr_sub_97, nl_sub_3, nl_sub_4, nl_sub_12, nl_sub_24, nl_sub_32, nr_div_2, nr_div_4, z_lt, z_le, z_eq, z_cl, n_ti, Int.toNat_natCast, Int32.reduceToInt, Int32.reduceToNatClampNeg, zc_add, zc_sub, zc_add_1, zc_add_2, zc_add_3, zc_add_4, zc_add_8, zc_add_10, zc_add_12, zc_add_16, zc_add_20, zc_sub_1, zc_sub_2, zc_sub_4, zc_sub_10, zc_sub_20, zc_sub_48, zc_sub_97, zc_mul_4, t_ltZ, f_ltZ, t_leZ, f_leZ, t_eqZ, f_eqZ, t_ltN, f_ltN, t_leN, f_leN, t_eqN, f_eqN, ↓reduceIte, and_true, true_and, and_false, false_and, and_self, or_true, true_or, or_false, false_or, or_self, not_true_eq_false, not_false_eq_true, tu_same, tu_eq, tu_ne, b_V, b_I, b_J]
/-- the model's tapes at a tick -/
def JB (B : Nat → Nat → Int32) (good : Nat → Bool) (jd sg : Nat → Nat) (p k : Int32) (tick j : Nat) : Prop := B 179 j = nI (jd j) ∧ jd j < 3 ∧ (good j = true ↔ (B 180 j = p ∧ (B 183 j).toInt ≤ k.toInt ∧ ((B 184 j).toInt < 0 ∨ k.toInt < (B 184 j).toInt))) ∧ ∃ f l : Nat, f ≤ 796 ∧ l ≤ 200 ∧ B 181 j = nI f ∧ B 182 j = nI l ∧ (tick < f ∨ f + l ≤ tick → sg j = 4) ∧ (f ≤ tick → tick < f + l → (sg j = 4 ∧ B 185 (200 * j + tick - f) = -1 ∨ sg j ≤ 3 ∧ B 185 (200 * j + tick - f) = nI (sg j)))
/-- a sign as the model has it: none is -1 -/
def mn (s : Nat) : Int32 := if s = 4 then -1 else nI s
set_option maxHeartbeats 4000000 in
theorem l_238 {B : Nat → Nat → Int32} {J : Nat → Nat → Int64} {τ : tm_Tu} {good : Nat → Bool} {jd sg : Nat → Nat} (p k : Int32) (tick x n : Nat) (hn : n ≤ 30) (ht : tick < 800) (hx : x < 3) (h84 : B 131 84 = nI n) (hJ : ∀ j, j < n → JB B good jd sg p k tick j) : ∀ m j, j + m = n →
    R_238 6 [(0, .ref 131), (1, .int (nI x)), (2, .int p), (3, .int (nI tick)), (4, .int k), (5, .int (mn (sw good jd sg x j))), (6, .int (nI j))] [] (mk B J τ) = some (some (.int (mn (sw good jd sg x n))), mk B J τ) := by
  intro m
  induction m with
  | zero =>
    intro j hj
    have e : j = n := by omega
    subst e
    rw [e_238_6]
    simp (disch := first | omega | (simp (disch := omega) only [n_ti, Int32.reduceToInt] <;> omega)) only [h84, n_add, nl_add, nr_add, n_mul, nl_mul, nr_mul, n_sub, nr_dec, n_div, nr_sub_1, nr_sub_2, nr_sub_3, nr_sub_4, nr_sub_7, nr_sub_10, nr_sub_11, nr_sub_20, nr_sub_48, nr_sub_97, nl_sub_3, nl_sub_4, nl_sub_12, nl_sub_24, nl_sub_32, nr_div_2, nr_div_4, z_lt, z_le, z_eq, z_cl, n_ti, Int.toNat_natCast, Int32.reduceToInt, Int32.reduceToNatClampNeg, zc_add, zc_sub, zc_add_1, zc_add_2, zc_add_3, zc_add_4, zc_add_8, zc_add_10, zc_add_12, zc_add_16, zc_add_20, zc_sub_1, zc_sub_2, zc_sub_4, zc_sub_10, zc_sub_20, zc_sub_48, zc_sub_97, zc_mul_4, t_ltZ, f_ltZ, t_leZ, f_leZ, t_eqZ, f_eqZ, t_ltN, f_ltN, t_leN, f_leN, t_eqN, f_eqN, ↓reduceIte, and_true, true_and, and_false, false_and, and_self, or_true, true_or, or_false, false_or, or_self, not_true_eq_false, not_false_eq_true, tu_same, tu_eq, tu_ne, b_V, b_I, b_J]
  | succ m ih =>
    intro j hj
    obtain ⟨h1, h2, h3, f, l, h4, h5, h6, h7, h8, h9⟩ := hJ j (by omega)
    rw [← ih (j + 1) (by omega), e_238_6]
    have hs : sw good jd sg x (j + 1) = if good j = true ∧ jd j = x ∧ sg j ≠ 4 then sg j else sw good jd sg x j := rfl
    have hn0 : ¬ (good j = true ∧ jd j = x ∧ sg j ≠ 4) → sw good jd sg x (j + 1) = sw good jd sg x j := fun e => by rw [hs, if_neg e]
    have hn1 : (good j = true ∧ jd j = x ∧ sg j ≠ 4) → sw good jd sg x (j + 1) = sg j := fun e => by rw [hs, if_pos e]
    generalize sw good jd sg x j = v at *
    generalize sw good jd sg x (j + 1) = v' at *
    by_cases c1 : jd j = x
    · by_cases c2 : (B 180 j).toInt = p.toInt
      · by_cases c3 : k.toInt < (B 183 j).toInt
        · have : ¬ good j = true := fun e => by have := (h3.mp e).2.1; omega
          rw [hn0 (fun e => this e.1)]
          simp (disch := first | omega | (simp (disch := omega) only [n_ti, Int32.reduceToInt] <;> omega)) only [h84, h1, e_238_141, n_add, nl_add, nr_add, n_mul, nl_mul, nr_mul, n_sub, nr_dec, n_div, nr_sub_1, nr_sub_2, nr_sub_3, nr_sub_4, nr_sub_7, nr_sub_10, nr_sub_11, nr_sub_20, nr_sub_48, nr_sub_97, nl_sub_3, nl_sub_4, nl_sub_12, nl_sub_24, nl_sub_32, nr_div_2, nr_div_4, z_lt, z_le, z_eq, z_cl, n_ti, Int.toNat_natCast, Int32.reduceToInt, Int32.reduceToNatClampNeg, zc_add, zc_sub, zc_add_1, zc_add_2, zc_add_3, zc_add_4, zc_add_8, zc_add_10, zc_add_12, zc_add_16, zc_add_20, zc_sub_1, zc_sub_2, zc_sub_4, zc_sub_10, zc_sub_20, zc_sub_48, zc_sub_97, zc_mul_4, t_ltZ, f_ltZ, t_leZ, f_leZ, t_eqZ, f_eqZ, t_ltN, f_ltN, t_leN, f_leN, t_eqN, f_eqN, ↓reduceIte, and_true, true_and, and_false, false_and, and_self, or_true, true_or, or_false, false_or, or_self, not_true_eq_false, not_false_eq_true, tu_same, tu_eq, tu_ne, b_V, b_I, b_J]
        · by_cases c4 : (B 184 j).toInt < 0 ∨ k.toInt < (B 184 j).toInt
          · have hg : good j = true := h3.mpr ⟨z_eq.mpr c2, by omega, c4⟩
            have st : R_238 71 [(0, .ref 131), (1, .int (nI x)), (2, .int p), (3, .int (nI tick)), (4, .int k), (5, .int (mn v)), (6, .int (nI j))] [] (mk B J τ) = R_238 6 [(0, .ref 131), (1, .int (nI x)), (2, .int p), (3, .int (nI tick)), (4, .int k), (5, .int (mn v')), (6, .int (nI (j + 1)))] [] (mk B J τ) := by
              rw [e_238_71]
              by_cases c5 : f ≤ tick ∧ tick < f + l
              · rcases h9 c5.1 c5.2 with ⟨d1, d2⟩ | ⟨d1, d2⟩
                · rw [hn0 (by omega)]
                  simp (disch := first | omega | (simp (disch := omega) only [n_ti, Int32.reduceToInt] <;> omega)) only [h6, h7, d2, e_238_139, e_238_141, n_add, nl_add, nr_add, n_mul, nl_mul, nr_mul, n_sub, nr_dec, n_div, nr_sub_1, nr_sub_2, nr_sub_3, nr_sub_4, nr_sub_7, nr_sub_10, nr_sub_11, nr_sub_20, nr_sub_48, nr_sub_97, nl_sub_3, nl_sub_4, nl_sub_12, nl_sub_24, nl_sub_32, nr_div_2, nr_div_4, z_lt, z_le, z_eq, z_cl, n_ti, Int.toNat_natCast, Int32.reduceToInt, Int32.reduceToNatClampNeg, zc_add, zc_sub, zc_add_1, zc_add_2, zc_add_3, zc_add_4, zc_add_8, zc_add_10, zc_add_12, zc_add_16, zc_add_20, zc_sub_1, zc_sub_2, zc_sub_4, zc_sub_10, zc_sub_20, zc_sub_48, zc_sub_97, zc_mul_4, t_ltZ, f_ltZ, t_leZ, f_leZ, t_eqZ, f_eqZ, t_ltN, f_ltN, t_leN, f_leN, t_eqN, f_eqN, ↓reduceIte, and_true, true_and, and_false, false_and, and_self, or_true, true_or, or_false, false_or, or_self, not_true_eq_false, not_false_eq_true, tu_same, tu_eq, tu_ne, b_V, b_I, b_J]
                · have em : mn (sg j) = nI (sg j) := by unfold mn; rw [if_neg (by omega)]
                  rw [hn1 ⟨hg, c1, by omega⟩, em]
                  simp (disch := first | omega | (simp (disch := omega) only [n_ti, Int32.reduceToInt] <;> omega)) only [h6, h7, d2, e_238_139, e_238_141, n_add, nl_add, nr_add, n_mul, nl_mul, nr_mul, n_sub, nr_dec, n_div, nr_sub_1, nr_sub_2, nr_sub_3, nr_sub_4, nr_sub_7, nr_sub_10, nr_sub_11, nr_sub_20, nr_sub_48, nr_sub_97, nl_sub_3, nl_sub_4, nl_sub_12, nl_sub_24, nl_sub_32, nr_div_2, nr_div_4, z_lt, z_le, z_eq, z_cl, n_ti, Int.toNat_natCast, Int32.reduceToInt, Int32.reduceToNatClampNeg, zc_add, zc_sub, zc_add_1, zc_add_2, zc_add_3, zc_add_4, zc_add_8, zc_add_10, zc_add_12, zc_add_16, zc_add_20, zc_sub_1, zc_sub_2, zc_sub_4, zc_sub_10, zc_sub_20, zc_sub_48, zc_sub_97, zc_mul_4, t_ltZ, f_ltZ, t_leZ, f_leZ, t_eqZ, f_eqZ, t_ltN, f_ltN, t_leN, f_leN, t_eqN, f_eqN, ↓reduceIte, and_true, true_and, and_false, false_and, and_self, or_true, true_or, or_false, false_or, or_self, not_true_eq_false, not_false_eq_true, tu_same, tu_eq, tu_ne, b_V, b_I, b_J]
              · have := h8 (by omega)
                rw [hn0 (by omega)]
                by_cases c6 : tick < f
                · simp (disch := first | omega | (simp (disch := omega) only [n_ti, Int32.reduceToInt] <;> omega)) only [h6, h7, e_238_141, n_add, nl_add, nr_add, n_mul, nl_mul, nr_mul, n_sub, nr_dec, n_div, nr_sub_1, nr_sub_2, nr_sub_3, nr_sub_4, nr_sub_7, nr_sub_10, nr_sub_11, nr_sub_20, nr_sub_48, nr_sub_97, nl_sub_3, nl_sub_4, nl_sub_12, nl_sub_24, nl_sub_32, nr_div_2, nr_div_4, z_lt, z_le, z_eq, z_cl, n_ti, Int.toNat_natCast, Int32.reduceToInt, Int32.reduceToNatClampNeg, zc_add, zc_sub, zc_add_1, zc_add_2, zc_add_3, zc_add_4, zc_add_8, zc_add_10, zc_add_12, zc_add_16, zc_add_20, zc_sub_1, zc_sub_2, zc_sub_4, zc_sub_10, zc_sub_20, zc_sub_48, zc_sub_97, zc_mul_4, t_ltZ, f_ltZ, t_leZ, f_leZ, t_eqZ, f_eqZ, t_ltN, f_ltN, t_leN, f_leN, t_eqN, f_eqN, ↓reduceIte, and_true, true_and, and_false, false_and, and_self, or_true, true_or, or_false, false_or, or_self, not_true_eq_false, not_false_eq_true, tu_same, tu_eq, tu_ne, b_V, b_I, b_J]
                · simp (disch := first | omega | (simp (disch := omega) only [n_ti, Int32.reduceToInt] <;> omega)) only [h6, h7, e_238_141, n_add, nl_add, nr_add, n_mul, nl_mul, nr_mul, n_sub, nr_dec, n_div, nr_sub_1, nr_sub_2, nr_sub_3, nr_sub_4, nr_sub_7, nr_sub_10, nr_sub_11, nr_sub_20, nr_sub_48, nr_sub_97, nl_sub_3, nl_sub_4, nl_sub_12, nl_sub_24, nl_sub_32, nr_div_2, nr_div_4, z_lt, z_le, z_eq, z_cl, n_ti, Int.toNat_natCast, Int32.reduceToInt, Int32.reduceToNatClampNeg, zc_add, zc_sub, zc_add_1, zc_add_2, zc_add_3, zc_add_4, zc_add_8, zc_add_10, zc_add_12, zc_add_16, zc_add_20, zc_sub_1, zc_sub_2, zc_sub_4, zc_sub_10, zc_sub_20, zc_sub_48, zc_sub_97, zc_mul_4, t_ltZ, f_ltZ, t_leZ, f_leZ, t_eqZ, f_eqZ, t_ltN, f_ltN, t_leN, f_leN, t_eqN, f_eqN, ↓reduceIte, and_true, true_and, and_false, false_and, and_self, or_true, true_or, or_false, false_or, or_self, not_true_eq_false, not_false_eq_true, tu_same, tu_eq, tu_ne, b_V, b_I, b_J]
            rw [← st]
            rcases c4 with c4 | c4
            · simp (disch := first | omega | (simp (disch := omega) only [n_ti, Int32.reduceToInt] <;> omega)) only [h84, h1, n_add, nl_add, nr_add, n_mul, nl_mul, nr_mul, n_sub, nr_dec, n_div, nr_sub_1, nr_sub_2, nr_sub_3, nr_sub_4, nr_sub_7, nr_sub_10, nr_sub_11, nr_sub_20, nr_sub_48, nr_sub_97, nl_sub_3, nl_sub_4, nl_sub_12, nl_sub_24, nl_sub_32, nr_div_2, nr_div_4, z_lt, z_le, z_eq, z_cl, n_ti, Int.toNat_natCast, Int32.reduceToInt, Int32.reduceToNatClampNeg, zc_add, zc_sub, zc_add_1, zc_add_2, zc_add_3, zc_add_4, zc_add_8, zc_add_10, zc_add_12, zc_add_16, zc_add_20, zc_sub_1, zc_sub_2, zc_sub_4, zc_sub_10, zc_sub_20, zc_sub_48, zc_sub_97, zc_mul_4, t_ltZ, f_ltZ, t_leZ, f_leZ, t_eqZ, f_eqZ, t_ltN, f_ltN, t_leN, f_leN, t_eqN, f_eqN, ↓reduceIte, and_true, true_and, and_false, false_and, and_self, or_true, true_or, or_false, false_or, or_self, not_true_eq_false, not_false_eq_true, tu_same, tu_eq, tu_ne, b_V, b_I, b_J]
            · by_cases c5 : (B 184 j).toInt < 0
              · simp (disch := first | omega | (simp (disch := omega) only [n_ti, Int32.reduceToInt] <;> omega)) only [h84, h1, n_add, nl_add, nr_add, n_mul, nl_mul, nr_mul, n_sub, nr_dec, n_div, nr_sub_1, nr_sub_2, nr_sub_3, nr_sub_4, nr_sub_7, nr_sub_10, nr_sub_11, nr_sub_20, nr_sub_48, nr_sub_97, nl_sub_3, nl_sub_4, nl_sub_12, nl_sub_24, nl_sub_32, nr_div_2, nr_div_4, z_lt, z_le, z_eq, z_cl, n_ti, Int.toNat_natCast, Int32.reduceToInt, Int32.reduceToNatClampNeg, zc_add, zc_sub, zc_add_1, zc_add_2, zc_add_3, zc_add_4, zc_add_8, zc_add_10, zc_add_12, zc_add_16, zc_add_20, zc_sub_1, zc_sub_2, zc_sub_4, zc_sub_10, zc_sub_20, zc_sub_48, zc_sub_97, zc_mul_4, t_ltZ, f_ltZ, t_leZ, f_leZ, t_eqZ, f_eqZ, t_ltN, f_ltN, t_leN, f_leN, t_eqN, f_eqN, ↓reduceIte, and_true, true_and, and_false, false_and, and_self, or_true, true_or, or_false, false_or, or_self, not_true_eq_false, not_false_eq_true, tu_same, tu_eq, tu_ne, b_V, b_I, b_J]
              · simp (disch := first | omega | (simp (disch := omega) only [n_ti, Int32.reduceToInt] <;> omega)) only [h84, h1, n_add, nl_add, nr_add, n_mul, nl_mul, nr_mul, n_sub, nr_dec, n_div, nr_sub_1, nr_sub_2, nr_sub_3, nr_sub_4, nr_sub_7, nr_sub_10, nr_sub_11, nr_sub_20, nr_sub_48, nr_sub_97, nl_sub_3, nl_sub_4, nl_sub_12, nl_sub_24, nl_sub_32, nr_div_2, nr_div_4, z_lt, z_le, z_eq, z_cl, n_ti, Int.toNat_natCast, Int32.reduceToInt, Int32.reduceToNatClampNeg, zc_add, zc_sub, zc_add_1, zc_add_2, zc_add_3, zc_add_4, zc_add_8, zc_add_10, zc_add_12, zc_add_16, zc_add_20, zc_sub_1, zc_sub_2, zc_sub_4, zc_sub_10, zc_sub_20, zc_sub_48, zc_sub_97, zc_mul_4, t_ltZ, f_ltZ, t_leZ, f_leZ, t_eqZ, f_eqZ, t_ltN, f_ltN, t_leN, f_leN, t_eqN, f_eqN, ↓reduceIte, and_true, true_and, and_false, false_and, and_self, or_true, true_or, or_false, false_or, or_self, not_true_eq_false, not_false_eq_true, tu_same, tu_eq, tu_ne, b_V, b_I, b_J]
          · have : ¬ good j = true := fun e => c4 (h3.mp e).2.2
            rw [hn0 (fun e => this e.1)]
            simp (disch := first | omega | (simp (disch := omega) only [n_ti, Int32.reduceToInt] <;> omega)) only [h84, h1, e_238_141, n_add, nl_add, nr_add, n_mul, nl_mul, nr_mul, n_sub, nr_dec, n_div, nr_sub_1, nr_sub_2, nr_sub_3, nr_sub_4, nr_sub_7, nr_sub_10, nr_sub_11, nr_sub_20, nr_sub_48, nr_sub_97, nl_sub_3, nl_sub_4, nl_sub_12, nl_sub_24, nl_sub_32, nr_div_2, nr_div_4, z_lt, z_le, z_eq, z_cl, n_ti, Int.toNat_natCast, Int32.reduceToInt, Int32.reduceToNatClampNeg, zc_add, zc_sub, zc_add_1, zc_add_2, zc_add_3, zc_add_4, zc_add_8, zc_add_10, zc_add_12, zc_add_16, zc_add_20, zc_sub_1, zc_sub_2, zc_sub_4, zc_sub_10, zc_sub_20, zc_sub_48, zc_sub_97, zc_mul_4, t_ltZ, f_ltZ, t_leZ, f_leZ, t_eqZ, f_eqZ, t_ltN, f_ltN, t_leN, f_leN, t_eqN, f_eqN, ↓reduceIte, and_true, true_and, and_false, false_and, and_self, or_true, true_or, or_false, false_or, or_self, not_true_eq_false, not_false_eq_true, tu_same, tu_eq, tu_ne, b_V, b_I, b_J]
      · have : ¬ good j = true := fun e => c2 (z_eq.mp (h3.mp e).1)
        rw [hn0 (fun e => this e.1)]
        simp (disch := first | omega | (simp (disch := omega) only [n_ti, Int32.reduceToInt] <;> omega)) only [h84, h1, e_238_141, n_add, nl_add, nr_add, n_mul, nl_mul, nr_mul, n_sub, nr_dec, n_div, nr_sub_1, nr_sub_2, nr_sub_3, nr_sub_4, nr_sub_7, nr_sub_10, nr_sub_11, nr_sub_20, nr_sub_48, nr_sub_97, nl_sub_3, nl_sub_4, nl_sub_12, nl_sub_24, nl_sub_32, nr_div_2, nr_div_4, z_lt, z_le, z_eq, z_cl, n_ti, Int.toNat_natCast, Int32.reduceToInt, Int32.reduceToNatClampNeg, zc_add, zc_sub, zc_add_1, zc_add_2, zc_add_3, zc_add_4, zc_add_8, zc_add_10, zc_add_12, zc_add_16, zc_add_20, zc_sub_1, zc_sub_2, zc_sub_4, zc_sub_10, zc_sub_20, zc_sub_48, zc_sub_97, zc_mul_4, t_ltZ, f_ltZ, t_leZ, f_leZ, t_eqZ, f_eqZ, t_ltN, f_ltN, t_leN, f_leN, t_eqN, f_eqN, ↓reduceIte, and_true, true_and, and_false, false_and, and_self, or_true, true_or, or_false, false_or, or_self, not_true_eq_false, not_false_eq_true, tu_same, tu_eq, tu_ne, b_V, b_I, b_J]
    · rw [hn0 (fun e => c1 e.2.1)]
      simp (disch := first | omega | (simp (disch := omega) only [n_ti, Int32.reduceToInt] <;> omega)) only [h84, h1, e_238_141, n_add, nl_add, nr_add, n_mul, nl_mul, nr_mul, n_sub, nr_dec, n_div, nr_sub_1, nr_sub_2, nr_sub_3, nr_sub_4, nr_sub_7, nr_sub_10, nr_sub_11, nr_sub_20, nr_sub_48, nr_sub_97, nl_sub_3, nl_sub_4, nl_sub_12, nl_sub_24, nl_sub_32, nr_div_2, nr_div_4, z_lt, z_le, z_eq, z_cl, n_ti, Int.toNat_natCast, Int32.reduceToInt, Int32.reduceToNatClampNeg, zc_add, zc_sub, zc_add_1, zc_add_2, zc_add_3, zc_add_4, zc_add_8, zc_add_10, zc_add_12, zc_add_16, zc_add_20, zc_sub_1, zc_sub_2, zc_sub_4, zc_sub_10, zc_sub_20, zc_sub_48, zc_sub_97, zc_mul_4, t_ltZ, f_ltZ, t_leZ, f_leZ, t_eqZ, f_eqZ, t_ltN, f_ltN, t_leN, f_leN, t_eqN, f_eqN, ↓reduceIte, and_true, true_and, and_false, false_and, and_self, or_true, true_or, or_false, false_or, or_self, not_true_eq_false, not_false_eq_true, tu_same, tu_eq, tu_ne, b_V, b_I, b_J]
theorem s_238 {B : Nat → Nat → Int32} {J : Nat → Nat → Int64} {τ : tm_Tu} {good : Nat → Bool} {jd sg : Nat → Nat} (p k : Int32) (tick x n : Nat) (hn : n ≤ 30) (ht : tick < 800) (hx : x < 3) (h84 : B 131 84 = nI n) (hJ : ∀ j, j < n → JB B good jd sg p k tick j) : F_238 [.ref 131, .int (nI x), .int p, .int (nI tick), .int k] (mk B J τ) = some (some (.int (mn (sw good jd sg x n))), mk B J τ) := by
  rw [← l_238 (J := J) (τ := τ) p k tick x n hn ht hx h84 hJ n 0 (by omega), e_238]
  rfl
set_option maxHeartbeats 4000000 in
theorem s_239 {B : Nat → Nat → Int32} {J : Nat → Nat → Int64} {τ : tm_Tu} {good : Nat → Bool} {jd sg : Nat → Nat} (p k : Int32) (tick n : Nat) (hn : n ≤ 30) (ht : tick < 800) (h84 : B 131 84 = nI n) (hsg : ∀ j, j < n → sg j ≤ 4) (hJ : ∀ j, j < n → JB B good jd sg p k tick j) : F_239 [.ref 131, .int p, .int (nI tick), .int k] (mk B J τ) = some (some (.int (nI (sn good jd sg n))), mk B J τ) := by
  have b0 := sw_le good jd sg 0 n hsg
  have b1 := sw_le good jd sg 1 n hsg
  have b2 := sw_le good jd sg 2 n hsg
  unfold sn
  have key : ∀ (x v : Nat), x < 3 → v ≤ 4 → R_239 15 [(0, .ref 131), (1, .int p), (2, .int (nI tick)), (3, .int k), (4, .int (mn v)), (5, .int (nI x))] [] (mk B J τ) = if sw good jd sg x n = 4 then R_239 15 [(0, .ref 131), (1, .int p), (2, .int (nI tick)), (3, .int k), (4, .int (mn v)), (5, .int (nI (x + 1)))] [] (mk B J τ) else if v = 4 ∨ v = sw good jd sg x n then R_239 15 [(0, .ref 131), (1, .int p), (2, .int (nI tick)), (3, .int k), (4, .int (mn (sw good jd sg x n))), (5, .int (nI (x + 1)))] [] (mk B J τ) else some (some (.int 4), mk B J τ) := by
    intro x v hx hv
    have q := s_238 (J := J) (τ := τ) p k tick x n hn ht hx h84 hJ
    have b := sw_le good jd sg x n hsg
    generalize sw good jd sg x n = s at *
    rw [e_239_15]
    by_cases c : s = 4
    · subst c
      simp (disch := first | omega | (simp (disch := omega) only [n_ti, Int32.reduceToInt] <;> omega)) only [q, e_239_30, e_239_58, mn, n_add, nl_add, nr_add, n_mul, nl_mul, nr_mul, n_sub, nr_dec, n_div, nr_sub_1, nr_sub_2, nr_sub_3, nr_sub_4, nr_sub_7, nr_sub_10, nr_sub_11, nr_sub_20, nr_sub_48, nr_sub_97, nl_sub_3, nl_sub_4, nl_sub_12, nl_sub_24, nl_sub_32, nr_div_2, nr_div_4, z_lt, z_le, z_eq, z_cl, n_ti, Int.toNat_natCast, Int32.reduceToInt, Int32.reduceToNatClampNeg, zc_add, zc_sub, zc_add_1, zc_add_2, zc_add_3, zc_add_4, zc_add_8, zc_add_10, zc_add_12, zc_add_16, zc_add_20, zc_sub_1, zc_sub_2, zc_sub_4, zc_sub_10, zc_sub_20, zc_sub_48, zc_sub_97, zc_mul_4, t_ltZ, f_ltZ, t_leZ, f_leZ, t_eqZ, f_eqZ, t_ltN, f_ltN, t_leN, f_leN, t_eqN, f_eqN, ↓reduceIte, and_true, true_and, and_false, false_and, and_self, or_true, true_or, or_false, false_or, or_self, not_true_eq_false, not_false_eq_true, tu_same, tu_eq, tu_ne, b_V, b_I, b_J]
    · have e : mn s = nI s := by unfold mn; rw [if_neg c]
      by_cases c2 : v = 4
      · subst c2
        simp (disch := first | omega | (simp (disch := omega) only [n_ti, Int32.reduceToInt] <;> omega)) only [q, e_239_30, e_239_54, e_239_58, e, n_add, nl_add, nr_add, n_mul, nl_mul, nr_mul, n_sub, nr_dec, n_div, nr_sub_1, nr_sub_2, nr_sub_3, nr_sub_4, nr_sub_7, nr_sub_10, nr_sub_11, nr_sub_20, nr_sub_48, nr_sub_97, nl_sub_3, nl_sub_4, nl_sub_12, nl_sub_24, nl_sub_32, nr_div_2, nr_div_4, z_lt, z_le, z_eq, z_cl, n_ti, Int.toNat_natCast, Int32.reduceToInt, Int32.reduceToNatClampNeg, zc_add, zc_sub, zc_add_1, zc_add_2, zc_add_3, zc_add_4, zc_add_8, zc_add_10, zc_add_12, zc_add_16, zc_add_20, zc_sub_1, zc_sub_2, zc_sub_4, zc_sub_10, zc_sub_20, zc_sub_48, zc_sub_97, zc_mul_4, t_ltZ, f_ltZ, t_leZ, f_leZ, t_eqZ, f_eqZ, t_ltN, f_ltN, t_leN, f_leN, t_eqN, f_eqN, ↓reduceIte, and_true, true_and, and_false, false_and, and_self, or_true, true_or, or_false, false_or, or_self, not_true_eq_false, not_false_eq_true, tu_same, tu_eq, tu_ne, b_V, b_I, b_J]
        simp (disch := first | omega | (simp (disch := omega) only [n_ti, Int32.reduceToInt] <;> omega)) only [mn, e_239_54, e_239_58, n_add, nl_add, nr_add, n_mul, nl_mul, nr_mul, n_sub, nr_dec, n_div, nr_sub_1, nr_sub_2, nr_sub_3, nr_sub_4, nr_sub_7, nr_sub_10, nr_sub_11, nr_sub_20, nr_sub_48, nr_sub_97, nl_sub_3, nl_sub_4, nl_sub_12, nl_sub_24, nl_sub_32, nr_div_2, nr_div_4, z_lt, z_le, z_eq, z_cl, n_ti, Int.toNat_natCast, Int32.reduceToInt, Int32.reduceToNatClampNeg, zc_add, zc_sub, zc_add_1, zc_add_2, zc_add_3, zc_add_4, zc_add_8, zc_add_10, zc_add_12, zc_add_16, zc_add_20, zc_sub_1, zc_sub_2, zc_sub_4, zc_sub_10, zc_sub_20, zc_sub_48, zc_sub_97, zc_mul_4, t_ltZ, f_ltZ, t_leZ, f_leZ, t_eqZ, f_eqZ, t_ltN, f_ltN, t_leN, f_leN, t_eqN, f_eqN, ↓reduceIte, and_true, true_and, and_false, false_and, and_self, or_true, true_or, or_false, false_or, or_self, not_true_eq_false, not_false_eq_true, tu_same, tu_eq, tu_ne, b_V, b_I, b_J]
      · have e2 : mn v = nI v := by unfold mn; rw [if_neg c2]
        by_cases c3 : v = s
        · subst c3
          simp (disch := first | omega | (simp (disch := omega) only [n_ti, Int32.reduceToInt] <;> omega)) only [q, e_239_30, e_239_54, e_239_58, e2, n_add, nl_add, nr_add, n_mul, nl_mul, nr_mul, n_sub, nr_dec, n_div, nr_sub_1, nr_sub_2, nr_sub_3, nr_sub_4, nr_sub_7, nr_sub_10, nr_sub_11, nr_sub_20, nr_sub_48, nr_sub_97, nl_sub_3, nl_sub_4, nl_sub_12, nl_sub_24, nl_sub_32, nr_div_2, nr_div_4, z_lt, z_le, z_eq, z_cl, n_ti, Int.toNat_natCast, Int32.reduceToInt, Int32.reduceToNatClampNeg, zc_add, zc_sub, zc_add_1, zc_add_2, zc_add_3, zc_add_4, zc_add_8, zc_add_10, zc_add_12, zc_add_16, zc_add_20, zc_sub_1, zc_sub_2, zc_sub_4, zc_sub_10, zc_sub_20, zc_sub_48, zc_sub_97, zc_mul_4, t_ltZ, f_ltZ, t_leZ, f_leZ, t_eqZ, f_eqZ, t_ltN, f_ltN, t_leN, f_leN, t_eqN, f_eqN, ↓reduceIte, and_true, true_and, and_false, false_and, and_self, or_true, true_or, or_false, false_or, or_self, not_true_eq_false, not_false_eq_true, tu_same, tu_eq, tu_ne, b_V, b_I, b_J]
        · simp (disch := first | omega | (simp (disch := omega) only [n_ti, Int32.reduceToInt] <;> omega)) only [q, e_239_30, e_239_54, e_239_58, e, e2, n_add, nl_add, nr_add, n_mul, nl_mul, nr_mul, n_sub, nr_dec, n_div, nr_sub_1, nr_sub_2, nr_sub_3, nr_sub_4, nr_sub_7, nr_sub_10, nr_sub_11, nr_sub_20, nr_sub_48, nr_sub_97, nl_sub_3, nl_sub_4, nl_sub_12, nl_sub_24, nl_sub_32, nr_div_2, nr_div_4, z_lt, z_le, z_eq, z_cl, n_ti, Int.toNat_natCast, Int32.reduceToInt, Int32.reduceToNatClampNeg, zc_add, zc_sub, zc_add_1, zc_add_2, zc_add_3, zc_add_4, zc_add_8, zc_add_10, zc_add_12, zc_add_16, zc_add_20, zc_sub_1, zc_sub_2, zc_sub_4, zc_sub_10, zc_sub_20, zc_sub_48, zc_sub_97, zc_mul_4, t_ltZ, f_ltZ, t_leZ, f_leZ, t_eqZ, f_eqZ, t_ltN, f_ltN, t_leN, f_leN, t_eqN, f_eqN, ↓reduceIte, and_true, true_and, and_false, false_and, and_self, or_true, true_or, or_false, false_or, or_self, not_true_eq_false, not_false_eq_true, tu_same, tu_eq, tu_ne, b_V, b_I, b_J]
  have fin : ∀ v, v ≤ 4 → R_239 15 [(0, .ref 131), (1, .int p), (2, .int (nI tick)), (3, .int k), (4, .int (mn v)), (5, .int (nI 3))] [] (mk B J τ) = some (some (.int (nI v)), mk B J τ) := by
    intro v hv
    rw [e_239_15]
    by_cases c : v = 4
    · subst c
      simp (disch := first | omega | (simp (disch := omega) only [n_ti, Int32.reduceToInt] <;> omega)) only [mn, e_239_75, n_add, nl_add, nr_add, n_mul, nl_mul, nr_mul, n_sub, nr_dec, n_div, nr_sub_1, nr_sub_2, nr_sub_3, nr_sub_4, nr_sub_7, nr_sub_10, nr_sub_11, nr_sub_20, nr_sub_48, nr_sub_97, nl_sub_3, nl_sub_4, nl_sub_12, nl_sub_24, nl_sub_32, nr_div_2, nr_div_4, z_lt, z_le, z_eq, z_cl, n_ti, Int.toNat_natCast, Int32.reduceToInt, Int32.reduceToNatClampNeg, zc_add, zc_sub, zc_add_1, zc_add_2, zc_add_3, zc_add_4, zc_add_8, zc_add_10, zc_add_12, zc_add_16, zc_add_20, zc_sub_1, zc_sub_2, zc_sub_4, zc_sub_10, zc_sub_20, zc_sub_48, zc_sub_97, zc_mul_4, t_ltZ, f_ltZ, t_leZ, f_leZ, t_eqZ, f_eqZ, t_ltN, f_ltN, t_leN, f_leN, t_eqN, f_eqN, ↓reduceIte, and_true, true_and, and_false, false_and, and_self, or_true, true_or, or_false, false_or, or_self, not_true_eq_false, not_false_eq_true, tu_same, tu_eq, tu_ne, b_V, b_I, b_J]
      rfl
    · have e2 : mn v = nI v := by unfold mn; rw [if_neg c]
      simp (disch := first | omega | (simp (disch := omega) only [n_ti, Int32.reduceToInt] <;> omega)) only [e2, e_239_75, n_add, nl_add, nr_add, n_mul, nl_mul, nr_mul, n_sub, nr_dec, n_div, nr_sub_1, nr_sub_2, nr_sub_3, nr_sub_4, nr_sub_7, nr_sub_10, nr_sub_11, nr_sub_20, nr_sub_48, nr_sub_97, nl_sub_3, nl_sub_4, nl_sub_12, nl_sub_24, nl_sub_32, nr_div_2, nr_div_4, z_lt, z_le, z_eq, z_cl, n_ti, Int.toNat_natCast, Int32.reduceToInt, Int32.reduceToNatClampNeg, zc_add, zc_sub, zc_add_1, zc_add_2, zc_add_3, zc_add_4, zc_add_8, zc_add_10, zc_add_12, zc_add_16, zc_add_20, zc_sub_1, zc_sub_2, zc_sub_4, zc_sub_10, zc_sub_20, zc_sub_48, zc_sub_97, zc_mul_4, t_ltZ, f_ltZ, t_leZ, f_leZ, t_eqZ, f_eqZ, t_ltN, f_ltN, t_leN, f_leN, t_eqN, f_eqN, ↓reduceIte, and_true, true_and, and_false, false_and, and_self, or_true, true_or, or_false, false_or, or_self, not_true_eq_false, not_false_eq_true, tu_same, tu_eq, tu_ne, b_V, b_I, b_J]
  have st : F_239 [.ref 131, .int p, .int (nI tick), .int k] (mk B J τ) = R_239 15 [(0, .ref 131), (1, .int p), (2, .int (nI tick)), (3, .int k), (4, .int (mn 4)), (5, .int (nI 0))] [] (mk B J τ) := by
    rw [e_239]
    simp (disch := first | omega | (simp (disch := omega) only [n_ti, Int32.reduceToInt] <;> omega)) only [n_add, nl_add, nr_add, n_mul, nl_mul, nr_mul, n_sub, nr_dec, n_div, nr_sub_1, nr_sub_2, nr_sub_3, nr_sub_4, nr_sub_7, nr_sub_10, nr_sub_11, nr_sub_20, nr_sub_48, nr_sub_97, nl_sub_3, nl_sub_4, nl_sub_12, nl_sub_24, nl_sub_32, nr_div_2, nr_div_4, z_lt, z_le, z_eq, z_cl, n_ti, Int.toNat_natCast, Int32.reduceToInt, Int32.reduceToNatClampNeg, zc_add, zc_sub, zc_add_1, zc_add_2, zc_add_3, zc_add_4, zc_add_8, zc_add_10, zc_add_12, zc_add_16, zc_add_20, zc_sub_1, zc_sub_2, zc_sub_4, zc_sub_10, zc_sub_20, zc_sub_48, zc_sub_97, zc_mul_4, t_ltZ, f_ltZ, t_leZ, f_leZ, t_eqZ, f_eqZ, t_ltN, f_ltN, t_leN, f_leN, t_eqN, f_eqN, ↓reduceIte, and_true, true_and, and_false, false_and, and_self, or_true, true_or, or_false, false_or, or_self, not_true_eq_false, not_false_eq_true, tu_same, tu_eq, tu_ne, b_V, b_I, b_J]
    rfl
  rw [st, key 0 4 (by omega) (by omega)]
  have k1 := fun v => key 1 v (by omega)
  have k2 := fun v => key 2 v (by omega)
  generalize sw good jd sg 0 n = s0 at *
  generalize sw good jd sg 1 n = s1 at *
  generalize sw good jd sg 2 n = s2 at *
  unfold cmb
  by_cases c0 : s0 = 4
  · rw [if_pos c0, if_pos c0, k1 4 (by omega)]
    by_cases c1 : s1 = 4
    · rw [if_pos c1, if_pos c1, k2 4 (by omega)]
      by_cases c2 : s2 = 4
      · rw [if_pos c2, fin 4 (by omega), c2]
      · rw [if_neg c2, if_pos (Or.inl rfl), fin s2 b2]
    · rw [if_neg c1, if_neg c1, if_pos (Or.inl rfl), k2 s1 b1]
      by_cases c2 : s2 = 4
      · rw [if_pos c2, if_pos c2, fin s1 b1]
      · rw [if_neg c2, if_neg c2]
        by_cases c3 : s1 = s2
        · rw [if_pos (Or.inr c3), if_pos c3, fin s2 b2, c3]
        · rw [if_neg (by omega), if_neg c3]
          rfl
  · rw [if_neg c0, if_neg c0, if_pos (Or.inl rfl), k1 s0 b0]
    by_cases c1 : s1 = 4
    · rw [if_pos c1, if_pos c1, k2 s0 b0]
      by_cases c2 : s2 = 4
      · rw [if_pos c2, if_pos c2, fin s0 b0]
      · rw [if_neg c2, if_neg c2]
        by_cases c3 : s0 = s2
        · rw [if_pos (Or.inr c3), if_pos c3, fin s2 b2, c3]
        · rw [if_neg (by omega), if_neg c3]
          rfl
    · rw [if_neg c1, if_neg c1]
      by_cases c4 : s0 = s1
      · rw [if_pos (Or.inr c4), if_pos c4, k2 s1 b1]
        by_cases c2 : s2 = 4
        · rw [if_pos c2, if_pos c2, fin s1 b1, c4]
        · rw [if_neg c2, if_neg c2]
          by_cases c3 : s0 = s2
          · rw [if_pos (by omega), if_pos c3, fin s2 b2, c3]
          · rw [if_neg (by omega), if_neg c3]
            rfl
      · rw [if_neg (by omega), if_neg c4]
        rfl
