/-! COUNTED OUT: stays -/
def jo (s : Nat) : Nat → Nat
  | 0 => 0
  | n + 1 => if n = 0 then 0 else (jo s n + s) % (n + 1)
theorem jo_lt (s n : Nat) (h : 1 ≤ n) : jo s n < n := by
  obtain ⟨k, rfl⟩ : ∃ k, n = k + 1 := ⟨n - 1, by omega⟩
  show (if k = 0 then 0 else (jo s k + s) % (k + 1)) < k + 1
  by_cases hk : k = 0
  · rw [if_pos hk]; omega
  · rw [if_neg hk]; exact Nat.mod_lt _ (by omega)
theorem jo_s (s n : Nat) (h : 1 ≤ n) : jo s (n + 1) = (jo s n + s) % (n + 1) := by
  show (if n = 0 then 0 else (jo s n + s) % (n + 1)) = _
  rw [if_neg (by omega)]
theorem l_217 {A : Nat → Nat → Int32} {J : Nat → Nat → Int64} {τ : tm_Tu} (n s : Nat) (hn : n ≤ 100) (hs : s ≤ 300) (h2 : A 32 2 = nI s) : ∀ m r, r + m = n → 1 ≤ r → R_217 24 [(0, .ref 32), (1, .int (nI n)), (2, .int (nI (jo s r))), (3, .int (nI (r + 1)))] [] (mk A J τ) = some (some (.int (nI (jo s n))), mk A J τ) := by
  intro m
  induction m with
  | zero =>
    intro r hr h1
    have e : r = n := by omega
    subst e
    rw [e_217_24]
    simp (disch := first | omega | (simp (disch := omega) only [n_ti, Int32.reduceToInt] <;> omega)) only [n_add, nl_add, nr_add, n_mul, nl_mul, nr_mul, n_sub, nr_dec, n_div, nr_sub_1, nr_sub_2, nr_sub_3, nr_sub_4, nr_sub_7, nr_sub_10, nr_sub_11, nr_sub_20, nr_sub_48, nr_sub_97, nl_sub_3, nl_sub_4, nl_sub_12, nl_sub_24, nl_sub_32, nr_div_2, nr_div_4, z_lt, z_le, z_eq, z_cl, n_ti, Int.toNat_natCast, Int32.reduceToInt, Int32.reduceToNatClampNeg, zc_add, zc_sub, zc_add_1, zc_add_2, zc_add_3, zc_add_4, zc_add_8, zc_add_10, zc_add_12, zc_add_16, zc_add_20, zc_sub_1, zc_sub_2, zc_sub_4, zc_sub_10, zc_sub_20, zc_sub_48, zc_sub_97, zc_mul_4, t_ltZ, f_ltZ, t_leZ, f_leZ, t_eqZ, f_eqZ, t_ltN, f_ltN, t_leN, f_leN, t_eqN, f_eqN, ↓reduceIte, and_true, true_and, and_false, false_and, and_self, or_true, true_or, or_false, false_or, or_self, not_true_eq_false, not_false_eq_true, tu_same, tu_eq, tu_ne, b_V, b_I, b_J]
  | succ m ih =>
    intro r hr h1
    have hj := jo_lt s r h1
    rw [← ih (r + 1) (by omega) (by omega), e_217_24, jo_s s r h1]
    have hd : (jo s r + s) / (r + 1) * (r + 1) ≤ jo s r + s := Nat.div_mul_le_self _ _
    have hm : (jo s r + s) - (jo s r + s) / (r + 1) * (r + 1) = (jo s r + s) % (r + 1) := by
      have := Nat.div_add_mod' (jo s r + s) (r + 1)
      omega
    simp (disch := first | omega | (simp (disch := omega) only [n_ti, Int32.reduceToInt] <;> omega)) only [h2, hm, n_add, nl_add, nr_add, n_mul, nl_mul, nr_mul, n_sub, nr_dec, n_div, nr_sub_1, nr_sub_2, nr_sub_3, nr_sub_4, nr_sub_7, nr_sub_10, nr_sub_11, nr_sub_20, nr_sub_48, nr_sub_97, nl_sub_3, nl_sub_4, nl_sub_12, nl_sub_24, nl_sub_32, nr_div_2, nr_div_4, z_lt, z_le, z_eq, z_cl, n_ti, Int.toNat_natCast, Int32.reduceToInt, Int32.reduceToNatClampNeg, zc_add, zc_sub, zc_add_1, zc_add_2, zc_add_3, zc_add_4, zc_add_8, zc_add_10, zc_add_12, zc_add_16, zc_add_20, zc_sub_1, zc_sub_2, zc_sub_4, zc_sub_10, zc_sub_20, zc_sub_48, zc_sub_97, zc_mul_4, t_ltZ, f_ltZ, t_leZ, f_leZ, t_eqZ, f_eqZ, t_ltN, f_ltN, t_leN, f_leN, t_eqN, f_eqN, ↓reduceIte, and_true, true_and, and_false, false_and, and_self, or_true, true_or, or_false, false_or, or_self, not_true_eq_false, not_false_eq_true, tu_same, tu_eq, tu_ne, b_V, b_I, b_J]
def ord (n a : Nat) : List Nat := (List.range n).map (fun i => (a + 1 + i) % n)
theorem ord_split (n a j : Nat) (hj : j < n) : ord n a = (List.range (j + 1)).map (fun i => (a + 1 + i) % n) ++ (List.range' (j + 1) (n - (j + 1))).map (fun i => (a + 1 + i) % n) := by
  unfold ord
  rw [← List.map_append]
  congr 1
  rw [List.range_eq_range', List.range_eq_range']
  have := List.range'_append_1 (s := 0) (m := j + 1) (n := n - (j + 1))
  rw [show 0 + (j + 1) = j + 1 by omega, show j + 1 + (n - (j + 1)) = n by omega] at this
  exact this.symm
theorem ord_rot (n a j : Nat) (hj : j < n) : ord n ((a + 1 + j) % n) = (List.range' (j + 1) (n - (j + 1))).map (fun i => (a + 1 + i) % n) ++ (List.range (j + 1)).map (fun i => (a + 1 + i) % n) := by
  have e1 : ord n ((a + 1 + j) % n) = (List.range' (j + 1) n).map (fun i => (a + 1 + i) % n) := by
    unfold ord
    rw [List.range'_eq_map_range, List.map_map]
    apply List.map_congr_left
    intro i _
    show ((a + 1 + j) % n + 1 + i) % n = (a + 1 + (j + 1 + i)) % n
    rw [show (a + 1 + j) % n + 1 + i = (a + 1 + j) % n + (1 + i) by omega, Nat.mod_add_mod]
    congr 1
    omega
  have e2 : (List.range (j + 1)).map (fun i => (a + 1 + i) % n) = (List.range' n (j + 1)).map (fun i => (a + 1 + i) % n) := by
    rw [List.range'_eq_map_range, List.map_map]
    apply List.map_congr_left
    intro i _
    show (a + 1 + i) % n = (a + 1 + (n + i)) % n
    rw [show a + 1 + (n + i) = a + 1 + i + n by omega, Nat.add_mod_right]
  rw [e1, e2, ← List.map_append]
  congr 1
  have := List.range'_append_1 (s := j + 1) (m := n - (j + 1)) (n := j + 1)
  rw [show j + 1 + (n - (j + 1)) = n by omega, show n - (j + 1) + (j + 1) = n by omega] at this
  exact this.symm
theorem least_al {p : Nat → Bool} : ∀ n, (∃ i, i < n ∧ p i = true) → ∃ j, j < n ∧ p j = true ∧ ∀ i, i < j → p i = false := by
  intro n
  induction n with
  | zero => intro ⟨i, h, _⟩; omega
  | succ n ih =>
    intro ⟨i, h1, h2⟩
    by_cases hx : ∃ i, i < n ∧ p i = true
    · obtain ⟨j, a, b, c⟩ := ih hx
      exact ⟨j, by omega, b, c⟩
    · refine ⟨n, by omega, ?_, fun i hi => ?_⟩
      · by_cases hi : i = n
        · rw [← hi]; exact h2
        · exact absurd ⟨i, by omega, h2⟩ hx
      · cases hp : p i with
        | false => rfl
        | true => exact absurd ⟨i, hi, hp⟩ hx
/-- the next one: the head of the ring's list, which goes behind -/
theorem ord_next (n a : Nat) (al : Nat → Bool) (c : Nat) (r : List Nat) (h : (ord n a).filter al = c :: r) : ∃ j, j < n ∧ c = (a + 1 + j) % n ∧ al c = true ∧ (∀ i, i < j → al ((a + 1 + i) % n) = false) ∧ (ord n c).filter al = r ++ [c] := by
  have hx : ∃ i, i < n ∧ al ((a + 1 + i) % n) = true := by
    have hm : c ∈ (ord n a).filter al := by rw [h]; exact List.mem_cons_self
    obtain ⟨h1, h2⟩ := List.mem_filter.mp hm
    obtain ⟨i, h3, h4⟩ := List.mem_map.mp h1
    exact ⟨i, List.mem_range.mp h3, by rw [h4]; exact h2⟩
  obtain ⟨j, hj, h1, h2⟩ := least_al n hx
  have hX : ((List.range (j + 1)).map (fun i => (a + 1 + i) % n)).filter al = [(a + 1 + j) % n] := by
    rw [List.range_succ, List.map_append, List.filter_append]
    have e0 : ((List.range j).map (fun i => (a + 1 + i) % n)).filter al = [] := by
      rw [List.filter_eq_nil_iff]
      intro x hx
      obtain ⟨i, h3, h4⟩ := List.mem_map.mp hx
      rw [← h4, h2 i (List.mem_range.mp h3)]
      exact Bool.false_ne_true
    rw [e0]
    simp [h1]
  rw [ord_split n a j hj, List.filter_append, hX] at h
  have hc : (a + 1 + j) % n = c := (List.cons.inj h).1
  have hr := (List.cons.inj h).2
  refine ⟨j, hj, hc.symm, by rw [← hc]; exact h1, h2, ?_⟩
  rw [← hc, ord_rot n a j hj, List.filter_append, hX]
  congr 1
theorem s_219 {B : Nat → Nat → Int32} {J : Nat → Nat → Int64} {τ : tm_Tu} (n a : Nat) (hn : n ≤ 100) (ha : a < n) (al : Nat → Bool) (hal : ∀ c, c < n → (al c = true ↔ B 178 c = 0)) (c : Nat) (r : List Nat) (h : (ord n a).filter al = c :: r) : F_219 [.ref 131, .int (nI a), .int (nI n)] (mk B J τ) = some (some (.int (nI c)), mk B J τ) := by
  obtain ⟨j, hj, hc, h1, h2, -⟩ := ord_next n a al c r h
  have key : ∀ m i, i + m = j → R_219 6 [(0, .ref 131), (2, .int (nI n)), (3, .int (nI ((a + 1 + i) % n)))] [] (mk B J τ) = some (some (.int (nI c)), mk B J τ) := by
    intro m
    induction m with
    | zero =>
      intro i hi
      have e : i = j := by omega
      subst e
      have hb : B 178 c = 0 := (hal c (by rw [hc]; exact Nat.mod_lt _ (by omega))).mp h1
      have hlt : c < n := by rw [hc]; exact Nat.mod_lt _ (by omega)
      rw [← hc, e_219_6]
      simp (disch := first | omega | (simp (disch := omega) only [n_ti, Int32.reduceToInt] <;> omega)) only [hb, n_add, nl_add, nr_add, n_mul, nl_mul, nr_mul, n_sub, nr_dec, n_div, nr_sub_1, nr_sub_2, nr_sub_3, nr_sub_4, nr_sub_7, nr_sub_10, nr_sub_11, nr_sub_20, nr_sub_48, nr_sub_97, nl_sub_3, nl_sub_4, nl_sub_12, nl_sub_24, nl_sub_32, nr_div_2, nr_div_4, z_lt, z_le, z_eq, z_cl, n_ti, Int.toNat_natCast, Int32.reduceToInt, Int32.reduceToNatClampNeg, zc_add, zc_sub, zc_add_1, zc_add_2, zc_add_3, zc_add_4, zc_add_8, zc_add_10, zc_add_12, zc_add_16, zc_add_20, zc_sub_1, zc_sub_2, zc_sub_4, zc_sub_10, zc_sub_20, zc_sub_48, zc_sub_97, zc_mul_4, t_ltZ, f_ltZ, t_leZ, f_leZ, t_eqZ, f_eqZ, t_ltN, f_ltN, t_leN, f_leN, t_eqN, f_eqN, ↓reduceIte, and_true, true_and, and_false, false_and, and_self, or_true, true_or, or_false, false_or, or_self, not_true_eq_false, not_false_eq_true, tu_same, tu_eq, tu_ne, b_V, b_I, b_J]
    | succ m ih =>
      intro i hi
      have hlt : (a + 1 + i) % n < n := Nat.mod_lt _ (by omega)
      have hb : ¬ B 178 ((a + 1 + i) % n) = 0 := fun e => by
        have := (hal _ hlt).mpr e
        rw [h2 i (by omega)] at this
        cases this
      have hne : (B 178 ((a + 1 + i) % n)).toInt ≠ 0 := fun e => hb (z_eq.mpr e)
      rw [← ih (i + 1) (by omega), e_219_6]
      have hm : ((a + 1 + i) % n + 1) - ((a + 1 + i) % n + 1) / n * n = (a + 1 + (i + 1)) % n := by
        have h3 := Nat.div_add_mod' ((a + 1 + i) % n + 1) n
        have h4 : ((a + 1 + i) % n + 1) % n = (a + 1 + (i + 1)) % n := by
          rw [Nat.mod_add_mod, show a + 1 + i + 1 = a + 1 + (i + 1) by omega]
        omega
      have hd : ((a + 1 + i) % n + 1) / n * n ≤ (a + 1 + i) % n + 1 := Nat.div_mul_le_self _ _
      simp (disch := first | omega | (simp (disch := omega) only [n_ti, Int32.reduceToInt] <;> omega)) only [hm, n_add, nl_add, nr_add, n_mul, nl_mul, nr_mul, n_sub, nr_dec, n_div, nr_sub_1, nr_sub_2, nr_sub_3, nr_sub_4, nr_sub_7, nr_sub_10, nr_sub_11, nr_sub_20, nr_sub_48, nr_sub_97, nl_sub_3, nl_sub_4, nl_sub_12, nl_sub_24, nl_sub_32, nr_div_2, nr_div_4, z_lt, z_le, z_eq, z_cl, n_ti, Int.toNat_natCast, Int32.reduceToInt, Int32.reduceToNatClampNeg, zc_add, zc_sub, zc_add_1, zc_add_2, zc_add_3, zc_add_4, zc_add_8, zc_add_10, zc_add_12, zc_add_16, zc_add_20, zc_sub_1, zc_sub_2, zc_sub_4, zc_sub_10, zc_sub_20, zc_sub_48, zc_sub_97, zc_mul_4, t_ltZ, f_ltZ, t_leZ, f_leZ, t_eqZ, f_eqZ, t_ltN, f_ltN, t_leN, f_leN, t_eqN, f_eqN, ↓reduceIte, and_true, true_and, and_false, false_and, and_self, or_true, true_or, or_false, false_or, or_self, not_true_eq_false, not_false_eq_true, tu_same, tu_eq, tu_ne, b_V, b_I, b_J]
  rw [← key j 0 (by omega), e_219]
  have hm : (a + 1) - (a + 1) / n * n = (a + 1 + 0) % n := by
    have h3 := Nat.div_add_mod' (a + 1) n
    show _ = (a + 1) % n
    omega
  have hd : (a + 1) / n * n ≤ a + 1 := Nat.div_mul_le_self _ _
  simp (disch := first | omega | (simp (disch := omega) only [n_ti, Int32.reduceToInt] <;> omega)) only [hm, n_add, nl_add, nr_add, n_mul, nl_mul, nr_mul, n_sub, nr_dec, n_div, nr_sub_1, nr_sub_2, nr_sub_3, nr_sub_4, nr_sub_7, nr_sub_10, nr_sub_11, nr_sub_20, nr_sub_48, nr_sub_97, nl_sub_3, nl_sub_4, nl_sub_12, nl_sub_24, nl_sub_32, nr_div_2, nr_div_4, z_lt, z_le, z_eq, z_cl, n_ti, Int.toNat_natCast, Int32.reduceToInt, Int32.reduceToNatClampNeg, zc_add, zc_sub, zc_add_1, zc_add_2, zc_add_3, zc_add_4, zc_add_8, zc_add_10, zc_add_12, zc_add_16, zc_add_20, zc_sub_1, zc_sub_2, zc_sub_4, zc_sub_10, zc_sub_20, zc_sub_48, zc_sub_97, zc_mul_4, t_ltZ, f_ltZ, t_leZ, f_leZ, t_eqZ, f_eqZ, t_ltN, f_ltN, t_leN, f_leN, t_eqN, f_eqN, ↓reduceIte, and_true, true_and, and_false, false_and, and_self, or_true, true_or, or_false, false_or, or_self, not_true_eq_false, not_false_eq_true, tu_same, tu_eq, tu_ne, b_V, b_I, b_J]
def rotl : List Nat → List Nat
  | [] => []
  | c :: r => r ++ [c]
def rot : Nat → List Nat → List Nat
  | 0, L => L
  | m + 1, L => rot m (rotl L)
theorem rotl_len (L : List Nat) : (rotl L).length = L.length := by
  cases L with
  | nil => rfl
  | cons c r => simp [rotl]
theorem rotl_get (L : List Nat) (i : Nat) (h : i < L.length) : (rotl L).getD i 0 = L.getD ((i + 1) % L.length) 0 := by
  cases L with
  | nil => cases h
  | cons c r =>
    have hl : (c :: r).length = r.length + 1 := rfl
    rw [hl] at h ⊢
    by_cases hi : i < r.length
    · rw [Nat.mod_eq_of_lt (by omega)]
      show (r ++ [c]).getD i 0 = (c :: r).getD (i + 1) 0
      rw [List.getD_eq_getElem?_getD, List.getD_eq_getElem?_getD, List.getElem?_append_left hi, List.getElem?_cons_succ]
    · have e : i = r.length := by omega
      subst e
      rw [Nat.mod_self]
      show (r ++ [c]).getD r.length 0 = c
      rw [List.getD_eq_getElem?_getD, List.getElem?_append_right (Nat.le_refl _), Nat.sub_self]
      rfl
theorem rot_get : ∀ (m : Nat) (L : List Nat) (i : Nat), i < L.length → (rot m L).getD i 0 = L.getD ((m + i) % L.length) 0 := by
  intro m
  induction m with
  | zero =>
    intro L i h
    rw [Nat.zero_add, Nat.mod_eq_of_lt h]
    rfl
  | succ m ih =>
    intro L i h
    show (rot m (rotl L)).getD i 0 = _
    rw [ih (rotl L) i (by rw [rotl_len]; exact h), rotl_len, rotl_get _ _ (Nat.mod_lt _ (by omega)), Nat.mod_add_mod]
    congr 2
    omega
theorem rot_len : ∀ (m : Nat) (L : List Nat), (rot m L).length = L.length := by
  intro m
  induction m with
  | zero => intro L; rfl
  | succ m ih => intro L; show (rot m (rotl L)).length = _; rw [ih, rotl_len]
theorem rotl_nd {L : List Nat} (h : L.Nodup) : (rotl L).Nodup := by
  cases L with
  | nil => exact h
  | cons c r =>
    show (r ++ [c]).Nodup
    rw [List.nodup_cons] at h
    rw [List.nodup_append]
    refine ⟨h.2, by simp, ?_⟩
    intro a ha b hb e
    simp at hb
    subst hb
    subst e
    exact h.1 ha
theorem rot_nd : ∀ (m : Nat) {L : List Nat}, L.Nodup → (rot m L).Nodup := by
  intro m
  induction m with
  | zero => intro L h; exact h
  | succ m ih => intro L h; exact ih (rotl_nd h)
theorem l_220_in {B : Nat → Nat → Int32} {J : Nat → Nat → Int64} {τ : tm_Tu} (n s : Nat) (x3 : Int32) (hn : n ≤ 100) (hs : s ≤ 300) (hB : B 131 75 = nI s) (al : Nat → Bool) (hal : ∀ c, c < n → (al c = true ↔ B 178 c = 0)) : ∀ m t a L, t + m = s → 1 ≤ m → a < n → (ord n a).filter al = L → L ≠ [] →
    ∃ a' r, R_220 54 [(0, .ref 131), (1, .int (nI n)), (2, .int (nI a)), (3, .int x3), (4, .int (nI t))] [] (mk B J τ) = R_220 54 [(0, .ref 131), (1, .int (nI n)), (2, .int (nI a')), (3, .int x3), (4, .int (nI s))] [] (mk B J τ) ∧ rot m L = r ++ [a'] ∧ (ord n a').filter al = rot m L ∧ a' < n := by
  intro m
  induction m with
  | zero => intro t a L _ h; omega
  | succ m ih =>
    intro t a L ht _ ha hL hne
    obtain ⟨c, r, rfl⟩ : ∃ c r, L = c :: r := by
      cases L with
      | nil => exact absurd rfl hne
      | cons c r => exact ⟨c, r, rfl⟩
    have h1 := s_219 (J := J) (τ := τ) n a hn ha al hal c r hL
    obtain ⟨j, hj, hc, h2, h3, h4⟩ := ord_next n a al c r hL
    have hcn : c < n := by rw [hc]; exact Nat.mod_lt _ (by omega)
    have st : R_220 54 [(0, .ref 131), (1, .int (nI n)), (2, .int (nI a)), (3, .int x3), (4, .int (nI t))] [] (mk B J τ) = R_220 54 [(0, .ref 131), (1, .int (nI n)), (2, .int (nI c)), (3, .int x3), (4, .int (nI (t + 1)))] [] (mk B J τ) := by
      rw [e_220_54]
      simp (disch := first | omega | (simp (disch := omega) only [n_ti, Int32.reduceToInt] <;> omega)) only [hB, h1, e_220_69, n_add, nl_add, nr_add, n_mul, nl_mul, nr_mul, n_sub, nr_dec, n_div, nr_sub_1, nr_sub_2, nr_sub_3, nr_sub_4, nr_sub_7, nr_sub_10, nr_sub_11, nr_sub_20, nr_sub_48, nr_sub_97, nl_sub_3, nl_sub_4, nl_sub_12, nl_sub_24, nl_sub_32, nr_div_2, nr_div_4, z_lt, z_le, z_eq, z_cl, n_ti, Int.toNat_natCast, Int32.reduceToInt, Int32.reduceToNatClampNeg, zc_add, zc_sub, zc_add_1, zc_add_2, zc_add_3, zc_add_4, zc_add_8, zc_add_10, zc_add_12, zc_add_16, zc_add_20, zc_sub_1, zc_sub_2, zc_sub_4, zc_sub_10, zc_sub_20, zc_sub_48, zc_sub_97, zc_mul_4, t_ltZ, f_ltZ, t_leZ, f_leZ, t_eqZ, f_eqZ, t_ltN, f_ltN, t_leN, f_leN, t_eqN, f_eqN, ↓reduceIte, and_true, true_and, and_false, false_and, and_self, or_true, true_or, or_false, false_or, or_self, not_true_eq_false, not_false_eq_true, tu_same, tu_eq, tu_ne, b_V, b_I, b_J]
    by_cases hm : m = 0
    · subst hm
      have e : t + 1 = s := by omega
      refine ⟨c, r, ?_, rfl, ?_, hcn⟩
      · rw [st, e]
      · exact h4
    · obtain ⟨a', r', q1, q2, q3, q4⟩ := ih (t + 1) c (rotl (c :: r)) (by omega) (by omega) hcn h4 (by show r ++ [c] ≠ []; simp)
      exact ⟨a', r', st.trans q1, q2, q3, q4⟩
theorem l_220 {J : Nat → Nat → Int64} {τ : tm_Tu} (n s : Nat) (hn : n ≤ 100) (hs : s ≤ 300) (hs1 : 1 ≤ s) : ∀ left, 1 ≤ left → left ≤ n → ∀ (B : Nat → Nat → Int32) (a : Nat) (al : Nat → Bool) (L : List Nat), B 131 75 = nI s → (∀ c, c < n → (al c = true ↔ B 178 c = 0)) → a < n → (ord n a).filter al = L → L.length = left → L.Nodup →
    ∃ B', R_220 46 [(0, .ref 131), (1, .int (nI n)), (2, .int (nI a)), (3, .int (nI left))] [] (mk B J τ) = some (some (.int (nI (L.getD (jo s left) 0))), mk B' J τ) ∧ (∀ x y, x ≠ 178 → B' x y = B x y) := by
  intro left
  induction left with
  | zero => intro h; omega
  | succ left ih =>
    intro _ hle B a al L hB hal ha hL hlen hnd
    by_cases h0 : left = 0
    · subst h0
      obtain ⟨c, r, rfl⟩ : ∃ c r, L = c :: r := by
        cases L with
        | nil => cases hlen
        | cons c r => exact ⟨c, r, rfl⟩
      have h1 := s_219 (J := J) (τ := τ) n a hn ha al hal c r hL
      refine ⟨B, ?_, fun _ _ _ => rfl⟩
      rw [e_220_46]
      simp (disch := first | omega | (simp (disch := omega) only [n_ti, Int32.reduceToInt] <;> omega)) only [h1, e_220_95, n_add, nl_add, nr_add, n_mul, nl_mul, nr_mul, n_sub, nr_dec, n_div, nr_sub_1, nr_sub_2, nr_sub_3, nr_sub_4, nr_sub_7, nr_sub_10, nr_sub_11, nr_sub_20, nr_sub_48, nr_sub_97, nl_sub_3, nl_sub_4, nl_sub_12, nl_sub_24, nl_sub_32, nr_div_2, nr_div_4, z_lt, z_le, z_eq, z_cl, n_ti, Int.toNat_natCast, Int32.reduceToInt, Int32.reduceToNatClampNeg, zc_add, zc_sub, zc_add_1, zc_add_2, zc_add_3, zc_add_4, zc_add_8, zc_add_10, zc_add_12, zc_add_16, zc_add_20, zc_sub_1, zc_sub_2, zc_sub_4, zc_sub_10, zc_sub_20, zc_sub_48, zc_sub_97, zc_mul_4, t_ltZ, f_ltZ, t_leZ, f_leZ, t_eqZ, f_eqZ, t_ltN, f_ltN, t_leN, f_leN, t_eqN, f_eqN, ↓reduceIte, and_true, true_and, and_false, false_and, and_self, or_true, true_or, or_false, false_or, or_self, not_true_eq_false, not_false_eq_true, tu_same, tu_eq, tu_ne, b_V, b_I, b_J]
      rfl
    · have hne : L ≠ [] := fun e => by rw [e] at hlen; cases hlen
      obtain ⟨a', r, q1, q2, q3, q4⟩ := l_220_in (J := J) (τ := τ) n s (nI (left + 1)) hn hs hB al hal s 0 a L (by omega) hs1 ha hL hne
      have hnd' : (r ++ [a']).Nodup := by rw [← q2]; exact rot_nd s hnd
      have hlr : r.length = left := by
        have := rot_len s L
        rw [q2, List.length_append, hlen] at this
        simp at this
        exact this
      have hni : a' ∉ r := by
        rw [List.nodup_append] at hnd'
        intro hm
        exact hnd'.2.2 a' hm a' (by simp) rfl
      obtain ⟨B', g1, g2⟩ := ih (by omega) (by omega) (tm_u B 178 a' 1) a' (fun c => al c && !(c == a')) r (by simp (disch := omega) only [hB, tu_same, tu_eq, tu_ne]) (fun c hc => by
        by_cases e : c = a'
        · subst e
          simp (disch := omega) only [tu_same, tu_eq, tu_ne]
          simp
        · simp (disch := omega) only [tu_same, tu_eq, tu_ne]
          simp [e]
          exact hal c hc) q4 (by
        rw [show (fun c => al c && !(c == a')) = (fun c => (!(c == a')) && al c) from funext fun c => Bool.and_comm _ _, ← List.filter_filter, q3, q2, List.filter_append]
        rw [List.filter_eq_self.mpr (fun x hx => by
          have : x ≠ a' := fun e => hni (e ▸ hx)
          simp [this])]
        simp) hlr (by rw [List.nodup_append] at hnd'; exact hnd'.1)
      refine ⟨B', ?_, fun x y hx => (g2 x y hx).trans (by simp (disch := omega) only [tu_same, tu_eq, tu_ne])⟩
      have hv : L.getD (jo s (left + 1)) 0 = r.getD (jo s left) 0 := by
        have hj := jo_lt s left (by omega)
        have e1 := rot_get s L (jo s left) (by omega)
        rw [q2, hlen] at e1
        rw [jo_s s left (by omega), Nat.add_comm (jo s left) s, ← e1, List.getD_eq_getElem?_getD, List.getD_eq_getElem?_getD, List.getElem?_append_left (by omega)]
      rw [hv, ← g1, e_220_46]
      have q1' : R_220 54 [(0, .ref 131), (1, .int (nI n)), (2, .int (nI a)), (3, .int (nI (left + 1))), (4, .int 0)] [] (mk B J τ) = R_220 54 [(0, .ref 131), (1, .int (nI n)), (2, .int (nI a')), (3, .int (nI (left + 1))), (4, .int (nI s))] [] (mk B J τ) := q1
      simp (disch := first | omega | (simp (disch := omega) only [n_ti, Int32.reduceToInt] <;> omega)) only [q1', n_add, nl_add, nr_add, n_mul, nl_mul, nr_mul, n_sub, nr_dec, n_div, nr_sub_1, nr_sub_2, nr_sub_3, nr_sub_4, nr_sub_7, nr_sub_10, nr_sub_11, nr_sub_20, nr_sub_48, nr_sub_97, nl_sub_3, nl_sub_4, nl_sub_12, nl_sub_24, nl_sub_32, nr_div_2, nr_div_4, z_lt, z_le, z_eq, z_cl, n_ti, Int.toNat_natCast, Int32.reduceToInt, Int32.reduceToNatClampNeg, zc_add, zc_sub, zc_add_1, zc_add_2, zc_add_3, zc_add_4, zc_add_8, zc_add_10, zc_add_12, zc_add_16, zc_add_20, zc_sub_1, zc_sub_2, zc_sub_4, zc_sub_10, zc_sub_20, zc_sub_48, zc_sub_97, zc_mul_4, t_ltZ, f_ltZ, t_leZ, f_leZ, t_eqZ, f_eqZ, t_ltN, f_ltN, t_leN, f_leN, t_eqN, f_eqN, ↓reduceIte, and_true, true_and, and_false, false_and, and_self, or_true, true_or, or_false, false_or, or_self, not_true_eq_false, not_false_eq_true, tu_same, tu_eq, tu_ne, b_V, b_I, b_J]
      rw [e_220_54]
      simp (disch := first | omega | (simp (disch := omega) only [n_ti, Int32.reduceToInt] <;> omega)) only [hB, n_add, nl_add, nr_add, n_mul, nl_mul, nr_mul, n_sub, nr_dec, n_div, nr_sub_1, nr_sub_2, nr_sub_3, nr_sub_4, nr_sub_7, nr_sub_10, nr_sub_11, nr_sub_20, nr_sub_48, nr_sub_97, nl_sub_3, nl_sub_4, nl_sub_12, nl_sub_24, nl_sub_32, nr_div_2, nr_div_4, z_lt, z_le, z_eq, z_cl, n_ti, Int.toNat_natCast, Int32.reduceToInt, Int32.reduceToNatClampNeg, zc_add, zc_sub, zc_add_1, zc_add_2, zc_add_3, zc_add_4, zc_add_8, zc_add_10, zc_add_12, zc_add_16, zc_add_20, zc_sub_1, zc_sub_2, zc_sub_4, zc_sub_10, zc_sub_20, zc_sub_48, zc_sub_97, zc_mul_4, t_ltZ, f_ltZ, t_leZ, f_leZ, t_eqZ, f_eqZ, t_ltN, f_ltN, t_leN, f_leN, t_eqN, f_eqN, ↓reduceIte, and_true, true_and, and_false, false_and, and_self, or_true, true_or, or_false, false_or, or_self, not_true_eq_false, not_false_eq_true, tu_same, tu_eq, tu_ne, b_V, b_I, b_J]
      rfl
theorem l_220_z {J : Nat → Nat → Int64} {τ : tm_Tu} (n : Nat) (hn : n ≤ 100) : ∀ m k, k + m = n → ∀ (B : Nat → Nat → Int32), ∃ B', R_220 22 [(0, .ref 131), (1, .int (nI n)), (2, .int (nI k))] [] (mk B J τ) = R_220 46 [(0, .ref 131), (1, .int (nI n)), (2, .int (nI n - 1)), (3, .int (nI n))] [] (mk B' J τ) ∧ (∀ c, k ≤ c → c < n → B' 178 c = 0) ∧ (∀ x y, ¬ (x = 178 ∧ k ≤ y) → B' x y = B x y) := by
  intro m
  induction m with
  | zero =>
    intro k hk B
    refine ⟨B, ?_, fun c h1 h2 => by omega, fun _ _ _ => rfl⟩
    rw [e_220_22]
    simp only [show nI n ≤ nI k from by rw [z_le]; simp (disch := first | omega | (simp (disch := omega) only [n_ti, Int32.reduceToInt] <;> omega)) only [n_add, nl_add, nr_add, n_mul, nl_mul, nr_mul, n_sub, nr_dec, n_div, nr_sub_1, nr_sub_2, nr_sub_3, nr_sub_4, nr_sub_7, nr_sub_10, nr_sub_11, nr_sub_20, nr_sub_48, nr_sub_97, nl_sub_3, nl_sub_4, nl_sub_12, nl_sub_24, nl_sub_32, nr_div_2, nr_div_4, z_lt, z_le, z_eq, z_cl, n_ti, Int.toNat_natCast, Int32.reduceToInt, Int32.reduceToNatClampNeg, zc_add, zc_sub, zc_add_1, zc_add_2, zc_add_3, zc_add_4, zc_add_8, zc_add_10, zc_add_12, zc_add_16, zc_add_20, zc_sub_1, zc_sub_2, zc_sub_4, zc_sub_10, zc_sub_20, zc_sub_48, zc_sub_97, zc_mul_4]; omega, if_true]
  | succ m ih =>
    intro k hk B
    obtain ⟨B', g1, g2, g3⟩ := ih (k + 1) (by omega) (tm_u B 178 k 0)
    refine ⟨B', ?_, fun c h1 h2 => ?_, fun x y h => ?_⟩
    · rw [← g1, e_220_22]
      simp (disch := first | omega | (simp (disch := omega) only [n_ti, Int32.reduceToInt] <;> omega)) only [n_add, nl_add, nr_add, n_mul, nl_mul, nr_mul, n_sub, nr_dec, n_div, nr_sub_1, nr_sub_2, nr_sub_3, nr_sub_4, nr_sub_7, nr_sub_10, nr_sub_11, nr_sub_20, nr_sub_48, nr_sub_97, nl_sub_3, nl_sub_4, nl_sub_12, nl_sub_24, nl_sub_32, nr_div_2, nr_div_4, z_lt, z_le, z_eq, z_cl, n_ti, Int.toNat_natCast, Int32.reduceToInt, Int32.reduceToNatClampNeg, zc_add, zc_sub, zc_add_1, zc_add_2, zc_add_3, zc_add_4, zc_add_8, zc_add_10, zc_add_12, zc_add_16, zc_add_20, zc_sub_1, zc_sub_2, zc_sub_4, zc_sub_10, zc_sub_20, zc_sub_48, zc_sub_97, zc_mul_4, t_ltZ, f_ltZ, t_leZ, f_leZ, t_eqZ, f_eqZ, t_ltN, f_ltN, t_leN, f_leN, t_eqN, f_eqN, ↓reduceIte, and_true, true_and, and_false, false_and, and_self, or_true, true_or, or_false, false_or, or_self, not_true_eq_false, not_false_eq_true, tu_same, tu_eq, tu_ne, b_V, b_I, b_J]
    · by_cases e : c = k
      · subst e
        rw [g3 178 c (by omega)]
        simp (disch := omega) only [tu_same, tu_eq, tu_ne]
      · exact g2 c (by omega) h2
    · rw [g3 x y (by omega)]
      simp (disch := omega) only [tu_same, tu_eq, tu_ne]
theorem ord_0 (n : Nat) (hn : 1 ≤ n) : ord n (n - 1) = List.range n := by
  unfold ord
  conv => rhs; rw [← List.map_id (List.range n)]
  apply List.map_congr_left
  intro i hi
  have := List.mem_range.mp hi
  rw [show n - 1 + 1 + i = i + n by omega, Nat.add_mod_right, Nat.mod_eq_of_lt this]
  rfl
theorem p_stays {I : Nat → Nat → Int32} {J : Nat → Nat → Int64} {τ : tm_Tu} (x : Int32) (h : RRhyme I I) : ∃ r I2, F_218 [.ref 2, .int x] (mk I J τ) = some (some (.int r), mk I J τ) ∧ F_220 [.ref 131, .int x] (mk I J τ) = some (some (.int r), mk I2 J τ) ∧ (∀ a k, a ≠ 178 → I2 a k = I a k) := by
  obtain ⟨w, s, z1, z2, z3, z4, z5, z6, z7⟩ := h
  by_cases c0 : s = 0
  · subst c0
    refine ⟨-1, I, ?_, ?_, fun _ _ _ => rfl⟩
    · rw [e_218, e_217]
      simp (disch := first | omega | (simp (disch := omega) only [n_ti, Int32.reduceToInt] <;> omega)) only [z5, e_217_18, e_218_8, n_add, nl_add, nr_add, n_mul, nl_mul, nr_mul, n_sub, nr_dec, n_div, nr_sub_1, nr_sub_2, nr_sub_3, nr_sub_4, nr_sub_7, nr_sub_10, nr_sub_11, nr_sub_20, nr_sub_48, nr_sub_97, nl_sub_3, nl_sub_4, nl_sub_12, nl_sub_24, nl_sub_32, nr_div_2, nr_div_4, z_lt, z_le, z_eq, z_cl, n_ti, Int.toNat_natCast, Int32.reduceToInt, Int32.reduceToNatClampNeg, zc_add, zc_sub, zc_add_1, zc_add_2, zc_add_3, zc_add_4, zc_add_8, zc_add_10, zc_add_12, zc_add_16, zc_add_20, zc_sub_1, zc_sub_2, zc_sub_4, zc_sub_10, zc_sub_20, zc_sub_48, zc_sub_97, zc_mul_4, t_ltZ, f_ltZ, t_leZ, f_leZ, t_eqZ, f_eqZ, t_ltN, f_ltN, t_leN, f_leN, t_eqN, f_eqN, ↓reduceIte, and_true, true_and, and_false, false_and, and_self, or_true, true_or, or_false, false_or, or_self, not_true_eq_false, not_false_eq_true, tu_same, tu_eq, tu_ne, b_V, b_I, b_J]
    · rw [e_220]
      by_cases c1 : x.toInt < 1
      · simp (disch := first | omega | (simp (disch := omega) only [n_ti, Int32.reduceToInt] <;> omega)) only [z6, e_220_18, n_add, nl_add, nr_add, n_mul, nl_mul, nr_mul, n_sub, nr_dec, n_div, nr_sub_1, nr_sub_2, nr_sub_3, nr_sub_4, nr_sub_7, nr_sub_10, nr_sub_11, nr_sub_20, nr_sub_48, nr_sub_97, nl_sub_3, nl_sub_4, nl_sub_12, nl_sub_24, nl_sub_32, nr_div_2, nr_div_4, z_lt, z_le, z_eq, z_cl, n_ti, Int.toNat_natCast, Int32.reduceToInt, Int32.reduceToNatClampNeg, zc_add, zc_sub, zc_add_1, zc_add_2, zc_add_3, zc_add_4, zc_add_8, zc_add_10, zc_add_12, zc_add_16, zc_add_20, zc_sub_1, zc_sub_2, zc_sub_4, zc_sub_10, zc_sub_20, zc_sub_48, zc_sub_97, zc_mul_4, t_ltZ, f_ltZ, t_leZ, f_leZ, t_eqZ, f_eqZ, t_ltN, f_ltN, t_leN, f_leN, t_eqN, f_eqN, ↓reduceIte, and_true, true_and, and_false, false_and, and_self, or_true, true_or, or_false, false_or, or_self, not_true_eq_false, not_false_eq_true, tu_same, tu_eq, tu_ne, b_V, b_I, b_J]
      · by_cases c2 : 100 < x.toInt
        · simp (disch := first | omega | (simp (disch := omega) only [n_ti, Int32.reduceToInt] <;> omega)) only [z6, e_220_18, n_add, nl_add, nr_add, n_mul, nl_mul, nr_mul, n_sub, nr_dec, n_div, nr_sub_1, nr_sub_2, nr_sub_3, nr_sub_4, nr_sub_7, nr_sub_10, nr_sub_11, nr_sub_20, nr_sub_48, nr_sub_97, nl_sub_3, nl_sub_4, nl_sub_12, nl_sub_24, nl_sub_32, nr_div_2, nr_div_4, z_lt, z_le, z_eq, z_cl, n_ti, Int.toNat_natCast, Int32.reduceToInt, Int32.reduceToNatClampNeg, zc_add, zc_sub, zc_add_1, zc_add_2, zc_add_3, zc_add_4, zc_add_8, zc_add_10, zc_add_12, zc_add_16, zc_add_20, zc_sub_1, zc_sub_2, zc_sub_4, zc_sub_10, zc_sub_20, zc_sub_48, zc_sub_97, zc_mul_4, t_ltZ, f_ltZ, t_leZ, f_leZ, t_eqZ, f_eqZ, t_ltN, f_ltN, t_leN, f_leN, t_eqN, f_eqN, ↓reduceIte, and_true, true_and, and_false, false_and, and_self, or_true, true_or, or_false, false_or, or_self, not_true_eq_false, not_false_eq_true, tu_same, tu_eq, tu_ne, b_V, b_I, b_J]
        · simp (disch := first | omega | (simp (disch := omega) only [n_ti, Int32.reduceToInt] <;> omega)) only [z6, e_220_18, n_add, nl_add, nr_add, n_mul, nl_mul, nr_mul, n_sub, nr_dec, n_div, nr_sub_1, nr_sub_2, nr_sub_3, nr_sub_4, nr_sub_7, nr_sub_10, nr_sub_11, nr_sub_20, nr_sub_48, nr_sub_97, nl_sub_3, nl_sub_4, nl_sub_12, nl_sub_24, nl_sub_32, nr_div_2, nr_div_4, z_lt, z_le, z_eq, z_cl, n_ti, Int.toNat_natCast, Int32.reduceToInt, Int32.reduceToNatClampNeg, zc_add, zc_sub, zc_add_1, zc_add_2, zc_add_3, zc_add_4, zc_add_8, zc_add_10, zc_add_12, zc_add_16, zc_add_20, zc_sub_1, zc_sub_2, zc_sub_4, zc_sub_10, zc_sub_20, zc_sub_48, zc_sub_97, zc_mul_4, t_ltZ, f_ltZ, t_leZ, f_leZ, t_eqZ, f_eqZ, t_ltN, f_ltN, t_leN, f_leN, t_eqN, f_eqN, ↓reduceIte, and_true, true_and, and_false, false_and, and_self, or_true, true_or, or_false, false_or, or_self, not_true_eq_false, not_false_eq_true, tu_same, tu_eq, tu_ne, b_V, b_I, b_J]
  · by_cases c1 : x.toInt < 1
    · refine ⟨-1, I, ?_, ?_, fun _ _ _ => rfl⟩
      · rw [e_218, e_217]
        simp (disch := first | omega | (simp (disch := omega) only [n_ti, Int32.reduceToInt] <;> omega)) only [z5, e_217_18, e_218_8, n_add, nl_add, nr_add, n_mul, nl_mul, nr_mul, n_sub, nr_dec, n_div, nr_sub_1, nr_sub_2, nr_sub_3, nr_sub_4, nr_sub_7, nr_sub_10, nr_sub_11, nr_sub_20, nr_sub_48, nr_sub_97, nl_sub_3, nl_sub_4, nl_sub_12, nl_sub_24, nl_sub_32, nr_div_2, nr_div_4, z_lt, z_le, z_eq, z_cl, n_ti, Int.toNat_natCast, Int32.reduceToInt, Int32.reduceToNatClampNeg, zc_add, zc_sub, zc_add_1, zc_add_2, zc_add_3, zc_add_4, zc_add_8, zc_add_10, zc_add_12, zc_add_16, zc_add_20, zc_sub_1, zc_sub_2, zc_sub_4, zc_sub_10, zc_sub_20, zc_sub_48, zc_sub_97, zc_mul_4, t_ltZ, f_ltZ, t_leZ, f_leZ, t_eqZ, f_eqZ, t_ltN, f_ltN, t_leN, f_leN, t_eqN, f_eqN, ↓reduceIte, and_true, true_and, and_false, false_and, and_self, or_true, true_or, or_false, false_or, or_self, not_true_eq_false, not_false_eq_true, tu_same, tu_eq, tu_ne, b_V, b_I, b_J]
      · rw [e_220]
        simp (disch := first | omega | (simp (disch := omega) only [n_ti, Int32.reduceToInt] <;> omega)) only [z6, e_220_18, n_add, nl_add, nr_add, n_mul, nl_mul, nr_mul, n_sub, nr_dec, n_div, nr_sub_1, nr_sub_2, nr_sub_3, nr_sub_4, nr_sub_7, nr_sub_10, nr_sub_11, nr_sub_20, nr_sub_48, nr_sub_97, nl_sub_3, nl_sub_4, nl_sub_12, nl_sub_24, nl_sub_32, nr_div_2, nr_div_4, z_lt, z_le, z_eq, z_cl, n_ti, Int.toNat_natCast, Int32.reduceToInt, Int32.reduceToNatClampNeg, zc_add, zc_sub, zc_add_1, zc_add_2, zc_add_3, zc_add_4, zc_add_8, zc_add_10, zc_add_12, zc_add_16, zc_add_20, zc_sub_1, zc_sub_2, zc_sub_4, zc_sub_10, zc_sub_20, zc_sub_48, zc_sub_97, zc_mul_4, t_ltZ, f_ltZ, t_leZ, f_leZ, t_eqZ, f_eqZ, t_ltN, f_ltN, t_leN, f_leN, t_eqN, f_eqN, ↓reduceIte, and_true, true_and, and_false, false_and, and_self, or_true, true_or, or_false, false_or, or_self, not_true_eq_false, not_false_eq_true, tu_same, tu_eq, tu_ne, b_V, b_I, b_J]
    · by_cases c2 : 100 < x.toInt
      · refine ⟨-1, I, ?_, ?_, fun _ _ _ => rfl⟩
        · rw [e_218, e_217]
          simp (disch := first | omega | (simp (disch := omega) only [n_ti, Int32.reduceToInt] <;> omega)) only [z5, e_217_18, e_218_8, n_add, nl_add, nr_add, n_mul, nl_mul, nr_mul, n_sub, nr_dec, n_div, nr_sub_1, nr_sub_2, nr_sub_3, nr_sub_4, nr_sub_7, nr_sub_10, nr_sub_11, nr_sub_20, nr_sub_48, nr_sub_97, nl_sub_3, nl_sub_4, nl_sub_12, nl_sub_24, nl_sub_32, nr_div_2, nr_div_4, z_lt, z_le, z_eq, z_cl, n_ti, Int.toNat_natCast, Int32.reduceToInt, Int32.reduceToNatClampNeg, zc_add, zc_sub, zc_add_1, zc_add_2, zc_add_3, zc_add_4, zc_add_8, zc_add_10, zc_add_12, zc_add_16, zc_add_20, zc_sub_1, zc_sub_2, zc_sub_4, zc_sub_10, zc_sub_20, zc_sub_48, zc_sub_97, zc_mul_4, t_ltZ, f_ltZ, t_leZ, f_leZ, t_eqZ, f_eqZ, t_ltN, f_ltN, t_leN, f_leN, t_eqN, f_eqN, ↓reduceIte, and_true, true_and, and_false, false_and, and_self, or_true, true_or, or_false, false_or, or_self, not_true_eq_false, not_false_eq_true, tu_same, tu_eq, tu_ne, b_V, b_I, b_J]
        · rw [e_220]
          simp (disch := first | omega | (simp (disch := omega) only [n_ti, Int32.reduceToInt] <;> omega)) only [z6, e_220_18, n_add, nl_add, nr_add, n_mul, nl_mul, nr_mul, n_sub, nr_dec, n_div, nr_sub_1, nr_sub_2, nr_sub_3, nr_sub_4, nr_sub_7, nr_sub_10, nr_sub_11, nr_sub_20, nr_sub_48, nr_sub_97, nl_sub_3, nl_sub_4, nl_sub_12, nl_sub_24, nl_sub_32, nr_div_2, nr_div_4, z_lt, z_le, z_eq, z_cl, n_ti, Int.toNat_natCast, Int32.reduceToInt, Int32.reduceToNatClampNeg, zc_add, zc_sub, zc_add_1, zc_add_2, zc_add_3, zc_add_4, zc_add_8, zc_add_10, zc_add_12, zc_add_16, zc_add_20, zc_sub_1, zc_sub_2, zc_sub_4, zc_sub_10, zc_sub_20, zc_sub_48, zc_sub_97, zc_mul_4, t_ltZ, f_ltZ, t_leZ, f_leZ, t_eqZ, f_eqZ, t_ltN, f_ltN, t_leN, f_leN, t_eqN, f_eqN, ↓reduceIte, and_true, true_and, and_false, false_and, and_self, or_true, true_or, or_false, false_or, or_self, not_true_eq_false, not_false_eq_true, tu_same, tu_eq, tu_ne, b_V, b_I, b_J]
      · obtain ⟨n, hn, rfl⟩ := n_of (x := x) (by omega)
        rw [n_ti hn] at c1 c2
        have g := l_217 (J := J) (τ := τ) (A := I) n s (by omega) z2 z5 (n - 1) 1 (by omega) (by omega)
        obtain ⟨B1, k1, k2, k3⟩ := l_220_z (J := J) (τ := τ) n (by omega) n 0 (by omega) I
        obtain ⟨B', q1, q2⟩ := l_220 (J := J) (τ := τ) n s (by omega) z2 (by omega) n (by omega) (Nat.le_refl _) B1 (n - 1) (fun _ => true) (List.range n) ((k3 131 75 (by omega)).trans z6) (fun c hc => ⟨fun _ => k2 c (by omega) hc, fun _ => rfl⟩) (by omega) (by rw [ord_0 n (by omega)]; simp) (List.length_range) (List.nodup_range)
        refine ⟨nI (jo s n), B', ?_, ?_, fun a k ha => (q2 a k ha).trans (k3 a k (by omega))⟩
        · rw [e_218, e_217]
          have g' : R_217 24 [(0, .ref 32), (1, .int (nI n)), (2, .int 0), (3, .int 2)] [] (mk I J τ) = some (some (.int (nI (jo s n))), mk I J τ) := g
          simp (disch := first | omega | (simp (disch := omega) only [n_ti, Int32.reduceToInt] <;> omega)) only [z5, g', e_218_8, n_add, nl_add, nr_add, n_mul, nl_mul, nr_mul, n_sub, nr_dec, n_div, nr_sub_1, nr_sub_2, nr_sub_3, nr_sub_4, nr_sub_7, nr_sub_10, nr_sub_11, nr_sub_20, nr_sub_48, nr_sub_97, nl_sub_3, nl_sub_4, nl_sub_12, nl_sub_24, nl_sub_32, nr_div_2, nr_div_4, z_lt, z_le, z_eq, z_cl, n_ti, Int.toNat_natCast, Int32.reduceToInt, Int32.reduceToNatClampNeg, zc_add, zc_sub, zc_add_1, zc_add_2, zc_add_3, zc_add_4, zc_add_8, zc_add_10, zc_add_12, zc_add_16, zc_add_20, zc_sub_1, zc_sub_2, zc_sub_4, zc_sub_10, zc_sub_20, zc_sub_48, zc_sub_97, zc_mul_4, t_ltZ, f_ltZ, t_leZ, f_leZ, t_eqZ, f_eqZ, t_ltN, f_ltN, t_leN, f_leN, t_eqN, f_eqN, ↓reduceIte, and_true, true_and, and_false, false_and, and_self, or_true, true_or, or_false, false_or, or_self, not_true_eq_false, not_false_eq_true, tu_same, tu_eq, tu_ne, b_V, b_I, b_J]
        · have hj := jo_lt s n (by omega)
          have hv : (List.range n).getD (jo s n) 0 = jo s n := by
            rw [List.getD_eq_getElem?_getD, List.getElem?_range hj]
            rfl
          rw [hv] at q1
          have k1' : R_220 22 [(0, .ref 131), (1, .int (nI n)), (2, .int 0)] [] (mk I J τ) = R_220 46 [(0, .ref 131), (1, .int (nI n)), (2, .int (nI n - 1)), (3, .int (nI n))] [] (mk B1 J τ) := k1
          have e : nI n - 1 = nI (n - 1) := pk_sub (a := n) (b := 1) (by omega)
          rw [e] at k1'
          rw [e_220]
          simp (disch := first | omega | (simp (disch := omega) only [n_ti, Int32.reduceToInt] <;> omega)) only [z6, k1', q1, n_add, nl_add, nr_add, n_mul, nl_mul, nr_mul, n_sub, nr_dec, n_div, nr_sub_1, nr_sub_2, nr_sub_3, nr_sub_4, nr_sub_7, nr_sub_10, nr_sub_11, nr_sub_20, nr_sub_48, nr_sub_97, nl_sub_3, nl_sub_4, nl_sub_12, nl_sub_24, nl_sub_32, nr_div_2, nr_div_4, z_lt, z_le, z_eq, z_cl, n_ti, Int.toNat_natCast, Int32.reduceToInt, Int32.reduceToNatClampNeg, zc_add, zc_sub, zc_add_1, zc_add_2, zc_add_3, zc_add_4, zc_add_8, zc_add_10, zc_add_12, zc_add_16, zc_add_20, zc_sub_1, zc_sub_2, zc_sub_4, zc_sub_10, zc_sub_20, zc_sub_48, zc_sub_97, zc_mul_4, t_ltZ, f_ltZ, t_leZ, f_leZ, t_eqZ, f_eqZ, t_ltN, f_ltN, t_leN, f_leN, t_eqN, f_eqN, ↓reduceIte, and_true, true_and, and_false, false_and, and_self, or_true, true_or, or_false, false_or, or_self, not_true_eq_false, not_false_eq_true, tu_same, tu_eq, tu_ne, b_V, b_I, b_J]
