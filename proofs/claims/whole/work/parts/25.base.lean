/-! numbers and memory: rows by which the equations are walked -/
theorem z_lt {x y : Int32} : x < y ↔ x.toInt < y.toInt := Int32.lt_iff_toInt_lt
theorem z_le {x y : Int32} : x ≤ y ↔ x.toInt ≤ y.toInt := Int32.le_iff_toInt_le
theorem z_eq {x y : Int32} : x = y ↔ x.toInt = y.toInt := Int32.toInt_inj.symm
theorem z_cl (x : Int32) : x.toNatClampNeg = x.toInt.toNat := rfl
theorem z_bm (z : Int) : z.bmod 4294967296 = (z + 2147483648) % 4294967296 - 2147483648 := by
  rw [Int.bmod_def]
  split <;> omega
theorem z_add (a b : Int32) : (a + b).toInt = (a.toInt + b.toInt + 2147483648) % 4294967296 - 2147483648 := (Int32.toInt_add a b).trans (z_bm _)
theorem z_sub (a b : Int32) : (a - b).toInt = (a.toInt - b.toInt + 2147483648) % 4294967296 - 2147483648 := (Int32.toInt_sub a b).trans (z_bm _)
theorem z_mul (a b : Int32) : (a * b).toInt = (a.toInt * b.toInt + 2147483648) % 4294967296 - 2147483648 := (Int32.toInt_mul a b).trans (z_bm _)
theorem z_neg (a : Int32) : (-a).toInt = (-a.toInt + 2147483648) % 4294967296 - 2147483648 := (Int32.toInt_neg a).trans (z_bm _)
theorem z_lo (x : Int32) : -2147483648 ≤ x.toInt := x.le_toInt
theorem z_hi (x : Int32) : x.toInt < 2147483648 := x.toInt_lt
theorem n_ti {n : Nat} (h : n < 2147483648) : (nI n).toInt = (n : Int) := nI_toInt h
theorem n_cl {n : Nat} (h : n < 2147483648) : (nI n).toNatClampNeg = n := nI_clamp h
theorem n_lit (k : Nat) : (no_index (OfNat.ofNat k) : Int32) = nI k := rfl
theorem n_of {x : Int32} (h : 0 ≤ x.toInt) : ∃ n : Nat, n < 2147483648 ∧ x = nI n := ⟨x.toInt.toNat, by have := z_hi x; omega, by
  rw [z_eq, n_ti (by have := z_hi x; omega)]; omega⟩
theorem n_add (a b : Nat) : nI a + nI b = nI (a + b) := nI_add a b
theorem nl_add (k b : Nat) : (no_index (OfNat.ofNat k) : Int32) + nI b = nI (k + b) := nI_add k b
theorem nr_add (k b : Nat) : nI b + (no_index (OfNat.ofNat k) : Int32) = nI (b + k) := nI_add b k
theorem n_mul (a b : Nat) : nI a * nI b = nI (a * b) := pk_mul a b
theorem nl_mul (k b : Nat) : (no_index (OfNat.ofNat k) : Int32) * nI b = nI (k * b) := pk_mul k b
theorem nr_mul (k b : Nat) : nI b * (no_index (OfNat.ofNat k) : Int32) = nI (b * k) := pk_mul b k
theorem n_sub {a b : Nat} (h : b ≤ a) : nI a - nI b = nI (a - b) := pk_sub h
theorem nl_sub {k b : Nat} (h : b ≤ k) : (no_index (OfNat.ofNat k) : Int32) - nI b = nI (k - b) := pk_sub h
theorem nr_sub {k b : Nat} (h : k ≤ b) : nI b - (no_index (OfNat.ofNat k) : Int32) = nI (b - k) := pk_sub h
theorem nr_dec {b : Nat} (h : 1 ≤ b) : nI b + (-1) = nI (b - 1) := by
  obtain ⟨c, rfl⟩ : ∃ c, b = c + 1 := ⟨b - 1, by omega⟩
  exact pk_m1 c
theorem nr_div {a k : Nat} (ha : a < 2147483648) (h0 : 0 < k) (hk : k < 2147483648) : nI a / (no_index (OfNat.ofNat k) : Int32) = nI (a / k) := pk_div ha h0 hk
theorem n_div {a k : Nat} (ha : a < 2147483648) (h0 : 0 < k) (hk : k < 2147483648) : nI a / nI k = nI (a / k) := pk_div ha h0 hk
theorem n_lt {a b : Nat} (ha : a < 2147483648) (hb : b < 2147483648) : nI a < nI b ↔ a < b := nI_ltI ha hb
theorem n_le {a b : Nat} (ha : a < 2147483648) (hb : b < 2147483648) : nI a ≤ nI b ↔ a ≤ b := nI_leI ha hb
theorem n_eq {a b : Nat} (ha : a < 2147483648) (hb : b < 2147483648) : nI a = nI b ↔ a = b := nI_eq ha hb
theorem nl_lt {k b : Nat} (ha : k < 2147483648) (hb : b < 2147483648) : (no_index (OfNat.ofNat k) : Int32) < nI b ↔ k < b := nI_ltI ha hb
theorem nr_lt {k b : Nat} (ha : k < 2147483648) (hb : b < 2147483648) : nI b < (no_index (OfNat.ofNat k) : Int32) ↔ b < k := nI_ltI hb ha
theorem nl_le {k b : Nat} (ha : k < 2147483648) (hb : b < 2147483648) : (no_index (OfNat.ofNat k) : Int32) ≤ nI b ↔ k ≤ b := nI_leI ha hb
theorem nr_le {k b : Nat} (ha : k < 2147483648) (hb : b < 2147483648) : nI b ≤ (no_index (OfNat.ofNat k) : Int32) ↔ b ≤ k := nI_leI hb ha
theorem nl_eq {k b : Nat} (ha : k < 2147483648) (hb : b < 2147483648) : (no_index (OfNat.ofNat k) : Int32) = nI b ↔ k = b := nI_eq ha hb
theorem nr_eq {k b : Nat} (ha : k < 2147483648) (hb : b < 2147483648) : nI b = (no_index (OfNat.ofNat k) : Int32) ↔ b = k := nI_eq hb ha
theorem n_m1 {a : Nat} (ha : a < 2147483648) : nI a = -1 ↔ False := by
  rw [z_eq, n_ti ha]
  refine ⟨fun h => ?_, fun h => h.elim⟩
  have : ((-1 : Int32).toInt) = -1 := rfl
  omega
theorem tu_same {α : Type} {f : Nat → Nat → α} {a k : Nat} {v : α} : tm_u f a k v a k = v := by simp [tm_u]
theorem tu_eq {α : Type} {f : Nat → Nat → α} {a k j : Nat} {v : α} (h : j = k) : tm_u f a k v a j = v := by simp [tm_u, h]
theorem tu_na {α : Type} {f : Nat → Nat → α} {a b k j : Nat} {v : α} (h : b ≠ a) : tm_u f a k v b j = f b j := by simp [tm_u, h]
theorem tu_nk {α : Type} {f : Nat → Nat → α} {a b k j : Nat} {v : α} (h : j ≠ k) : tm_u f a k v b j = f b j := by
  by_cases hb : b = a
  · simp [tm_u, h]
  · simp [tm_u, hb]
theorem tu_ne {α : Type} {f : Nat → Nat → α} {a b k j : Nat} {v : α} (h : ¬ (b = a ∧ j = k)) : tm_u f a k v b j = f b j := by
  by_cases hb : b = a
  · exact tu_nk (fun hj => h ⟨hb, hj⟩)
  · exact tu_na hb
theorem tu_row {α : Type} {f : Nat → Nat → α} {a b k : Nat} {v : α} (h : b ≠ a) : tm_u f a k v b = f b := by
  funext j
  exact tu_na h
theorem b_V {M : tm_M} {k : tm_M → Option tm_R} : tm_bV (some (none, M)) k = k M := rfl
theorem b_I {x : Int32} {M : tm_M} {k : Int32 → tm_M → Option tm_R} : tm_bI (some (some (.int x), M)) k = k x M := rfl
theorem b_J {x : Int64} {M : tm_M} {k : Int64 → tm_M → Option tm_R} : tm_bJ (some (some (.long x), M)) k = k x M := rfl
theorem sr_26 {I : Nat → Nat → Int32} {J : Nat → Nat → Int64} {a b c d e v : Nat} : tm_sr (mk I J (a, b, c, d, e)) 2 6 v = mk I J (v, b, c, d, e) := by
  simp only [tm_sr, mk, tm_RT]
  congr 3
  funext x y
  unfold tm_u
  by_cases hx : x = 2
  · subst hx
    match y with
    | 0 | 1 | 2 | 3 | 4 | 5 | 6 | 7 | 8 | 9 => rfl
    | y + 10 => rfl
  · simp [hx, tm_RT]
theorem sr_27 {I : Nat → Nat → Int32} {J : Nat → Nat → Int64} {a b c d e v : Nat} : tm_sr (mk I J (a, b, c, d, e)) 2 7 v = mk I J (a, v, c, d, e) := by
  simp only [tm_sr, mk, tm_RT]
  congr 3
  funext x y
  unfold tm_u
  by_cases hx : x = 2
  · subst hx
    match y with
    | 0 | 1 | 2 | 3 | 4 | 5 | 6 | 7 | 8 | 9 => rfl
    | y + 10 => rfl
  · simp [hx, tm_RT]
theorem sr_28 {I : Nat → Nat → Int32} {J : Nat → Nat → Int64} {a b c d e v : Nat} : tm_sr (mk I J (a, b, c, d, e)) 2 8 v = mk I J (a, b, v, d, e) := by
  simp only [tm_sr, mk, tm_RT]
  congr 3
  funext x y
  unfold tm_u
  by_cases hx : x = 2
  · subst hx
    match y with
    | 0 | 1 | 2 | 3 | 4 | 5 | 6 | 7 | 8 | 9 => rfl
    | y + 10 => rfl
  · simp [hx, tm_RT]
theorem sr_29 {I : Nat → Nat → Int32} {J : Nat → Nat → Int64} {a b c d e v : Nat} : tm_sr (mk I J (a, b, c, d, e)) 2 9 v = mk I J (a, b, c, v, e) := by
  simp only [tm_sr, mk, tm_RT]
  congr 3
  funext x y
  unfold tm_u
  by_cases hx : x = 2
  · subst hx
    match y with
    | 0 | 1 | 2 | 3 | 4 | 5 | 6 | 7 | 8 | 9 => rfl
    | y + 10 => rfl
  · simp [hx, tm_RT]
theorem sr_40 {I : Nat → Nat → Int32} {J : Nat → Nat → Int64} {a b c d e v : Nat} : tm_sr (mk I J (a, b, c, d, e)) 4 0 v = mk I J (a, b, c, d, v) := by
  simp only [tm_sr, mk, tm_RT]
  congr 3
  funext x y
  unfold tm_u
  by_cases hx : x = 4
  · subst hx
    match y with
    | 0 | 1 => rfl
    | y + 2 => rfl
  · simp [hx, tm_RT]
theorem t_ltZ {a b : Int} (h : a < b) : (a < b) = True := eq_true h
theorem f_ltZ {a b : Int} (h : b ≤ a) : (a < b) = False := eq_false (by omega)
theorem t_leZ {a b : Int} (h : a ≤ b) : (a ≤ b) = True := eq_true h
theorem f_leZ {a b : Int} (h : b < a) : (a ≤ b) = False := eq_false (by omega)
theorem t_eqZ {a b : Int} (h : a = b) : (a = b) = True := eq_true h
theorem f_eqZ {a b : Int} (h : a ≠ b) : (a = b) = False := eq_false h
theorem t_ltN {a b : Nat} (h : a < b) : (a < b) = True := eq_true h
theorem f_ltN {a b : Nat} (h : b ≤ a) : (a < b) = False := eq_false (by omega)
theorem t_leN {a b : Nat} (h : a ≤ b) : (a ≤ b) = True := eq_true h
theorem f_leN {a b : Nat} (h : b < a) : (a ≤ b) = False := eq_false (by omega)
theorem t_eqN {a b : Nat} (h : a = b) : (a = b) = True := eq_true h
theorem f_eqN {a b : Nat} (h : a ≠ b) : (a = b) = False := eq_false h
theorem zc_add {a b : Int32} (h1 : -2147483648 ≤ a.toInt + b.toInt) (h2 : a.toInt + b.toInt < 2147483648) : (a + b).toInt = a.toInt + b.toInt := by rw [z_add]; omega
theorem zc_sub {a b : Int32} (h1 : -2147483648 ≤ a.toInt - b.toInt) (h2 : a.toInt - b.toInt < 2147483648) : (a - b).toInt = a.toInt - b.toInt := by rw [z_sub]; omega
theorem zc_addl {a : Int32} {k : Nat} (h0 : k < 2147483648) (h2 : a.toInt + k < 2147483648) : (a + (no_index (OfNat.ofNat k) : Int32)).toInt = a.toInt + (k : Int) := by
  have h := n_ti h0
  have := z_lo a
  show (a + nI k).toInt = _
  rw [z_add, h]
  omega
theorem zc_subl {a : Int32} {k : Nat} (h0 : k < 2147483648) (h2 : -2147483648 ≤ a.toInt - k) : (a - (no_index (OfNat.ofNat k) : Int32)).toInt = a.toInt - (k : Int) := by
  have h := n_ti h0
  have := z_hi a
  show (a - nI k).toInt = _
  rw [z_sub, h]
  omega
theorem zc_mull {a : Int32} {k : Nat} (h0 : k < 2147483648) (h1 : -2147483648 ≤ (k : Int) * a.toInt) (h2 : (k : Int) * a.toInt < 2147483648) : ((no_index (OfNat.ofNat k) : Int32) * a).toInt = (k : Int) * a.toInt := by
  have h := n_ti h0
  show (nI k * a).toInt = _
  rw [z_mul, h]
  omega
theorem nr_sub_1 {b : Nat} (h : 1 ≤ b) : nI b - 1 = nI (b - 1) := pk_sub (a := b) (b := 1) h
theorem nr_sub_2 {b : Nat} (h : 2 ≤ b) : nI b - 2 = nI (b - 2) := pk_sub (a := b) (b := 2) h
theorem nr_sub_3 {b : Nat} (h : 3 ≤ b) : nI b - 3 = nI (b - 3) := pk_sub (a := b) (b := 3) h
theorem nr_sub_4 {b : Nat} (h : 4 ≤ b) : nI b - 4 = nI (b - 4) := pk_sub (a := b) (b := 4) h
theorem nr_sub_7 {b : Nat} (h : 7 ≤ b) : nI b - 7 = nI (b - 7) := pk_sub (a := b) (b := 7) h
theorem nr_sub_10 {b : Nat} (h : 10 ≤ b) : nI b - 10 = nI (b - 10) := pk_sub (a := b) (b := 10) h
theorem nr_sub_11 {b : Nat} (h : 11 ≤ b) : nI b - 11 = nI (b - 11) := pk_sub (a := b) (b := 11) h
theorem nr_sub_20 {b : Nat} (h : 20 ≤ b) : nI b - 20 = nI (b - 20) := pk_sub (a := b) (b := 20) h
theorem nr_sub_48 {b : Nat} (h : 48 ≤ b) : nI b - 48 = nI (b - 48) := pk_sub (a := b) (b := 48) h
theorem nr_sub_97 {b : Nat} (h : 97 ≤ b) : nI b - 97 = nI (b - 97) := pk_sub (a := b) (b := 97) h
theorem nl_sub_3 {b : Nat} (h : b ≤ 3) : 3 - nI b = nI (3 - b) := pk_sub (a := 3) (b := b) h
theorem nl_sub_4 {b : Nat} (h : b ≤ 4) : 4 - nI b = nI (4 - b) := pk_sub (a := 4) (b := b) h
theorem nl_sub_12 {b : Nat} (h : b ≤ 12) : 12 - nI b = nI (12 - b) := pk_sub (a := 12) (b := b) h
theorem nl_sub_24 {b : Nat} (h : b ≤ 24) : 24 - nI b = nI (24 - b) := pk_sub (a := 24) (b := b) h
theorem nl_sub_32 {b : Nat} (h : b ≤ 32) : 32 - nI b = nI (32 - b) := pk_sub (a := 32) (b := b) h
theorem nr_div_2 {a : Nat} (h : a < 2147483648) : nI a / 2 = nI (a / 2) := pk_div (d := 2) h (by omega) (by omega)
theorem nr_div_4 {a : Nat} (h : a < 2147483648) : nI a / 4 = nI (a / 4) := pk_div (d := 4) h (by omega) (by omega)
theorem zc_add_1 {a : Int32} (h : a.toInt < 2147483648 - 1) : (a + 1).toInt = a.toInt + 1 := by
  have := z_lo a
  rw [z_add, show (1 : Int32).toInt = 1 from rfl]
  omega
theorem zc_add_2 {a : Int32} (h : a.toInt < 2147483648 - 2) : (a + 2).toInt = a.toInt + 2 := by
  have := z_lo a
  rw [z_add, show (2 : Int32).toInt = 2 from rfl]
  omega
theorem zc_add_3 {a : Int32} (h : a.toInt < 2147483648 - 3) : (a + 3).toInt = a.toInt + 3 := by
  have := z_lo a
  rw [z_add, show (3 : Int32).toInt = 3 from rfl]
  omega
theorem zc_add_4 {a : Int32} (h : a.toInt < 2147483648 - 4) : (a + 4).toInt = a.toInt + 4 := by
  have := z_lo a
  rw [z_add, show (4 : Int32).toInt = 4 from rfl]
  omega
theorem zc_add_8 {a : Int32} (h : a.toInt < 2147483648 - 8) : (a + 8).toInt = a.toInt + 8 := by
  have := z_lo a
  rw [z_add, show (8 : Int32).toInt = 8 from rfl]
  omega
theorem zc_add_10 {a : Int32} (h : a.toInt < 2147483648 - 10) : (a + 10).toInt = a.toInt + 10 := by
  have := z_lo a
  rw [z_add, show (10 : Int32).toInt = 10 from rfl]
  omega
theorem zc_add_12 {a : Int32} (h : a.toInt < 2147483648 - 12) : (a + 12).toInt = a.toInt + 12 := by
  have := z_lo a
  rw [z_add, show (12 : Int32).toInt = 12 from rfl]
  omega
theorem zc_add_16 {a : Int32} (h : a.toInt < 2147483648 - 16) : (a + 16).toInt = a.toInt + 16 := by
  have := z_lo a
  rw [z_add, show (16 : Int32).toInt = 16 from rfl]
  omega
theorem zc_add_20 {a : Int32} (h : a.toInt < 2147483648 - 20) : (a + 20).toInt = a.toInt + 20 := by
  have := z_lo a
  rw [z_add, show (20 : Int32).toInt = 20 from rfl]
  omega
theorem zc_sub_1 {a : Int32} (h : -2147483648 + 1 ≤ a.toInt) : (a - 1).toInt = a.toInt - 1 := by
  have := z_hi a
  rw [z_sub, show (1 : Int32).toInt = 1 from rfl]
  omega
theorem zc_sub_2 {a : Int32} (h : -2147483648 + 2 ≤ a.toInt) : (a - 2).toInt = a.toInt - 2 := by
  have := z_hi a
  rw [z_sub, show (2 : Int32).toInt = 2 from rfl]
  omega
theorem zc_sub_4 {a : Int32} (h : -2147483648 + 4 ≤ a.toInt) : (a - 4).toInt = a.toInt - 4 := by
  have := z_hi a
  rw [z_sub, show (4 : Int32).toInt = 4 from rfl]
  omega
theorem zc_sub_10 {a : Int32} (h : -2147483648 + 10 ≤ a.toInt) : (a - 10).toInt = a.toInt - 10 := by
  have := z_hi a
  rw [z_sub, show (10 : Int32).toInt = 10 from rfl]
  omega
theorem zc_sub_20 {a : Int32} (h : -2147483648 + 20 ≤ a.toInt) : (a - 20).toInt = a.toInt - 20 := by
  have := z_hi a
  rw [z_sub, show (20 : Int32).toInt = 20 from rfl]
  omega
theorem zc_sub_48 {a : Int32} (h : -2147483648 + 48 ≤ a.toInt) : (a - 48).toInt = a.toInt - 48 := by
  have := z_hi a
  rw [z_sub, show (48 : Int32).toInt = 48 from rfl]
  omega
theorem zc_sub_97 {a : Int32} (h : -2147483648 + 97 ≤ a.toInt) : (a - 97).toInt = a.toInt - 97 := by
  have := z_hi a
  rw [z_sub, show (97 : Int32).toInt = 97 from rfl]
  omega
theorem zc_mul_4 {a : Int32} (h : -536870912 ≤ a.toInt) (h2 : a.toInt < 536870912) : (4 * a).toInt = 4 * a.toInt := by
  rw [z_mul, show (4 : Int32).toInt = 4 from rfl]
  omega
