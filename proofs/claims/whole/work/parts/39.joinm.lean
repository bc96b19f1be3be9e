/-! JOINED: the sets' table, as both reckon it -/
def may (D : Nat → TD) (w st : Nat) : Bool := decide ((clash (D (w / 2))).toInt < 0 ∧ (frM (w % 2) (D (w / 2)) = 0 ∨ frM (w % 2) (D (w / 2)) = st / 4) ∧ ((dC (D (w / 2))).toInt < 0 ∨ (dC (D (w / 2))).toInt = ((st % 4 : Nat) : Int)))
def lfw (D : Nat → TD) (w : Nat) : Nat := lf (dnM (w % 2) (D (w / 2))) (4 * dQ (D (w / 2)))
def tuw (D : Nat → TD) (w : Nat) : Nat := tuM (w % 2) (D (w / 2))
def nxt (D : Nat → TD) (w st : Nat) : Nat := 4 * (if lfw D w = 0 then st / 4 else lfw D w) + (st % 4 + tuw D w) % 4
def anyw (P : Nat → Bool) : Nat → Bool
  | 0 => false
  | k + 1 => anyw P k || P k
def ledP (D : Nat → TD) (T : Nat → Nat → Bool) (set st w : Nat) : Bool := set.testBit (w / 2) && (may D w st && T (set ^^^ 2 ^ (w / 2)) (nxt D w st))
def rowOf (n : Nat) (D : Nat → TD) (T : Nat → Nat → Bool) (set st : Nat) : Bool := decide (set = 0) || anyw (ledP D T set st) (2 * n)
def tbl (n : Nat) (D : Nat → TD) : Nat → Nat → Nat → Bool
  | 0 => fun _ _ => false
  | k + 1 => fun set st => if set = k then rowOf n D (tbl n D k) k st else tbl n D k set st
theorem anyw_iff (P : Nat → Bool) : ∀ k, anyw P k = true ↔ ∃ w, w < k ∧ P w = true := by
  intro k
  induction k with
  | zero => exact ⟨fun h => (by cases h), fun ⟨w, h, _⟩ => by omega⟩
  | succ k ih =>
    show (anyw P k || P k) = true ↔ _
    rw [Bool.or_eq_true, ih]
    constructor
    · rintro (⟨w, h1, h2⟩ | h)
      · exact ⟨w, by omega, h2⟩
      · exact ⟨k, by omega, h⟩
    · rintro ⟨w, h1, h2⟩
      by_cases e : w = k
      · exact Or.inr (e ▸ h2)
      · exact Or.inl ⟨w, by omega, h2⟩
theorem xor_bit {s t : Nat} (h : s.testBit t = true) (j : Nat) : (s ^^^ 2 ^ t).testBit j = (s.testBit j && !(decide (t = j))) := by
  rw [Nat.testBit_xor, Nat.testBit_two_pow]
  by_cases e : t = j
  · subst e
    simp [h]
  · simp [e]
theorem xor_lt {s t : Nat} (h : s.testBit t = true) : s ^^^ 2 ^ t < s := by
  have e : (s ^^^ 2 ^ t) ||| 2 ^ t = s := by
    apply Nat.eq_of_testBit_eq
    intro j
    rw [Nat.testBit_or, xor_bit h, Nat.testBit_two_pow]
    by_cases e : t = j
    · subst e
      simp [h]
    · simp [e]
  have le : s ^^^ 2 ^ t ≤ (s ^^^ 2 ^ t) ||| 2 ^ t := Nat.left_le_or
  have ne : s ^^^ 2 ^ t ≠ s := fun e' => by
    have := xor_bit h t
    rw [e', h] at this
    simp at this
  omega
theorem tbl_lt (n : Nat) (D : Nat → TD) (k : Nat) : ∀ m s st, s < k → tbl n D (k + m) s st = tbl n D k s st := by
  intro m
  induction m with
  | zero => intro s st _; rfl
  | succ m ih =>
    intro s st h
    show (if s = k + m then _ else tbl n D (k + m) s st) = _
    rw [if_neg (by omega)]
    exact ih s st h
theorem tbl_row (n : Nat) (D : Nat → TD) (k s st : Nat) (h : s < k) : tbl n D k s st = rowOf n D (tbl n D s) s st := by
  obtain ⟨m, rfl⟩ : ∃ m, k = s + 1 + m := ⟨k - (s + 1), by omega⟩
  rw [tbl_lt n D (s + 1) m s st (by omega)]
  show (if s = s then _ else _) = _
  rw [if_pos rfl]
theorem led_congr {D : Nat → TD} {T T' : Nat → Nat → Bool} {set st : Nat} (h : ∀ s x, s < set → T s x = T' s x) (w : Nat) : ledP D T set st w = ledP D T' set st w := by
  unfold ledP
  cases hb : set.testBit (w / 2) with
  | false => rfl
  | true => rw [h _ _ (xor_lt hb)]
/-- the whole table's own law -/
theorem tbl_fix (n : Nat) (D : Nat → TD) (k s st : Nat) (h : s < k) : tbl n D k s st = rowOf n D (tbl n D k) s st := by
  rw [tbl_row n D k s st h]
  unfold rowOf
  congr 1
  have : (ledP D (tbl n D s) s st) = (ledP D (tbl n D k) s st) := funext fun w => led_congr (fun x y hx => by
    obtain ⟨m, rfl⟩ : ∃ m, k = s + m := ⟨k - s, by omega⟩
    exact (tbl_lt n D s m x y hx).symm) w
  rw [this]
def wsum (f : Nat → Nat) (s : Nat) : Nat → Nat
  | 0 => 0
  | t + 1 => wsum f s t + (if s.testBit t = true then f t else 0)
theorem wsum_x (f : Nat → Nat) (s t0 : Nat) (h : s.testBit t0 = true) : ∀ n, wsum f s n = wsum f (s ^^^ 2 ^ t0) n + (if t0 < n then f t0 else 0) := by
  intro n
  induction n with
  | zero => rfl
  | succ n ih =>
    show wsum f s n + (if s.testBit n = true then f n else 0) = wsum f (s ^^^ 2 ^ t0) n + (if (s ^^^ 2 ^ t0).testBit n = true then f n else 0) + _
    rw [ih, xor_bit h]
    by_cases e : t0 = n
    · subst e
      have e1 : (if t0 < t0 then f t0 else 0) = 0 := if_neg (Nat.lt_irrefl _)
      have e2 : (if t0 < t0 + 1 then f t0 else 0) = f t0 := if_pos (by omega)
      rw [e1, e2, if_pos h]
      simp
    · have e2 : (s.testBit n && !decide (t0 = n)) = s.testBit n := by simp [e]
      have e3 : (if t0 < n + 1 then f t0 else 0) = (if t0 < n then f t0 else 0) := by
        by_cases l : t0 < n
        · rw [if_pos l, if_pos (by omega)]
        · rw [if_neg l, if_neg (by omega)]
      rw [e2, e3]
      omega
theorem wsum_0 (f : Nat → Nat) : ∀ n, wsum f 0 n = 0 := by
  intro n
  induction n with
  | zero => rfl
  | succ n ih =>
    show wsum f 0 n + (if (0 : Nat).testBit n = true then f n else 0) = 0
    rw [ih]
    simp
theorem wsum_le (f : Nat → Nat) (M s : Nat) : ∀ n, (∀ t, t < n → f t ≤ M) → wsum f s n ≤ M * n := by
  intro n
  induction n with
  | zero => intro _; exact Nat.le_refl _
  | succ n ih =>
    intro h
    have h1 := ih (fun t ht => h t (by omega))
    have h2 := h n (by omega)
    show wsum f s n + (if s.testBit n = true then f n else 0) ≤ M * (n + 1)
    rw [Nat.mul_succ]
    by_cases c : s.testBit n = true
    · rw [if_pos c]; omega
    · rw [if_neg c]; omega
/-! bits of ints -/
theorem sh_c : ∀ t : Fin 20, ((nI t.val &&& 31).toBitVec.smod 32).toNat = t.val ∧ (1 : Int32) <<< (nI t.val &&& 31) = nI (2 ^ t.val) := by decide +kernel
theorem bit_i {s t : Nat} (hs : s < 2147483648) (ht : t < 20) : (nI s >>> (nI t &&& 31)) &&& 1 = nI (if s.testBit t = true then 1 else 0) := by
  rw [pk_shrN hs _ t (sh_c ⟨t, ht⟩).1, pk_andN (m := 1) (Nat.lt_of_le_of_lt (Nat.div_le_self _ _) (by omega)) 1 (by decide), Nat.testBit_eq_decide_div_mod_eq]
  by_cases c : s / 2 ^ t % 2 = 1
  · simp [c]
  · have : s / 2 ^ t % 2 = 0 := by omega
    simp [this]
theorem bit_t {s t : Nat} (hs : s < 2147483648) (ht : t < 20) (h : s.testBit t = true) : (nI s >>> (nI t &&& 31)) &&& 1 = nI 1 := by rw [bit_i hs ht, if_pos h]
theorem bit_f {s t : Nat} (hs : s < 2147483648) (ht : t < 20) (h : s.testBit t = false) : (nI s >>> (nI t &&& 31)) &&& 1 = nI 0 := by rw [bit_i hs ht, if_neg (by rw [h]; exact Bool.false_ne_true)]
theorem shl_1 {t : Nat} (ht : t < 20) : (1 : Int32) <<< (nI t &&& 31) = nI (2 ^ t) := (sh_c ⟨t, ht⟩).2
theorem i_and (a b : Nat) : nI a &&& nI b = nI (a &&& b) := by
  apply Int32.toBitVec_inj.1
  show BitVec.ofNat 32 a &&& BitVec.ofNat 32 b = BitVec.ofNat 32 (a &&& b)
  apply BitVec.eq_of_getLsbD_eq
  intro i hi
  simp [hi]
theorem i_or (a b : Nat) : nI a ||| nI b = nI (a ||| b) := by
  apply Int32.toBitVec_inj.1
  show BitVec.ofNat 32 a ||| BitVec.ofNat 32 b = BitVec.ofNat 32 (a ||| b)
  apply BitVec.eq_of_getLsbD_eq
  intro i hi
  simp [hi]
theorem i_xor (a b : Nat) : nI a ^^^ nI b = nI (a ^^^ b) := by
  apply Int32.toBitVec_inj.1
  show BitVec.ofNat 32 a ^^^ BitVec.ofNat 32 b = BitVec.ofNat 32 (a ^^^ b)
  apply BitVec.eq_of_getLsbD_eq
  intro i hi
  simp [hi]
theorem lt_tb {s n t : Nat} (hs : s < 2 ^ n) (h : s.testBit t = true) : t < n := by
  by_cases c : t < n
  · exact c
  · have : s.testBit t = false := Nat.testBit_lt_two_pow (Nat.lt_of_lt_of_le hs (Nat.pow_le_pow_right (by omega) (by omega)))
    rw [this] at h
    cases h
theorem pow_12 {n : Nat} (h : n ≤ 12) : 2 ^ n ≤ 4096 := Nat.pow_le_pow_right (n := 2) (by omega) h
/-! numberOfTrailingZeros -/
def g74 (x y : Int32) : Int32 := y + (x.toUInt32 >>> ((1 : Int32).toUInt32 &&& Int32.toUInt32 31)).toInt32
def g62 (x y : Int32) : Int32 := if x ≤ 4 then g74 x y else g74 (x.toUInt32 >>> ((2 : Int32).toUInt32 &&& Int32.toUInt32 31)).toInt32 (y + 2)
def g49 (x y : Int32) : Int32 := if x ≤ 16 then g62 x y else g62 (x.toUInt32 >>> ((4 : Int32).toUInt32 &&& Int32.toUInt32 31)).toInt32 (y + 4)
def g34 (x y : Int32) : Int32 := if x ≤ 256 then g49 x y else g49 (x.toUInt32 >>> ((8 : Int32).toUInt32 &&& Int32.toUInt32 31)).toInt32 (y + 8)
def g187 (x : Int32) : Int32 := if 0 < ((x ^^^ (-1)) &&& (x - 1)) then (if ((x ^^^ (-1)) &&& (x - 1)) ≤ 65536 then g34 ((x ^^^ (-1)) &&& (x - 1)) 1 else g34 ((((x ^^^ (-1)) &&& (x - 1))).toUInt32 >>> ((16 : Int32).toUInt32 &&& Int32.toUInt32 31)).toInt32 17) else (((x ^^^ (-1)) &&& (x - 1)) &&& 32)

theorem s_187_62 {I : Nat → Nat → Int32} {J : Nat → Nat → Int64} {τ : tm_Tu} (x y : Int32) : R_187 62 [(0, .int x), (1, .int y)] [] (mk I J τ) = some (some (.int (g62 x y)), mk I J τ) := by
  rw [e_187_62]
  unfold g62
  split
  · exact e_187_74 _ _ _ _ _
  · exact e_187_74 _ _ _ _ _
theorem s_187_49 {I : Nat → Nat → Int32} {J : Nat → Nat → Int64} {τ : tm_Tu} (x y : Int32) : R_187 49 [(0, .int x), (1, .int y)] [] (mk I J τ) = some (some (.int (g49 x y)), mk I J τ) := by
  rw [e_187_49]
  unfold g49
  split
  · exact s_187_62 _ _
  · exact s_187_62 _ _
theorem s_187_34 {I : Nat → Nat → Int32} {J : Nat → Nat → Int64} {τ : tm_Tu} (x y : Int32) : R_187 34 [(0, .int x), (1, .int y)] [] (mk I J τ) = some (some (.int (g34 x y)), mk I J τ) := by
  rw [e_187_34]
  unfold g34
  split
  · exact s_187_49 _ _
  · exact s_187_49 _ _
theorem s_187 {I : Nat → Nat → Int32} {J : Nat → Nat → Int64} {τ : tm_Tu} (x : Int32) : F_187 [.int x] (mk I J τ) = some (some (.int (g187 x)), mk I J τ) := by
  rw [e_187]
  unfold g187
  split
  · split
    · exact s_187_34 _ _
    · exact s_187_34 _ _
  · rfl
theorem tz_c : ∀ hi : Fin 16, ∀ lo : Fin 256, 256 * hi.val + lo.val = 0 ∨ ((g187 (nI (256 * hi.val + lo.val))).toNatClampNeg < 12 ∧ g187 (nI (256 * hi.val + lo.val)) = nI (g187 (nI (256 * hi.val + lo.val))).toNatClampNeg ∧ (256 * hi.val + lo.val).testBit (g187 (nI (256 * hi.val + lo.val))).toNatClampNeg = true ∧ nI (256 * hi.val + lo.val) &&& (nI (256 * hi.val + lo.val) - 1) = nI ((256 * hi.val + lo.val) ^^^ 2 ^ (g187 (nI (256 * hi.val + lo.val))).toNatClampNeg)) := by decide +kernel
theorem tz_s {s : Nat} (h0 : s ≠ 0) (h : s < 4096) : ∃ t : Nat, t < 12 ∧ g187 (nI s) = nI t ∧ s.testBit t = true ∧ nI s &&& (nI s - 1) = nI (s ^^^ 2 ^ t) := by
  have := tz_c ⟨s / 256, by omega⟩ ⟨s % 256, by omega⟩
  dsimp only at this
  rw [show 256 * (s / 256) + s % 256 = s by omega] at this
  rcases this with e | ⟨h1, h2, h3, h4⟩
  · exact absurd e h0
  · exact ⟨_, h1, h2, h3, h4⟩
