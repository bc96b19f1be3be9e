/-! TOKENS, as both take them out of a text -/
abbrev TK : Type := Nat × Nat × Nat × List Nat × Nat
abbrev tQ (t : TK) : Nat := t.1
abbrev tK (t : TK) : Nat := t.2.1
abbrev tV (t : TK) : Nat := t.2.2.1
abbrev tL (t : TK) : List Nat := t.2.2.2.1
abbrev tE (t : TK) : Nat := t.2.2.2.2
def sc (P : Nat → Bool) : Nat → Nat → Nat
  | 0, p => p
  | f + 1, p => if P p = true then sc P f (p + 1) else p
theorem sc_P (P : Nat → Bool) : ∀ f p, p ≤ sc P f p ∧ sc P f p ≤ p + f ∧ (∀ i, p ≤ i → i < sc P f p → P i = true) ∧ (sc P f p < p + f → P (sc P f p) = false) := by
  intro f
  induction f with
  | zero => intro p; exact ⟨Nat.le_refl _, Nat.le_refl _, fun i h1 h2 => absurd h2 (Nat.not_lt.mpr h1), fun h => absurd h (Nat.lt_irrefl _)⟩
  | succ f ih =>
    intro p
    unfold sc
    by_cases c : P p = true
    · rw [if_pos c]
      obtain ⟨h1, h2, h3, h4⟩ := ih (p + 1)
      refine ⟨by omega, by omega, fun i h5 h6 => ?_, fun h => h4 (by omega)⟩
      by_cases e : i = p
      · rw [e]; exact c
      · exact h3 i (by omega) h6
    · rw [if_neg c]
      refine ⟨Nat.le_refl _, by omega, fun i h5 h6 => by omega, fun _ => ?_⟩
      cases hp : P p with
      | false => rfl
      | true => exact absurd hp c
def isL (z : Int) : Bool := decide (97 ≤ z ∧ z ≤ 122)
def isD (z : Int) : Bool := decide (48 ≤ z ∧ z ≤ 57)
def isW (z : Int) : Bool := decide (z = 32 ∨ z = 10)
def isF (z : Int) : Bool := decide (z = 45 ∨ z = 98 ∨ z = 108 ∨ z = 114)
def lets (s : Nat → Int) (q : Nat) : Nat → List Nat
  | 0 => []
  | m + 1 => lets s q m ++ [(s (q + m)).toNat]
def numF (s : Nat → Int) (q : Nat) : Nat → Nat
  | 0 => 0
  | m + 1 => numF s q m * 10 + ((s (q + m)).toNat - 48)
/-- the words that stand for themselves -/
def wrd : Nat → List Nat
  | 0 => [116, 114, 105, 99, 107]
  | 1 => [119, 111, 114, 116, 104]
  | 2 => [102, 101, 101, 116]
  | 3 => [99, 114, 111, 115, 115]
  | 4 => [116, 111]
  | 5 => [111, 102, 102]
  | 6 => [116, 117, 114, 110]
  | 7 => [102, 114, 111, 109]
  | 8 => [102, 97, 99, 105, 110, 103]
  | 9 => [97, 108, 111, 110, 101]
  | 10 => [97]
  | 11 => [98]
  | 12 => [108]
  | 13 => [114]
  | 14 => [98, 101, 97, 116, 115]
  | 15 => [97, 116]
  | 16 => [105, 110]
  | 17 => [111, 117, 116]
  | 18 => [100, 111, 101, 115]
  | 19 => [109, 105, 114, 114, 111, 114, 101, 100]
  | 20 => [116, 97, 107, 101, 115]
  | 21 => [108, 101, 102, 116]
  | 22 => [114, 105, 103, 104, 116]
  | _ => []
def kowF (l : List Nat) : Nat → Nat → Nat
  | 0, _ => 30
  | m + 1, k => if wrd k = l then k else kowF l m (k + 1)
def kow (l : List Nat) : Nat := kowF l 23 0
def tkW (s : Nat → Int) (n q e : Nat) : TK := if 8 < e - q then (q, 36, 0, [], n) else (q, kow (lets s q (e - q)), 0, lets s q (e - q), e)
def tkN (s : Nat → Int) (n q e : Nat) : TK := if 3 < e - q ∨ (e < n ∧ isL (s e) = true) then (q, 36, 0, [], n) else (q, 31, numF s q (e - q), [], e)
def tkS (s : Nat → Int) (n q e : Nat) : TK := if (e < n ∧ s e = 34) ∧ 4 ≤ e - (q + 1) ∧ e - (q + 1) ≤ 32 ∧ (e - (q + 1)) % 4 = 0 then (q, 32, e - (q + 1), [], e + 1) else (q, 36, 0, [], n)
def tkM (s : Nat → Int) (n q : Nat) : TK := if s q = 58 then (q, 33, 0, [], q + 1) else if s q = 59 then (q, 34, 0, [], q + 1) else (q, 36, 0, [], n)
def tkA (s : Nat → Int) (n q : Nat) : TK :=
  if n ≤ q then (q, 35, 0, [], n)
  else if isL (s q) = true then tkW s n q (sc (fun k => isL (s k)) (n - q) q)
  else if isD (s q) = true then tkN s n q (sc (fun k => isD (s k)) (n - q) q)
  else if s q = 34 then tkS s n q (sc (fun k => isF (s k)) (n - (q + 1)) (q + 1))
  else tkM s n q
/-- the TOKEN from place p on -/
def tok (s : Nat → Int) (n p : Nat) : TK := tkA s n (sc (fun k => isW (s k)) (n - p) p)
theorem lets_mem (s : Nat → Int) (q : Nat) : ∀ m, (∀ i, i < m → isL (s (q + i)) = true) → ∀ c, c ∈ lets s q m → 97 ≤ c ∧ c ≤ 122 := by
  intro m
  induction m with
  | zero => intro _ c h; cases h
  | succ m ih =>
    intro h c hc
    rcases List.mem_append.mp hc with e | e
    · exact ih (fun i hi => h i (by omega)) c e
    · have := h m (by omega)
      unfold isL at this
      rw [decide_eq_true_iff] at this
      rw [List.mem_singleton] at e
      omega
theorem lets_len (s : Nat → Int) (q : Nat) : ∀ m, (lets s q m).length = m := by
  intro m
  induction m with
  | zero => rfl
  | succ m ih => show (lets s q m ++ [_]).length = _; rw [List.length_append, ih]; rfl
theorem en32_app (l : List Nat) (c : Nat) : en32 (l ++ [c]) = en32 l * 32 + (c - 96) := by
  unfold en32
  rw [List.foldl_append]
  rfl
theorem en256_app (l : List Nat) (c : Nat) : en256 (l ++ [c]) = en256 l * 256 + c := by
  unfold en256
  rw [List.foldl_append]
  rfl
def okL (l : List Nat) : Prop := ∀ c, c ∈ l → 97 ≤ c ∧ c ≤ 122
theorem okL_app {l : List Nat} {c : Nat} (h : okL (l ++ [c])) : okL l ∧ 97 ≤ c ∧ c ≤ 122 := ⟨fun x hx => h x (List.mem_append_left _ hx), h c (by simp)⟩
theorem snoc_c (l : List Nat) : l = [] ∨ ∃ x c, l = x ++ [c] := by
  rcases List.eq_nil_or_concat l with e | ⟨x, c, e⟩
  · exact Or.inl e
  · exact Or.inr ⟨x, c, by rw [e, List.concat_eq_append]⟩
theorem en32_inj : ∀ m (l l' : List Nat), l.length ≤ m → okL l → okL l' → en32 l = en32 l' → l = l' := by
  intro m
  induction m with
  | zero =>
    intro l l' hl h1 h2 he
    have : l = [] := List.eq_nil_of_length_eq_zero (by omega)
    subst this
    rcases snoc_c l' with e | ⟨x, c, e⟩
    · exact e.symm
    · subst e
      have := (okL_app h2).2
      have e0 : en32 [] = 0 := rfl
      rw [en32_app, e0] at he
      omega
  | succ m ih =>
    intro l l' hl h1 h2 he
    rcases snoc_c l with e | ⟨x, c, e⟩
    · subst e
      rcases snoc_c l' with e | ⟨x, c, e⟩
      · exact e.symm
      · subst e
        have := (okL_app h2).2
        have e0 : en32 [] = 0 := rfl
        rw [en32_app, e0] at he
        omega
    · subst e
      have k1 := okL_app h1
      rcases snoc_c l' with e | ⟨x', c', e⟩
      · subst e
        have e0 : en32 [] = 0 := rfl
        rw [en32_app, e0] at he
        omega
      · subst e
        have k2 := okL_app h2
        rw [en32_app, en32_app] at he
        have hc : c = c' := by omega
        have hx := ih x x' (by rw [List.length_append] at hl; simp at hl; exact hl) k1.1 k2.1 (by omega)
        rw [hc, hx]
theorem en256_inj : ∀ m (l l' : List Nat), l.length ≤ m → okL l → okL l' → en256 l = en256 l' → l = l' := by
  intro m
  induction m with
  | zero =>
    intro l l' hl h1 h2 he
    have : l = [] := List.eq_nil_of_length_eq_zero (by omega)
    subst this
    rcases snoc_c l' with e | ⟨x, c, e⟩
    · exact e.symm
    · subst e
      have := (okL_app h2).2
      have e0 : en256 [] = 0 := rfl
      rw [en256_app, e0] at he
      omega
  | succ m ih =>
    intro l l' hl h1 h2 he
    rcases snoc_c l with e | ⟨x, c, e⟩
    · subst e
      rcases snoc_c l' with e | ⟨x, c, e⟩
      · exact e.symm
      · subst e
        have := (okL_app h2).2
        have e0 : en256 [] = 0 := rfl
        rw [en256_app, e0] at he
        omega
    · subst e
      have k1 := okL_app h1
      rcases snoc_c l' with e | ⟨x', c', e⟩
      · subst e
        have e0 : en256 [] = 0 := rfl
        rw [en256_app, e0] at he
        omega
      · subst e
        have k2 := okL_app h2
        rw [en256_app, en256_app] at he
        have hc : c = c' := by omega
        have hx := ih x x' (by rw [List.length_append] at hl; simp at hl; exact hl) k1.1 k2.1 (by omega)
        rw [hc, hx]
theorem en_lt : ∀ m (l : List Nat), l.length = m → okL l → en32 l < 32 ^ m ∧ en256 l < 256 ^ m := by
  intro m
  induction m with
  | zero =>
    intro l hl _
    have : l = [] := List.eq_nil_of_length_eq_zero hl
    subst this
    exact ⟨by decide, by decide⟩
  | succ m ih =>
    intro l hl h
    rcases snoc_c l with e | ⟨x, c, e⟩
    · subst e; cases hl
    · subst e
      have k := okL_app h
      obtain ⟨g1, g2⟩ := ih x (by rw [List.length_append] at hl; simp at hl; exact hl) k.1
      rw [en32_app, en256_app, Nat.pow_succ, Nat.pow_succ]
      constructor <;> omega
theorem lN_inj {a b : Nat} (ha : a < 2 ^ 64) (hb : b < 2 ^ 64) (h : lN a = lN b) : a = b := by
  have h2 : (lN a).toBitVec = (lN b).toBitVec := by rw [h]
  have h3 : (BitVec.ofNat 64 a).toNat = (BitVec.ofNat 64 b).toNat := congrArg BitVec.toNat h2
  rw [BitVec.toNat_ofNat, BitVec.toNat_ofNat, Nat.mod_eq_of_lt ha, Nat.mod_eq_of_lt hb] at h3
  exact h3
theorem en_b {l : List Nat} (hl : l.length ≤ 8) (h : okL l) : en32 l < 2 ^ 64 ∧ en256 l < 2 ^ 64 := by
  obtain ⟨g1, g2⟩ := en_lt l.length l rfl h
  have e1 : 32 ^ l.length ≤ 32 ^ 8 := Nat.pow_le_pow_right (by omega) hl
  have e2 : 256 ^ l.length ≤ 256 ^ 8 := Nat.pow_le_pow_right (by omega) hl
  exact ⟨Nat.lt_of_lt_of_le g1 (Nat.le_trans e1 (by decide)), Nat.lt_of_lt_of_le g2 (Nat.le_trans e2 (by decide))⟩
theorem nm_32 {l l' : List Nat} (hl : l.length ≤ 8) (hl' : l'.length ≤ 8) (h : okL l) (h' : okL l') : lN (en32 l) = lN (en32 l') ↔ l = l' := ⟨fun e => en32_inj 8 l l' hl h h' (lN_inj (en_b hl h).1 (en_b hl' h').1 e), fun e => by rw [e]⟩
theorem nm_256 {l l' : List Nat} (hl : l.length ≤ 8) (hl' : l'.length ≤ 8) (h : okL l) (h' : okL l') : lN (en256 l) = lN (en256 l') ↔ l = l' := ⟨fun e => en256_inj 8 l l' hl h h' (lN_inj (en_b hl h).2 (en_b hl' h').2 e), fun e => by rw [e]⟩
/-- names are alike on both sides, or on none -/
theorem NameR_iff {x y x' y' : Int64} (h : NameR x y) (h' : NameR x' y') : x = x' ↔ y = y' := by
  obtain ⟨l, h1, h2, rfl, rfl⟩ := h
  obtain ⟨l', h1', h2', rfl, rfl⟩ := h'
  rw [nm_32 h1 h1' h2 h2', nm_256 h1 h1' h2 h2']
theorem wrd_ok : ∀ k : Fin 23, (wrd k.val).length ≤ 8 ∧ (wrd k.val).all (fun c => decide (97 ≤ c ∧ c ≤ 122)) = true ∧ (wrd k.val).length ≠ 0 := by decide +kernel
theorem wrd_okL {k : Nat} (h : k < 23) : (wrd k).length ≤ 8 ∧ okL (wrd k) := by
  obtain ⟨h1, h2, -⟩ := wrd_ok ⟨k, h⟩
  refine ⟨h1, fun c hc => ?_⟩
  have := List.all_eq_true.mp h2 c hc
  rwa [decide_eq_true_iff] at this
theorem lgz (x y : Int64) : (lg_cmp x y).toInt = 0 ↔ x = y := by
  unfold lg_cmp
  by_cases c1 : x > y
  · rw [if_pos c1]
    refine ⟨fun h => absurd h (by decide), fun h => ?_⟩
    rw [h] at c1
    rw [gt_iff_lt, Int64.lt_iff_toInt_lt] at c1
    omega
  · rw [if_neg c1]
    by_cases c2 : x = y
    · rw [if_pos c2]; exact ⟨fun _ => c2, fun _ => rfl⟩
    · rw [if_neg c2]; exact ⟨fun h => absurd h (by decide), fun h => absurd h c2⟩
theorem lg_t {x y : Int64} (h : x = y) : (lg_cmp x y).toInt = 0 := (lgz x y).mpr h
theorem kowF_P (l : List Nat) : ∀ m k, k + m = 23 → (kowF l m k = 30 ∧ ∀ j, k ≤ j → j < 23 → wrd j ≠ l) ∨ (k ≤ kowF l m k ∧ kowF l m k < 23 ∧ wrd (kowF l m k) = l ∧ ∀ j, k ≤ j → j < kowF l m k → wrd j ≠ l) := by
  intro m
  induction m with
  | zero => intro k hk; exact Or.inl ⟨rfl, fun j h1 h2 => by omega⟩
  | succ m ih =>
    intro k hk
    unfold kowF
    by_cases c : wrd k = l
    · rw [if_pos c]
      exact Or.inr ⟨Nat.le_refl _, by omega, c, fun j h1 h2 => by omega⟩
    · rw [if_neg c]
      rcases ih (k + 1) (by omega) with ⟨h1, h2⟩ | ⟨h1, h2, h3, h4⟩
      · refine Or.inl ⟨h1, fun j h3 h4 => ?_⟩
        by_cases e : j = k
        · rw [e]; exact c
        · exact h2 j (by omega) h4
      · refine Or.inr ⟨by omega, h2, h3, fun j h5 h6 => ?_⟩
        by_cases e : j = k
        · rw [e]; exact c
        · exact h4 j (by omega) h6
