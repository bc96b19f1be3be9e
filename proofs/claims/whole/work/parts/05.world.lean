/-! the plain memory as a world of cells -/
def tm_ty (ci : Nat) : Nat → FieldType := match ci with
  | 0 => tyX0 | 1 => tyX1 | 2 => tyX2 | 3 => tyX3 | 4 => tyX4 | 5 => tyX5 | 6 => tyX6 | 7 => tyX7 | 8 => tyX8 | 9 => tyX9 | 10 => tyX10 | _ => tyX11
def tm_fc (t : FieldType) : Nat := match t with
  | .long => 1
  | .object _ => 2
  | .array _ => 2
  | _ => 0
def tm_ft (ci k : Nat) : Nat := tm_fc (tm_ty ci k)
def tm_Om : List Cond := lw_tbl.filter goodWord
theorem tm_Om_in {w : Cond} (i : Nat) (h : lw_tbl[i]? = some w) (hg : goodWord w = true) : w ∈ tm_Om := List.mem_filter.mpr ⟨List.mem_of_getElem? h, hg⟩
theorem tm_Om_good {ws : List Cond} (h : ∀ w ∈ ws, w ∈ tm_Om) : GoodIn tm_Om ws := fun w hw => ⟨h w hw, good_of_word (List.mem_filter.mp (h w hw)).2⟩
/-- addresses: the first cell, the script, the text, its bytes -/
abbrev tm_B : Type := Nat × Nat × Nat × Nat
def tm_ad (B : tm_B) (n : Nat) : Nat := if n = 1 then B.2.1 else B.1 + (n - 2)
def tm_q (B : tm_B) (n : Nat) : Option Nat := if n = 0 then none else some (tm_ad B n)
def tm_rl (B : tm_B) : Value → Value
  | .ref n => va_rf (tm_q B n)
  | .retAddr _ => .ref B.2.2.1
  | v => v
theorem tm_rl_cat (B : tm_B) (v : Value) : (tm_rl B v).category = v.category := by
  cases v <;> try rfl
  rename_i n
  show (va_rf (tm_q B n)).category = 1
  unfold tm_q
  split <;> rfl
theorem tm_rl_ref {B : tm_B} {n : Nat} (h : n ≠ 0) : tm_rl B (.ref n) = .ref (tm_ad B n) := by
  show va_rf (tm_q B n) = _
  rw [tm_q, if_neg h]
  rfl
theorem tm_rl_null (B : tm_B) : tm_rl B (.ref 0) = .null := rfl
theorem tm_w_rl (B : tm_B) (st : List Value) : ((st.map (tm_rl B)).map fun v => v.category).sum = tm_w st := by
  unfold tm_w
  rw [List.map_map]
  congr 1
  exact List.map_congr_left fun v _ => tm_rl_cat B v
def tm_fv (B : tm_B) (M : tm_M) (n ci k : Nat) : Value := if tm_ft ci k = 0 then .int (tm_i M n k) else if tm_ft ci k = 1 then .long (tm_j M n k) else va_rf (tm_q B (tm_r M n k))
def tm_e (S : tm_S) (cA : Nat → ClassId) (B : tm_B) (M : tm_M) (n : Nat) : va_E :=
  if (S n).1 < 4 then .inl (cA (S n).1, (S n).2, .inl (tm_i M n))
  else if (S n).1 = 4 then .inl (cA 4, (S n).2, .inr (.inl (tm_j M n)))
  else if (S n).1 < 100 then .inl (cA (S n).1, (S n).2, .inr (.inr (.inr (.inr fun k => tm_q B (tm_r M n k)))))
  else .inr ((S n).1 - 100, (List.range (S n).2).map (tm_fv B M n ((S n).1 - 100)))
def tm_tys (cA : Nat → ClassId) : List (ClassId × FieldType) := [(cA 1, .int), (cA 2, .byte), (cA 3, .boolean), (cA 4, .long), (cA 5, .object RX8), (cA 6, .object RX3)]
def tm_wd (S : tm_S) (cA : Nat → ClassId) (B : tm_B) (M : tm_M) : va_W := (List.range (tm_z M)).map (fun k => (B.1 + k, tm_e S cA B M (k + 2)))
theorem tm_wd_get {S : tm_S} {cA : Nat → ClassId} {B : tm_B} {M : tm_M} {a : Nat} (h : 2 ≤ a) (h2 : a < tm_z M + 2) : (tm_wd S cA B M)[a - 2]? = some (tm_ad B a, tm_e S cA B M a) := by
  unfold tm_wd tm_ad
  rw [if_neg (by omega), List.getElem?_map, List.getElem?_range (by omega)]
  show some (B.1 + (a - 2), tm_e S cA B M (a - 2 + 2)) = _
  rw [show a - 2 + 2 = a by omega]
theorem tm_wd_D {S : tm_S} {cA : Nat → ClassId} {B : tm_B} {M : tm_M} : va_D (fun q => B.1 ≤ q) (tm_wd S cA B M) := by
  refine ⟨fun i j p q hi hj e => ?_, fun k q hk => ?_⟩
  · unfold tm_wd at hi hj
    rw [List.getElem?_map] at hi hj
    obtain ⟨x, hx, rfl⟩ := Option.map_eq_some_iff.mp hi
    obtain ⟨y, hy, rfl⟩ := Option.map_eq_some_iff.mp hj
    obtain ⟨hx1, rfl⟩ := List.getElem?_eq_some_iff.mp hx
    obtain ⟨hy1, rfl⟩ := List.getElem?_eq_some_iff.mp hy
    simp only [List.getElem_range] at e
    omega
  · unfold tm_wd at hk
    rw [List.getElem?_map] at hk
    obtain ⟨x, hx, rfl⟩ := Option.map_eq_some_iff.mp hk
    exact Nat.le_add_right _ _
theorem tm_wd_set {S : tm_S} {cA : Nat → ClassId} {B : tm_B} {M M' : tm_M} {a : Nat} {e : va_E} (h : 2 ≤ a) (hz : tm_z M' = tm_z M) (he : tm_e S cA B M' a = e) (ho : ∀ n, n ≠ a → tm_e S cA B M' n = tm_e S cA B M n) : (tm_wd S cA B M).set (a - 2) (tm_ad B a, e) = tm_wd S cA B M' := by
  subst he
  apply List.ext_getElem?
  intro k
  rw [List.getElem?_set]
  unfold tm_wd
  rw [hz]
  by_cases hk : a - 2 = k
  · subst hk
    rw [if_pos rfl]
    by_cases hl : a - 2 < tm_z M
    · rw [if_pos (by simpa using hl), List.getElem?_map, List.getElem?_range hl]
      show _ = some (B.1 + (a - 2), tm_e S cA B M' (a - 2 + 2))
      rw [show a - 2 + 2 = a by omega, tm_ad, if_neg (by omega)]
    · rw [if_neg (by simpa using hl), List.getElem?_map, List.getElem?_eq_none (by simpa using hl)]
      rfl
  · rw [if_neg hk, List.getElem?_map, List.getElem?_map]
    by_cases hl : k < tm_z M
    · rw [List.getElem?_range hl]
      show some (_, _) = some (_, _)
      rw [ho (k + 2) (by omega)]
    · rw [List.getElem?_eq_none (by simpa using hl)]
      rfl
theorem tm_i_si_ne {M : tm_M} {a k n : Nat} {v : Int32} (h : n ≠ a) : tm_i (tm_si M a k v) n = tm_i M n := by
  funext y
  simp [tm_i, tm_si, tm_u, h]
theorem tm_j_sj_ne {M : tm_M} {a k n : Nat} {v : Int64} (h : n ≠ a) : tm_j (tm_sj M a k v) n = tm_j M n := by
  funext y
  simp [tm_j, tm_sj, tm_u, h]
theorem tm_r_sr_ne {M : tm_M} {a k n v : Nat} (h : n ≠ a) : tm_r (tm_sr M a k v) n = tm_r M n := by
  funext y
  simp [tm_r, tm_sr, tm_u, h]
theorem tm_i_si {M : tm_M} {a k : Nat} {v : Int32} : tm_i (tm_si M a k v) a = upd (tm_i M a) k v := by
  funext y
  simp [tm_i, tm_si, tm_u, upd]
theorem tm_j_sj {M : tm_M} {a k : Nat} {v : Int64} : tm_j (tm_sj M a k v) a = vp_updL (tm_j M a) k v := by
  funext y
  simp [tm_j, tm_sj, tm_u, vp_updL]
theorem tm_r_sr {M : tm_M} {a k v : Nat} : tm_r (tm_sr M a k v) a = va_up (tm_r M a) k v := by
  funext y
  simp [tm_r, tm_sr, tm_u, va_up]
theorem tm_e_congr {S : tm_S} {cA : Nat → ClassId} {B : tm_B} {M M' : tm_M} {n : Nat} (h1 : tm_i M' n = tm_i M n) (h2 : tm_j M' n = tm_j M n) (h3 : tm_r M' n = tm_r M n) : tm_e S cA B M' n = tm_e S cA B M n := by
  have hf : ∀ ci, tm_fv B M' n ci = tm_fv B M n ci := fun ci => by
    funext k
    simp only [tm_fv, h1, h2, h3]
  simp only [tm_e, h1, h2, h3, hf]
theorem tm_e_si {S : tm_S} {cA : Nat → ClassId} {B : tm_B} {M : tm_M} {a k n : Nat} {v : Int32} (h : n ≠ a) : tm_e S cA B (tm_si M a k v) n = tm_e S cA B M n := tm_e_congr (tm_i_si_ne h) rfl rfl
theorem tm_e_sj {S : tm_S} {cA : Nat → ClassId} {B : tm_B} {M : tm_M} {a k n : Nat} {v : Int64} (h : n ≠ a) : tm_e S cA B (tm_sj M a k v) n = tm_e S cA B M n := tm_e_congr rfl (tm_j_sj_ne h) rfl
theorem tm_e_sr {S : tm_S} {cA : Nat → ClassId} {B : tm_B} {M : tm_M} {a k n v : Nat} (h : n ≠ a) : tm_e S cA B (tm_sr M a k v) n = tm_e S cA B M n := tm_e_congr rfl rfl (tm_r_sr_ne h)
theorem tm_e_nw {S : tm_S} {cA : Nat → ClassId} {B : tm_B} {M : tm_M} {c n : Nat} (h : n ≠ tm_z M + 2) : tm_e S cA B (tm_nw M c) n = tm_e S cA B M n := by
  have h' : ¬ n = M.2.2.2.1 + 2 := h
  refine tm_e_congr ?_ ?_ ?_ <;> funext y <;> simp [tm_i, tm_j, tm_r, tm_nw, tm_c, h']
theorem tm_wd_nw {S : tm_S} {cA : Nat → ClassId} {B : tm_B} {M : tm_M} {c : Nat} : tm_wd S cA B (tm_nw M c) = tm_wd S cA B M ++ [(B.1 + tm_z M, tm_e S cA B (tm_nw M c) (tm_z M + 2))] := by
  unfold tm_wd
  show List.map _ (List.range (tm_z M + 1)) = _
  rw [List.range_succ, List.map_append]
  congr 1
  refine List.map_congr_left fun k hk => ?_
  rw [tm_e_nw (by have := List.mem_range.mp hk; omega)]
theorem tm_kd_pos {S : tm_S} {M : tm_M} {a k : Nat} (h0 : (S 0).1 = 0) (h1 : (S 1).1 = 0) (h : tm_kd S M a = k) (hk : k ≠ 0) : 2 ≤ a ∧ a < tm_z M + 2 ∧ (S a).1 = k := by
  unfold tm_kd at h
  split at h
  · rename_i hl
    refine ⟨?_, hl, h⟩
    rcases a with _ | _ | a
    · exact absurd (h.symm.trans h0) hk
    · exact absurd (h.symm.trans h1) hk
    · omega
  · exact absurd h.symm hk
/-- of a field: its class, its slot -/
def tm_Nf : Nat → Nat := fun ci => match ci with
  | 0 => 2 | 1 => 11 | 2 => 11 | 3 => 7 | 4 => 11 | 5 => 10 | 6 => 3 | 7 => 7 | 8 => 9 | 9 => 6 | 10 => 14 | _ => 86
def tm_Sok (S : tm_S) : Prop := (S 0).1 = 0 ∧ (S 1).1 = 0 ∧ ∀ n ci, (S n).1 = 100 + ci → ci < 12 ∧ (S n).2 = tm_Nf ci
