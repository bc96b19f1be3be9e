/-! how the law begins -/
def onew : List (Nat × Nat × Nat × Nat) := [(0, 0, 0, 86)]
def z0I : Nat → Nat → Int32 := fun _ _ => 0
def z0J : Nat → Nat → Int64 := fun _ _ => 0
def z0R : Nat → Nat → Nat := fun _ _ => 0
def allO : List (List (Nat × Nat × Nat × Nat)) := [oa_0, ops2, oa_1, ops5, oa_2, ops6, oa_3, ops7, oa_4, ops8, oa_5, ops10_43, oa_6, ops10_81, oa_7, ops11a, oa_8, ops11b, ofin, onew, o13_1, o13_2, o13_3, o13_4, o13_5, o13_6, o13_7, o13_8, o13_9, o13_10, o13_11, o13_12, o13_13, o13_14]
def IC : Nat → Nat → Int32 := rI o13_14 (rI o13_13 (rI o13_12 (rI o13_11 (rI o13_10 (rI o13_9 (rI o13_8 (rI o13_7 (rI o13_6 (rI o13_5 (rI o13_4 (rI o13_3 (rI o13_2 (rI o13_1 (rI onew (rI ofin (rI ops11b (rI oa_8 (rI ops11a (rI oa_7 (rI ops10_81 (rI oa_6 (rI ops10_43 (rI oa_5 (rI ops8 (rI oa_4 (rI ops7 (rI oa_3 (rI ops6 (rI oa_2 (rI ops5 (rI oa_1 (rI ops2 (rI oa_0 (z0I))))))))))))))))))))))))))))))))))
def RC : Nat → Nat → Nat := rR o13_14 (rR o13_13 (rR o13_12 (rR o13_11 (rR o13_10 (rR o13_9 (rR o13_8 (rR o13_7 (rR o13_6 (rR o13_5 (rR o13_4 (rR o13_3 (rR o13_2 (rR o13_1 (rR onew (rR ofin (rR ops11b (rR oa_8 (rR ops11a (rR oa_7 (rR ops10_81 (rR oa_6 (rR ops10_43 (rR oa_5 (rR ops8 (rR oa_4 (rR ops7 (rR oa_3 (rR ops6 (rR oa_2 (rR ops5 (rR oa_1 (rR ops2 (rR oa_0 (z0R))))))))))))))))))))))))))))))))))
/-- a table of rows, read as a function -/
def gL (l : List (List Nat)) : Nat → Nat → Nat := fun a k => (l.getD a []).getD k 0
theorem gd_o {α : Type} {l : List α} {k : Nat} {d : α} (h : l.length ≤ k) : l.getD k d = d := by
  rw [List.getD_eq_getElem?_getD, List.getElem?_eq_none h]
  rfl
theorem gd_s {α : Type} {l : List α} {k j : Nat} {v d : α} (h : k < l.length) : (l.set k v).getD j d = if j = k then v else l.getD j d := by
  rw [List.getD_eq_getElem?_getD, List.getD_eq_getElem?_getD, List.getElem?_set]
  by_cases c : j = k
  · subst c
    rw [if_pos rfl, if_pos rfl, if_pos h]
    rfl
  · rw [if_neg (fun u => c u.symm), if_neg c]
theorem gL_s {l : List (List Nat)} {a k v : Nat} (h1 : a < l.length) (h2 : k < (l.getD a []).length) : gL (l.set a ((l.getD a []).set k v)) = tm_u (gL l) a k v := by
  funext x y
  unfold gL tm_u
  rw [gd_s h1]
  by_cases c : x = a
  · rw [if_pos c, if_pos c, gd_s h2, c]
  · rw [if_neg c, if_neg c]
/-- the references' steps over a table; nothing where a step leaves the table -/
def rnL : List (Nat × Nat × Nat × Nat) → List (List Nat) → Option (List (List Nat))
  | [], l => some l
  | o :: r, l => match o.1 with
    | 1 => if o.2.1 < l.length ∧ o.2.2.1 < (l.getD o.2.1 []).length then rnL r (l.set o.2.1 ((l.getD o.2.1 []).set o.2.2.1 o.2.2.2)) else none
    | _ => rnL r l
theorem rnL_ok : ∀ (ops : List (Nat × Nat × Nat × Nat)) (l l' : List (List Nat)), rnL ops l = some l' → rR ops (gL l) = gL l' := by
  intro ops
  induction ops with
  | nil => intro l l' h; cases h; rfl
  | cons o r ih =>
    intro l l' h
    obtain ⟨t, a, k, v⟩ := o
    match t with
    | 0 => exact ih l l' h
    | 1 =>
      have h' : (if a < l.length ∧ k < (l.getD a []).length then rnL r (l.set a ((l.getD a []).set k v)) else none) = some l' := h
      by_cases c : a < l.length ∧ k < (l.getD a []).length
      · rw [if_pos c] at h'
        have g := ih _ _ h'
        show rR r (tm_u (gL l) a k v) = gL l'
        rw [← gL_s c.1 c.2]
        exact g
      · rw [if_neg c] at h'
        cases h'
    | q + 2 => exact ih l l' h
def eqR : List Nat → List Nat → Bool
  | [], l => l.all (fun x => x == 0)
  | x :: xs, [] => x == 0 && eqR xs []
  | x :: xs, y :: ys => x == y && eqR xs ys
theorem all0 : ∀ (l : List Nat), l.all (fun x => x == 0) = true → ∀ k, l.getD k 0 = 0 := by
  intro l
  induction l with
  | nil => intro _ k; rfl
  | cons x xs ih =>
    intro h k
    rw [List.all_cons, Bool.and_eq_true, beq_iff_eq] at h
    cases k with
    | zero => exact h.1
    | succ k => exact ih h.2 k
theorem eqR_ok : ∀ (a b : List Nat), eqR a b = true → ∀ k, a.getD k 0 = b.getD k 0 := by
  intro a
  induction a with
  | nil => intro b h k; exact (all0 b h k).symm
  | cons x xs ih =>
    intro b h k
    cases b with
    | nil =>
      have h' : (x == 0 && eqR xs []) = true := h
      rw [Bool.and_eq_true, beq_iff_eq] at h'
      cases k with
      | zero => exact h'.1
      | succ k => exact ih [] h'.2 k
    | cons y ys =>
      have h' : (x == y && eqR xs ys) = true := h
      rw [Bool.and_eq_true, beq_iff_eq] at h'
      cases k with
      | zero => exact h'.1
      | succ k => exact ih ys h'.2 k
def eqT : List (List Nat) → List (List Nat) → Bool
  | [], l => l.all (fun x => eqR [] x)
  | x :: xs, [] => eqR x [] && eqT xs []
  | x :: xs, y :: ys => eqR x y && eqT xs ys
theorem allT : ∀ (l : List (List Nat)), l.all (fun x => eqR [] x) = true → ∀ a k, (l.getD a []).getD k 0 = 0 := by
  intro l
  induction l with
  | nil => intro _ a k; rfl
  | cons x xs ih =>
    intro h a k
    rw [List.all_cons, Bool.and_eq_true] at h
    cases a with
    | zero => exact (eqR_ok [] x h.1 k).symm
    | succ a => exact ih h.2 a k
theorem eqT_ok : ∀ (A B : List (List Nat)), eqT A B = true → ∀ a k, (A.getD a []).getD k 0 = (B.getD a []).getD k 0 := by
  intro A
  induction A with
  | nil => intro B h a k; exact (allT B h a k).symm
  | cons x xs ih =>
    intro B h a k
    cases B with
    | nil =>
      have h' : (eqR x [] && eqT xs []) = true := h
      rw [Bool.and_eq_true] at h'
      cases a with
      | zero => exact eqR_ok x [] h'.1 k
      | succ a => exact ih [] h'.2 a k
    | cons y ys =>
      have h' : (eqR x y && eqT xs ys) = true := h
      rw [Bool.and_eq_true] at h'
      cases a with
      | zero => exact eqR_ok x y h'.1 k
      | succ a => exact ih ys h'.2 a k
def l0 : List (List Nat) := (List.range 186).map (fun a => List.replicate (if a = 131 then 90 else 16) 0)
def tbl0 : List (List Nat) := (tm_rtl.set 2 [3, 4, 7, 24, 32, 34, 43, 81, 119, 125]).set 4 [5, 6]
def rnA : List (List (Nat × Nat × Nat × Nat)) → List (List Nat) → Option (List (List Nat))
  | [], l => some l
  | x :: xs, l => match rnL x l with
    | some m => rnA xs m
    | none => none
theorem tb_ok : (match rnA allO l0 with
    | some l => eqT l tbl0
    | none => false) = true ∧ eqT l0 [] = true ∧ 4 < tm_rtl.length := by decide +kernel
theorem rt_tb : tm_RT (43, 81, 119, 125, 5) = gL tbl0 := by
  funext a k
  unfold tm_RT gL tbl0
  have h4 := tb_ok.2.2
  rw [gd_s (by rw [List.length_set]; omega), gd_s (by omega)]
  by_cases c2 : a = 2
  · subst c2; rfl
  · rw [if_neg c2]
    by_cases c4 : a = 4
    · subst c4; rfl
    · rw [if_neg c4, if_neg c4, if_neg c2]
/-- all the steps, list by list -/
def rRA : List (List (Nat × Nat × Nat × Nat)) → (Nat → Nat → Nat) → Nat → Nat → Nat
  | [], R => R
  | x :: xs, R => rRA xs (rR x R)
theorem rnA_ok : ∀ (xs : List (List (Nat × Nat × Nat × Nat))) (l l' : List (List Nat)), rnA xs l = some l' → rRA xs (gL l) = gL l' := by
  intro xs
  induction xs with
  | nil => intro l l' h; cases h; rfl
  | cons x xs ih =>
    intro l l' h
    have h' : (match rnL x l with
      | some m => rnA xs m
      | none => none) = some l' := h
    cases hx : rnL x l with
    | none => rw [hx] at h'; cases h'
    | some m =>
      rw [hx] at h'
      show rRA xs (rR x (gL l)) = gL l'
      rw [rnL_ok x l m hx]
      exact ih m l' h'
theorem RC_fl : RC = rRA allO z0R := rfl
theorem RC_eq : RC = tm_RT (43, 81, 119, 125, 5) := by
  have hz : z0R = gL l0 := by
    funext a k
    exact (eqT_ok l0 [] tb_ok.2.1 a k).symm
  have h := tb_ok.1
  rw [RC_fl, hz, rt_tb]
  cases hr : rnA allO l0 with
  | none => rw [hr] at h; cases h
  | some l =>
    rw [hr] at h
    rw [rnA_ok _ _ _ hr]
    funext a k
    exact eqT_ok l tbl0 h a k
theorem ZC : rz o13_14 (rz o13_13 (rz o13_12 (rz o13_11 (rz o13_10 (rz o13_9 (rz o13_8 (rz o13_7 (rz o13_6 (rz o13_5 (rz o13_4 (rz o13_3 (rz o13_2 (rz o13_1 (rz onew (rz ofin (rz ops11b (rz oa_8 (rz ops11a (rz oa_7 (rz ops10_81 (rz oa_6 (rz ops10_43 (rz oa_5 (rz ops8 (rz oa_4 (rz ops7 (rz oa_3 (rz ops6 (rz oa_2 (rz ops5 (rz oa_1 (rz ops2 (rz oa_0 (1)))))))))))))))))))))))))))))))))) = 184 := by decide +kernel
theorem SC : rs o13_14 (rs o13_13 (rs o13_12 (rs o13_11 (rs o13_10 (rs o13_9 (rs o13_8 (rs o13_7 (rs o13_6 (rs o13_5 (rs o13_4 (rs o13_3 (rs o13_2 (rs o13_1 (rs onew (rs ofin (rs ops11b (rs oa_8 (rs ops11a (rs oa_7 (rs ops10_81 (rs oa_6 (rs ops10_43 (rs oa_5 (rs ops8 (rs oa_4 (rs ops7 (rs oa_3 (rs ops6 (rs oa_2 (rs ops5 (rs oa_1 (rs ops2 (rs oa_0 (14)))))))))))))))))))))))))))))))))) = 95773 := by decide +kernel
