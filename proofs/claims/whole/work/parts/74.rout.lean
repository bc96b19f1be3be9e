/-! routine: the pure parser, and the class's cells -/
def isR (a : Nat) : Prop := a = 119 ∨ a = 125
theorem ro_1 {a : Nat} (h : isR a) (τ : tm_Tu) : kdm a = 107 ∧ tm_RT τ a 0 = a + 1 ∧ tm_RT τ a 1 = a + 2 ∧ tm_RT τ a 2 = a + 3 ∧ tm_RT τ a 3 = a + 4 ∧ tm_RT τ a 4 = a + 5 := by
  rcases h with rfl | rfl
  · exact ⟨by decide +kernel, (rt_o (by omega) (by omega)).trans (by decide +kernel), (rt_o (by omega) (by omega)).trans (by decide +kernel), (rt_o (by omega) (by omega)).trans (by decide +kernel), (rt_o (by omega) (by omega)).trans (by decide +kernel), (rt_o (by omega) (by omega)).trans (by decide +kernel)⟩
  · exact ⟨by decide +kernel, (rt_o (by omega) (by omega)).trans (by decide +kernel), (rt_o (by omega) (by omega)).trans (by decide +kernel), (rt_o (by omega) (by omega)).trans (by decide +kernel), (rt_o (by omega) (by omega)).trans (by decide +kernel), (rt_o (by omega) (by omega)).trans (by decide +kernel)⟩
theorem ro_2 {a : Nat} (h : isR a) : (kdm (a + 1) = 1 ∧ (tm_sh (a + 1)).2 = 60) ∧ (kdm (a + 2) = 1 ∧ (tm_sh (a + 2)).2 = 60) ∧ (kdm (a + 3) = 1 ∧ (tm_sh (a + 3)).2 = 60) ∧ (kdm (a + 4) = 1 ∧ (tm_sh (a + 4)).2 = 60) ∧ (kdm (a + 5) = 3 ∧ (tm_sh (a + 5)).2 = 60) := by
  rcases h with rfl | rfl <;> decide +kernel
abbrev LD : Type := Nat × Nat × Nat × Nat × Nat
def pAct (s : Nat → Int) (n : Nat) (nm : Nat → List Nat) (kk : Nat) (t : TK) : Sum (Nat × Nat) ((Nat × Nat × Nat) × TK) :=
  if tK t = 16 ∨ tK t = 17 ∨ tK t = 20 then (if tK (nx s n t) = 21 then .inr ((tK t, 0, 0), nx s n (nx s n t)) else if tK (nx s n t) = 22 then .inr ((tK t, 1, 0), nx s n (nx s n t)) else .inl (flt (nx s n t) 2))
  else if tK t = 18 then (if tK (nx s n t) = 30 then (if (fnd nm (tL (nx s n t)) kk 0).toInt = -1 then .inl (flt (nx s n t) 5) else if tK (nx s n (nx s n t)) = 19 then .inr ((18, (fnd nm (tL (nx s n t)) kk 0).toInt.toNat, 1), nx s n (nx s n (nx s n t))) else .inr ((18, (fnd nm (tL (nx s n t)) kk 0).toInt.toNat, 0), nx s n (nx s n t))) else .inl (flt (nx s n t) 2))
  else .inl (flt t 2)
def pLine (s : Nat → Int) (n : Nat) (nm : Nat → List Nat) (kk N lo : Nat) (t : TK) : Sum (Nat × Nat) (LD × TK) := match nf (nx s n t) lo (N - 1) with
  | some f => .inl f
  | none => match nf (nx s n (nx s n t)) 0 5 with
    | some f => .inl f
    | none => match pAct s n nm kk (nx s n (nx s n (nx s n t))) with
      | .inl f => .inl f
      | .inr q => if tK q.2 = 34 then .inr ((tV (nx s n t), tV (nx s n (nx s n t)), q.1), nx s n q.2) else .inl (flt q.2 2)
def pLines (s : Nat → Int) (n : Nat) (nm : Nat → List Nat) (kk N : Nat) : Nat → Nat → Nat → (Nat → LD) → TK → Sum (Nat × Nat) (Nat × (Nat → LD))
  | 0, k, _, L, t => if tK t = 35 then .inr (k, L) else .inl (flt t 2)
  | f + 1, k, lo, L, t => if tK t = 15 then (match pLine s n nm kk N lo t with
    | .inl e => .inl e
    | .inr q => pLines s n nm kk N f (k + 1) q.1.1 (updN L k q.1) q.2) else if tK t = 35 then .inr (k, L) else .inl (flt t 2)
def pRout (s : Nat → Int) (n : Nat) (nm : Nat → List Nat) (kk : Nat) (L0 : Nat → LD) (t : TK) : Sum (Nat × Nat) (Nat × Nat × (Nat → LD)) := if tK t = 14 then (match nf (nx s n t) 1 200 with
  | some f => .inl f
  | none => if tK (nx s n (nx s n t)) = 34 then (match pLines s n nm kk (tV (nx s n t)) 60 0 0 L0 (nx s n (nx s n (nx s n t))) with
    | .inl e => .inl e
    | .inr q => .inr (tV (nx s n t), q)) else .inl (flt (nx s n (nx s n t)) 2)) else .inl (flt t 2)
def LnA (A : Nat → Nat → Int32) (a k : Nat) (L : LD) : Prop := A (a + 1) k = nI L.1 ∧ A (a + 2) k = nI L.2.1 ∧ A (a + 3) k = nI L.2.2.1 ∧ A (a + 4) k = nI L.2.2.2.1 ∧ A (a + 5) k = nI L.2.2.2.2
