/-! book: class and model -/
theorem TrB.k {B B' : Nat → Nat → Int32} {bk t : Nat} {D : TD} (h : TrB B (12 * bk + t) D) (hD : TDok D) (hb : bk < 2) (ht : t < 12) (f : ∀ a y, 136 ≤ a → a ≤ 143 → ¬ inK (1 - bk) a y → B' a y = B a y) : TrB B' (12 * bk + t) D := by
  obtain ⟨h1, h2, h3, h4, h5, h6, h7, h8⟩ := h
  have o2 := hD.2.1
  have g : ∀ a y, 136 ≤ a → a ≤ 143 → (a ≠ 141 → a ≠ 142 → y = 12 * bk + t) → (a = 141 → 32 * (12 * bk + t) ≤ y ∧ y < 32 * (12 * bk + t) + 32) → (a = 142 → 8 * (12 * bk + t) ≤ y ∧ y < 8 * (12 * bk + t) + 8) → B' a y = B a y := fun a y u1 u2 u3 u4 u5 => f a y u1 u2 (fun e => by unfold inK at e; omega)
  exact ⟨(g 137 _ (by omega) (by omega) (by omega) (by omega) (by omega)).trans h1, (g 136 _ (by omega) (by omega) (by omega) (by omega) (by omega)).trans h2, (g 138 _ (by omega) (by omega) (by omega) (by omega) (by omega)).trans h3, (g 139 _ (by omega) (by omega) (by omega) (by omega) (by omega)).trans h4, (g 140 _ (by omega) (by omega) (by omega) (by omega) (by omega)).trans h5, (g 143 _ (by omega) (by omega) (by omega) (by omega) (by omega)).trans h6, fun i hi => (g 141 _ (by omega) (by omega) (by omega) (by omega) (by omega)).trans (h7 i hi), fun i hi => by rw [g 142 _ (by omega) (by omega) (by omega) (by omega) (by omega)]; exact h8 i hi⟩
/-- what book may change -/
def bkF (a y : Nat) : Prop := a ≠ 4 ∧ ¬ (a = 2 ∧ y = 11) ∧ ¬ (43 ≤ a ∧ a ≤ 118) ∧ ¬ (a = 131 ∧ (2 ≤ y ∧ y ≤ 9 ∨ y = 21 ∨ y = 22)) ∧ ¬ (133 ≤ a ∧ a ≤ 143)
def bkG (a y : Nat) : Prop := bkF a y ∧ ¬ (a = 2 ∧ y = 10) ∧ ¬ (a = 24 ∧ (y = 9 ∨ y = 10)) ∧ ¬ (a = 8 ∧ (y = 5 ∨ y = 6)) ∧ ¬ (a = 131 ∧ (y = 32 ∨ y = 33 ∨ y = 72))
def Banks (τ : tm_Tu) : Prop := isB τ.1 ∧ isB τ.2.1 ∧ τ.1 ≠ τ.2.1 ∧ τ.2.2.2.2 = 3
set_option maxHeartbeats 2000000 in
theorem p_book {I : Nat → Nat → Int32} {J : Nat → Nat → Int64} {τ : tm_Tu} (hT : RTape I) (hB : RBJ I J τ) (hτ : Banks τ) (hW : WLt J) : ∃ r I1 J1 τ1 I2 J2, F_53 [.ref 2] (mk I J τ) = some (some (.int r), mk I1 J1 τ1) ∧ F_73 [.ref 131] (mk I1 J1 τ1) = some (some (.int r), mk I2 J2 τ1) ∧ RTape I2 ∧ RBJ I2 J2 τ1 ∧ Banks τ1 ∧ τ1.2.2 = τ.2.2 ∧ WLt J2 ∧ I2 4 4 = I2 131 4 ∧ I2 4 5 = I2 131 5 ∧ (∀ a y, ¬ (a = 4 ∧ y = 9) → ¬ (a = 131 ∧ y = 10) → ¬ (43 ≤ a ∧ a ≤ 118) → a ≠ 134 → J2 a y = J a y) ∧ (((∀ a y, bkF a y → I2 a y = I a y) ∧ τ1 = τ ∧ I2 τ.1 1 = I τ.1 1) ∨ ((∀ a y, bkG a y → I2 a y = I a y) ∧ I2 2 10 = 0 ∧ I2 8 5 = 0 ∧ I2 8 6 = 0 ∧ I2 131 32 = 0 ∧ I2 131 33 = 0)) := by
  obtain ⟨x, b, c, d, e⟩ := τ
  obtain ⟨hx, hb, hne, he⟩ := hτ
  change isB x at hx
  change isB b at hb
  change x ≠ b at hne
  change e = 3 at he
  subst he
  obtain ⟨n, hn, t1, t2, t3⟩ := hT
  obtain ⟨bk, nn, D, h1, h2, h3, h4, h5, ⟨h6, h6', h6''⟩, h7, h8, h9⟩ := hB
  change BkA I x nn D at h5
  change ∀ t, t < nn → NameR (J (x + 2 + 3 * t) 2) (J 134 (12 * bk + t)) at h7
  have hr : (x = 43 ∧ b = 81) ∨ (x = 81 ∧ b = 43) := by unfold isB at hx hb; omega
  have N0 : NmD := (fun _ => [], fun _ => D 0)
  obtain ⟨I1, J1, τ1, r1, g1, g2, g3, g4⟩ := c_53 (x := x) (b := b) (c := c) (d := d) (J := J) (n := n) (s := fun i => (I 3 i).toInt) (A := I) hn t1 (fun i hi => ⟨rfl, (t3 i hi).2⟩) hb hW N0
  have fin : ∀ a y, 119 ≤ a → I1 a y = I a y := by
    intro a y u
    cases hp : pBook (fun i => (I 3 i).toInt) n 12 0 N0 (tok (fun i => (I 3 i).toInt) n 0) with
    | inl f => rw [hp] at g4; exact g4.2.2.2.2 a y (by omega) (by omega) (by omega)
    | inr q => rw [hp] at g4; exact g4.2.2.2.2.2.2.2.2.2.2.2.2 a y (by omega) (by omega) (by omega) (by omega) (by omega)
  obtain ⟨I2, J2, r2, k1, k2, k3, k4⟩ := m_73 (τ := τ1) (J := J1) (n := n) (bk := bk) (s := fun i => (I 3 i).toInt) (B := I1) hn ((fin 131 2 (by omega)).trans t2) (fun i hi => ⟨by rw [fin 132 i (by omega), ← (t3 i hi).1], (t3 i hi).2⟩) h1 ((fin 131 21 (by omega)).trans h6) N0
  have ni : ∀ a y, a < 135 ∨ 143 < a → ¬ inK (1 - bk) a y := fun a y u w => by unfold inK at w; omega
  have hJ : ∀ a y, ¬ (a = 4 ∧ y = 9) → ¬ (a = 131 ∧ y = 10) → ¬ (b ≤ a ∧ a ≤ b + 37) → ¬ (a = 134 ∧ 12 * (1 - bk) ≤ y ∧ y < 12 * (1 - bk) + 12) → J2 a y = J a y := fun a y u v w z => (k3 a y v z).trans (g3 a y u w)
  have hW2 : WLt J2 := fun k hk => by rw [hJ 6 k (by omega) (by omega) (by omega) (by omega)]; exact hW k hk
  cases hp : pBook (fun i => (I 3 i).toInt) n 12 0 N0 (tok (fun i => (I 3 i).toInt) n 0) with
  | inl f =>
    rw [hp] at g4 k4
    obtain ⟨rfl, rfl, u1, u2, u3⟩ := g4
    obtain ⟨rfl, v1, v2, v3⟩ := k4
    have all : ∀ a y, a ≠ 4 → ¬ (a = 2 ∧ y = 11) → ¬ (b ≤ a ∧ a ≤ b + 37) → ¬ (a = 131 ∧ (2 ≤ y ∧ y ≤ 9 ∨ y = 22)) → a ≠ 133 → ¬ inK (1 - bk) a y → I2 a y = I a y := fun a y w1 w2 w3 w4 w5 w6 => (v3 a y w4 w5 w6).trans (u3 a y w1 w2 w3)
    refine ⟨-1, I1, J1, _, I2, J2, g1, k1, ⟨0, by omega, ?_, k2, fun k hk => by omega⟩, ⟨bk, nn, D, h1, h2, hx, h4, ?_, ⟨?_, ?_, fun t ht => ?_⟩, fun t ht => ?_, ?_, ?_⟩, ⟨hx, hb, hne, rfl⟩, rfl, hW2, ?_, ?_, fun a y w1 w2 w3 w4 => hJ a y w1 w2 (by omega) (by omega), Or.inl ⟨fun a y w => all a y w.1 w.2.1 (by have := w.2.2.1; omega) (by have := w.2.2.2.1; omega) (by have := w.2.2.2.2; omega) (ni a y (by have := w.2.2.2.2; omega)), rfl, all x 1 (by omega) (by omega) (by omega) (by omega) (by omega) (ni x 1 (by omega))⟩⟩
    · exact (v3 2 11 (by omega) (by omega) (ni _ _ (by omega))).trans g2
    · exact BkA.tr h5 h2 (fun a k w1 w2 => all a k (by omega) (by omega) (by omega) (by omega) (by omega) (ni _ _ (by omega)))
    · exact (all 131 21 (by omega) (by omega) (by omega) (by omega) (by omega) (ni _ _ (by omega))).trans h6
    · exact (all 135 bk (by omega) (by omega) (by omega) (by omega) (by omega) (fun w => by unfold inK at w; omega)).trans h6'
    · exact (h6'' t ht).k (h4 t ht) h1 (by omega) (fun a y w1 w2 w3 => all a y (by omega) (by omega) (by omega) (by omega) (by omega) w3)
    · show NameR (J2 (x + 2 + 3 * t) 2) (J2 134 (12 * bk + t))
      rw [hJ _ _ (by omega) (by omega) (by omega) (by omega), hJ 134 _ (by omega) (by omega) (by omega) (by omega)]
      exact h7 t ht
    · exact h8.tr (fun a k w => all a k (by omega) (by omega) (by omega) (by omega) (by omega) (ni _ _ (by omega))) (fun k => hJ 25 k (by omega) (by omega) (by omega) (by omega))
    · exact h9.tr (fun a k w => all a k (by omega) (by omega) (by omega) (by omega) (by omega) (ni _ _ (by omega)))
    · rw [v3 4 4 (by omega) (by omega) (ni _ _ (by omega)), u1, v1]
    · rw [v3 4 5 (by omega) (by omega) (ni _ _ (by omega)), u2, v2]
  | inr q =>
    rw [hp] at g4 k4
    obtain ⟨rfl, rfl, u1, u2, u3, u4, u5, u6, u7, u8, u9, u10, u11⟩ := g4
    obtain ⟨rfl, v1, v2, v3, v4, v5, v6, v7, v8, v9, v10⟩ := k4
    have lo : ∀ a y, a < 131 → I2 a y = I1 a y := fun a y w => v10 a y (by omega) (by omega) (ni _ _ (by omega))
    refine ⟨nI q.1, I1, J1, _, I2, J2, g1, k1, ⟨0, by omega, ?_, k2, fun k hk => by omega⟩, ⟨1 - bk, q.1, q.2.2, by omega, u1, hb, v8, ?_, v7, fun t ht => ?_, ⟨Or.inl ?_, Or.inl ?_, ?_⟩, Or.inl v4⟩, ⟨hb, hx, fun w => hne w.symm, rfl⟩, rfl, hW2, ?_, ?_, fun a y w1 w2 w3 w4 => hJ a y w1 w2 (by omega) (by omega), Or.inr ⟨fun a y w => ?_, ?_, ?_, ?_, v5, v6⟩⟩
    · exact (lo 2 11 (by omega)).trans g2
    · exact BkA.tr u4 u1 (fun a k w1 w2 => lo a k (by omega))
    · show NameR (J2 (b + 2 + 3 * t) 2) (J2 134 (12 * (1 - bk) + t))
      obtain ⟨z1, z2, z3⟩ := u5 t ht
      obtain ⟨y1, y2, y3⟩ := v9 t ht
      refine ⟨q.2.1 t, z2, z3, ?_, y1⟩
      rw [k3 _ _ (by omega) (by omega)]
      exact z1
    · exact (lo 24 10 (by omega)).trans u6
    · exact (lo 24 9 (by omega)).trans u7
    · exact h8.2.2.tr (fun a y w z => (lo a y (by omega)).trans (u11 a y (by omega) (by omega) (by omega) (by omega) (by omega)))
    · rw [lo 4 4 (by omega), u2, v2]
    · rw [lo 4 5 (by omega), u3, v3]
    · obtain ⟨⟨w1, w2, w3, w4, w5⟩, w6, w7, w8, w9⟩ := w
      exact (v10 a y (by omega) (by omega) (ni _ _ (by omega))).trans (u11 a y (by omega) (by omega) (by omega) (by omega) (by omega))
    · exact (lo 2 10 (by omega)).trans u8
    · exact (lo 8 5 (by omega)).trans u9
    · exact (lo 8 6 (by omega)).trans u10
