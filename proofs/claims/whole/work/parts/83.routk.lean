/-! routine: class and model alike -/
def RtR (I : Nat → Nat → Int32) (a rb kk N k : Nat) (L : Nat → LD) : Prop := (1 ≤ N ∧ N ≤ 200 ∧ k ≤ 60) ∧ LsOk kk N k L ∧ I a 6 = nI k ∧ I a 5 = nI N ∧ (∀ j, j < k → LnA I a j (L j)) ∧ I 144 rb = nI k ∧ I 145 rb = nI N ∧ ∀ j, j < k → LnB I (60 * rb + j) (L j)
def RRout (I : Nat → Nat → Int32) (τ : tm_Tu) : Prop := isR τ.2.2.1 ∧ isR τ.2.2.2.1 ∧ τ.2.2.1 ≠ τ.2.2.2.1 ∧ ∃ rb, rb < 2 ∧ I 131 30 = nI rb ∧ ((I 2 10 = 0 ∧ I 131 32 = 0) ∨ (I 2 10 = 1 ∧ I 131 32 = 1 ∧ ∃ kk N k L, I τ.1 1 = nI kk ∧ kk ≤ 12 ∧ RtR I τ.2.2.1 rb kk N k L))
theorem LnA.tr {A A' : Nat → Nat → Int32} {a k : Nat} {L : LD} (h : LnA A a k L) (f : ∀ x y, a ≤ x → x ≤ a + 5 → A' x y = A x y) : LnA A' a k L := ⟨(f _ _ (by omega) (by omega)).trans h.1, (f _ _ (by omega) (by omega)).trans h.2.1, (f _ _ (by omega) (by omega)).trans h.2.2.1, (f _ _ (by omega) (by omega)).trans h.2.2.2.1, (f _ _ (by omega) (by omega)).trans h.2.2.2.2⟩
theorem LnB.tr {B B' : Nat → Nat → Int32} {i : Nat} {L : LD} (h : LnB B i L) (f : ∀ x, 146 ≤ x → x ≤ 150 → B' x i = B x i) : LnB B' i L := ⟨(f _ (by omega) (by omega)).trans h.1, (f _ (by omega) (by omega)).trans h.2.1, (f _ (by omega) (by omega)).trans h.2.2.1, (f _ (by omega) (by omega)).trans h.2.2.2.1, (f _ (by omega) (by omega)).trans h.2.2.2.2⟩
theorem RtR.tr {I I' : Nat → Nat → Int32} {a rb kk N k : Nat} {L : Nat → LD} (h : RtR I a rb kk N k L) (f : ∀ x y, a ≤ x → x ≤ a + 5 → I' x y = I x y) (g : ∀ x y, (146 ≤ x ∧ x ≤ 150 ∧ 60 * rb ≤ y ∧ y < 60 * rb + 60) ∨ ((x = 144 ∨ x = 145) ∧ y = rb) → I' x y = I x y) : RtR I' a rb kk N k L := by
  obtain ⟨h1, h2, h3, h4, h5, h6, h7, h8⟩ := h
  exact ⟨h1, h2, (f _ _ (by omega) (by omega)).trans h3, (f _ _ (by omega) (by omega)).trans h4, fun j hj => (h5 j hj).tr f, (g _ _ (by omega)).trans h6, (g _ _ (by omega)).trans h7, fun j hj => (h8 j hj).tr (fun x u v => g _ _ (by omega))⟩
theorem RRout.tr {I I' : Nat → Nat → Int32} {τ : tm_Tu} (h : RRout I τ) (f : ∀ a k, (119 ≤ a ∧ a ≤ 130) ∨ (144 ≤ a ∧ a ≤ 150) ∨ (a = 131 ∧ (k = 30 ∨ k = 32)) ∨ (a = 2 ∧ k = 10) ∨ (a = τ.1 ∧ k = 1) → I' a k = I a k) : RRout I' τ := by
  obtain ⟨h1, h2, h3, rb, h4, h5, h6⟩ := h
  have hr : 119 ≤ τ.2.2.1 ∧ τ.2.2.1 + 5 ≤ 130 := by unfold isR at h1; omega
  refine ⟨h1, h2, h3, rb, h4, (f _ _ (by omega)).trans h5, ?_⟩
  rcases h6 with ⟨u1, u2⟩ | ⟨u1, u2, kk, N, k, L, u3, u4, u5⟩
  · exact Or.inl ⟨(f _ _ (by omega)).trans u1, (f _ _ (by omega)).trans u2⟩
  · exact Or.inr ⟨(f _ _ (by omega)).trans u1, (f _ _ (by omega)).trans u2, kk, N, k, L, (f _ _ (by omega)).trans u3, u4, u5.tr (fun x y v w => f x y (by omega)) (fun x y v => f x y (by omega))⟩
/-- what routine may change -/
def roF (a y : Nat) : Prop := a ≠ 4 ∧ ¬ (a = 2 ∧ y = 11) ∧ ¬ (119 ≤ a ∧ a ≤ 130) ∧ ¬ (a = 131 ∧ (2 ≤ y ∧ y ≤ 9 ∨ y = 31)) ∧ a ≠ 133 ∧ ¬ (144 ≤ a ∧ a ≤ 150)
def roG (a y : Nat) : Prop := roF a y ∧ ¬ (a = 2 ∧ y = 10) ∧ ¬ (a = 8 ∧ (y = 5 ∨ y = 6)) ∧ ¬ (a = 131 ∧ 30 ≤ y ∧ y ≤ 33)
theorem pRout_ok {s : Nat → Int} {n kk : Nat} {nm : Nat → List Nat} {L0 : Nat → LD} {t : TK} (hk : kk ≤ 12) : ∀ q, pRout s n nm kk L0 t = .inr q → (1 ≤ q.1 ∧ q.1 ≤ 200 ∧ q.2.1 ≤ 60) ∧ LsOk kk q.1 q.2.1 q.2.2 := by
  intro q h
  unfold pRout at h
  by_cases c1 : tK t = 14
  · rw [if_pos c1] at h
    cases hn : nf (nx s n t) 1 200 with
    | some f => rw [hn] at h; cases h
    | none =>
      rw [hn] at h
      obtain ⟨-, v2, v3⟩ := nf_none hn
      simp only [] at h
      by_cases c2 : tK (nx s n (nx s n t)) = 34
      · rw [if_pos c2] at h
        cases hp : pLines s n nm kk (tV (nx s n t)) 60 0 0 L0 (nx s n (nx s n (nx s n t))) with
        | inl e => rw [hp] at h; cases h
        | inr z =>
          rw [hp] at h
          obtain ⟨w1, w2⟩ := pLines_ok hk v2 60 0 0 L0 _ ⟨fun j hj => by omega, fun j hj => by omega⟩ (Or.inl rfl) z hp
          cases h
          exact ⟨⟨v2, v3, by show z.1 ≤ 60; omega⟩, w1⟩
      · rw [if_neg c2] at h; cases h
  · rw [if_neg c1] at h; cases h
theorem nm_ex {J : Nat → Nat → Int64} {cb b n : Nat} (h : ∀ t, t < n → NameR (J (cb + 2 + 3 * t) 2) (J 134 (12 * b + t))) : ∃ nm, NmA J cb n nm ∧ NmB J b n nm := by
  refine ⟨fun t => if ht : t < n then Classical.choose (h t ht) else [], fun t ht => ?_, fun t ht => ?_⟩
  · have g := Classical.choose_spec (h t ht)
    simp only [dif_pos ht]
    exact ⟨g.2.2.1, g.1, g.2.1⟩
  · have g := Classical.choose_spec (h t ht)
    simp only [dif_pos ht]
    exact ⟨g.2.2.2, g.1, g.2.1⟩
set_option maxHeartbeats 2000000 in
theorem p_routine {I : Nat → Nat → Int32} {J : Nat → Nat → Int64} {τ : tm_Tu} (hT : RTape I) (hB : RBJ I J τ) (hτ : Banks τ) (hW : WLt J) (hR : RRout I τ) : ∃ r I1 J1 τ1 I2 J2, F_79 [.ref 2] (mk I J τ) = some (some (.int r), mk I1 J1 τ1) ∧ F_81 [.ref 131] (mk I1 J1 τ1) = some (some (.int r), mk I2 J2 τ1) ∧ RTape I2 ∧ RRout I2 τ1 ∧ Banks τ1 ∧ τ1.1 = τ.1 ∧ τ1.2.1 = τ.2.1 ∧ I2 4 4 = I2 131 4 ∧ I2 4 5 = I2 131 5 ∧ (∀ a y, ¬ (a = 4 ∧ y = 9) → ¬ (a = 131 ∧ y = 10) → J2 a y = J a y) ∧ ((∀ a y, roF a y → I2 a y = I a y) ∨ ((∀ a y, roG a y → I2 a y = I a y) ∧ I2 8 5 = 0 ∧ I2 131 33 = 0)) := by
  obtain ⟨x, b, c, d, e⟩ := τ
  obtain ⟨hx, hb, hne, he⟩ := hτ
  change isB x at hx
  change isB b at hb
  change x ≠ b at hne
  change e = 3 at he
  subst he
  obtain ⟨n, hn, t1, t2, t3⟩ := hT
  obtain ⟨bk, nn, D, h1, h2, h3, h4, h5, ⟨h6, h6', h6''⟩, h7, h8, h9⟩ := hB
  change BkA I x nn D at h5
  change ∀ t, t < nn → NameR (J (x + 2 + 3 * t) 2) (J 134 (12 * bk + t)) at h7
  obtain ⟨nm, nA, nB⟩ := nm_ex h7
  obtain ⟨r1, r2, r3, rb, r4, r5, r6⟩ := hR
  change isR c at r1
  change isR d at r2
  change c ≠ d at r3
  have hcd : (c = 119 ∧ d = 125) ∨ (c = 125 ∧ d = 119) := by unfold isR at r1 r2; omega
  have hxx : x = 43 ∨ x = 81 := hx
  have L0 : Nat → LD := fun _ => (0, 0, 0, 0, 0)
  obtain ⟨I1, J1, τ1, ra, g1, g2, g3, g4⟩ := c_79 (x := x) (b := b) (c := c) (d := d) (J := J) (n := n) (m := nn) (nm := nm) (s := fun i => (I 3 i).toInt) (A := I) hn t1 (fun i hi => ⟨rfl, (t3 i hi).2⟩) hx r2 hW h2 h5.1 nA L0
  have fin : ∀ a y, 131 ≤ a → I1 a y = I a y := by
    intro a y u
    cases hp : pRout (fun i => (I 3 i).toInt) n nm nn L0 (tok (fun i => (I 3 i).toInt) n 0) with
    | inl f => rw [hp] at g4; exact g4.2.2.2.2 a y (by omega) (by omega) (by omega)
    | inr q => rw [hp] at g4; exact g4.2.2.2.2.2.2.2.2.2.2 a y (by omega) (by omega) (by omega) (by omega)
  obtain ⟨I2, J2, rc, k1, k2, k3, k4⟩ := m_81 (τ := τ1) (J := J1) (n := n) (rb := rb) (bk := bk) (m := nn) (nm := nm) (s := fun i => (I 3 i).toInt) (B := I1) hn ((fin 131 2 (by omega)).trans t2) (fun i hi => ⟨by rw [fin 132 i (by omega), ← (t3 i hi).1], (t3 i hi).2⟩) r4 ((fin 131 30 (by omega)).trans r5) h1 ((fin 131 21 (by omega)).trans h6) h2 ((fin 135 bk (by omega)).trans h6') (fun t ht => by rw [g3 _ _ (by omega)]; exact nB t ht) L0
  have hJ : ∀ a y, ¬ (a = 4 ∧ y = 9) → ¬ (a = 131 ∧ y = 10) → J2 a y = J a y := fun a y u v => (k3 a y v).trans (g3 a y u)
  cases hp : pRout (fun i => (I 3 i).toInt) n nm nn L0 (tok (fun i => (I 3 i).toInt) n 0) with
  | inl f =>
    rw [hp] at g4 k4
    obtain ⟨rfl, rfl, u1, u2, u3⟩ := g4
    obtain ⟨rfl, v1, v2, v3⟩ := k4
    have all : ∀ a y, a ≠ 4 → ¬ (a = 2 ∧ y = 11) → ¬ (d ≤ a ∧ a ≤ d + 5) → ¬ (a = 131 ∧ (2 ≤ y ∧ y ≤ 9 ∨ y = 31)) → a ≠ 133 → ¬ (146 ≤ a ∧ a ≤ 150 ∧ 60 * (1 - rb) ≤ y ∧ y < 60 * (1 - rb) + 60) → ¬ ((a = 144 ∨ a = 145) ∧ y = 1 - rb) → I2 a y = I a y := fun a y w1 w2 w3 w4 w5 w6 w7 => (v3 a y w4 w5 w6 w7).trans (u3 a y w1 w2 w3)
    have hRt : RRout I2 (x, b, c, d, 3) := by
      refine ⟨r1, r2, r3, rb, r4, (all _ _ (by omega) (by omega) (by omega) (by omega) (by omega) (by omega) (by omega)).trans r5, ?_⟩
      rcases r6 with ⟨w1, w2⟩ | ⟨w1, w2, kk, N, k, L, w3, w4, w5⟩
      · exact Or.inl ⟨(all _ _ (by omega) (by omega) (by omega) (by omega) (by omega) (by omega) (by omega)).trans w1, (all _ _ (by omega) (by omega) (by omega) (by omega) (by omega) (by omega) (by omega)).trans w2⟩
      · change I x 1 = nI kk at w3
        change RtR I c rb kk N k L at w5
        exact Or.inr ⟨(all _ _ (by omega) (by omega) (by omega) (by omega) (by omega) (by omega) (by omega)).trans w1, (all _ _ (by omega) (by omega) (by omega) (by omega) (by omega) (by omega) (by omega)).trans w2, kk, N, k, L, (all x 1 (by omega) (by omega) (by omega) (by omega) (by omega) (by omega) (by omega)).trans w3, w4, w5.tr (fun p q z1 z2 => all p q (by omega) (by omega) (by omega) (by omega) (by omega) (by omega) (by omega)) (fun p q z => all p q (by omega) (by omega) (by omega) (by omega) (by omega) (by omega) (by omega))⟩
    refine ⟨-1, I1, J1, _, I2, J2, g1, k1, ⟨0, by omega, ?_, k2, fun k hk => by omega⟩, hRt, ⟨hx, hb, hne, rfl⟩, rfl, rfl, ?_, ?_, hJ, Or.inl (fun a y w => ?_)⟩
    · rw [v3 2 11 (by omega) (by omega) (by omega) (by omega)]; exact g2
    · rw [v3 4 4 (by omega) (by omega) (by omega) (by omega), u1, v1]
    · rw [v3 4 5 (by omega) (by omega) (by omega) (by omega), u2, v2]
    · obtain ⟨w1, w2, w3, w4, w5, w6⟩ := w
      exact all a y w1 w2 (by omega) w4 w5 (by omega) (by omega)
  | inr q =>
    have ok := pRout_ok h2 q hp
    rw [hp] at g4 k4
    obtain ⟨rfl, rfl, u1, u2, u3, u4, u5, u6, u7, u8, u9⟩ := g4
    obtain ⟨rfl, v1, v2, v3, v4, v5, v6, v7, v8, v9⟩ := k4
    have lo : ∀ a y, a < 131 → I2 a y = I1 a y := fun a y w => v9 a y (by omega) (by omega) (by omega) (by omega)
    have hRt : RRout I2 (x, b, d, c, 3) := by
      refine ⟨r2, r1, fun w => r3 w.symm, 1 - rb, by omega, v3, Or.inr ⟨(lo 2 10 (by omega)).trans u6, v4, nn, q.1, q.2.1, q.2.2, ?_, h2, ok.1, ok.2, (lo d 6 (by omega)).trans u3, (lo d 5 (by omega)).trans u4, fun j hj => (u5 j hj).tr (fun a y z1 z2 => lo a y (by omega)), v6, v7, v8⟩⟩
      show I2 x 1 = nI nn
      rw [lo x 1 (by omega), u9 x 1 (by omega) (by omega) (by omega) (by omega)]
      exact h5.1
    refine ⟨nI q.2.1, I1, J1, _, I2, J2, g1, k1, ⟨0, by omega, ?_, k2, fun k hk => by omega⟩, hRt, ⟨hx, hb, hne, rfl⟩, rfl, rfl, ?_, ?_, hJ, Or.inr ⟨fun a y w => ?_, (lo 8 5 (by omega)).trans u7, v5⟩⟩
    · exact (lo 2 11 (by omega)).trans g2
    · rw [lo 4 4 (by omega), u1, v1]
    · rw [lo 4 5 (by omega), u2, v2]
    · obtain ⟨⟨w1, w2, w3, w4, w5, w6⟩, w7, w8, w9⟩ := w
      exact (v9 a y (by omega) w5 (by omega) (by omega)).trans (u9 a y w1 (by omega) (by omega) (by omega))
