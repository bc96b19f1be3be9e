/-! the limit of the evaluator, its fixed point; what only grows -/
def tm_le (K K' : tm_K) : Prop := ∀ pc ls st M r, K pc ls st M = some r → K' pc ls st M = some r
theorem tm_b_succ {S : tm_S} {X : tm_X} {G : tm_G} {tz : Bool} {cd : List tm_E} {cuts : List (Nat × List Nat)} {K : tm_K} (f pc : Nat) (ls : tm_A) (st : List Value) (M : tm_M) : tm_b S X G tz cd cuts K (f + 1) pc ls st M = match tm_at cd pc with
    | none => none
    | some q => tm_ex S X G tz (tm_go cuts K (tm_b S X G tz cd cuts K f)) q.1 q.2.2.1 q.2.2.2.1 q.2.2.2.2 pc ls st M := rfl
theorem tm_go_le {cuts : List (Nat × List Nat)} {K K' : tm_K} {g g' : tm_N} {pc : Nat} {ls : tm_A} {st : List Value} {M : tm_M} {r : tm_R} (hK : tm_le K K') (hg : ∀ pc ls st M r, g pc ls st M = some r → g' pc ls st M = some r) (h : tm_go cuts K g pc ls st M = some r) : tm_go cuts K' g' pc ls st M = some r := by
  unfold tm_go at h ⊢
  split at h
  · exact hK _ _ _ _ _ h
  · exact hg _ _ _ _ _ h
theorem tm_b_le {S : tm_S} {X : tm_X} {G : tm_G} {tz : Bool} {cd : List tm_E} {cuts : List (Nat × List Nat)} {K K' : tm_K} (hK : tm_le K K') : ∀ (f pc : Nat) (ls : tm_A) (st : List Value) (M : tm_M) (r : tm_R), tm_b S X G tz cd cuts K f pc ls st M = some r → tm_b S X G tz cd cuts K' f pc ls st M = some r := by
  intro f
  induction f with
  | zero => intro pc ls st M r h; cases h
  | succ f ih =>
    intro pc ls st M r h
    rw [tm_b_succ] at h ⊢
    split at h
    · cases h
    · rename_i q hq
      rcases tm_ex_one h with h1 | ⟨pc', ls', st', M', h1, h2⟩
      · exact h1 _
      · exact h2 _ (tm_go_le hK ih h1)
theorem tm_b_cont {S : tm_S} {X : tm_X} {G : tm_G} {tz : Bool} {cd : List tm_E} {cuts : List (Nat × List Nat)} {K : tm_K} {Kn : Nat → tm_K} (hK : ∀ pc ls st M r, K pc ls st M = some r → ∃ n, Kn n pc ls st M = some r) : ∀ (f pc : Nat) (ls : tm_A) (st : List Value) (M : tm_M) (r : tm_R), tm_b S X G tz cd cuts K f pc ls st M = some r → ∃ n, tm_b S X G tz cd cuts (Kn n) f pc ls st M = some r := by
  intro f
  induction f with
  | zero => intro pc ls st M r h; cases h
  | succ f ih =>
    intro pc ls st M r h
    rw [tm_b_succ] at h
    split at h
    · cases h
    · rename_i q hq
      rcases tm_ex_one h with h1 | ⟨pc', ls', st', M', h1, h2⟩
      · refine ⟨0, ?_⟩
        rw [tm_b_succ, hq]
        exact h1 _
      · have key : ∃ n, tm_go cuts (Kn n) (tm_b S X G tz cd cuts (Kn n) f) pc' ls' st' M' = some r := by
          clear h2
          unfold tm_go at h1 ⊢
          cases hc : tm_cut cuts pc' with
          | none =>
            rw [hc] at h1
            exact ih _ _ _ _ _ h1
          | some live =>
            rw [hc] at h1
            exact hK _ _ _ _ _ h1
        obtain ⟨n, hn⟩ := key
        refine ⟨n, ?_⟩
        rw [tm_b_succ, hq]
        exact h2 _ hn
theorem tm_run_le {S : tm_S} {X : tm_X} {G : tm_G} {tz : Bool} {cd : List tm_E} {cuts : List (Nat × List Nat)} {f : Nat} : ∀ n, tm_le (tm_run S X G tz cd cuts f n) (tm_run S X G tz cd cuts f (n + 1)) := by
  intro n
  induction n with
  | zero => intro pc ls st M r h; cases h
  | succ n ih => intro pc ls st M r h; exact tm_b_le ih _ _ _ _ _ _ h
theorem tm_run_mono {S : tm_S} {X : tm_X} {G : tm_G} {tz : Bool} {cd : List tm_E} {cuts : List (Nat × List Nat)} {f : Nat} {n m : Nat} (h : n ≤ m) : tm_le (tm_run S X G tz cd cuts f n) (tm_run S X G tz cd cuts f m) := by
  induction h with
  | refl => intro _ _ _ _ _ h; exact h
  | step _ ih => intro pc ls st M r h; exact tm_run_le _ _ _ _ _ _ (ih _ _ _ _ _ h)
noncomputable def tm_lim (f : Nat → Option tm_R) : Option tm_R := @dite _ (∃ n r, f n = some r) (Classical.propDecidable _) (fun h => f h.choose) (fun _ => none)
/-- what the code comes to from a cut -/
noncomputable def tm_F (S : tm_S) (X : tm_X) (G : tm_G) (tz : Bool) (cd : List tm_E) (cuts : List (Nat × List Nat)) (f : Nat) : tm_K := fun pc ls st M => tm_lim (fun n => tm_run S X G tz cd cuts f n pc ls st M)
theorem tm_lim_ex {f : Nat → Option tm_R} {r : tm_R} (h : tm_lim f = some r) : ∃ n, f n = some r := by
  unfold tm_lim at h
  split at h
  · rename_i hx
    exact ⟨_, h⟩
  · cases h
theorem tm_lim_eq {f : Nat → Option tm_R} {r : tm_R} {n : Nat} (hm : ∀ n m r, n ≤ m → f n = some r → f m = some r) (h : f n = some r) : tm_lim f = some r := by
  unfold tm_lim
  have hx : ∃ n r, f n = some r := ⟨n, r, h⟩
  rw [dif_pos hx]
  obtain ⟨r', hr'⟩ := hx.choose_spec
  rcases Nat.le_total n hx.choose with h1 | h1
  · exact hm _ _ _ h1 h
  · have := hm _ _ _ h1 hr'
    rw [hr', ← this, h]
theorem tm_F_of {S : tm_S} {X : tm_X} {G : tm_G} {tz : Bool} {cd : List tm_E} {cuts : List (Nat × List Nat)} {f : Nat} (n : Nat) : tm_le (tm_run S X G tz cd cuts f n) (tm_F S X G tz cd cuts f) := by
  intro pc ls st M r h
  exact tm_lim_eq (f := fun n => tm_run S X G tz cd cuts f n pc ls st M) (n := n) (fun n m r h1 h2 => tm_run_mono h1 _ _ _ _ _ h2) h
theorem tm_F_ex {S : tm_S} {X : tm_X} {G : tm_G} {tz : Bool} {cd : List tm_E} {cuts : List (Nat × List Nat)} {f pc : Nat} {ls : tm_A} {st : List Value} {M : tm_M} {r : tm_R} (h : tm_F S X G tz cd cuts f pc ls st M = some r) : ∃ n, tm_run S X G tz cd cuts f n pc ls st M = some r := tm_lim_ex h
theorem tm_opt {a b : Option tm_R} (h1 : ∀ r, a = some r → b = some r) (h2 : ∀ r, b = some r → a = some r) : a = b := by
  cases a with
  | none =>
    cases b with
    | none => rfl
    | some r => cases h2 r rfl
  | some r => exact (h1 r rfl).symm
/-- the fixed point -/
theorem tm_F_fix (S : tm_S) (X : tm_X) (G : tm_G) (tz : Bool) (cd : List tm_E) (cuts : List (Nat × List Nat)) (f pc : Nat) (ls : tm_A) (st : List Value) (M : tm_M) : tm_F S X G tz cd cuts f pc ls st M = tm_b S X G tz cd cuts (tm_F S X G tz cd cuts f) f pc ls st M := by
  refine tm_opt (fun r h => ?_) (fun r h => ?_)
  · obtain ⟨n, h⟩ := tm_F_ex h
    cases n with
    | zero => cases h
    | succ n => exact tm_b_le (tm_F_of n) _ _ _ _ _ _ h
  · obtain ⟨n, hn⟩ := tm_b_cont (Kn := tm_run S X G tz cd cuts f) (fun pc ls st M r h => tm_F_ex h) _ _ _ _ _ _ h
    exact tm_F_of (n + 1) _ _ _ _ _ hn
/-- a method -/
noncomputable def tm_m (S : tm_S) (X : tm_X) (G : tm_G) (tz : Bool) (cd : List tm_E) (cuts : List (Nat × List Nat)) (f nL : Nat) (as : List Value) (M : tm_M) : Option tm_R := if tm_w as ≤ nL then tm_b S X G tz cd cuts (tm_F S X G tz cd cuts f) f 0 (lv_args 0 as) [] M else none
/-- what only grows -/
def tm_gr (M M' : tm_M) : Prop := tm_z M ≤ tm_z M' ∧ tm_s M ≤ tm_s M'
theorem tm_gr.rf (M : tm_M) : tm_gr M M := ⟨Nat.le_refl _, Nat.le_refl _⟩
theorem tm_gr.trans {A B C : tm_M} (h : tm_gr A B) (k : tm_gr B C) : tm_gr A C := ⟨Nat.le_trans h.1 k.1, Nat.le_trans h.2 k.2⟩
def tm_Gg (G : tm_G) : Prop := ∀ id as M r, G id as M = some r → tm_gr M r.2
theorem tm_gr.nw {M M' : tm_M} {n : Nat} (h : tm_gr (tm_nw M n) M') : tm_gr M M' := by
  obtain ⟨h1, h2⟩ := h
  simp only [tm_nw, tm_z, tm_s] at h1 h2
  exact ⟨by simp only [tm_z]; omega, by simp only [tm_s]; omega⟩
theorem tm_sw_gr {go : Nat → Option tm_R} {P : Prop} {r : tm_R} {pc : Nat} {x : Int32} (hg : ∀ q, go q = some r → P) : ∀ {os : List Int} {lo d : Int}, tm_sw go pc x os lo d = some r → P := by
  intro os
  induction os with
  | nil => intro lo d h; exact hg _ h
  | cons o os ih =>
    intro lo d h
    unfold tm_sw at h
    split at h
    · exact hg _ h
    · exact ih h
theorem tm_lk_gr {go : Nat → Option tm_R} {P : Prop} {r : tm_R} {pc : Nat} {x : Int32} (hg : ∀ q, go q = some r → P) : ∀ {os : List (Int × Int)} {d : Int}, tm_lk go pc x os d = some r → P := by
  intro os
  induction os with
  | nil => intro d h; exact hg _ h
  | cons o os ih =>
    intro d h
    unfold tm_lk at h
    split at h
    · exact hg _ h
    · exact ih h
theorem tm_cmp_or {c : ClassFile.Cond} {x y : Int32} {a b : Option tm_R} {r : tm_R} (h : tm_cmp c x y a b = some r) : a = some r ∨ b = some r := by
  unfold tm_cmp at h
  split at h <;> split at h <;> first | exact Or.inl h | exact Or.inr h
theorem tm_call_gr {G : tm_G} {go : tm_N} {pc id rk : Nat} {as rest : List Value} {ls : tm_A} {M : tm_M} {r : tm_R} (hG : tm_Gg G) (hg : ∀ pc ls st M', go pc ls st M' = some r → tm_gr M' r.2) (h : tm_call G go pc id rk as rest ls M = some r) : tm_gr M r.2 := by
  unfold tm_call tm_bV tm_bI tm_bJ at h
  split at h
  · cases h
  · split at h
    all_goals
      split at h
      · rename_i e
        exact (hG _ _ _ _ e).trans (hg _ _ _ _ h)
      · cases h
theorem tm_p1_e {st : List Value} {k : Int32 → List Value → Option tm_R} {r : tm_R} (h : tm_p1 st k = some r) : ∃ x t, st = .int x :: t ∧ k x t = some r := by
  unfold tm_p1 at h
  split at h
  · exact ⟨_, _, rfl, h⟩
  · cases h
theorem tm_p2_e {st : List Value} {k : Int32 → Int32 → List Value → Option tm_R} {r : tm_R} (h : tm_p2 st k = some r) : ∃ x y t, st = .int y :: .int x :: t ∧ k x y t = some r := by
  unfold tm_p2 at h
  split at h
  · exact ⟨_, _, _, rfl, h⟩
  · cases h
theorem tm_pl_e {st : List Value} {k : Int64 → Int64 → List Value → Option tm_R} {r : tm_R} (h : tm_pl st k = some r) : ∃ x y t, st = .long y :: .long x :: t ∧ k x y t = some r := by
  unfold tm_pl at h
  split at h
  · exact ⟨_, _, _, rfl, h⟩
  · cases h
theorem tm_pr_e {st : List Value} {k : Nat → List Value → Option tm_R} {r : tm_R} (h : tm_pr st k = some r) : ∃ x t, st = .ref x :: t ∧ k x t = some r := by
  unfold tm_pr at h
  split at h
  · exact ⟨_, _, rfl, h⟩
  · cases h
theorem tm_pa_e {st : List Value} {k : Int32 → Nat → List Value → Option tm_R} {r : tm_R} (h : tm_pa st k = some r) : ∃ i a t, st = .int i :: .ref a :: t ∧ k i a t = some r := by
  unfold tm_pa at h
  split at h
  · exact ⟨_, _, _, rfl, h⟩
  · cases h
theorem tm_li_e {o : Option Value} {k : Int32 → Option tm_R} {r : tm_R} (h : tm_li o k = some r) : ∃ x, o = some (.int x) ∧ k x = some r := by
  unfold tm_li at h
  split at h
  · exact ⟨_, rfl, h⟩
  · cases h
theorem tm_ll_e {o : Option Value} {k : Int64 → Option tm_R} {r : tm_R} (h : tm_ll o k = some r) : ∃ x, o = some (.long x) ∧ k x = some r := by
  unfold tm_ll at h
  split at h
  · exact ⟨_, rfl, h⟩
  · cases h
theorem tm_la_e {o : Option Value} {k : Nat → Option tm_R} {r : tm_R} (h : tm_la o k = some r) : ∃ x, o = some (.ref x) ∧ k x = some r := by
  unfold tm_la at h
  split at h
  · exact ⟨_, rfl, h⟩
  · cases h
theorem tm_bI_e {o : Option tm_R} {k : Int32 → tm_M → Option tm_R} {r : tm_R} (h : tm_bI o k = some r) : ∃ x M, o = some (some (.int x), M) ∧ k x M = some r := by
  unfold tm_bI at h
  split at h
  · exact ⟨_, _, rfl, h⟩
  · cases h
theorem tm_bJ_e {o : Option tm_R} {k : Int64 → tm_M → Option tm_R} {r : tm_R} (h : tm_bJ o k = some r) : ∃ x M, o = some (some (.long x), M) ∧ k x M = some r := by
  unfold tm_bJ at h
  split at h
  · exact ⟨_, _, rfl, h⟩
  · cases h
theorem tm_bV_e {o : Option tm_R} {k : tm_M → Option tm_R} {r : tm_R} (h : tm_bV o k = some r) : ∃ M, o = some (none, M) ∧ k M = some r := by
  unfold tm_bV at h
  split at h
  · exact ⟨_, rfl, h⟩
  · cases h
theorem tm_ite_e {c : Prop} {d : Decidable c} {a b : Option tm_R} {r : tm_R} (h : (if c then a else b) = some r) : (c ∧ a = some r) ∨ (¬ c ∧ b = some r) := by
  by_cases hc : c
  · rw [if_pos hc] at h; exact Or.inl ⟨hc, h⟩
  · rw [if_neg hc] at h; exact Or.inr ⟨hc, h⟩
theorem tm_p1_c {P : Prop} {st : List Value} {k : Int32 → List Value → Option tm_R} {r : tm_R} (h : tm_p1 st k = some r) (q : ∀ x t, k x t = some r → P) : P := (tm_p1_e h).elim fun _ h => h.elim fun _ h => q _ _ h.2
theorem tm_p2_c {P : Prop} {st : List Value} {k : Int32 → Int32 → List Value → Option tm_R} {r : tm_R} (h : tm_p2 st k = some r) (q : ∀ x y t, k x y t = some r → P) : P := (tm_p2_e h).elim fun _ h => h.elim fun _ h => h.elim fun _ h => q _ _ _ h.2
theorem tm_pl_c {P : Prop} {st : List Value} {k : Int64 → Int64 → List Value → Option tm_R} {r : tm_R} (h : tm_pl st k = some r) (q : ∀ x y t, k x y t = some r → P) : P := (tm_pl_e h).elim fun _ h => h.elim fun _ h => h.elim fun _ h => q _ _ _ h.2
theorem tm_pr_c {P : Prop} {st : List Value} {k : Nat → List Value → Option tm_R} {r : tm_R} (h : tm_pr st k = some r) (q : ∀ x t, k x t = some r → P) : P := (tm_pr_e h).elim fun _ h => h.elim fun _ h => q _ _ h.2
theorem tm_pa_c {P : Prop} {st : List Value} {k : Int32 → Nat → List Value → Option tm_R} {r : tm_R} (h : tm_pa st k = some r) (q : ∀ x y t, k x y t = some r → P) : P := (tm_pa_e h).elim fun _ h => h.elim fun _ h => h.elim fun _ h => q _ _ _ h.2
theorem tm_li_c {P : Prop} {o : Option Value} {k : Int32 → Option tm_R} {r : tm_R} (h : tm_li o k = some r) (q : ∀ x, k x = some r → P) : P := (tm_li_e h).elim fun _ h => q _ h.2
theorem tm_ll_c {P : Prop} {o : Option Value} {k : Int64 → Option tm_R} {r : tm_R} (h : tm_ll o k = some r) (q : ∀ x, k x = some r → P) : P := (tm_ll_e h).elim fun _ h => q _ h.2
theorem tm_la_c {P : Prop} {o : Option Value} {k : Nat → Option tm_R} {r : tm_R} (h : tm_la o k = some r) (q : ∀ x, k x = some r → P) : P := (tm_la_e h).elim fun _ h => q _ h.2
theorem tm_ite_c {P : Prop} {c : Prop} {d : Decidable c} {a b : Option tm_R} {r : tm_R} (h : (if c then a else b) = some r) (q1 : a = some r → P) (q2 : b = some r → P) : P := (tm_ite_e h).elim (fun h => q1 h.2) (fun h => q2 h.2)
theorem tm_cmp_c {P : Prop} {c : ClassFile.Cond} {x y : Int32} {a b : Option tm_R} {r : tm_R} (h : tm_cmp c x y a b = some r) (q1 : a = some r → P) (q2 : b = some r → P) : P := (tm_cmp_or h).elim q1 q2
set_option maxHeartbeats 1000000 in
theorem tm_ex_gr {S : tm_S} {X : tm_X} {G : tm_G} {tz : Bool} {go : tm_N} {i : Instr} {x1 x2 x3 pc : Nat} {ls : tm_A} {st : List Value} {M : tm_M} {r : tm_R} (hG : tm_Gg G) (hg : ∀ pc ls st M', go pc ls st M' = some r → tm_gr M' r.2) (h : tm_ex S X G tz go i x1 x2 x3 pc ls st M = some r) : tm_gr M r.2 := by
  have hn : ∀ pc ls st n, go pc ls st (tm_nw M n) = some r → tm_gr M r.2 := fun pc ls st n h => (hg _ _ _ _ h).nw
  have h1 : ∀ pc ls st a k v, go pc ls st (tm_si M a k v) = some r → tm_gr M r.2 := fun pc ls st a k v h => (show tm_gr (tm_si M a k v) r.2 from hg _ _ _ _ h)
  have h2 : ∀ pc ls st a k v, go pc ls st (tm_sj M a k v) = some r → tm_gr M r.2 := fun pc ls st a k v h => (show tm_gr (tm_sj M a k v) r.2 from hg _ _ _ _ h)
  have h3 : ∀ pc ls st a k v, go pc ls st (tm_sr M a k v) = some r → tm_gr M r.2 := fun pc ls st a k v h => (show tm_gr (tm_sr M a k v) r.2 from hg _ _ _ _ h)
  have h0 : ∀ pc ls st, go pc ls st M = some r → tm_gr M r.2 := fun pc ls st h => hg _ _ _ _ h
  have hd : ∀ v, some (v, M) = some r → tm_gr M r.2 := fun v h => by cases h; exact tm_gr.rf _
  have hz : ∀ {P : Prop}, (none : Option tm_R) = some r → P := fun h => by cases h
  unfold tm_ex at h
  split at h
  all_goals repeat' first
    | exact h0 _ _ _ h
    | exact hz h
    | exact hd _ h
    | exact h1 _ _ _ _ _ _ h
    | exact h2 _ _ _ _ _ _ h
    | exact h3 _ _ _ _ _ _ h
    | exact hn _ _ _ _ h
    | exact tm_call_gr hG hg h
    | exact tm_sw_gr (fun q hq => h0 _ _ _ hq) h
    | exact tm_lk_gr (fun q hq => h0 _ _ _ hq) h
    | (refine tm_p1_c h (fun _ _ h => ?_))
    | (refine tm_p2_c h (fun _ _ _ h => ?_))
    | (refine tm_pl_c h (fun _ _ _ h => ?_))
    | (refine tm_pr_c h (fun _ _ h => ?_))
    | (refine tm_pa_c h (fun _ _ _ h => ?_))
    | (refine tm_li_c h (fun _ h => ?_))
    | (refine tm_ll_c h (fun _ h => ?_))
    | (refine tm_la_c h (fun _ h => ?_))
    | (refine tm_ite_c h (fun h => ?_) (fun h => ?_))
    | (refine tm_cmp_c h (fun h => ?_) (fun h => ?_))
    | exact tm_sw_gr (fun q hq => h0 _ _ _ hq) h
    | exact tm_lk_gr (fun q hq => h0 _ _ _ hq) h
    | (split at h)
theorem tm_b_gr {S : tm_S} {X : tm_X} {G : tm_G} {tz : Bool} {cd : List tm_E} {cuts : List (Nat × List Nat)} {K : tm_K} (hG : tm_Gg G) (hK : ∀ pc ls st M r, K pc ls st M = some r → tm_gr M r.2) : ∀ (f pc : Nat) (ls : tm_A) (st : List Value) (M : tm_M) (r : tm_R), tm_b S X G tz cd cuts K f pc ls st M = some r → tm_gr M r.2 := by
  intro f
  induction f with
  | zero => intro pc ls st M r h; cases h
  | succ f ih =>
    intro pc ls st M r h
    rw [tm_b_succ] at h
    split at h
    · cases h
    · refine tm_ex_gr hG (fun pc ls st M' h => ?_) h
      unfold tm_go at h
      split at h
      · exact hK _ _ _ _ _ h
      · exact ih _ _ _ _ _ h
theorem tm_run_gr {S : tm_S} {X : tm_X} {G : tm_G} {tz : Bool} {cd : List tm_E} {cuts : List (Nat × List Nat)} {f : Nat} (hG : tm_Gg G) : ∀ n pc ls st M r, tm_run S X G tz cd cuts f n pc ls st M = some r → tm_gr M r.2 := by
  intro n
  induction n with
  | zero => intro pc ls st M r h; cases h
  | succ n ih => intro pc ls st M r h; exact tm_b_gr hG ih _ _ _ _ _ _ h
theorem tm_F_gr {S : tm_S} {X : tm_X} {G : tm_G} {tz : Bool} {cd : List tm_E} {cuts : List (Nat × List Nat)} {f : Nat} (hG : tm_Gg G) (pc : Nat) (ls : tm_A) (st : List Value) (M : tm_M) (r : tm_R) (h : tm_F S X G tz cd cuts f pc ls st M = some r) : tm_gr M r.2 := by
  obtain ⟨n, h⟩ := tm_F_ex h
  exact tm_run_gr hG n _ _ _ _ _ h
theorem tm_m_gr {S : tm_S} {X : tm_X} {G : tm_G} {tz : Bool} {cd : List tm_E} {cuts : List (Nat × List Nat)} {f nL : Nat} (hG : tm_Gg G) {as : List Value} {M : tm_M} {r : tm_R} (h : tm_m S X G tz cd cuts f nL as M = some r) : tm_gr M r.2 := by
  unfold tm_m at h
  rcases tm_ite_e h with ⟨_, h⟩ | ⟨_, h⟩
  · exact tm_b_gr hG (tm_F_gr hG) _ _ _ _ _ _ h
  · cases h
