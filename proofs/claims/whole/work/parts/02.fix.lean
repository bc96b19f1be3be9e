/-! the evaluator goes one way: at most one place where it goes on; so it has a limit, and the limit is a fixed point -/
def tm_one (f : tm_N → Option tm_R) (go : tm_N) (r : tm_R) : Prop := (∀ g, f g = some r) ∨ ∃ pc ls st M, go pc ls st M = some r ∧ ∀ g : tm_N, g pc ls st M = some r → f g = some r
theorem tm_one.none {go : tm_N} {r : tm_R} (h : (Option.none : Option tm_R) = some r) : tm_one (fun _ => Option.none) go r := by cases h
theorem tm_one.done {go : tm_N} {r q : tm_R} (h : some q = some r) : tm_one (fun _ => some q) go r := Or.inl fun _ => h
theorem tm_one.go {go : tm_N} {r : tm_R} {pc : Nat} {ls : tm_A} {st : List Value} {M : tm_M} (h : go pc ls st M = some r) : tm_one (fun g => g pc ls st M) go r := Or.inr ⟨pc, ls, st, M, h, fun _ z => z⟩
theorem tm_one.ite {c : Prop} {d : Decidable c} {f1 f2 : tm_N → Option tm_R} {go : tm_N} {r : tm_R} (h : (if c then f1 go else f2 go) = some r) (h1 : f1 go = some r → tm_one f1 go r) (h2 : f2 go = some r → tm_one f2 go r) : tm_one (fun g => if c then f1 g else f2 g) go r := by
  by_cases hc : c
  · simp only [hc, if_true] at h ⊢
    exact h1 h
  · simp only [hc, if_false] at h ⊢
    exact h2 h
theorem tm_one.sw {go : tm_N} {r : tm_R} {pc : Nat} {x : Int32} {ls : tm_A} {st : List Value} {M : tm_M} : ∀ {os : List Int} {lo d : Int}, tm_sw (fun q => go q ls st M) pc x os lo d = some r → tm_one (fun g => tm_sw (fun q => g q ls st M) pc x os lo d) go r := by
  intro os
  induction os with
  | nil => intro lo d h; exact tm_one.go h
  | cons o os ih =>
    intro lo d h
    exact tm_one.ite (f1 := fun g => g _ ls st M) (f2 := fun g => tm_sw (fun q => g q ls st M) pc x os (lo + 1) d) h tm_one.go ih
theorem tm_one.lk {go : tm_N} {r : tm_R} {pc : Nat} {x : Int32} {ls : tm_A} {st : List Value} {M : tm_M} : ∀ {os : List (Int × Int)} {d : Int}, tm_lk (fun q => go q ls st M) pc x os d = some r → tm_one (fun g => tm_lk (fun q => g q ls st M) pc x os d) go r := by
  intro os
  induction os with
  | nil => intro d h; exact tm_one.go h
  | cons o os ih =>
    intro d h
    exact tm_one.ite (f1 := fun g => g _ ls st M) (f2 := fun g => tm_lk (fun q => g q ls st M) pc x os d) h tm_one.go ih
theorem tm_one.cmp {go : tm_N} {r : tm_R} {c : ClassFile.Cond} {x y : Int32} {f1 f2 : tm_N → Option tm_R} (h : tm_cmp c x y (f1 go) (f2 go) = some r) (h1 : f1 go = some r → tm_one f1 go r) (h2 : f2 go = some r → tm_one f2 go r) : tm_one (fun g => tm_cmp c x y (f1 g) (f2 g)) go r := by
  cases c
  · exact tm_one.ite h h1 h2
  · exact tm_one.ite h h2 h1
  · exact tm_one.ite h h1 h2
  · exact tm_one.ite h h1 h2
  · exact tm_one.ite h h1 h2
  · exact tm_one.ite h h1 h2
theorem tm_one.bI {go : tm_N} {r : tm_R} {o : Option tm_R} {k : tm_N → Int32 → tm_M → Option tm_R} (h : tm_bI o (k go) = some r) (h1 : ∀ x M, k go x M = some r → tm_one (fun g => k g x M) go r) : tm_one (fun g => tm_bI o (k g)) go r := by
  unfold tm_bI at h ⊢
  split at h
  · exact h1 _ _ h
  · cases h
theorem tm_one.bJ {go : tm_N} {r : tm_R} {o : Option tm_R} {k : tm_N → Int64 → tm_M → Option tm_R} (h : tm_bJ o (k go) = some r) (h1 : ∀ x M, k go x M = some r → tm_one (fun g => k g x M) go r) : tm_one (fun g => tm_bJ o (k g)) go r := by
  unfold tm_bJ at h ⊢
  split at h
  · exact h1 _ _ h
  · cases h
theorem tm_one.bV {go : tm_N} {r : tm_R} {o : Option tm_R} {k : tm_N → tm_M → Option tm_R} (h : tm_bV o (k go) = some r) (h1 : ∀ M, k go M = some r → tm_one (fun g => k g M) go r) : tm_one (fun g => tm_bV o (k g)) go r := by
  unfold tm_bV at h ⊢
  split at h
  · exact h1 _ h
  · cases h
theorem tm_one.call {go : tm_N} {r : tm_R} {G : tm_G} {pc id rk : Nat} {as rest : List Value} {ls : tm_A} {M : tm_M} (h : tm_call G go pc id rk as rest ls M = some r) : tm_one (fun g => tm_call G g pc id rk as rest ls M) go r := by
  unfold tm_call at h ⊢
  refine tm_one.ite (f1 := fun _ => Option.none) h tm_one.none fun h => ?_
  split at h
  · exact tm_one.bV h fun M h => tm_one.go h
  · exact tm_one.bI h fun x M h => tm_one.go h
  · exact tm_one.bJ h fun x M h => tm_one.go h
theorem tm_one.p1 {go : tm_N} {r : tm_R} {st : List Value} {k : tm_N → Int32 → List Value → Option tm_R} (h : tm_p1 st (k go) = some r) (h1 : ∀ x M, k go x M = some r → tm_one (fun g => k g x M) go r) : tm_one (fun g => tm_p1 st (k g)) go r := by
  unfold tm_p1 at h ⊢
  split at h
  · exact h1 _ _ h
  · cases h
theorem tm_one.p2 {go : tm_N} {r : tm_R} {st : List Value} {k : tm_N → Int32 → Int32 → List Value → Option tm_R} (h : tm_p2 st (k go) = some r) (h1 : ∀ x y M, k go x y M = some r → tm_one (fun g => k g x y M) go r) : tm_one (fun g => tm_p2 st (k g)) go r := by
  unfold tm_p2 at h ⊢
  split at h
  · exact h1 _ _ _ h
  · cases h
theorem tm_one.pl {go : tm_N} {r : tm_R} {st : List Value} {k : tm_N → Int64 → Int64 → List Value → Option tm_R} (h : tm_pl st (k go) = some r) (h1 : ∀ x y M, k go x y M = some r → tm_one (fun g => k g x y M) go r) : tm_one (fun g => tm_pl st (k g)) go r := by
  unfold tm_pl at h ⊢
  split at h
  · exact h1 _ _ _ h
  · cases h
theorem tm_one.pr {go : tm_N} {r : tm_R} {st : List Value} {k : tm_N → Nat → List Value → Option tm_R} (h : tm_pr st (k go) = some r) (h1 : ∀ x M, k go x M = some r → tm_one (fun g => k g x M) go r) : tm_one (fun g => tm_pr st (k g)) go r := by
  unfold tm_pr at h ⊢
  split at h
  · exact h1 _ _ h
  · cases h
theorem tm_one.pa {go : tm_N} {r : tm_R} {st : List Value} {k : tm_N → Int32 → Nat → List Value → Option tm_R} (h : tm_pa st (k go) = some r) (h1 : ∀ x y M, k go x y M = some r → tm_one (fun g => k g x y M) go r) : tm_one (fun g => tm_pa st (k g)) go r := by
  unfold tm_pa at h ⊢
  split at h
  · exact h1 _ _ _ h
  · cases h
theorem tm_one.li {go : tm_N} {r : tm_R} {o : Option Value} {k : tm_N → Int32 → Option tm_R} (h : tm_li o (k go) = some r) (h1 : ∀ x, k go x = some r → tm_one (fun g => k g x) go r) : tm_one (fun g => tm_li o (k g)) go r := by
  unfold tm_li at h ⊢
  split at h
  · exact h1 _ h
  · cases h
theorem tm_one.ll {go : tm_N} {r : tm_R} {o : Option Value} {k : tm_N → Int64 → Option tm_R} (h : tm_ll o (k go) = some r) (h1 : ∀ x, k go x = some r → tm_one (fun g => k g x) go r) : tm_one (fun g => tm_ll o (k g)) go r := by
  unfold tm_ll at h ⊢
  split at h
  · exact h1 _ h
  · cases h
theorem tm_one.la {go : tm_N} {r : tm_R} {o : Option Value} {k : tm_N → Nat → Option tm_R} (h : tm_la o (k go) = some r) (h1 : ∀ x, k go x = some r → tm_one (fun g => k g x) go r) : tm_one (fun g => tm_la o (k g)) go r := by
  unfold tm_la at h ⊢
  split at h
  · exact h1 _ h
  · cases h
set_option maxHeartbeats 4000000 in
theorem tm_ex_one {S : tm_S} {X : tm_X} {G : tm_G} {tz : Bool} {go : tm_N} {i : Instr} {x1 x2 x3 pc : Nat} {ls : tm_A} {st : List Value} {M : tm_M} {r : tm_R} (h : tm_ex S X G tz go i x1 x2 x3 pc ls st M = some r) : tm_one (fun g => tm_ex S X G tz g i x1 x2 x3 pc ls st M) go r := by
  unfold tm_ex at h ⊢
  split at h
  all_goals try dsimp only
  all_goals repeat' first
    | exact tm_one.none h
    | exact tm_one.done h
    | exact tm_one.go h
    | exact tm_one.call h
    | exact tm_one.sw h
    | exact tm_one.lk h
    | (refine tm_one.cmp h (fun h => ?_) (fun h => ?_))
    | (refine tm_one.p1 h (fun _ _ h => ?_))
    | (refine tm_one.p2 h (fun _ _ _ h => ?_))
    | (refine tm_one.pl h (fun _ _ _ h => ?_))
    | (refine tm_one.pr h (fun _ _ h => ?_))
    | (refine tm_one.pa h (fun _ _ _ h => ?_))
    | (refine tm_one.li h (fun _ h => ?_))
    | (refine tm_one.ll h (fun _ h => ?_))
    | (refine tm_one.la h (fun _ h => ?_))
    | (refine tm_one.ite h (fun h => ?_) (fun h => ?_))
    | (split at h)
