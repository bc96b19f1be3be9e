/-! calls of the plain machine -/
abbrev tm_Mt : Type := MethodName × ByteArray × Nat × Option FieldType × Nat × Nat
def tm_In (S : tm_S) (cA : Nat → ClassId) (D : va_G) (B : tm_B) (M : tm_M) (U : State) : Prop := va_P D vwCl (tm_wd S cA B M) U.heap ∧ U.heap.size = B.1 + tm_z M ∧ tm_KU cA D U ∧ tm_SU B U
abbrev tm_Pr (S : tm_S) (cA : Nat → ClassId) (D : va_G) (B : tm_B) (as : List Value) (M : tm_M) : Array Value → State → Prop := fun v U => v = (as.map (tm_rl B)).toArray ∧ tm_In S cA D B M U
abbrev tm_Po (S : tm_S) (cA : Nat → ClassId) (D : va_G) (B : tm_B) (r : tm_R) : Array Value → State → Outcome → State → Prop := fun _ st o t => o = .returned (r.1.map (tm_rl B)) ∧ tm_In S cA D B r.2 t ∧ va_F (fun q => B.1 ≤ q) st t
/-- the contract of a method at given values and memory -/
def tm_MA (S : tm_S) (l : Launch) (t : tm_Mt) (as : List Value) (M : tm_M) (r : tm_R) : Prop := ∀ (cA : Nat → ClassId) (D : va_G) (B : tm_B), Met l t.1 (.code t.1 t.2.1 t.2.2.1 t.2.2.2.1 :: tm_Om) { frames := t.2.2.2.2.1, cells := tm_z r.2 - tm_z M, slots := tm_s r.2 - tm_s M, locals := t.2.2.2.2.2 }
  (tm_Pr S cA D B as M) (tm_Po S cA D B r) (tm_z r.2 - tm_z M) (tm_s r.2 - tm_s M) (fun q => B.1 ≤ q)
theorem tm_nest_on {w : Cond} (h : w ∈ tm_nest) : w.onTables = true := by
  have h1 := (List.mem_filter.mp h).2
  unfold tm_isN at h1
  split at h1 <;> first | rfl | cases h1
theorem tm_KU.same {cA : Nat → ClassId} {D : va_G} {u U : State} (hv : u.vm = U.vm) (h : tm_KU cA D u) : tm_KU cA D U := by
  have ha : u.vm.Alike U.vm := by rw [hv]; exact Vm.Alike.refl _
  exact ⟨h.1.moved ha, fun w hw => va_Nw.same (tm_nest_on hw) hv (h.2.1 w hw), h.2.2.1.moved ha, h.2.2.2.moved ha⟩
theorem tm_KU.warm {cA : Nat → ClassId} {D : va_G} {s U : State} (hW : s.WarmedH U.vm) (h : tm_KU cA D s) : tm_KU cA D U := by
  refine ⟨h.1.moved hW.alike, fun w hw => ?_, h.2.2.1.moved hW.alike, h.2.2.2.moved hW.alike⟩
  have h0 := h.2.1 w hw
  have h1 := (List.mem_filter.mp hw).2
  unfold tm_isN at h1
  split at h1
  · exact va_Nw.warmF hW h0
  · exact va_Nw.warmM hW h0
  · cases h1
theorem tm_blind {S : tm_S} {cA : Nat → ClassId} {D : va_G} {B : tm_B} {as : List Value} {M : tm_M} : FrameBlind (tm_Pr S cA D B as M) := fun a U g mk q => ⟨q.1, q.2.1, q.2.2.1, tm_KU.same (u := U) (U := U.calling g mk a) rfl q.2.2.2.1, tm_SU.same (s := U) (U := U.calling g mk a) rfl rfl q.2.2.2.2⟩
def tm_yo (t : tm_Mt) (n : Nat) : Prop := Cond.code t.1 t.2.1 t.2.2.1 t.2.2.2.1 ∈ tm_Om ∧ Cond.initialized t.1.cls ∈ tm_Om ∧ (t.1.cls ≠ "java/lang/invoke/MethodHandle" ∧ t.1.cls ≠ "java/lang/invoke/VarHandle" ∧ (parseMethodDescriptor t.1.desc).map (fun d => d.parameters.length) = some n)
def tm_ml (own : String) (i : Nat) (t : tm_Mt) : Prop := Cond.methodLink own i t.1 ∈ tm_Om ∨ ∃ host, Cond.methodLinkNest own i t.1 host ∈ tm_nest
def tm_rm (t : tm_Mt) (fr lo : Nat) : Prop := t.2.2.2.2.1 + 1 ≤ fr ∧ 8 + (t.2.2.1 + 11) + t.2.2.2.2.2 ≤ lo
section CAL
variable {S : tm_S} {X : tm_X} {G : tm_G} {tz : Bool} {go : tm_N} {cA : Nat → ClassId} {D : va_G} {B : tm_B} {p : Program} {l : Launch} {e : Env} {R : Room} {s : State} {m : MethodId} {args : Array Value} {below : List Frame} {meth : Method} {c : Code} {cc : ByteArray} {own : String} {nL z0 s0 : Nat} {Q : State → Prop}
variable {ini : Bool} {H : Heap} {locs : List Loc} {cells slots : Nat} {ls : Array Slot} {rest st : List Value} {M : tm_M} {pc i n : Nat} {t : tm_Mt} {as : List Value} {r : tm_R} {al : tm_A}
theorem tm_after {a : Array Value} {st0 : List Value} (hr : va_Run p l e R s m args below meth c H locs cells slots (tm_z r.2 - tm_z M) (tm_s r.2 - tm_s M) (F0 m pc ls st0) (rest.map (tm_rl B)) (tm_Po S cA D B r a) (fun q => B.1 ≤ q)) (hSt : va_S (fun q => B.1 ≤ q) s.heap H locs) (hg : tm_gr M r.2) (hc : cells + z0 = tm_z M) (hs : slots + s0 = tm_s M) (hlv : lv_has ls nL (al.map (fun q => (q.1, tm_rl B q.2))))
    (kk : tm_Ok S cA D B p l e R s m args below meth c nL z0 s0 Q (pc + 3) al (r.1.toList ++ rest) r.2) : W p l e R s m args below meth c H locs cells slots Q (F0 m pc ls st0) := by
  intro T hT X
  obtain ⟨v, st₀, t, T', L, h0, X', hL, e1, e2, ⟨hv, ⟨hP1, hz1, hKU1, hSU1⟩, hz, hk⟩, stp⟩ := hr T hT X
  have hv' : v = r.1.map (tm_rl B) := by injection hv
  subst hv'
  rw [h0] at hz hk
  obtain ⟨g1, g2⟩ := hg
  obtain ⟨t2, a1, b1⟩ := kk T'.heap (locs ++ L) (cells + (tm_z r.2 - tm_z M)) (slots + (tm_s r.2 - tm_s M)) ls (by rw [e1]; exact hP1)
    ⟨Nat.le_trans hSt.1 (by rw [e1]; exact hz), fun q h1 h2 => by rw [e1, hk q (Nat.lt_of_lt_of_le h1 hSt.1) h2]; exact hSt.2.1 q h1 h2, fun q hq => by
      rcases List.mem_append.mp hq with h | h
      · exact hSt.2.2 q h
      · exact hL q h⟩ (by omega) (by omega) hlv T' rfl X'
  refine ⟨t2, stp t2 ?_, b1⟩
  have hst : (r.1.toList ++ rest).map (tm_rl B) = (r.1.map (tm_rl B)).toList ++ rest.map (tm_rl B) := by
    cases r.1 <;> simp
  rw [hst] at a1
  exact a1
theorem tm_good (h : tm_yo t n) : GoodIn tm_Om (.code t.1 t.2.1 t.2.2.1 t.2.2.2.1 :: tm_Om) := tm_Om_good fun w hw => by
  rcases List.mem_cons.mp hw with rfl | hw
  · exact h.1
  · exact hw
theorem tm_callS (hC : tm_Cx S cA D B p s m args meth c cc own ini nL z0) (hP : va_P D vwCl (tm_wd S cA B M) H) (hSt : va_S (fun q => B.1 ≤ q) s.heap H locs) (hM : tm_MA S l t as M r) (hg : tm_gr M r.2) (hy : tm_yo t n) (hst : Cond.static t.1 ∈ tm_Om) (hl : tm_ml own i t) (hrm : tm_rm t R.frames R.locals) (hn : as.length = n) (hw : tm_w rest ≤ 8) (hd : decode cc pc = .ok (.invokestatic i, 3))
    (hf1 : cells + (tm_z r.2 - tm_z M) ≤ R.cells) (hf2 : slots + (tm_s r.2 - tm_s M) ≤ R.slots) (hc : cells + z0 = tm_z M) (hs : slots + s0 = tm_s M) (hlv : lv_has ls nL (al.map (fun q => (q.1, tm_rl B q.2)))) (hstk : st = as.reverse ++ rest)
    (kk : tm_Ok S cA D B p l e R s m args below meth c nL z0 s0 Q (pc + 3) al (r.1.toList ++ rest) r.2) : W p l e R s m args below meth c H locs cells slots Q (F0 m pc ls (st.map (tm_rl B))) := by
  have hC' := hC
  obtain ⟨hx, hb, hml, hown, hts, hKU, hz, hS, hCL, -, hSU⟩ := hC
  subst hstk
  refine tm_size2 hz hP hSt hc fun hsz => ?_
  have hp : PreS s H (tm_Pr S cA D B as M) (as.map (tm_rl B)) := ⟨tm_blind, fun U hU hW => ⟨rfl, by rw [hU]; exact hP, by rw [hU]; exact hsz, hKU.warm hW, hSU.warm hW (by rw [hU]; exact hSt.2.1)⟩⟩
  have hstack : (F0 m pc ls ((as.reverse ++ rest).map (tm_rl B))).stack = (as.map (tm_rl B)).reverse ++ rest.map (tm_rl B) := by simp
  have hW : 2 * (F0 m pc ls ((as.reverse ++ rest).map (tm_rl B))).monitorRoom + ((rest.map (tm_rl B)).map fun v => v.category).sum ≤ 8 := lv_room (by rw [tm_w_rl]; exact hw)
  rcases hl with hl | ⟨host, hl⟩
  · exact tm_after (va_runS ⟨hx, hb, hml, hown, hts⟩ (hM cA D B) ⟨callB_of n hts (tm_good hy) rfl rfl rfl (hts _ hy.2.1) (hts _ hl) hy.2.2 hrm, hts _ hst⟩ hp rfl (by simpa using hn) hlv.1 hstack hW hd ⟨hf1, hf2⟩) hSt hg hc hs hlv kk
  · exact tm_after (va_runSN ⟨hx, hb, hml, hown, hts⟩ (hM cA D B) ⟨va_cnB n hts (tm_good hy) rfl rfl rfl (hKU.2.1 _ hl) (hts _ hy.2.1) hy.2.2 hrm, hts _ hst, trivial⟩ hp rfl (by simpa using hn) hlv.1 hstack hW hd ⟨hf1, hf2⟩) hSt hg hc hs hlv kk
theorem tm_callV (hC : tm_Cx S cA D B p s m args meth c cc own ini nL z0) (hP : va_P D vwCl (tm_wd S cA B M) H) (hSt : va_S (fun q => B.1 ≤ q) s.heap H locs) {a ci : Nat} {T : u_T} {N : Nat} (hka : tm_kd S M a = 100 + ci) (hci : vwCl[ci]? = some (t.1.cls, T, N)) (hM : tm_MA S l t (.ref a :: as) M r) (hg : tm_gr M r.2) (hy : tm_yo t n) (hin : Cond.instanceMethod t.1 ∈ tm_Om) (hse : Cond.selects t.1.cls t.1 t.1 ∈ tm_Om) (hl : tm_ml own i t) (hrm : tm_rm t R.frames R.locals) (hn : as.length = n) (hw : tm_w rest ≤ 8) (hd : decode cc pc = .ok (.invokevirtual i, 3))
    (hf1 : cells + (tm_z r.2 - tm_z M) ≤ R.cells) (hf2 : slots + (tm_s r.2 - tm_s M) ≤ R.slots) (hc : cells + z0 = tm_z M) (hs : slots + s0 = tm_s M) (hlv : lv_has ls nL (al.map (fun q => (q.1, tm_rl B q.2)))) (hstk : st = as.reverse ++ .ref a :: rest)
    (kk : tm_Ok S cA D B p l e R s m args below meth c nL z0 s0 Q (pc + 3) al (r.1.toList ++ rest) r.2) : W p l e R s m args below meth c H locs cells slots Q (F0 m pc ls (st.map (tm_rl B))) := by
  obtain ⟨hx, hb, hml, hown, hts, hKU, hz, hS, hCL, -, hSU⟩ := hC
  subst hstk
  obtain ⟨g1, g2, g3⟩ := tm_kd_pos hS.1 hS.2.1 hka (by omega)
  have he := tm_wd_get (S := S) (cA := cA) (B := B) g1 g2
  rw [tm_e_obj g3] at he
  have hrcv := va_recv hKU.1 hP hci he
  have hra : tm_rl B (.ref a) = .ref (tm_ad B a) := tm_rl_ref (by omega)
  refine tm_size2 hz hP hSt hc fun hsz => ?_
  have hp : PreV s H t.1.cls (tm_ad B a) (tm_Pr S cA D B (.ref a :: as) M) (as.map (tm_rl B)) := ⟨tm_blind, hrcv, fun U hU hW => ⟨by rw [List.map_cons, hra], by rw [hU]; exact hP, by rw [hU]; exact hsz, hKU.warm hW, hSU.warm hW (by rw [hU]; exact hSt.2.1)⟩⟩
  have hstack : (F0 m pc ls ((as.reverse ++ .ref a :: rest).map (tm_rl B))).stack = (as.map (tm_rl B)).reverse ++ .ref (tm_ad B a) :: rest.map (tm_rl B) := by simp [hra]
  have hW : 2 * (F0 m pc ls ((as.reverse ++ .ref a :: rest).map (tm_rl B))).monitorRoom + ((rest.map (tm_rl B)).map fun v => v.category).sum ≤ 8 := lv_room (by rw [tm_w_rl]; exact hw)
  rcases hl with hl | ⟨host, hl⟩
  · exact tm_after (va_runV ⟨hx, hb, hml, hown, hts⟩ (hM cA D B) ⟨callB_of n hts (tm_good hy) rfl rfl rfl (hts _ hy.2.1) (hts _ hl) hy.2.2 hrm, hts _ hin, hts _ hse⟩ hp rfl (by simpa using hn) hlv.1 hstack hW hd ⟨hf1, hf2⟩) hSt hg hc hs hlv kk
  · exact tm_after (va_runVN ⟨hx, hb, hml, hown, hts⟩ (hM cA D B) ⟨va_cnB n hts (tm_good hy) rfl rfl rfl (hKU.2.1 _ hl) (hts _ hy.2.1) hy.2.2 hrm, hts _ hin, hts _ hse⟩ hp rfl (by simpa using hn) hlv.1 hstack hW hd ⟨hf1, hf2⟩) hSt hg hc hs hlv kk
theorem tm_callI (hC : tm_Cx S cA D B p s m args meth c cc own ini nL z0) (hP : va_P D vwCl (tm_wd S cA B M) H) (hSt : va_S (fun q => B.1 ≤ q) s.heap H locs) {a ci : Nat} (hka : tm_kd S M a = 100 + ci) (hM : tm_MA S l t (.ref a :: as) M r) (hg : tm_gr M r.2) (hy : tm_yo t n) (hin : Cond.instanceMethod t.1 ∈ tm_Om) (hnm : t.1.name = "<init>") (hret : t.2.2.2.1 = none) (hl : tm_ml own i t) (hrm : tm_rm t R.frames R.locals) (hn : as.length = n) (hw : tm_w rest ≤ 8) (hd : decode cc pc = .ok (.invokespecial i, 3))
    (hf1 : cells + (tm_z r.2 - tm_z M) ≤ R.cells) (hf2 : slots + (tm_s r.2 - tm_s M) ≤ R.slots) (hc : cells + z0 = tm_z M) (hs : slots + s0 = tm_s M) (hlv : lv_has ls nL (al.map (fun q => (q.1, tm_rl B q.2)))) (hstk : st = as.reverse ++ .ref a :: rest)
    (kk : tm_Ok S cA D B p l e R s m args below meth c nL z0 s0 Q (pc + 3) al (r.1.toList ++ rest) r.2) : W p l e R s m args below meth c H locs cells slots Q (F0 m pc ls (st.map (tm_rl B))) := by
  obtain ⟨hx, hb, hml, hown, hts, hKU, hz, hS, hCL, -, hSU⟩ := hC
  subst hstk
  obtain ⟨y, cc', maxL, ret, fr, lo⟩ := t
  dsimp only at *
  subst hret
  obtain ⟨g1, g2, g3⟩ := tm_kd_pos hS.1 hS.2.1 hka (by omega)
  have hra : tm_rl B (.ref a) = .ref (tm_ad B a) := tm_rl_ref (by omega)
  refine tm_size2 hz hP hSt hc fun hsz => ?_
  have hp : PreS s H (tm_Pr S cA D B (.ref a :: as) M) (.ref (tm_ad B a) :: as.map (tm_rl B)) := ⟨tm_blind, fun U hU hW => ⟨by rw [List.map_cons, hra], by rw [hU]; exact hP, by rw [hU]; exact hsz, hKU.warm hW, hSU.warm hW (by rw [hU]; exact hSt.2.1)⟩⟩
  have hstack : (F0 m pc ls ((as.reverse ++ .ref a :: rest).map (tm_rl B))).stack = (as.map (tm_rl B)).reverse ++ .ref (tm_ad B a) :: rest.map (tm_rl B) := by simp [hra]
  have hW : 2 * (F0 m pc ls ((as.reverse ++ .ref a :: rest).map (tm_rl B))).monitorRoom + ((rest.map (tm_rl B)).map fun v => v.category).sum ≤ 8 := lv_room (by rw [tm_w_rl]; exact hw)
  rcases hl with hl | ⟨host, hl⟩
  · exact tm_after (va_runI ⟨hx, hb, hml, hown, hts⟩ (hM cA D B) ⟨callB_of n hts (tm_good hy) rfl rfl rfl (hts _ hy.2.1) (hts _ hl) hy.2.2 hrm, hnm, hts _ hin⟩ hp rfl (by simpa using hn) hlv.1 hstack hW hd ⟨hf1, hf2⟩) hSt hg hc hs hlv kk
  · exact tm_after (va_runIN ⟨hx, hb, hml, hown, hts⟩ (hM cA D B) ⟨va_cnB n hts (tm_good hy) rfl rfl rfl (hKU.2.1 _ hl) (hts _ hy.2.1) hy.2.2 hrm, hnm, hts _ hin⟩ hp rfl (by simpa using hn) hlv.1 hstack hW hd ⟨hf1, hf2⟩) hSt hg hc hs hlv kk
end CAL
