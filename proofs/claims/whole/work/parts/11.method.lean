/-! a method of the plain machine keeps its contract -/
theorem tm_pk_mem {live : List Nat} {al : tm_A} {q : Nat × Value} (h : q ∈ tm_pk live al) : q ∈ al := by
  unfold tm_pk at h
  obtain ⟨i, -, hi⟩ := List.mem_filterMap.mp h
  obtain ⟨v, hv, rfl⟩ := Option.map_eq_some_iff.mp hi
  exact tm_lg_mem hv
theorem tm_args_rl (B : tm_B) : ∀ (as : List Value) (i : Nat), lv_args i (as.map (tm_rl B)) = (lv_args i as).map (fun q => (q.1, tm_rl B q.2)) := by
  intro as
  induction as with
  | nil => intro i; rfl
  | cons v vs ih =>
    intro i
    simp only [List.map_cons, lv_args, tm_rl_cat]
    rw [ih]
theorem tm_sl_len (as : List Value) : (lg_sl as).length = tm_w as := by
  induction as with
  | nil => rfl
  | cons v vs ih =>
    have h1 : lg_sl (v :: vs) = (if v.category = 2 then [Slot.val v, .second] else [.val v]) ++ lg_sl vs := by simp [lg_sl]
    have h2 : tm_w (v :: vs) = v.category + tm_w vs := by simp [tm_w]
    rw [h1, h2, List.length_append, ih]
    congr 1
    cases v <;> rfl
/-- what is known of each row of a method's code -/
def tm_cdk (own : String) (ini : Bool) (mt : Nat → tm_Mt) (t : tm_Mt) (tz : Bool) (cd : List tm_E) : Prop := ∀ pc q, tm_at cd pc = some q → decode t.2.1 pc = .ok (q.1, q.2.1) ∧ tm_chk t.2.2.1 pc q.1 q.2.1 q.2.2.1 q.2.2.2.1 q.2.2.2.2 = true ∧ tm_rtc t.2.2.2.1 tz q.1 = true ∧ tm_lnk own ini mt t.2.2.2.2.1 t.2.2.2.2.2 q.1 q.2.2.1 q.2.2.2.1 q.2.2.2.2
section MTH
variable {S : tm_S} {X : tm_X} {G : tm_G} {tz : Bool} {cA : Nat → ClassId} {D : va_G} {B : tm_B} {p : Program} {l : Launch} {e : Env} {R : Room} {s : State} {m : MethodId} {args : Array Value} {below : List Frame} {meth : Method} {c : Code} {own : String} {z0 s0 : Nat} {Q : State → Prop}
variable {ini : Bool} {mt : Nat → tm_Mt} {t : tm_Mt} {cd : List tm_E} {cuts : List (Nat × List Nat)} {r : tm_R}
theorem tm_b_ok (hC : tm_Cx S cA D B p s m args meth c t.2.1 own ini t.2.2.1 z0) (hX : tm_XOk B s X) (hG : tm_Gg G) (hGm : ∀ id as M r, G id as M = some r → tm_MA S l (mt id) as M r) (hG9 : ∀ as M, G 9001 as M = none ∧ G 9002 as M = none)
    (hRf : R.frames = t.2.2.2.2.1) (hRl : R.locals = t.2.2.2.2.2) (hRc : tm_z r.2 ≤ R.cells + z0) (hRs : tm_s r.2 ≤ R.slots + s0) (hret : tm_Ret S cA D B p l e R s m args below meth c t.2.1 t.2.2.1 z0 s0 Q t.2.2.2.1 tz r) (hcd : tm_cdk own ini mt t tz cd)
    (hstr : ∀ pc q, tm_at cd pc = some q → tm_Str B p l e R s m args below meth c t.2.1 t.2.2.1 Q q.1 q.2.2.1 q.2.2.2.2)
    {K : tm_K} (hKg : ∀ pc ls st M r, K pc ls st M = some r → tm_gr M r.2) (hK : ∀ pc al st M, K pc al st M = some r → tm_Ok S cA D B p l e R s m args below meth c t.2.2.1 z0 s0 Q pc al st M) :
    ∀ (f pc : Nat) (al : tm_A) (st : List Value) (M : tm_M), tm_b S X G tz cd cuts K f pc al st M = some r → tm_Ok S cA D B p l e R s m args below meth c t.2.2.1 z0 s0 Q pc al st M := by
  intro f
  induction f with
  | zero => intro pc al st M h; cases h
  | succ f ih =>
    intro pc al st M h
    rw [tm_b_succ] at h
    split at h
    · cases h
    · rename_i q hq
      obtain ⟨k1, k2, k3, k4⟩ := hcd pc q hq
      refine tm_ex_ok hC hX hG hGm hG9 hRc hRs ?_ ?_ hret k3 k1 k2 (by rw [hRf, hRl]; exact k4) (hstr pc q hq) h
      · intro pc al st M h
        unfold tm_go at h
        split at h
        · exact hKg _ _ _ _ _ h
        · exact tm_b_gr hG hKg _ _ _ _ _ _ h
      · intro pc al st M h
        unfold tm_go at h
        split at h
        · intro H locs cells slots ls hP hS hc hs hlv
          refine hK _ _ _ _ h H locs cells slots ls hP hS hc hs ⟨hlv.1, hlv.2.1, fun w hw => ?_⟩
          obtain ⟨v, hv, rfl⟩ := List.mem_map.mp hw
          exact hlv.2.2 _ (List.mem_map.mpr ⟨v, tm_pk_mem hv, rfl⟩)
        · exact ih _ _ _ _ h
theorem tm_F_ok (hC : tm_Cx S cA D B p s m args meth c t.2.1 own ini t.2.2.1 z0) (hX : tm_XOk B s X) (hG : tm_Gg G) (hGm : ∀ id as M r, G id as M = some r → tm_MA S l (mt id) as M r) (hG9 : ∀ as M, G 9001 as M = none ∧ G 9002 as M = none)
    (hRf : R.frames = t.2.2.2.2.1) (hRl : R.locals = t.2.2.2.2.2) (hRc : tm_z r.2 ≤ R.cells + z0) (hRs : tm_s r.2 ≤ R.slots + s0) (hret : tm_Ret S cA D B p l e R s m args below meth c t.2.1 t.2.2.1 z0 s0 Q t.2.2.2.1 tz r) (hcd : tm_cdk own ini mt t tz cd)
    (hstr : ∀ pc q, tm_at cd pc = some q → tm_Str B p l e R s m args below meth c t.2.1 t.2.2.1 Q q.1 q.2.2.1 q.2.2.2.2) {f : Nat} :
    ∀ (pc : Nat) (al : tm_A) (st : List Value) (M : tm_M), tm_F S X G tz cd cuts f pc al st M = some r → tm_Ok S cA D B p l e R s m args below meth c t.2.2.1 z0 s0 Q pc al st M := by
  have key : ∀ (n pc : Nat) (al : tm_A) (st : List Value) (M : tm_M), tm_run S X G tz cd cuts f n pc al st M = some r → tm_Ok S cA D B p l e R s m args below meth c t.2.2.1 z0 s0 Q pc al st M := by
    intro n
    induction n with
    | zero => intro pc al st M h; cases h
    | succ n ih => intro pc al st M h; exact tm_b_ok hC hX hG hGm hG9 hRf hRl hRc hRs hret hcd hstr (tm_run_gr hG n) ih _ _ _ _ _ h
  intro pc al st M h
  obtain ⟨n, hn⟩ := tm_F_ex h
  exact key n _ _ _ _ hn
end MTH
/-- no text constants -/
def tm_nos (i : Instr) (x1 x3 : Nat) : Bool := match i with
  | .ldc _ => x3 != 1
  | .invokevirtual _ => x1 != 9001 && x1 != 9002
  | _ => true
theorem tm_nos_ok {B : tm_B} {p : Program} {l : Launch} {e : Env} {R : Room} {s : State} {m : MethodId} {args : Array Value} {below : List Frame} {meth : Method} {c : Code} {cc : ByteArray} {nL : Nat} {Q : State → Prop} {i : Instr} {x1 x3 : Nat} (h : tm_nos i x1 x3 = true) : tm_Str B p l e R s m args below meth c cc nL Q i x1 x3 := by
  unfold tm_Str
  split
  · intro hx
    simp [tm_nos, hx] at h
  · simp [tm_nos] at h
    exact ⟨fun q => absurd q h.1, fun q => absurd q h.2⟩
  · trivial
/-- what a method needs besides: the rules of its text constants, at every run of it -/
def tm_StrM (l : Launch) (t : tm_Mt) (cA : Nat → ClassId) (D : va_G) (B : tm_B) (R : Room) (s : State) (cd : List tm_E) : Prop := ∀ (p : Program) (e : Env) (m : MethodId) (args : Array Value) (below : List Frame) (meth : Method) (c : Code) (Q : State → Prop), p.tables.exec = Jvm.exec → c.code = t.2.1 → c.maxLocals = t.2.2.1 → s.vm.findClass t.1.cls = some m.cls → (∀ w ∈ tm_Om, w.before args s = true) → tm_KU cA D s → tm_SU B s →
  ∀ pc q, tm_at cd pc = some q → tm_Str B p l e R s m args below meth c t.2.1 t.2.2.1 Q q.1 q.2.2.1 q.2.2.2.2
theorem tm_ret_ok {S : tm_S} {tz : Bool} {cA : Nat → ClassId} {D : va_G} {B : tm_B} {p : Program} {l : Launch} {e : Env} {R : Room} {s : State} {m : MethodId} {args : Array Value} {below : List Frame} {meth : Method} {c : Code} {t : tm_Mt} {M : tm_M} {r : tm_R} (hx : p.tables.exec = Jvm.exec) (hb : c.code = t.2.1) (hr : meth.sig.returnType = t.2.2.2.1) (hlocks : meth.locks = false) (hKU : tm_KU cA D s) (hSU : tm_SU B s) (hz : s.heap.size = B.1 + tm_z M) :
    tm_Ret S cA D B p l e R s m args below meth c t.2.1 t.2.2.1 (tm_z M) (tm_s M) (MQ below (tm_Po S cA D B r) args s (tm_z r.2 - tm_z M) (tm_s r.2 - tm_s M) (fun q => B.1 ≤ q)) t.2.2.2.1 tz r := by
  have key : ∀ {H : Heap} {locs : List Loc} (v : Option Value), r.1 = v → va_P D vwCl (tm_wd S cA B r.2) H → H.size = B.1 + tm_z r.2 → va_S (fun q => B.1 ≤ q) s.heap H locs → ∀ t : State, t.heap = H → s.WarmedH t.vm → tm_Po S cA D B r args s (.returned (v.map (tm_rl B))) t := by
    intro H locs v hv hP hsz hS t ht hW
    subst hv
    exact ⟨rfl, ⟨by rw [ht]; exact hP, by rw [ht]; exact hsz, hKU.warm hW, hSU.warm hW (by rw [ht]; exact hS.2.1)⟩, hS.F ht⟩
  refine ⟨?_, ?_, ?_⟩
  · intro pc al v hc hd hv hvz H locs cells slots ls hP hS hcc hss hlv
    refine tm_size2 hz hP hS hcc fun hsz => ?_
    obtain rfl : cells = tm_z r.2 - tm_z M := by omega
    obtain rfl : slots = tm_s r.2 - tm_s M := by omega
    have hk := key (some (.int v)) hv hP hsz hS
    unfold tm_rtc at hc
    generalize hrt : t.2.2.2.1 = rt at hr hc
    split at hc <;> first | contradiction | skip
    · exact W.zret hx hb hr (by rcases hvz rfl with rfl | rfl <;> rfl) hk hS.2.2 hd
    · exact W.iret hx hb hr hk hS.2.2 hd
    all_goals simp_all
  · intro pc al v hc hd hv H locs cells slots ls hP hS hcc hss hlv
    refine tm_size2 hz hP hS hcc fun hsz => ?_
    obtain rfl : cells = tm_z r.2 - tm_z M := by omega
    obtain rfl : slots = tm_s r.2 - tm_s M := by omega
    have hk := key (some (.long v)) hv hP hsz hS
    unfold tm_rtc at hc
    generalize hrt : t.2.2.2.1 = rt at hr hc
    split at hc <;> first | contradiction | skip
    · exact W.lret hx hb hr hk hS.2.2 hd
    all_goals simp_all
  · intro pc al hc hd hv H locs cells slots ls hP hS hcc hss hlv
    refine tm_size2 hz hP hS hcc fun hsz => ?_
    obtain rfl : cells = tm_z r.2 - tm_z M := by omega
    obtain rfl : slots = tm_s r.2 - tm_s M := by omega
    have hk := key none hv hP hsz hS
    unfold tm_rtc at hc
    generalize hrt : t.2.2.2.1 = rt at hr hc
    split at hc <;> first | contradiction | skip
    · exact W.vret hx hb hr hk hS.2.2 hd
    all_goals simp_all
theorem tm_sound {S : tm_S} {G : tm_G} {tz : Bool} {l : Launch} {ini : Bool} {mt : Nat → tm_Mt} {t : tm_Mt} {cd : List tm_E} {cuts : List (Nat × List Nat)} {f : Nat} {as : List Value} {M : tm_M} {r : tm_R} (hSok : tm_Sok S) (hCL : tm_CL) (hG : tm_Gg G) (hGm : ∀ id as M r, G id as M = some r → tm_MA S l (mt id) as M r) (hG9 : ∀ as M, G 9001 as M = none ∧ G 9002 as M = none)
    (hcd : tm_cdk t.1.cls ini mt t tz cd) (hpl : plainName t.1.cls = true) (hini : ini = true → t.1.name = "<init>") (hstr : ∀ cA D B s, tm_StrM l t cA D B { frames := t.2.2.2.2.1, cells := tm_z r.2 - tm_z M, slots := tm_s r.2 - tm_s M, locals := t.2.2.2.2.2 } s cd) (h : tm_m S none G tz cd cuts f t.2.2.1 as M = some r) : tm_MA S l t as M r := by
  intro cA D B
  have hgr := tm_m_gr hG h
  unfold tm_m at h
  rcases tm_ite_e h with ⟨hw, h⟩ | ⟨_, h⟩
  · refine Met.ofW (cc := t.2.1) (maxL := t.2.2.1) (ret := t.2.2.2.1) hpl rfl ?_
    intro p e s m args below meth c s₁ Bd hml hv
    obtain ⟨rfl, hP, hsz, hKU, hSU⟩ := hv
    have hts := atoms_spec (ws := .code t.1 t.2.1 t.2.2.1 t.2.2.2.1 :: tm_Om) Bd.pre
    have hts' : ∀ w ∈ tm_Om, w.before (as.map (tm_rl B)).toArray s = true := fun w hw => hts w (List.mem_cons_of_mem _ hw)
    have hown : s.vm.findClass t.1.cls = some m.cls := findClass_of_methodNamed Bd.named
    have hC : tm_Cx S cA D B p s m (as.map (tm_rl B)).toArray meth c t.2.1 t.1.cls ini t.2.2.1 (tm_z M) := ⟨Bd.exec, Bd.bytes, hml, hown, hts', hKU, hsz, hSok, hCL, fun q => (name_of_methodNamed Bd.named Bd.method).1.trans (hini q), hSU⟩
    have hl := lv_entry (as.map (tm_rl B)) (n := t.2.2.1) (by rw [tm_sl_len]; unfold tm_w; rw [tm_w_rl]; exact hw)
    rw [lg_entry_eq]
    rw [tm_args_rl] at hl
    have hret := tm_ret_ok (m := m) (R := { frames := t.2.2.2.2.1, cells := tm_z r.2 - tm_z M, slots := tm_s r.2 - tm_s M, locals := t.2.2.2.2.2 }) (e := e) (l := l) (S := S) (tz := tz) (B := B) (D := D) (cA := cA) (args := (as.map (tm_rl B)).toArray) (below := below) (r := r) (M := M) Bd.exec Bd.bytes Bd.returns Bd.notSynchronized hKU hSU hsz
    obtain ⟨g1, g2⟩ := hgr
    have hst := hstr cA D B s p e m (as.map (tm_rl B)).toArray below meth c (MQ below (tm_Po S cA D B r) (as.map (tm_rl B)).toArray s (tm_z r.2 - tm_z M) (tm_s r.2 - tm_s M) (fun q => B.1 ≤ q)) Bd.exec Bd.bytes hml hown hts' hKU hSU
    refine tm_b_ok (X := none) hC trivial hG hGm hG9 rfl rfl (by show tm_z r.2 ≤ tm_z r.2 - tm_z M + tm_z M; omega) (by show tm_s r.2 ≤ tm_s r.2 - tm_s M + tm_s M; omega) hret hcd hst (tm_F_gr hG) (tm_F_ok (X := none) hC trivial hG hGm hG9 rfl rfl (by show tm_z r.2 ≤ tm_z r.2 - tm_z M + tm_z M; omega) (by show tm_s r.2 ≤ tm_s r.2 - tm_s M + tm_s M; omega) hret hcd hst) f 0 (lv_args 0 as) [] M h s.heap [] 0 0 _ hP va_S.rf (by omega) (by omega) hl
  · cases h
