/-! every instruction; then a method -/
def tm_lnk (own : String) (ini : Bool) (mt : Nat → tm_Mt) (fr lo : Nat) (i : Instr) (x1 x2 x3 : Nat) : Prop := match i with
  | .getfield k => tm_fL own k x1 x2
  | .putfield k => tm_pL own ini k x1 x2
  | .ldc k => x3 = 1 ∨ Cond.constant own k (Int32.ofInt (Int.negSucc x1 + Int.ofNat x2 + 1)) ∈ tm_Om
  | .ldc_w k => Cond.constant own k (Int32.ofInt (Int.negSucc x1 + Int.ofNat x2 + 1)) ∈ tm_Om
  | .ldc2_w k => Cond.constantLong own k (Int64.ofNat x1) ∈ tm_Om
  | .new k => ∃ (C : String) (T : u_T) (N : Nat), vwCl[x1]? = some (C, T, N) ∧ Cond.classLink own k C ∈ tm_Om ∧ Cond.instantiable C N ∈ tm_Om ∧ Cond.initialized C ∈ tm_Om
  | .newarray t => Cond.arrayClass (newarray.typeOf t) ∈ tm_Om
  | .anewarray k => ∃ C : String, ((x1 = 5 ∧ C = RX8) ∨ (x1 = 6 ∧ C = RX3)) ∧ Cond.classLink own k C ∈ tm_Om
  | .invokestatic k => (x1 = 9003 ∧ Cond.methodLink own k Lib.Math.max.name ∈ tm_Om ∧ Cond.static Lib.Math.max.name ∈ tm_Om ∧ Cond.initialized "java/lang/Math" ∈ tm_Om ∧ Cond.code Lib.Math.max.name Lib.Math.max.code 2 (some .int) ∈ tm_Om ∧ 1 ≤ fr ∧ 21 ≤ lo) ∨
      (x1 = 9004 ∧ Cond.methodLink own k Lib.Math.min.name ∈ tm_Om ∧ Cond.static Lib.Math.min.name ∈ tm_Om ∧ Cond.initialized "java/lang/Math" ∈ tm_Om ∧ Cond.code Lib.Math.min.name Lib.Math.min.code 2 (some .int) ∈ tm_Om ∧ 1 ≤ fr ∧ 21 ≤ lo) ∨
      (x1 ≠ 9003 ∧ x1 ≠ 9004 ∧ tm_yo (mt x1) x2 ∧ Cond.static (mt x1).1 ∈ tm_Om ∧ tm_ml own k (mt x1) ∧ tm_rm (mt x1) fr lo)
  | .invokevirtual k => x1 = 9001 ∨ x1 = 9002 ∨ (tm_yo (mt x1) x2 ∧ Cond.instanceMethod (mt x1).1 ∈ tm_Om ∧ Cond.selects (mt x1).1.cls (mt x1).1 (mt x1).1 ∈ tm_Om ∧ tm_ml own k (mt x1) ∧ tm_rm (mt x1) fr lo ∧ ∃ T N, vwCl[x3 / 4]? = some ((mt x1).1.cls, T, N))
  | .invokespecial k => (x1 = 9000 ∧ Cond.methodLink own k Lib.objectInit ∈ tm_Om ∧ Cond.instanceMethod Lib.objectInit ∈ tm_Om ∧ Cond.code Lib.objectInit ⟨#[0xb1]⟩ 1 none ∈ tm_Om ∧ 1 ≤ fr ∧ 20 ≤ lo) ∨ (x1 ≠ 9000 ∧ tm_yo (mt x1) x2 ∧ Cond.instanceMethod (mt x1).1 ∈ tm_Om ∧ (mt x1).1.name = "<init>" ∧ (mt x1).2.2.2.1 = none ∧ tm_ml own k (mt x1) ∧ tm_rm (mt x1) fr lo)
  | _ => True
section STP
variable {S : tm_S} {X : tm_X} {G : tm_G} {tz : Bool} {go : tm_N} {cA : Nat → ClassId} {D : va_G} {B : tm_B} {p : Program} {l : Launch} {e : Env} {R : Room} {s : State} {m : MethodId} {args : Array Value} {below : List Frame} {meth : Method} {c : Code} {cc : ByteArray} {own : String} {nL z0 s0 : Nat} {Q : State → Prop}
variable {ini : Bool} {mt : Nat → tm_Mt}
/-- the rules of the text constant -/
def tm_Str (B : tm_B) (p : Program) (l : Launch) (e : Env) (R : Room) (s : State) (m : MethodId) (args : Array Value) (below : List Frame) (meth : Method) (c : Code) (cc : ByteArray) (nL : Nat) (Q : State → Prop) (i : Instr) (x1 x3 : Nat) : Prop := match i with
  | .ldc k => x3 = 1 → ∀ (H : Heap) (locs : List Loc) (cells slots pc : Nat) (ls : Array Slot) (rest : List Value), decode cc pc = .ok (.ldc k, 2) → W p l e R s m args below meth c H locs cells slots Q (F0 m (pc + 2) ls (.ref B.2.2.1 :: rest)) → W p l e R s m args below meth c H locs cells slots Q (F0 m pc ls rest)
  | .invokevirtual k => (x1 = 9001 → ∀ (H : Heap) (locs : List Loc) (cells slots pc : Nat) (ls : Array Slot) (rest : List Value), ls.size = nL → (rest.map fun v => v.category).sum ≤ 8 → va_S (fun q => B.1 ≤ q) s.heap H locs → cells ≤ R.cells → slots ≤ R.slots → decode cc pc = .ok (.invokevirtual k, 3) → W p l e R s m args below meth c H locs cells slots Q (F0 m (pc + 3) ls (.int 108 :: rest)) → W p l e R s m args below meth c H locs cells slots Q (F0 m pc ls (.ref B.2.2.1 :: rest))) ∧
      (x1 = 9002 → ∀ (H : Heap) (locs : List Loc) (cells slots pc : Nat) (ls : Array Slot) (rest : List Value) (j : Int32), 0 ≤ j → j.toNatClampNeg < 108 → ls.size = nL → (rest.map fun v => v.category).sum ≤ 8 → va_S (fun q => B.1 ≤ q) s.heap H locs → cells ≤ R.cells → slots ≤ R.slots → decode cc pc = .ok (.invokevirtual k, 3) → W p l e R s m args below meth c H locs cells slots Q (F0 m (pc + 3) ls (.int (Int32.ofNat ("trick worth feet cross to off turn from facing alone a b l r beats at in out does mirrored takes left right ".toList.getD j.toNatClampNeg ' ').toNat) :: rest)) → W p l e R s m args below meth c H locs cells slots Q (F0 m pc ls (.int j :: .ref B.2.2.1 :: rest)))
  | _ => True
def tm_XOk (B : tm_B) (s : State) (X : tm_X) : Prop := match X with
  | none => True
  | some q => va_X B.2.1 q.1 q.2 s s.heap ∧ B.2.1 < s.heap.size ∧ ¬ B.1 ≤ B.2.1
def tm_rtc (ret : Option FieldType) (tz : Bool) (i : Instr) : Bool := match i, ret, tz with
  | .ireturn, some .boolean, true => true
  | .ireturn, some .int, false => true
  | .ireturn, _, _ => false
  | .lreturn, some .long, _ => true
  | .lreturn, _, _ => false
  | .return_, none, _ => true
  | .return_, _, _ => false
  | _, _, _ => true
/-- the ends -/
def tm_Ret (S : tm_S) (cA : Nat → ClassId) (D : va_G) (B : tm_B) (p : Program) (l : Launch) (e : Env) (R : Room) (s : State) (m : MethodId) (args : Array Value) (below : List Frame) (meth : Method) (c : Code) (cc : ByteArray) (nL z0 s0 : Nat) (Q : State → Prop) (ret : Option FieldType) (tz : Bool) (r : tm_R) : Prop :=
  (∀ pc al v, tm_rtc ret tz .ireturn = true → decode cc pc = .ok (.ireturn, 1) → r.1 = some (.int v) → (tz = true → v = 0 ∨ v = 1) → tm_Ok S cA D B p l e R s m args below meth c nL z0 s0 Q pc al [.int v] r.2) ∧
  (∀ pc al v, tm_rtc ret tz .lreturn = true → decode cc pc = .ok (.lreturn, 1) → r.1 = some (.long v) → tm_Ok S cA D B p l e R s m args below meth c nL z0 s0 Q pc al [.long v] r.2) ∧
  (∀ pc al, tm_rtc ret tz .return_ = true → decode cc pc = .ok (.return_, 1) → r.1 = none → tm_Ok S cA D B p l e R s m args below meth c nL z0 s0 Q pc al [] r.2)
theorem tm_cmp_ok (hx : p.tables.exec = Jvm.exec) (hb : c.code = cc) {q : ClassFile.Cond} {x y : Int32} {f1 f2 : Option tm_R} {r : tm_R} {pc tgt : Nat} {off : Int} {al : tm_A} {st : List Value} {M : tm_M} (h : tm_cmp q x y f1 f2 = some r) (ht : (pc : Int) + off = (tgt : Int)) (hd : decode cc pc = .ok (.if_icmp q off, 3))
    (h1 : f1 = some r → tm_Ok S cA D B p l e R s m args below meth c nL z0 s0 Q tgt al st M) (h2 : f2 = some r → tm_Ok S cA D B p l e R s m args below meth c nL z0 s0 Q (pc + 3) al st M) : tm_Ok S cA D B p l e R s m args below meth c nL z0 s0 Q pc al (.int y :: .int x :: st) M := by
  intro H locs cells slots ls hP hS hc hs hlv
  cases q <;> simp only [tm_cmp] at h
  · exact lv_icmp_eq hx hb hd ht (fun z => h1 (by rw [if_pos z] at h; exact h) H locs cells slots ls hP hS hc hs hlv) (fun z => h2 (by rw [if_neg z] at h; exact h) H locs cells slots ls hP hS hc hs hlv)
  · exact lv_icmp_ne hx hb hd ht (fun z => h1 (by rw [if_neg z] at h; exact h) H locs cells slots ls hP hS hc hs hlv) (fun z => h2 (by rw [if_pos z] at h; exact h) H locs cells slots ls hP hS hc hs hlv)
  · exact lv_icmp_lt hx hb hd ht (fun z => h1 (by rw [if_pos z] at h; exact h) H locs cells slots ls hP hS hc hs hlv) (fun z => h2 (by rw [if_neg z] at h; exact h) H locs cells slots ls hP hS hc hs hlv)
  · exact lv_icmp_ge hx hb hd ht (fun z => h1 (by rw [if_pos z] at h; exact h) H locs cells slots ls hP hS hc hs hlv) (fun z => h2 (by rw [if_neg z] at h; exact h) H locs cells slots ls hP hS hc hs hlv)
  · exact lv_icmp_gt hx hb hd ht (fun z => h1 (by rw [if_pos z] at h; exact h) H locs cells slots ls hP hS hc hs hlv) (fun z => h2 (by rw [if_neg z] at h; exact h) H locs cells slots ls hP hS hc hs hlv)
  · exact lv_icmp_le hx hb hd ht (fun z => h1 (by rw [if_pos z] at h; exact h) H locs cells slots ls hP hS hc hs hlv) (fun z => h2 (by rw [if_neg z] at h; exact h) H locs cells slots ls hP hS hc hs hlv)
theorem tm_if_ok (hx : p.tables.exec = Jvm.exec) (hb : c.code = cc) {q : ClassFile.Cond} {x : Int32} {f1 f2 : Option tm_R} {r : tm_R} {pc tgt : Nat} {off : Int} {al : tm_A} {st : List Value} {M : tm_M} (h : tm_cmp q x 0 f1 f2 = some r) (ht : (pc : Int) + off = (tgt : Int)) (hd : decode cc pc = .ok (.ifCond q off, 3))
    (h1 : f1 = some r → tm_Ok S cA D B p l e R s m args below meth c nL z0 s0 Q tgt al st M) (h2 : f2 = some r → tm_Ok S cA D B p l e R s m args below meth c nL z0 s0 Q (pc + 3) al st M) : tm_Ok S cA D B p l e R s m args below meth c nL z0 s0 Q pc al (.int x :: st) M := by
  intro H locs cells slots ls hP hS hc hs hlv
  cases q <;> simp only [tm_cmp] at h
  · exact lv_if_eq hx hb hd ht (fun z => h1 (by rw [if_pos z] at h; exact h) H locs cells slots ls hP hS hc hs hlv) (fun z => h2 (by rw [if_neg z] at h; exact h) H locs cells slots ls hP hS hc hs hlv)
  · exact lv_if_ne hx hb hd ht (fun z => h1 (by rw [if_neg z] at h; exact h) H locs cells slots ls hP hS hc hs hlv) (fun z => h2 (by rw [if_pos z] at h; exact h) H locs cells slots ls hP hS hc hs hlv)
  · exact lv_if_lt hx hb hd ht (fun z => h1 (by rw [if_pos z] at h; exact h) H locs cells slots ls hP hS hc hs hlv) (fun z => h2 (by rw [if_neg z] at h; exact h) H locs cells slots ls hP hS hc hs hlv)
  · exact lv_if_ge hx hb hd ht (fun z => h1 (by rw [if_pos z] at h; exact h) H locs cells slots ls hP hS hc hs hlv) (fun z => h2 (by rw [if_neg z] at h; exact h) H locs cells slots ls hP hS hc hs hlv)
  · exact lv_if_gt hx hb hd ht (fun z => h1 (by rw [if_pos z] at h; exact h) H locs cells slots ls hP hS hc hs hlv) (fun z => h2 (by rw [if_neg z] at h; exact h) H locs cells slots ls hP hS hc hs hlv)
  · exact lv_if_le hx hb hd ht (fun z => h1 (by rw [if_pos z] at h; exact h) H locs cells slots ls hP hS hc hs hlv) (fun z => h2 (by rw [if_neg z] at h; exact h) H locs cells slots ls hP hS hc hs hlv)
/-- what a call comes to -/
theorem tm_call_e {pc id rk : Nat} {as rest : List Value} {al : tm_A} {M : tm_M} {r : tm_R} (h : tm_call G go pc id rk as rest al M = some r) : tm_w rest ≤ 8 ∧ ∃ q, G id as M = some q ∧ go (pc + 3) al (q.1.toList ++ rest) q.2 = some r := by
  unfold tm_call at h
  rcases tm_ite_e h with ⟨_, h⟩ | ⟨hw, h⟩
  · cases h
  · refine ⟨by omega, ?_⟩
    split at h
    · obtain ⟨M', h1, h2⟩ := tm_bV_e h
      exact ⟨_, h1, h2⟩
    · obtain ⟨x, M', h1, h2⟩ := tm_bI_e h
      exact ⟨_, h1, h2⟩
    · obtain ⟨x, M', h1, h2⟩ := tm_bJ_e h
      exact ⟨_, h1, h2⟩
theorem tm_take {st : List Value} {n : Nat} (h : ¬ st.length < n) : (st.take n).reverse.length = n := by
  simp
  omega
set_option maxHeartbeats 2000000 in
theorem tm_ex_ok {ret : Option FieldType} {i : Instr} {x1 x2 x3 len pc : Nat} {al : tm_A} {st : List Value} {M : tm_M} {r : tm_R} (hC : tm_Cx S cA D B p s m args meth c cc own ini nL z0) (hX : tm_XOk B s X) (hG : tm_Gg G) (hGm : ∀ id as M r, G id as M = some r → tm_MA S l (mt id) as M r) (hG9 : ∀ as M, G 9001 as M = none ∧ G 9002 as M = none)
    (hRc : tm_z r.2 ≤ R.cells + z0) (hRs : tm_s r.2 ≤ R.slots + s0) (hgr : ∀ pc al st M, go pc al st M = some r → tm_gr M r.2) (hgo : ∀ pc al st M, go pc al st M = some r → tm_Ok S cA D B p l e R s m args below meth c nL z0 s0 Q pc al st M)
    (hret : tm_Ret S cA D B p l e R s m args below meth c cc nL z0 s0 Q ret tz r) (hrt : tm_rtc ret tz i = true) (hd : decode cc pc = .ok (i, len)) (hck : tm_chk nL pc i len x1 x2 x3 = true) (hln : tm_lnk own ini mt R.frames R.locals i x1 x2 x3) (hstr : tm_Str B p l e R s m args below meth c cc nL Q i x1 x3)
    (h : tm_ex S X G tz go i x1 x2 x3 pc al st M = some r) : tm_Ok S cA D B p l e R s m args below meth c nL z0 s0 Q pc al st M := by
  have hC' := hC
  obtain ⟨hx, hb, hml, hown, hts, hKU, hz, hSok, hCL, -⟩ := hC
  have hnone : ∀ {P : Prop}, (none : Option tm_R) = some r → P := fun h => by cases h
  unfold tm_ex at h
  split at h
  -- aload_n
  · obtain rfl : len = 1 := by simpa [tm_chk] using hck
    obtain ⟨a, h1, h⟩ := tm_la_e h
    intro H locs cells slots ls hP hS hc hs hlv
    have hl := tm_lv hlv h1
    have hk := hgo _ _ _ _ h H locs cells slots ls hP hS hc hs hlv
    rcases Nat.eq_zero_or_pos a with rfl | ha
    · exact lv_aload_nN hx hb hd rfl hl hk
    · rw [tm_rl_ref (by omega)] at hl
      rw [List.map_cons, tm_rl_ref (by omega)] at hk
      exact lv_aload_n hx hb hd rfl hl hk
  -- aload
  · obtain rfl : len = 2 := by simpa [tm_chk] using hck
    obtain ⟨a, h1, h⟩ := tm_la_e h
    intro H locs cells slots ls hP hS hc hs hlv
    have hl := tm_lv hlv h1
    have hk := hgo _ _ _ _ h H locs cells slots ls hP hS hc hs hlv
    rcases Nat.eq_zero_or_pos a with rfl | ha
    · exact lv_aloadN hx hb hd hl hk
    · rw [tm_rl_ref (by omega)] at hl
      rw [List.map_cons, tm_rl_ref (by omega)] at hk
      exact lv_aload hx hb hd hl hk
  -- iload_n
  · obtain rfl : len = 1 := by simpa [tm_chk] using hck
    obtain ⟨a, h1, h⟩ := tm_li_e h
    intro H locs cells slots ls hP hS hc hs hlv
    exact lv_iload_n hx hb hd rfl (tm_lv hlv h1) (hgo _ _ _ _ h H locs cells slots ls hP hS hc hs hlv)
  -- iload
  · obtain rfl : len = 2 := by simpa [tm_chk] using hck
    obtain ⟨a, h1, h⟩ := tm_li_e h
    intro H locs cells slots ls hP hS hc hs hlv
    exact lv_iload hx hb hd (tm_lv hlv h1) (hgo _ _ _ _ h H locs cells slots ls hP hS hc hs hlv)
  -- lload_n
  · obtain rfl : len = 1 := by simpa [tm_chk] using hck
    obtain ⟨a, h1, h⟩ := tm_ll_e h
    intro H locs cells slots ls hP hS hc hs hlv
    exact lv_lload_n hx hb hd rfl (tm_lv hlv h1) (hgo _ _ _ _ h H locs cells slots ls hP hS hc hs hlv)
  -- lload
  · obtain rfl : len = 2 := by simpa [tm_chk] using hck
    obtain ⟨a, h1, h⟩ := tm_ll_e h
    intro H locs cells slots ls hP hS hc hs hlv
    exact lv_lload hx hb hd (tm_lv hlv h1) (hgo _ _ _ _ h H locs cells slots ls hP hS hc hs hlv)
  -- istore_n
  · simp only [tm_chk, Bool.and_eq_true, beq_iff_eq, decide_eq_true_eq] at hck
    obtain ⟨rfl, hn⟩ := hck
    obtain ⟨a, t, rfl, h⟩ := tm_p1_e h
    intro H locs cells slots ls hP hS hc hs hlv
    exact lv_istore_n hx hb hd rfl hlv hn (tm_fm1 (v := .int a)) fun ls hl => hgo _ _ _ _ h H locs cells slots ls hP hS hc hs hl
  -- istore
  · simp only [tm_chk, Bool.and_eq_true, beq_iff_eq, decide_eq_true_eq] at hck
    obtain ⟨rfl, hn⟩ := hck
    obtain ⟨a, t, rfl, h⟩ := tm_p1_e h
    intro H locs cells slots ls hP hS hc hs hlv
    exact lv_istore hx hb hd hlv hn (tm_fm1 (v := .int a)) fun ls hl => hgo _ _ _ _ h H locs cells slots ls hP hS hc hs hl
  -- astore_n
  · simp only [tm_chk, Bool.and_eq_true, beq_iff_eq, decide_eq_true_eq] at hck
    obtain ⟨rfl, hn⟩ := hck
    obtain ⟨a, t, rfl, h⟩ := tm_pr_e h
    intro H locs cells slots ls hP hS hc hs hlv
    rcases Nat.eq_zero_or_pos a with rfl | ha
    · exact lv_astore_nN hx hb hd rfl hlv hn (tm_fm1 (v := .ref 0)) fun ls hl => hgo _ _ _ _ h H locs cells slots ls hP hS hc hs hl
    · rw [List.map_cons, tm_rl_ref (by omega)]
      refine lv_astore_n hx hb hd rfl hlv hn ?_ fun ls hl => hgo _ _ _ _ h H locs cells slots ls hP hS hc hs hl
      rw [← tm_fm1, tm_rl_ref (by omega)]
  -- astore
  · simp only [tm_chk, Bool.and_eq_true, beq_iff_eq, decide_eq_true_eq] at hck
    obtain ⟨rfl, hn⟩ := hck
    obtain ⟨a, t, rfl, h⟩ := tm_pr_e h
    intro H locs cells slots ls hP hS hc hs hlv
    rcases Nat.eq_zero_or_pos a with rfl | ha
    · exact lv_astoreN hx hb hd hlv hn (tm_fm1 (v := .ref 0)) fun ls hl => hgo _ _ _ _ h H locs cells slots ls hP hS hc hs hl
    · rw [List.map_cons, tm_rl_ref (by omega)]
      refine lv_astore hx hb hd hlv hn ?_ fun ls hl => hgo _ _ _ _ h H locs cells slots ls hP hS hc hs hl
      rw [← tm_fm1, tm_rl_ref (by omega)]
  -- lstore_n
  · simp only [tm_chk, Bool.and_eq_true, beq_iff_eq, decide_eq_true_eq] at hck
    obtain ⟨rfl, hn⟩ := hck
    split at h
    · rename_i a t
      intro H locs cells slots ls hP hS hc hs hlv
      exact lv_lstore_n hx hb hd rfl hlv hn (tm_fm2 (v := .long a)) fun ls hl => hgo _ _ _ _ h H locs cells slots ls hP hS hc hs hl
    · exact hnone h
  -- lstore
  · simp only [tm_chk, Bool.and_eq_true, beq_iff_eq, decide_eq_true_eq] at hck
    obtain ⟨rfl, hn⟩ := hck
    split at h
    · rename_i a t
      intro H locs cells slots ls hP hS hc hs hlv
      exact lv_lstore hx hb hd hlv hn (tm_fm2 (v := .long a)) fun ls hl => hgo _ _ _ _ h H locs cells slots ls hP hS hc hs hl
    · exact hnone h
  -- iinc
  · simp only [tm_chk, Bool.and_eq_true, beq_iff_eq, decide_eq_true_eq] at hck
    obtain ⟨rfl, hn⟩ := hck
    obtain ⟨a, h1, h⟩ := tm_li_e h
    intro H locs cells slots ls hP hS hc hs hlv
    obtain ⟨k, hk⟩ := List.getElem?_of_mem (List.mem_map.mpr ⟨_, tm_lg_mem h1, rfl⟩ : _ ∈ al.map (fun q => (q.1, tm_rl B q.2)))
    exact lv_iinc hx hb hd hlv hk rfl hn (tm_fm1 (v := .int (a + Int32.ofInt _))) fun ls hl => hgo _ _ _ _ h H locs cells slots ls hP hS hc hs hl
  -- iconst
  · obtain rfl : len = 1 := by simpa [tm_chk] using hck
    intro H locs cells slots ls hP hS hc hs hlv
    exact lv_iconst hx hb hd rfl (hgo _ _ _ _ h H locs cells slots ls hP hS hc hs hlv)
  -- bipush
  · obtain rfl : len = 2 := by simpa [tm_chk] using hck
    intro H locs cells slots ls hP hS hc hs hlv
    exact lv_bipush hx hb hd rfl (hgo _ _ _ _ h H locs cells slots ls hP hS hc hs hlv)
  -- sipush
  · obtain rfl : len = 3 := by simpa [tm_chk] using hck
    intro H locs cells slots ls hP hS hc hs hlv
    exact lv_sipush hx hb hd rfl (hgo _ _ _ _ h H locs cells slots ls hP hS hc hs hlv)
  -- lconst
  · obtain rfl : len = 1 := by simpa [tm_chk] using hck
    intro H locs cells slots ls hP hS hc hs hlv
    exact lv_lconst hx hb hd rfl (hgo _ _ _ _ h H locs cells slots ls hP hS hc hs hlv)
  -- ldc
  · obtain rfl : len = 2 := by simpa [tm_chk] using hck
    intro H locs cells slots ls hP hS hc hs hlv
    rcases tm_ite_e h with ⟨h3, h⟩ | ⟨h3, h⟩
    · exact hstr h3 H locs cells slots pc ls _ hd (hgo _ _ _ _ h H locs cells slots ls hP hS hc hs hlv)
    · rcases hln with hln | hln
      · exact absurd hln h3
      · exact lv_ldc hx hb hown (hts _ hln) hd (hgo _ _ _ _ h H locs cells slots ls hP hS hc hs hlv)
  -- ldc_w
  · obtain rfl : len = 3 := by simpa [tm_chk] using hck
    intro H locs cells slots ls hP hS hc hs hlv
    exact lv_ldcw hx hb hown (hts _ hln) hd (hgo _ _ _ _ h H locs cells slots ls hP hS hc hs hlv)
  -- ldc2_w
  · obtain rfl : len = 3 := by simpa [tm_chk] using hck
    intro H locs cells slots ls hP hS hc hs hlv
    exact lv_ldc2 hx hb hown (hts _ hln) hd (hgo _ _ _ _ h H locs cells slots ls hP hS hc hs hlv)
  -- iadd isub imul
  · obtain rfl : len = 1 := by simpa [tm_chk] using hck
    obtain ⟨x, y, t, rfl, h⟩ := tm_p2_e h
    intro H locs cells slots ls hP hS hc hs hlv
    exact lv_iadd hx hb hd (hgo _ _ _ _ h H locs cells slots ls hP hS hc hs hlv)
  · obtain rfl : len = 1 := by simpa [tm_chk] using hck
    obtain ⟨x, y, t, rfl, h⟩ := tm_p2_e h
    intro H locs cells slots ls hP hS hc hs hlv
    exact lv_isub hx hb hd (hgo _ _ _ _ h H locs cells slots ls hP hS hc hs hlv)
  · obtain rfl : len = 1 := by simpa [tm_chk] using hck
    obtain ⟨x, y, t, rfl, h⟩ := tm_p2_e h
    intro H locs cells slots ls hP hS hc hs hlv
    exact lv_imul hx hb hd (hgo _ _ _ _ h H locs cells slots ls hP hS hc hs hlv)
  -- idiv irem
  · obtain rfl : len = 1 := by simpa [tm_chk] using hck
    obtain ⟨x, y, t, rfl, h⟩ := tm_p2_e h
    rcases tm_ite_e h with ⟨_, h⟩ | ⟨hy, h⟩
    · exact hnone h
    · intro H locs cells slots ls hP hS hc hs hlv
      exact lv_idiv hx hb hd hy (hgo _ _ _ _ h H locs cells slots ls hP hS hc hs hlv)
  · obtain rfl : len = 1 := by simpa [tm_chk] using hck
    obtain ⟨x, y, t, rfl, h⟩ := tm_p2_e h
    rcases tm_ite_e h with ⟨_, h⟩ | ⟨hy, h⟩
    · exact hnone h
    · intro H locs cells slots ls hP hS hc hs hlv
      exact lv_irem hx hb hd hy (hgo _ _ _ _ h H locs cells slots ls hP hS hc hs hlv)
  -- iand ior ixor ishl ishr iushr
  · obtain rfl : len = 1 := by simpa [tm_chk] using hck
    obtain ⟨x, y, t, rfl, h⟩ := tm_p2_e h
    intro H locs cells slots ls hP hS hc hs hlv
    exact lv_iand hx hb hd (hgo _ _ _ _ h H locs cells slots ls hP hS hc hs hlv)
  · obtain rfl : len = 1 := by simpa [tm_chk] using hck
    obtain ⟨x, y, t, rfl, h⟩ := tm_p2_e h
    intro H locs cells slots ls hP hS hc hs hlv
    exact lv_ior hx hb hd (hgo _ _ _ _ h H locs cells slots ls hP hS hc hs hlv)
  · obtain rfl : len = 1 := by simpa [tm_chk] using hck
    obtain ⟨x, y, t, rfl, h⟩ := tm_p2_e h
    intro H locs cells slots ls hP hS hc hs hlv
    exact lv_ixor hx hb hd (hgo _ _ _ _ h H locs cells slots ls hP hS hc hs hlv)
  · obtain rfl : len = 1 := by simpa [tm_chk] using hck
    obtain ⟨x, y, t, rfl, h⟩ := tm_p2_e h
    intro H locs cells slots ls hP hS hc hs hlv
    exact lv_ishl hx hb hd (hgo _ _ _ _ h H locs cells slots ls hP hS hc hs hlv)
  · obtain rfl : len = 1 := by simpa [tm_chk] using hck
    obtain ⟨x, y, t, rfl, h⟩ := tm_p2_e h
    intro H locs cells slots ls hP hS hc hs hlv
    exact lv_ishr hx hb hd (hgo _ _ _ _ h H locs cells slots ls hP hS hc hs hlv)
  · obtain rfl : len = 1 := by simpa [tm_chk] using hck
    obtain ⟨x, y, t, rfl, h⟩ := tm_p2_e h
    intro H locs cells slots ls hP hS hc hs hlv
    exact lv_iushr hx hb hd rfl (hgo _ _ _ _ h H locs cells slots ls hP hS hc hs hlv)
  -- ladd lmul lor
  · obtain rfl : len = 1 := by simpa [tm_chk] using hck
    obtain ⟨x, y, t, rfl, h⟩ := tm_pl_e h
    intro H locs cells slots ls hP hS hc hs hlv
    exact lv_ladd hx hb hd (hgo _ _ _ _ h H locs cells slots ls hP hS hc hs hlv)
  · obtain rfl : len = 1 := by simpa [tm_chk] using hck
    obtain ⟨x, y, t, rfl, h⟩ := tm_pl_e h
    intro H locs cells slots ls hP hS hc hs hlv
    exact lv_lmul hx hb hd (hgo _ _ _ _ h H locs cells slots ls hP hS hc hs hlv)
  · obtain rfl : len = 1 := by simpa [tm_chk] using hck
    obtain ⟨x, y, t, rfl, h⟩ := tm_pl_e h
    intro H locs cells slots ls hP hS hc hs hlv
    exact lv_lor hx hb hd (hgo _ _ _ _ h H locs cells slots ls hP hS hc hs hlv)
  · obtain rfl : len = 1 := by simpa [tm_chk] using hck
    obtain ⟨x, y, t, rfl, h⟩ := tm_pl_e h
    intro H locs cells slots ls hP hS hc hs hlv
    exact lv_land hx hb hd (hgo _ _ _ _ h H locs cells slots ls hP hS hc hs hlv)
  · obtain rfl : len = 1 := by simpa [tm_chk] using hck
    obtain ⟨x, y, t, rfl, h⟩ := tm_pl_e h
    intro H locs cells slots ls hP hS hc hs hlv
    exact lv_lxor hx hb hd (hgo _ _ _ _ h H locs cells slots ls hP hS hc hs hlv)
  -- lshl
  · obtain rfl : len = 1 := by simpa [tm_chk] using hck
    split at h
    · intro H locs cells slots ls hP hS hc hs hlv
      exact lv_lshl hx hb hd rfl (hgo _ _ _ _ h H locs cells slots ls hP hS hc hs hlv)
    · exact hnone h
  · obtain rfl : len = 1 := by simpa [tm_chk] using hck
    split at h
    · intro H locs cells slots ls hP hS hc hs hlv
      exact lv_lshr hx hb hd rfl (hgo _ _ _ _ h H locs cells slots ls hP hS hc hs hlv)
    · exact hnone h
  -- lcmp
  · obtain rfl : len = 1 := by simpa [tm_chk] using hck
    obtain ⟨x, y, t, rfl, h⟩ := tm_pl_e h
    intro H locs cells slots ls hP hS hc hs hlv
    exact W.lcmp hx hb hd (hgo _ _ _ _ h H locs cells slots ls hP hS hc hs hlv)
  -- i2l i2b
  · obtain rfl : len = 1 := by simpa [tm_chk] using hck
    obtain ⟨x, t, rfl, h⟩ := tm_p1_e h
    intro H locs cells slots ls hP hS hc hs hlv
    exact lv_i2l hx hb hd rfl (hgo _ _ _ _ h H locs cells slots ls hP hS hc hs hlv)
  · obtain rfl : len = 1 := by simpa [tm_chk] using hck
    obtain ⟨x, t, rfl, h⟩ := tm_p1_e h
    intro H locs cells slots ls hP hS hc hs hlv
    exact lv_i2b hx hb hd rfl (hgo _ _ _ _ h H locs cells slots ls hP hS hc hs hlv)
  · obtain rfl : len = 1 := by simpa [tm_chk] using hck
    split at h
    · intro H locs cells slots ls hP hS hc hs hlv
      exact lv_l2i hx hb hd rfl (hgo _ _ _ _ h H locs cells slots ls hP hS hc hs hlv)
    · exact hnone h
  -- dup
  · obtain rfl : len = 1 := by simpa [tm_chk] using hck
    split at h
    · rcases tm_ite_e h with ⟨hv, h⟩ | ⟨_, h⟩
      · intro H locs cells slots ls hP hS hc hs hlv
        exact lv_dup hx hb hd (by rw [tm_rl_cat]; exact hv) (hgo _ _ _ _ h H locs cells slots ls hP hS hc hs hlv)
      · exact hnone h
    · exact hnone h
  -- dup2
  · obtain rfl : len = 1 := by simpa [tm_chk] using hck
    split at h
    · rcases tm_ite_e h with ⟨hv, h⟩ | ⟨_, h⟩
      · intro H locs cells slots ls hP hS hc hs hlv
        exact lv_dup2_11 hx hb hd (by rw [tm_rl_cat]; exact hv.1) (by rw [tm_rl_cat]; exact hv.2) (hgo _ _ _ _ h H locs cells slots ls hP hS hc hs hlv)
      · exact hnone h
    · exact hnone h
  -- goto
  · simp only [tm_chk, Bool.and_eq_true, beq_iff_eq, decide_eq_true_eq] at hck
    obtain ⟨rfl, hn⟩ := hck
    intro H locs cells slots ls hP hS hc hs hlv
    exact lv_goto hx hb hd hn (hgo _ _ _ _ h H locs cells slots ls hP hS hc hs hlv)
  -- ifCond
  · simp only [tm_chk, Bool.and_eq_true, beq_iff_eq, decide_eq_true_eq] at hck
    obtain ⟨rfl, hn⟩ := hck
    obtain ⟨x, t, rfl, h⟩ := tm_p1_e h
    exact tm_if_ok hx hb h hn hd (hgo _ _ _ _) (hgo _ _ _ _)
  -- if_icmp
  · simp only [tm_chk, Bool.and_eq_true, beq_iff_eq, decide_eq_true_eq] at hck
    obtain ⟨rfl, hn⟩ := hck
    obtain ⟨x, y, t, rfl, h⟩ := tm_p2_e h
    exact tm_cmp_ok hx hb h hn hd (hgo _ _ _ _) (hgo _ _ _ _)
  -- tableswitch
  · simp only [tm_chk, Bool.and_eq_true, decide_eq_true_eq, List.all_eq_true] at hck
    obtain ⟨x, t, rfl, h⟩ := tm_p1_e h
    exact tm_sw_ok hx hb (fun q hq => hgo _ _ _ _ hq) hd hck.1.1 hck.1.2 hck.2 h
  -- lookupswitch
  · simp only [tm_chk, Bool.and_eq_true, decide_eq_true_eq] at hck
    obtain ⟨x, t, rfl, h⟩ := tm_p1_e h
    exact tm_lk_ok hx hb (fun q hq => hgo _ _ _ _ hq) hd hck.1.1 hck.1.2 (fun o ho => by have := List.all_eq_true.mp hck.2 o ho; simpa using this) h
  -- getfield
  · simp only [tm_chk, Bool.and_eq_true, beq_iff_eq, decide_eq_true_eq] at hck
    obtain ⟨⟨rfl, h3⟩, hn⟩ := hck
    obtain ⟨a, t, rfl, h⟩ := tm_pr_e h
    rcases tm_ite_e h with ⟨hk, h⟩ | ⟨_, h⟩
    · obtain ⟨g1, -, -⟩ := tm_kd_pos hSok.1 hSok.2.1 hk (by omega)
      intro H locs cells slots ls hP hS hc hs hlv
      rw [List.map_cons, tm_rl_ref (by omega)]
      refine tm_get_ok hC' hP hk hln hn hd ?_
      unfold tm_fv
      split at h
      · rw [if_pos h3.symm]
        exact hgo _ _ _ _ h H locs cells slots ls hP hS hc hs hlv
      · rw [if_neg (by omega), if_pos h3.symm]
        exact hgo _ _ _ _ h H locs cells slots ls hP hS hc hs hlv
      · rename_i n0 n1
        rw [if_neg (fun z => n0 (h3.trans z)), if_neg (fun z => n1 (h3.trans z))]
        exact hgo _ _ _ _ h H locs cells slots ls hP hS hc hs hlv
    · exact hnone h
  -- putfield
  · simp only [tm_chk, Bool.and_eq_true, beq_iff_eq, decide_eq_true_eq] at hck
    obtain ⟨⟨rfl, hn⟩, hty⟩ := hck
    split at h
    · rename_i v a t
      rcases tm_ite_e h with ⟨hk, h⟩ | ⟨_, h⟩
      · obtain ⟨g1, -, -⟩ := tm_kd_pos hSok.1 hSok.2.1 hk (by omega)
        have hT : tm_ty x1 x2 = .int := by
          revert hty
          cases tm_ty x1 x2 <;> simp
        have hF : tm_ft x1 x2 = 0 := by unfold tm_ft; rw [hT]; rfl
        intro H locs cells slots ls hP hS hc hs hlv
        rw [List.map_cons, List.map_cons, tm_rl_ref (n := a) (by omega)]
        refine tm_put_ok (M' := tm_si M a x2 v) hC' hP hS hk hln hn hd (by rw [hT]; rfl) (by rw [hT]; rfl) rfl ?_ ?_ (fun n hn => tm_e_si hn) fun H1 l1 q1 q3 => hgo _ _ _ _ h H1 l1 cells slots ls q1 q3 hc hs hlv
        · unfold tm_fv; rw [if_pos hF, tm_i_si]; simp [upd, tm_rl]
        · intro j hj; unfold tm_fv; rw [tm_i_si]; simp [upd, hj]; rfl
      · exact hnone h
    · rename_i v a t
      rcases tm_ite_e h with ⟨hk, h⟩ | ⟨_, h⟩
      · obtain ⟨g1, -, -⟩ := tm_kd_pos hSok.1 hSok.2.1 hk (by omega)
        have hT : tm_ty x1 x2 = .long := by
          revert hty
          cases tm_ty x1 x2 <;> simp
        have hF : tm_ft x1 x2 = 1 := by unfold tm_ft; rw [hT]; rfl
        intro H locs cells slots ls hP hS hc hs hlv
        rw [List.map_cons, List.map_cons, tm_rl_ref (n := a) (by omega)]
        refine tm_put_ok (M' := tm_sj M a x2 v) hC' hP hS hk hln hn hd (by rw [hT]; rfl) (by rw [hT]; rfl) rfl ?_ ?_ (fun n hn => tm_e_sj hn) fun H1 l1 q1 q3 => hgo _ _ _ _ h H1 l1 cells slots ls q1 q3 hc hs hlv
        · unfold tm_fv; rw [if_neg (by omega), if_pos hF, tm_j_sj]; simp [vp_updL, tm_rl]
        · intro j hj; unfold tm_fv; rw [tm_j_sj]; simp [vp_updL, hj]; rfl
      · exact hnone h
    · rename_i v a t
      rcases tm_ite_e h with ⟨hk, h⟩ | ⟨_, h⟩
      · obtain ⟨g1, -, -⟩ := tm_kd_pos hSok.1 hSok.2.1 hk (by omega)
        have hT : (∃ n, tm_ty x1 x2 = .object n) ∨ ∃ n, tm_ty x1 x2 = .array n := by
          revert hty
          cases tm_ty x1 x2 <;> simp
        have hF : tm_ft x1 x2 = 2 := by unfold tm_ft; rcases hT with ⟨n, hT⟩ | ⟨n, hT⟩ <;> rw [hT] <;> rfl
        intro H locs cells slots ls hP hS hc hs hlv
        rw [List.map_cons, List.map_cons, tm_rl_ref (n := a) (by omega)]
        have hvv : tm_rl B (.ref v) = .null ∨ ∃ q, tm_rl B (.ref v) = .ref q := by
          rcases Nat.eq_zero_or_pos v with rfl | hv
          · exact Or.inl rfl
          · exact Or.inr ⟨_, tm_rl_ref (by omega)⟩
        refine tm_put_ok (M' := tm_sr M a x2 v) hC' hP hS hk hln hn hd ?_ ?_ rfl ?_ ?_ (fun n hn => tm_e_sr hn) fun H1 l1 q1 q3 => hgo _ _ _ _ h H1 l1 cells slots ls q1 q3 hc hs hlv
        · rcases hT with ⟨n, hT⟩ | ⟨n, hT⟩ <;> rw [hT] <;> rcases hvv with e | ⟨q, e⟩ <;> rw [e] <;> rfl
        · rcases hT with ⟨n, hT⟩ | ⟨n, hT⟩ <;> rw [hT] <;> rcases hvv with e | ⟨q, e⟩ <;> rw [e] <;> rfl
        · unfold tm_fv; rw [if_neg (by omega), if_neg (by omega), tm_r_sr]; simp [va_up, tm_rl]
        · intro j hj; unfold tm_fv; rw [tm_r_sr]; simp [va_up, hj]; rfl
      · exact hnone h
    · rename_i v a t
      rcases tm_ite_e h with ⟨hk, h⟩ | ⟨_, h⟩
      · rcases tm_ite_e h with ⟨hv, h⟩ | ⟨_, h⟩
        · obtain ⟨g1, -, -⟩ := tm_kd_pos hSok.1 hSok.2.1 hk (by omega)
          have hT : tm_ty x1 x2 = .boolean := by
            revert hty
            cases tm_ty x1 x2 <;> simp
          have hF : tm_ft x1 x2 = 0 := by unfold tm_ft; rw [hT]; rfl
          intro H locs cells slots ls hP hS hc hs hlv
          rw [List.map_cons, List.map_cons, tm_rl_ref (n := a) (by omega)]
          refine tm_put_ok (M' := tm_si M a x2 v) hC' hP hS hk hln hn hd ?_ ?_ rfl ?_ ?_ (fun n hn => tm_e_si hn) fun H1 l1 q1 q3 => hgo _ _ _ _ h H1 l1 cells slots ls q1 q3 hc hs hlv
          · rw [hT]; rcases hv with rfl | rfl <;> rfl
          · rw [hT]; rcases hv with rfl | rfl <;> rfl
          · unfold tm_fv; rw [if_pos hF, tm_i_si]; simp [upd, tm_rl]
          · intro j hj; unfold tm_fv; rw [tm_i_si]; simp [upd, hj]; rfl
        · exact hnone h
      · exact hnone h
    · exact hnone h
  -- iaload
  · obtain rfl : len = 1 := by simpa [tm_chk] using hck
    obtain ⟨j, a, t, rfl, h⟩ := tm_pa_e h
    rcases tm_ite_e h with ⟨rfl, h⟩ | ⟨_, h⟩
    · split at h
      · rename_i q
        rcases tm_ite_e h with ⟨hj, h⟩ | ⟨_, h⟩
        · obtain ⟨hX1, hX2, hX3⟩ := hX
          intro H locs cells slots ls hP hS hc hs hlv
          exact va_sld hx hb hX1 hX2 hX3 hS (tm_vpin hj) hd (hgo _ _ _ _ h H locs cells slots ls hP hS hc hs hlv)
        · exact hnone h
      · exact hnone h
    · rcases tm_ite_e h with ⟨hk, h⟩ | ⟨_, h⟩
      · rcases tm_ite_e h with ⟨hj, h⟩ | ⟨_, h⟩
        · obtain ⟨g1, -, -⟩ := tm_kd_pos hSok.1 hSok.2.1 hk (by omega)
          intro H locs cells slots ls hP hS hc hs hlv
          rw [List.map_cons, List.map_cons, tm_rl_ref (n := a) (by omega)]
          exact tm_ald_i hC' hP hk hj hd (hgo _ _ _ _ h H locs cells slots ls hP hS hc hs hlv)
        · exact hnone h
      · exact hnone h
  -- baload
  · obtain rfl : len = 1 := by simpa [tm_chk] using hck
    obtain ⟨j, a, t, rfl, h⟩ := tm_pa_e h
    rcases tm_ite_e h with ⟨hk, h⟩ | ⟨_, h⟩
    · rcases tm_ite_e h with ⟨hj, h⟩ | ⟨_, h⟩
      · have g1 : 2 ≤ a := by rcases hk with hk | hk <;> exact (tm_kd_pos hSok.1 hSok.2.1 hk (by omega)).1
        have g0 : a ≠ 0 := Nat.ne_of_gt (Nat.lt_of_lt_of_le Nat.zero_lt_two g1)
        intro H locs cells slots ls hP hS hc hs hlv
        rw [List.map_cons, List.map_cons, tm_rl_ref (n := a) g0]
        exact tm_ald_b hC' hP hk hj hd (hgo _ _ _ _ h H locs cells slots ls hP hS hc hs hlv)
      · exact hnone h
    · exact hnone h
  -- laload
  · obtain rfl : len = 1 := by simpa [tm_chk] using hck
    obtain ⟨j, a, t, rfl, h⟩ := tm_pa_e h
    rcases tm_ite_e h with ⟨hk, h⟩ | ⟨_, h⟩
    · rcases tm_ite_e h with ⟨hj, h⟩ | ⟨_, h⟩
      · obtain ⟨g1, -, -⟩ := tm_kd_pos hSok.1 hSok.2.1 hk (by omega)
        intro H locs cells slots ls hP hS hc hs hlv
        rw [List.map_cons, List.map_cons, tm_rl_ref (n := a) (by omega)]
        exact tm_ald_l hC' hP hk hj hd (hgo _ _ _ _ h H locs cells slots ls hP hS hc hs hlv)
      · exact hnone h
    · exact hnone h
  -- aaload
  · obtain rfl : len = 1 := by simpa [tm_chk] using hck
    obtain ⟨j, a, t, rfl, h⟩ := tm_pa_e h
    rcases tm_ite_e h with ⟨hk, h⟩ | ⟨_, h⟩
    · rcases tm_ite_e h with ⟨hj, h⟩ | ⟨_, h⟩
      · have g1 : 2 ≤ a := by rcases hk with hk | hk <;> exact (tm_kd_pos hSok.1 hSok.2.1 hk (by omega)).1
        have g0 : a ≠ 0 := Nat.ne_of_gt (Nat.lt_of_lt_of_le Nat.zero_lt_two g1)
        intro H locs cells slots ls hP hS hc hs hlv
        rw [List.map_cons, List.map_cons, tm_rl_ref (n := a) g0]
        exact tm_ald_a hC' hP hk hj hd (hgo _ _ _ _ h H locs cells slots ls hP hS hc hs hlv)
      · exact hnone h
    · exact hnone h
  -- iastore
  · obtain rfl : len = 1 := by simpa [tm_chk] using hck
    obtain ⟨v, t, rfl, h⟩ := tm_p1_e h
    obtain ⟨j, a, t, rfl, h⟩ := tm_pa_e h
    rcases tm_ite_e h with ⟨hk, h⟩ | ⟨_, h⟩
    · rcases tm_ite_e h with ⟨hj, h⟩ | ⟨_, h⟩
      · obtain ⟨g1, -, -⟩ := tm_kd_pos hSok.1 hSok.2.1 hk (by omega)
        intro H locs cells slots ls hP hS hc hs hlv
        rw [List.map_cons, List.map_cons, List.map_cons, tm_rl_ref (n := a) (by omega)]
        exact tm_ast_i hC' hP hS hk hj hd fun H1 l1 q1 q3 => hgo _ _ _ _ h H1 l1 cells slots ls q1 q3 hc hs hlv
      · exact hnone h
    · exact hnone h
  -- bastore
  · obtain rfl : len = 1 := by simpa [tm_chk] using hck
    obtain ⟨v, t, rfl, h⟩ := tm_p1_e h
    obtain ⟨j, a, t, rfl, h⟩ := tm_pa_e h
    rcases tm_ite_e h with ⟨hk, h⟩ | ⟨_, h⟩
    · rcases tm_ite_e h with ⟨hj, h⟩ | ⟨_, h⟩
      · obtain ⟨g1, -, -⟩ := tm_kd_pos hSok.1 hSok.2.1 hk (by omega)
        intro H locs cells slots ls hP hS hc hs hlv
        rw [List.map_cons, List.map_cons, List.map_cons, tm_rl_ref (n := a) (by omega)]
        exact tm_ast_b hC' hP hS hk hj hd fun H1 l1 q1 q3 => hgo _ _ _ _ h H1 l1 cells slots ls q1 q3 hc hs hlv
      · exact hnone h
    · rcases tm_ite_e h with ⟨hk, h⟩ | ⟨_, h⟩
      · rcases tm_ite_e h with ⟨hj, h⟩ | ⟨_, h⟩
        · obtain ⟨g1, -, -⟩ := tm_kd_pos hSok.1 hSok.2.1 hk (by omega)
          intro H locs cells slots ls hP hS hc hs hlv
          rw [List.map_cons, List.map_cons, List.map_cons, tm_rl_ref (n := a) (by omega)]
          exact tm_ast_z hC' hP hS hk hj hd fun H1 l1 q1 q3 => hgo _ _ _ _ h H1 l1 cells slots ls q1 q3 hc hs hlv
        · exact hnone h
      · exact hnone h
  -- lastore
  · obtain rfl : len = 1 := by simpa [tm_chk] using hck
    split at h
    · obtain ⟨j, a, t, rfl, h⟩ := tm_pa_e h
      rcases tm_ite_e h with ⟨hk, h⟩ | ⟨_, h⟩
      · rcases tm_ite_e h with ⟨hj, h⟩ | ⟨_, h⟩
        · obtain ⟨g1, -, -⟩ := tm_kd_pos hSok.1 hSok.2.1 hk (by omega)
          intro H locs cells slots ls hP hS hc hs hlv
          rw [List.map_cons, List.map_cons, List.map_cons, tm_rl_ref (n := a) (by omega)]
          exact tm_ast_l hC' hP hS hk hj hd fun H1 l1 q1 q3 => hgo _ _ _ _ h H1 l1 cells slots ls q1 q3 hc hs hlv
        · exact hnone h
      · exact hnone h
    · exact hnone h
  -- aastore
  · simp only [tm_chk, Bool.and_eq_true, Bool.or_eq_true, beq_iff_eq] at hck
    obtain ⟨rfl, h12⟩ := hck
    obtain ⟨v, t, rfl, h⟩ := tm_pr_e h
    obtain ⟨j, a, t, rfl, h⟩ := tm_pa_e h
    rcases tm_ite_e h with ⟨⟨_, hk2, hk3⟩, h⟩ | ⟨_, h⟩
    · rcases tm_ite_e h with ⟨hj, h⟩ | ⟨_, h⟩
      · obtain ⟨g1, -, -⟩ := tm_kd_pos hSok.1 hSok.2.1 hk3 (by omega)
        obtain ⟨f1, -, -⟩ := tm_kd_pos hSok.1 hSok.2.1 hk2 (by omega)
        intro H locs cells slots ls hP hS hc hs hlv
        rw [List.map_cons, List.map_cons, List.map_cons, tm_rl_ref (n := a) (by omega), tm_rl_ref (n := v) (by omega)]
        exact tm_ast_a hC' hP hS h12 hk3 hk2 hj hd fun H1 l1 q1 q3 => hgo _ _ _ _ h H1 l1 cells slots ls q1 q3 hc hs hlv
      · exact hnone h
    · exact hnone h
  -- arraylength
  · obtain rfl : len = 1 := by simpa [tm_chk] using hck
    obtain ⟨a, t, rfl, h⟩ := tm_pr_e h
    rcases tm_ite_e h with ⟨rfl, h⟩ | ⟨_, h⟩
    · split at h
      · rename_i q
        obtain ⟨hX1, hX2, hX3⟩ := hX
        intro H locs cells slots ls hP hS hc hs hlv
        exact va_slen hx hb hX1 hX2 hX3 hS hd (hgo _ _ _ _ h H locs cells slots ls hP hS hc hs hlv)
      · exact hnone h
    · rcases tm_ite_e h with ⟨hk, h⟩ | ⟨_, h⟩
      · obtain ⟨g1, -, -⟩ := tm_kd_pos hSok.1 hSok.2.1 (rfl : tm_kd S M a = tm_kd S M a) (by omega)
        intro H locs cells slots ls hP hS hc hs hlv
        rw [List.map_cons, tm_rl_ref (n := a) (by omega)]
        exact tm_alen hC' hP hk hd (hgo _ _ _ _ h H locs cells slots ls hP hS hc hs hlv)
      · exact hnone h
  -- new
  · simp only [tm_chk, Bool.and_eq_true, beq_iff_eq, decide_eq_true_eq] at hck
    obtain ⟨⟨rfl, h2⟩, h1⟩ := hck
    rcases tm_ite_e h with ⟨hsh, h⟩ | ⟨_, h⟩
    · obtain ⟨C, T, N, hcl, l1, l2, l3⟩ := hln
      have hN : N = x2 := by rw [h2]; exact (hCL _ _ _ _ hcl).1
      subst hN
      obtain ⟨q1, q2⟩ := hgr _ _ _ _ h
      simp only [tm_nw, tm_z, tm_s] at q1 q2 hRc hRs
      intro H locs cells slots ls hP hS hc hs hlv
      simp only [tm_z, tm_s] at hc hs
      refine tm_size2 hz hP hS hc fun hsz => ?_
      refine tm_new_ok hC' hP hS hsz hcl l1 l2 l3 hsh (by omega) (by omega) hd fun H1 p1 p2 => ?_
      have hk := hgo _ _ _ _ h H1 locs (cells + 1) (slots + N) ls p1 p2 (by simp only [tm_nw, tm_z]; omega) (by simp only [tm_nw, tm_s]; omega) hlv
      rw [List.map_cons, tm_rl_ref (by omega)] at hk
      exact hk
    · exact hnone h
  -- newarray
  · simp only [tm_chk, Bool.and_eq_true, beq_iff_eq] at hck
    obtain ⟨rfl, hty⟩ := hck
    obtain ⟨n, t, rfl, h⟩ := tm_p1_e h
    rcases tm_ite_e h with ⟨⟨hn0, hn1, hsh⟩, h⟩ | ⟨_, h⟩
    · obtain ⟨q1, q2⟩ := hgr _ _ _ _ h
      simp only [tm_nw, tm_z, tm_s] at q1 q2 hRc hRs
      intro H locs cells slots ls hP hS hc hs hlv
      simp only [tm_z, tm_s] at hc hs
      refine tm_size2 hz hP hS hc fun hsz => ?_
      refine tm_newa_ok hC' hP hS hsz (k := x1) ?_ hln hn0 hn1 hsh (by omega) (by omega) hd fun H1 p1 p2 => ?_
      · revert hty
        split <;> simp
      · have hk := hgo _ _ _ _ h H1 locs (cells + 1) (slots + n.toNatClampNeg) ls p1 p2 (by simp only [tm_nw, tm_z]; omega) (by simp only [tm_nw, tm_s]; omega) hlv
        rw [List.map_cons, tm_rl_ref (by omega)] at hk
        exact hk
    · exact hnone h
  -- anewarray
  · simp only [tm_chk, Bool.and_eq_true, Bool.or_eq_true, beq_iff_eq] at hck
    obtain ⟨rfl, hty⟩ := hck
    obtain ⟨n, t, rfl, h⟩ := tm_p1_e h
    rcases tm_ite_e h with ⟨⟨hn0, hn1, hsh⟩, h⟩ | ⟨_, h⟩
    · obtain ⟨q1, q2⟩ := hgr _ _ _ _ h
      obtain ⟨C, hCk, hl1⟩ := hln
      simp only [tm_nw, tm_z, tm_s] at q1 q2 hRc hRs
      intro H locs cells slots ls hP hS hc hs hlv
      simp only [tm_z, tm_s] at hc hs
      refine tm_size2 hz hP hS hc fun hsz => ?_
      refine tm_newq_ok hC' hP hS hsz hCk hl1 hn0 hn1 hsh (by omega) (by omega) hd fun H1 p1 p2 => ?_
      have hk := hgo _ _ _ _ h H1 locs (cells + 1) (slots + n.toNatClampNeg) ls p1 p2 (by simp only [tm_nw, tm_z]; omega) (by simp only [tm_nw, tm_s]; omega) hlv
      rw [List.map_cons, tm_rl_ref (by omega)] at hk
      exact hk
    · exact hnone h
  -- invokestatic
  · obtain rfl : len = 3 := by simpa [tm_chk] using hck
    split at h
    · obtain ⟨x, y, t, rfl, h⟩ := tm_p2_e h
      rcases tm_ite_e h with ⟨hw, h⟩ | ⟨_, h⟩
      · rcases hln with ⟨_, l1, l2, l3, l4, l5, l6⟩ | ⟨h9, _⟩ | ⟨h9, _⟩
        · obtain ⟨b1, b2⟩ := hgr _ _ _ _ h
          intro H locs cells slots ls hP hS hc hs hlv
          exact va_mmax hx hb (hml.trans hlv.1.symm) hown (hts _ l1) (hts _ l2) (hts _ l3) (hts _ l4) l5 (by rw [tm_w_rl]; omega) (by omega) (by omega) hd (hgo _ _ _ _ h H locs cells slots ls hP hS hc hs hlv)
        · cases h9
        · exact absurd rfl h9
      · exact hnone h
    · obtain ⟨x, y, t, rfl, h⟩ := tm_p2_e h
      rcases tm_ite_e h with ⟨hw, h⟩ | ⟨_, h⟩
      · rcases hln with ⟨h9, _⟩ | ⟨_, l1, l2, l3, l4, l5, l6⟩ | ⟨_, h9, _⟩
        · cases h9
        · obtain ⟨b1, b2⟩ := hgr _ _ _ _ h
          intro H locs cells slots ls hP hS hc hs hlv
          exact va_mmin hx hb (hml.trans hlv.1.symm) hown (hts _ l1) (hts _ l2) (hts _ l3) (hts _ l4) l5 (by rw [tm_w_rl]; omega) (by omega) (by omega) hd (hgo _ _ _ _ h H locs cells slots ls hP hS hc hs hlv)
        · exact absurd rfl h9
      · exact hnone h
    · rename_i n3 n4
      rcases tm_ite_e h with ⟨_, h⟩ | ⟨hl, h⟩
      · exact hnone h
      · obtain ⟨hw, q, hq, h⟩ := tm_call_e h
        rcases hln with ⟨h9, _⟩ | ⟨h9, _⟩ | ⟨_, _, y1, y2, y3, y4⟩
        · exact absurd h9 n3
        · exact absurd h9 n4
        · have hg1 := hG _ _ _ _ hq
          have hg2 := hgr _ _ _ _ h
          intro H locs cells slots ls hP hS hc hs hlv
          refine tm_callS hC' hP hS (hGm _ _ _ _ hq) hg1 y1 y2 y3 y4 (tm_take hl) hw hd ?_ ?_ hc hs hlv (by simp) (hgo _ _ _ _ h)
          · obtain ⟨a1, a2⟩ := hg1; obtain ⟨b1, b2⟩ := hg2; omega
          · obtain ⟨a1, a2⟩ := hg1; obtain ⟨b1, b2⟩ := hg2; omega
  -- invokevirtual
  · obtain rfl : len = 3 := by simpa [tm_chk] using hck
    split at h
    · rename_i a t hdr
      rcases tm_ite_e h with ⟨_, h⟩ | ⟨hl, h⟩
      · exact hnone h
      · rcases tm_ite_e h with ⟨hk, h⟩ | ⟨_, h⟩
        · obtain ⟨hw, q, hq, h⟩ := tm_call_e h
          have hg1 := hG _ _ _ _ hq
          have hg2 := hgr _ _ _ _ h
          rcases hln with rfl | rfl | ⟨y1, y2, y3, y4, y5, T, N, y6⟩
          · rw [(hG9 _ _).1] at hq; cases hq
          · rw [(hG9 _ _).2] at hq; cases hq
          · intro H locs cells slots ls hP hS hc hs hlv
            refine tm_callV hC' hP hS hk y6 (hGm _ _ _ _ hq) hg1 y1 y2 y3 y4 y5 (tm_take hl) hw hd ?_ ?_ hc hs hlv ?_ (hgo _ _ _ _ h)
            · obtain ⟨a1, a2⟩ := hg1; obtain ⟨b1, b2⟩ := hg2; omega
            · obtain ⟨a1, a2⟩ := hg1; obtain ⟨b1, b2⟩ := hg2; omega
            · rw [← hdr]; simp
        · exact hnone h
    · rename_i w t hdr
      split at h
      · rcases tm_ite_e h with ⟨⟨h20, hw⟩, h'⟩ | ⟨_, h'⟩
        · clear h
          have h := h'
          clear h'
          subst h20
          have hst : st = .retAddr w :: t := by simpa using hdr
          subst hst
          intro H locs cells slots ls hP hS hc hs hlv
          obtain ⟨b1, b2⟩ := hgr _ _ _ _ h
          exact hstr.1 rfl H locs cells slots pc ls _ hlv.1 (by rw [tm_w_rl]; exact hw) hS (by omega) (by omega) hd (hgo _ _ _ _ h H locs cells slots ls hP hS hc hs hlv)
        · exact hnone h'
      · rename_i j u
        rcases tm_ite_e h with ⟨⟨h20, hw, hj1, hj2⟩, h'⟩ | ⟨_, h'⟩
        · clear h
          have h := h'
          clear h'
          subst h20
          have hu : u = .retAddr w :: t := by simpa using hdr
          subst hu
          intro H locs cells slots ls hP hS hc hs hlv
          obtain ⟨b1, b2⟩ := hgr _ _ _ _ h
          exact hstr.2 rfl H locs cells slots pc ls _ j hj1 hj2 hlv.1 (by rw [tm_w_rl]; exact hw) hS (by omega) (by omega) hd (hgo _ _ _ _ h H locs cells slots ls hP hS hc hs hlv)
        · exact hnone h'
      · exact hnone h
    · exact hnone h
  -- invokespecial
  · obtain rfl : len = 3 := by simpa [tm_chk] using hck
    split at h
    · rename_i a t hdr
      rcases tm_ite_e h with ⟨_, h⟩ | ⟨hl, h⟩
      · exact hnone h
      · rcases tm_ite_e h with ⟨hk, h⟩ | ⟨_, h⟩
        · obtain ⟨g1, -, -⟩ := tm_kd_pos hSok.1 hSok.2.1 hk (by omega)
          split at h
          · rcases tm_ite_e h with ⟨⟨h20, hw⟩, h'⟩ | ⟨_, h'⟩
            · have hk9 := hgo _ _ _ _ h'
              subst h20
              rcases hln with ⟨_, l1, l2, l3, l4, l5⟩ | ⟨hne, _⟩
              · have hst : st = .ref a :: t := by simpa using hdr
                subst hst
                intro H locs cells slots ls hP hS hc hs hlv
                rw [List.map_cons, tm_rl_ref (n := a) (by omega)]
                exact W.objInit hx hb hown (hts _ l1) (hts _ l2) (hts _ l3) rfl (hlv.1.trans hml.symm) rfl hd l4 (Nat.le_trans (Nat.add_le_add_right (lv_room (st := t.map (tm_rl B)) (by rw [tm_w_rl]; exact hw)) 12) l5) (hk9 H locs cells slots ls hP hS hc hs hlv)
              · exact absurd rfl hne
            · exact hnone h'
          · rename_i hne
            obtain ⟨hw, q, hq, h⟩ := tm_call_e h
            have hg1 := hG _ _ _ _ hq
            have hg2 := hgr _ _ _ _ h
            rcases hln with ⟨e9, _⟩ | ⟨_, y1, y2, y3, y4, y5, y6⟩
            · exact absurd e9 hne
            · intro H locs cells slots ls hP hS hc hs hlv
              refine tm_callI hC' hP hS hk (hGm _ _ _ _ hq) hg1 y1 y2 y3 y4 y5 y6 (tm_take hl) hw hd ?_ ?_ hc hs hlv ?_ (hgo _ _ _ _ h)
              · obtain ⟨a1, a2⟩ := hg1; obtain ⟨b1, b2⟩ := hg2; omega
              · obtain ⟨a1, a2⟩ := hg1; obtain ⟨b1, b2⟩ := hg2; omega
              · rw [← hdr]; simp
        · exact hnone h
    · exact hnone h
  -- ireturn
  · obtain rfl : len = 1 := by simpa [tm_chk] using hck
    split at h
    · rcases tm_ite_e h with ⟨ht, h⟩ | ⟨ht, h⟩
      · rcases tm_ite_e h with ⟨hv, h⟩ | ⟨_, h⟩
        · cases h
          exact hret.1 _ _ _ hrt hd rfl (fun _ => hv)
        · exact hnone h
      · cases h
        exact hret.1 _ _ _ hrt hd rfl (fun z => absurd z ht)
    · exact hnone h
  -- lreturn
  · obtain rfl : len = 1 := by simpa [tm_chk] using hck
    split at h
    · cases h
      exact hret.2.1 _ _ _ hrt hd rfl
    · exact hnone h
  -- return
  · obtain rfl : len = 1 := by simpa [tm_chk] using hck
    split at h
    · cases h
      exact hret.2.2 _ _ hrt hd rfl
    · exact hnone h
  · exact hnone h
end STP
