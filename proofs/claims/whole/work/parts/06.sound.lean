/-! one instruction of the plain machine is one of the machine: straight ones -/
def tm_isN : Cond → Bool
  | .fieldLinkNest _ _ _ _ _ _ => true
  | .methodLinkNest _ _ _ _ => true
  | _ => false
def tm_nest : List Cond := lw_tbl.filter tm_isN
def tm_KU (cA : Nat → ClassId) (D : va_G) (U : State) : Prop := va_K D vwCl (tm_tys cA) U ∧ (∀ w ∈ tm_nest, va_Nw w U) ∧ va_AO RX8 U ∧ va_AO RX3 U
/-- the text constant: its object, its bytes, and the statics that its methods read; none of it among the cells from B.1 on -/
def tm_tx : String := "trick worth feet cross to off turn from facing alone a b l r beats at in out does mirrored takes left right "
def tm_by (j : Nat) : Int32 := Int32.ofNat (tm_tx.toList.getD j ' ').toNat
def tm_SU (B : tm_B) (U : State) : Prop := vk_R RX5 26 tm_tx B.2.2.1 U ∧ va_Z "java/lang/String" "COMPACT_STRINGS" "Z" (.int 1) (fun q => B.1 ≤ q) U U.heap ∧ va_Zq "jdk/internal/util/Preconditions" "SIOOBE_FORMATTER" "Ljava/util/function/BiFunction;" (fun q => B.1 ≤ q) U U.heap ∧ va_O "java/lang/String" B.2.2.1 (fun q => B.1 ≤ q) U U.heap ∧ va_OF "java/lang/String" "coder" "B" (.int 0) B.2.2.1 (fun q => B.1 ≤ q) U U.heap ∧
  va_OF "java/lang/String" "value" "[B" (.ref B.2.2.2) B.2.2.1 (fun q => B.1 ≤ q) U U.heap ∧ va_T .byte B.2.2.2 108 (fun j => .int (tm_by j)) (fun q => B.1 ≤ q) U U.heap
theorem tm_SU.on {B : tm_B} {s U : State} (h1 : vk_R RX5 26 tm_tx B.2.2.1 U) (ha : s.vm.Alike U.vm) (hq : ∀ q : Nat, q < s.heap.size → ¬ B.1 ≤ q → U.heap[q]? = s.heap[q]?) (h : tm_SU B s) : tm_SU B U := by
  obtain ⟨-, q2, q3, q4, q5, q6, q7⟩ := h
  exact ⟨h1, (q2.moved ha).kept hq, (q3.moved ha).kept hq, (q4.moved ha).kept hq, (q5.moved ha).kept hq, (q6.moved ha).kept hq, (q7.moved ha).kept hq⟩
theorem tm_SU.warm {B : tm_B} {s U : State} (hW : s.WarmedH U.vm) (hq : ∀ q : Nat, q < s.heap.size → ¬ B.1 ≤ q → U.heap[q]? = s.heap[q]?) (h : tm_SU B s) : tm_SU B U := h.on (h.1.warm hW) hW.alike hq
theorem tm_SU.same {B : tm_B} {s U : State} (hv : s.vm = U.vm) (hh : U.heap = s.heap) (h : tm_SU B s) : tm_SU B U := h.on (h.1.same hv.symm) (by rw [hv]; exact Vm.Alike.refl _) (fun q _ _ => by rw [hh])
def tm_chk (nL pc : Nat) (i : Instr) (len x1 x2 x3 : Nat) : Bool := match i with
  | .aload_n _ => len == 1
  | .aload _ => len == 2
  | .iload_n _ => len == 1
  | .iload _ => len == 2
  | .lload_n _ => len == 1
  | .lload _ => len == 2
  | .istore_n n => len == 1 && decide ((n : Nat) < nL)
  | .istore n => len == 2 && decide (n < nL)
  | .astore_n n => len == 1 && decide ((n : Nat) < nL)
  | .astore n => len == 2 && decide (n < nL)
  | .lstore_n n => len == 1 && decide ((n : Nat) + 1 < nL)
  | .lstore n => len == 2 && decide (n + 1 < nL)
  | .iinc n _ => len == 3 && decide (n < nL)
  | .iconst _ => len == 1
  | .bipush _ => len == 2
  | .sipush _ => len == 3
  | .lconst _ => len == 1
  | .ldc _ => len == 2
  | .ldc_w _ => len == 3
  | .ldc2_w _ => len == 3
  | .iadd | .isub | .imul | .idiv | .irem | .iand | .ior | .ixor | .ishl | .ishr | .iushr => len == 1
  | .ladd | .lmul | .lor | .land | .lxor | .lshl | .lshr | .l2i | .lcmp | .i2l | .i2b | .dup | .dup2 => len == 1
  | .goto o => len == 3 && decide ((pc : Int) + o = (x1 : Int))
  | .ifCond _ o => len == 3 && decide ((pc : Int) + o = (x1 : Int))
  | .if_icmp _ o => len == 3 && decide ((pc : Int) + o = (x1 : Int))
  | .tableswitch d lo hi os => decide (hi = lo + (os.toList.length : Int) - 1) && decide (0 ≤ (pc : Int) + d) && os.toList.all (fun o => decide (0 ≤ (pc : Int) + o))
  | .lookupswitch d ps => (ps.toList.zip (ps.toList.drop 1)).all (fun (a, next) => a.1 < next.1) && decide (0 ≤ (pc : Int) + d) && ps.toList.all (fun o => decide (0 ≤ (pc : Int) + o.2))
  | .getfield _ => len == 3 && (x3 == tm_ft x1 x2) && decide (x2 < tm_Nf x1)
  | .putfield _ => len == 3 && decide (x2 < tm_Nf x1) && (match x3, tm_ty x1 x2 with
    | 0, .int => true
    | 1, .long => true
    | 2, .object _ => true
    | 2, .array _ => true
    | 3, .boolean => true
    | _, _ => false)
  | .iaload | .baload | .laload | .aaload | .iastore | .bastore | .lastore | .arraylength => len == 1
  | .aastore => len == 1 && ((x1 == 8 && x2 == 5) || (x1 == 3 && x2 == 6))
  | .new _ => len == 3 && (x2 == tm_Nf x1) && decide (x1 < 12)
  | .newarray t => len == 2 && (match t, x1 with
    | .int, 1 => true
    | .byte, 2 => true
    | .boolean, 3 => true
    | .long, 4 => true
    | _, _ => false)
  | .anewarray _ => len == 3 && (x1 == 5 || x1 == 6)
  | .invokestatic _ | .invokevirtual _ | .invokespecial _ => len == 3
  | .ireturn | .lreturn | .return_ => len == 1
  | _ => false
section SND
variable {S : tm_S} {X : tm_X} {G : tm_G} {tz : Bool} {go : tm_N} {cA : Nat → ClassId} {D : va_G} {B : tm_B} {p : Program} {l : Launch} {e : Env} {R : Room} {s : State} {m : MethodId} {args : Array Value} {below : List Frame} {meth : Method} {c : Code} {cc : ByteArray} {own : String} {nL z0 s0 : Nat} {Q : State → Prop}
def tm_Ok (S : tm_S) (cA : Nat → ClassId) (D : va_G) (B : tm_B) (p : Program) (l : Launch) (e : Env) (R : Room) (s : State) (m : MethodId) (args : Array Value) (below : List Frame) (meth : Method) (c : Code) (nL z0 s0 : Nat) (Q : State → Prop) (pc : Nat) (al : tm_A) (st : List Value) (M : tm_M) : Prop :=
  ∀ (H : Heap) (locs : List Loc) (cells slots : Nat) (ls : Array Slot), va_P D vwCl (tm_wd S cA B M) H → va_S (fun q => B.1 ≤ q) s.heap H locs → cells + z0 = tm_z M → slots + s0 = tm_s M → lv_has ls nL (al.map (fun q => (q.1, tm_rl B q.2))) → W p l e R s m args below meth c H locs cells slots Q (F0 m pc ls (st.map (tm_rl B)))
theorem tm_lg_mem {al : tm_A} {i : Nat} {v : Value} (h : tm_lg al i = some v) : (i, v) ∈ al := by
  induction al with
  | nil => cases h
  | cons q r ih =>
    unfold tm_lg at h
    cases hb : Nat.beq q.1 i with
    | true =>
      rw [hb] at h
      have h1 : q.1 = i := Nat.eq_of_beq_eq_true hb
      have h2 : q.2 = v := Option.some.inj h
      rw [← h1, ← h2]
      exact List.mem_cons_self
    | false =>
      rw [hb] at h
      exact List.mem_cons_of_mem _ (ih h)
theorem tm_lv {ls : Array Slot} {al : tm_A} {i : Nat} {v : Value} (hl : lv_has ls nL (al.map (fun q => (q.1, tm_rl B q.2)))) (h : tm_lg al i = some v) : ls[i]? = some (.val (tm_rl B v)) := hl.2.2 (i, tm_rl B v) (List.mem_map.mpr ⟨(i, v), tm_lg_mem h, rfl⟩)
theorem tm_fm1 {al : tm_A} {i : Nat} {v : Value} : (i, tm_rl B v) :: (al.map (fun q => (q.1, tm_rl B q.2))).filter (fun q => !(q.1 == i) && !(q.1 + 1 == i && q.2.category == 2)) = (tm_st1 al i v).map (fun q => (q.1, tm_rl B q.2)) := by
  unfold tm_st1
  rw [List.map_cons, List.filter_map]
  congr 2
  refine List.filter_congr fun q _ => ?_
  simp only [Function.comp, tm_rl_cat]
theorem tm_fm2 {al : tm_A} {i : Nat} {v : Value} : (i, tm_rl B v) :: (al.map (fun q => (q.1, tm_rl B q.2))).filter (fun q => !(q.1 == i) && (!(q.1 == i + 1) && !(q.1 + 1 == i && q.2.category == 2))) = (tm_st2 al i v).map (fun q => (q.1, tm_rl B q.2)) := by
  unfold tm_st2
  rw [List.map_cons, List.filter_map]
  congr 2
  refine List.filter_congr fun q _ => ?_
  simp only [Function.comp, tm_rl_cat]
abbrev tm_O (S : tm_S) (cA : Nat → ClassId) (D : va_G) (B : tm_B) (p : Program) (l : Launch) (e : Env) (R : Room) (s : State) (m : MethodId) (args : Array Value) (below : List Frame) (meth : Method) (c : Code) (nL z0 s0 : Nat) (Q : State → Prop) : Nat → tm_A → List Value → tm_M → Prop := fun pc al st M => tm_Ok S cA D B p l e R s m args below meth c nL z0 s0 Q pc al st M
theorem tm_sw_ok (hx : p.tables.exec = Jvm.exec) (hb : c.code = cc) {gg : Nat → Option tm_R} {r : tm_R} {pc len : Nat} {x : Int32} {al : tm_A} {st : List Value} {M : tm_M} {d lo hi : Int} {os : Array Int} (hgo : ∀ q, gg q = some r → tm_Ok S cA D B p l e R s m args below meth c nL z0 s0 Q q al st M)
    (hd : decode cc pc = .ok (.tableswitch d lo hi os, len)) (hhi : hi = lo + (os.toList.length : Int) - 1) (h0 : 0 ≤ (pc : Int) + d) (ho : ∀ o ∈ os.toList, 0 ≤ (pc : Int) + o) (h : tm_sw gg pc x os.toList lo d = some r) : tm_Ok S cA D B p l e R s m args below meth c nL z0 s0 Q pc al (.int x :: st) M := by
  have key : ∀ (ys : List Int) (j : Nat), os.toList.drop j = ys → (∀ i : Nat, i < j → x.toInt ≠ lo + i) → tm_sw gg pc x ys (lo + j) d = some r → tm_Ok S cA D B p l e R s m args below meth c nL z0 s0 Q pc al (.int x :: st) M := by
    intro ys
    induction ys with
    | nil =>
      intro j hj hne h
      have hl : os.toList.length ≤ j := List.drop_eq_nil_iff.mp hj
      intro H locs cells slots ls hP hS h1 h2 hlv
      refine lv_tableOut hx hb hd ?_ (tgt := ((pc : Int) + d).toNat) (by omega) (hgo _ h H locs cells slots ls hP hS h1 h2 hlv)
      by_cases q : x.toInt < lo
      · exact Or.inl q
      · refine Or.inr ?_
        by_cases q2 : hi < x.toInt
        · exact q2
        · exact absurd (by omega) (hne (x.toInt - lo).toNat (by omega))
    | cons o ys ih =>
      intro j hj hne h
      have hlt : j < os.toList.length := by
        rcases Nat.lt_or_ge j os.toList.length with q | q
        · exact q
        · rw [List.drop_eq_nil_iff.mpr q] at hj; cases hj
      have hoj : os.toList[j]? = some o := by
        have h1 : (os.toList.drop j)[0]? = some o := by rw [hj]; rfl
        rw [List.getElem?_drop] at h1
        simpa using h1
      unfold tm_sw at h
      rcases tm_ite_e h with ⟨hq, h⟩ | ⟨hq, h⟩
      · intro H locs cells slots ls hP hS h1 h2 hlv
        refine lv_tableIn hx hb hd (by omega) (by omega) (off := o) ?_ (tgt := ((pc : Int) + o).toNat) ?_ (hgo _ h H locs cells slots ls hP hS h1 h2 hlv)
        · rw [hq, show (lo + (j : Int) - lo).toNat = j by omega, ← Array.getElem?_toList]
          exact hoj
        · have := ho o (List.mem_of_getElem? hoj)
          omega
      · refine ih (j + 1) ?_ ?_ ?_
        · rw [← List.drop_drop, hj]; rfl
        · intro i hi
          rcases Nat.lt_or_ge i j with q | q
          · exact hne i q
          · rw [show i = j by omega]; exact hq
        · rw [show lo + ((j + 1 : Nat) : Int) = lo + (j : Int) + 1 by omega]
          exact h
  refine key os.toList 0 rfl (fun i hi => absurd hi (Nat.not_lt_zero _)) ?_
  simpa using h
theorem tm_lk_ok (hx : p.tables.exec = Jvm.exec) (hb : c.code = cc) {gg : Nat → Option tm_R} {r : tm_R} {pc len : Nat} {x : Int32} {al : tm_A} {st : List Value} {M : tm_M} {d : Int} {ps : Array (Int × Int)} (hgo : ∀ q, gg q = some r → tm_Ok S cA D B p l e R s m args below meth c nL z0 s0 Q q al st M)
    (hd : decode cc pc = .ok (.lookupswitch d ps, len)) (hp : (ps.toList.zip (ps.toList.drop 1)).all (fun (a, next) => a.1 < next.1) = true) (h0 : 0 ≤ (pc : Int) + d) (ho : ∀ o ∈ ps.toList, 0 ≤ (pc : Int) + o.2) (h : tm_lk gg pc x ps.toList d = some r) : tm_Ok S cA D B p l e R s m args below meth c nL z0 s0 Q pc al (.int x :: st) M := by
  have key : ∀ (ys : List (Int × Int)), (∀ o ∈ ys, 0 ≤ (pc : Int) + o.2) → tm_lk gg pc x ys d = some r → ∃ q : Nat, (pc : Int) + Op.lookupswitch.offset ys d x.toInt = (q : Int) ∧ gg q = some r := by
    intro ys
    induction ys with
    | nil => intro _ h; exact ⟨((pc : Int) + d).toNat, by simp only [Op.lookupswitch.offset]; omega, h⟩
    | cons o ys ih =>
      intro ho h
      unfold tm_lk at h
      rcases tm_ite_e h with ⟨hq, h⟩ | ⟨hq, h⟩
      · refine ⟨((pc : Int) + o.2).toNat, ?_, h⟩
        have := ho o List.mem_cons_self
        simp only [Op.lookupswitch.offset, if_pos hq.symm]
        omega
      · obtain ⟨q, h1, h2⟩ := ih (fun o h => ho o (List.mem_cons_of_mem _ h)) h
        refine ⟨q, ?_, h2⟩
        rw [← h1]
        simp only [Op.lookupswitch.offset, if_neg (Ne.symm hq)]
  obtain ⟨q, h1, h2⟩ := key ps.toList ho h
  intro H locs cells slots ls hP hS g1 g2 hlv
  exact lv_lookup hx hb hd hp rfl h1 (hgo _ h2 H locs cells slots ls hP hS g1 g2 hlv)
end SND
