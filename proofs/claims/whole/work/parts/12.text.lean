/-! the text constant's methods: length and charAt -/
def tm_Ct (l : Launch) (t : tm_Mt) (as : List Value) (B : tm_B) (v : Option Value) : Prop := Met l t.1 (.code t.1 t.2.1 t.2.2.1 t.2.2.2.1 :: tm_Om) { frames := t.2.2.2.2.1, cells := 0, slots := 0, locals := t.2.2.2.2.2 } (fun a U => a = as.toArray ∧ tm_SU B U) (fun _ st o t => o = .returned v ∧ t.heap = st.heap) 0 0 (fun _ => False)
abbrev tm_Qt (v : Option Value) : Array Value → State → Outcome → State → Prop := fun _ st o t => o = .returned v ∧ t.heap = st.heap
theorem tm_ct {l : Launch} {t : tm_Mt} {as : List Value} {B : tm_B} {v : Option Value} (hpl : plainName t.1.cls = true) (hn : tm_w as ≤ t.2.2.1)
    (body : ∀ (p : Program) (e : Env) (s : State) (m : MethodId) (below : List Frame) (meth : Method) (c : Code) (ls : Array Slot), p.tables.exec = Jvm.exec → c.code = t.2.1 → c.maxLocals = t.2.2.1 → s.vm.findClass t.1.cls = some m.cls → (∀ w ∈ tm_Om, w.before as.toArray s = true) → meth.sig.returnType = t.2.2.2.1 → meth.locks = false → tm_SU B s → lv_has ls t.2.2.1 (lv_args 0 as) → va_S (fun q => B.1 ≤ q) s.heap s.heap [] →
      W p l e { frames := t.2.2.2.2.1, cells := 0, slots := 0, locals := t.2.2.2.2.2 } s m as.toArray below meth c s.heap [] 0 0 (MQ below (tm_Qt v) as.toArray s 0 0 (fun _ => False)) (F0 m 0 ls [])) : tm_Ct l t as B v := by
  refine Met.ofW (cc := t.2.1) (maxL := t.2.2.1) (ret := t.2.2.2.1) hpl rfl ?_
  intro p e s m args below meth c s₁ Bd hml hv
  obtain ⟨rfl, hSU⟩ := hv
  have hts := atoms_spec (ws := .code t.1 t.2.1 t.2.2.1 t.2.2.2.1 :: tm_Om) Bd.pre
  have hl := lv_entry as (n := t.2.2.1) (by rw [tm_sl_len]; exact hn)
  rw [lg_entry_eq]
  exact body p e s m below meth c _ Bd.exec Bd.bytes hml (findClass_of_methodNamed Bd.named) (fun w hw => hts w (List.mem_cons_of_mem _ hw)) Bd.returns Bd.notSynchronized hSU hl va_S.rf
section TXT
variable {p : Program} {l : Launch} {e : Env} {R : Room} {s : State} {m : MethodId} {args : Array Value} {below : List Frame} {meth : Method} {c : Code} {H : Heap} {locs : List Loc} {cells slots : Nat} {Q : State → Prop} {B : tm_B} {cc : ByteArray} {nL pc i n : Nat} {own : String} {ls : Array Slot} {rest as : List Value} {t : tm_Mt} {v : Option Value}
theorem tm_ctA {Qa : State → Outcome → State → Prop} {st0 : List Value} (hQ : ∀ st o t, Qa st o t → o = .returned v ∧ t.heap = st.heap) (hr : va_Run p l e R s m args below meth c H locs cells slots 0 0 (F0 m pc ls st0) rest Qa (fun _ => False)) (kk : W p l e R s m args below meth c H locs cells slots Q (F0 m (pc + 3) ls (v.toList ++ rest))) : W p l e R s m args below meth c H locs cells slots Q (F0 m pc ls st0) := by
  intro T hT X
  obtain ⟨v', st₀, t, T', L, h0, X', hL, e1, e2, hq, stp⟩ := hr T hT X
  obtain ⟨hv, hh⟩ := hQ _ _ _ hq
  cases hv
  obtain ⟨t2, a1, b1⟩ := kk T' (by rw [e1, hh, h0]) (Stand.forget X' (fun q h => (hL q h).elim))
  exact ⟨t2, stp t2 a1, b1⟩
theorem tm_ctS (hx : p.tables.exec = Jvm.exec) (hb : c.code = cc) (hml : c.maxLocals = nL) (hown : s.vm.findClass own = some m.cls) (hts : ∀ w ∈ tm_Om, w.before args s = true) (hSU : tm_SU B s) (hSt : va_S (fun q => B.1 ≤ q) s.heap H locs) (hM : tm_Ct l t as B v) (hy : tm_yo t n) (hst : Cond.static t.1 ∈ tm_Om) (hl : Cond.methodLink own i t.1 ∈ tm_Om) (hrm : tm_rm t R.frames R.locals) (hn : as.length = n) (hw : (rest.map fun v => v.category).sum ≤ 8) (hsz : ls.size = nL) (hd : decode cc pc = .ok (.invokestatic i, 3)) (hc : cells ≤ R.cells) (hs : slots ≤ R.slots)
    (kk : W p l e R s m args below meth c H locs cells slots Q (F0 m (pc + 3) ls (v.toList ++ rest))) : W p l e R s m args below meth c H locs cells slots Q (F0 m pc ls (as.reverse ++ rest)) :=
  tm_ctA (fun _ _ _ h => h) (va_runS ⟨hx, hb, hml, hown, hts⟩ hM ⟨callB_of n hts (tm_good hy) rfl rfl rfl (hts _ hy.2.1) (hts _ hl) hy.2.2 hrm, hts _ hst⟩ ⟨fun a U g mk q => ⟨q.1, tm_SU.same (s := U) (U := U.calling g mk a) rfl rfl q.2⟩, fun U hU hW => ⟨rfl, hSU.warm hW (by rw [hU]; exact hSt.2.1)⟩⟩ rfl hn hsz rfl (lv_room hw) hd ⟨hc, hs⟩) kk
theorem tm_ctV (hx : p.tables.exec = Jvm.exec) (hb : c.code = cc) (hml : c.maxLocals = nL) (hown : s.vm.findClass own = some m.cls) (hts : ∀ w ∈ tm_Om, w.before args s = true) (hSU : tm_SU B s) (hSt : va_S (fun q => B.1 ≤ q) s.heap H locs) (hM : tm_Ct l t (.ref B.2.2.1 :: as) B v) (hcl : t.1.cls = "java/lang/String") (hy : tm_yo t n) (hin : Cond.instanceMethod t.1 ∈ tm_Om) (hse : Cond.selects t.1.cls t.1 t.1 ∈ tm_Om) (hl : Cond.methodLink own i t.1 ∈ tm_Om) (hrm : tm_rm t R.frames R.locals) (hn : as.length = n) (hw : (rest.map fun v => v.category).sum ≤ 8) (hsz : ls.size = nL) (hd : decode cc pc = .ok (.invokevirtual i, 3)) (hc : cells ≤ R.cells) (hs : slots ≤ R.slots)
    (kk : W p l e R s m args below meth c H locs cells slots Q (F0 m (pc + 3) ls (v.toList ++ rest))) : W p l e R s m args below meth c H locs cells slots Q (F0 m pc ls (as.reverse ++ .ref B.2.2.1 :: rest)) := by
  obtain ⟨cell, h1, h2, h3, -⟩ := hSU.2.2.2.1.kept hSt.2.1
  exact tm_ctA (fun _ _ _ h => h) (va_runV ⟨hx, hb, hml, hown, hts⟩ hM ⟨callB_of n hts (tm_good hy) rfl rfl rfl (hts _ hy.2.1) (hts _ hl) hy.2.2 hrm, hts _ hin, hts _ hse⟩ ⟨fun a U g mk q => ⟨q.1, tm_SU.same (s := U) (U := U.calling g mk a) rfl rfl q.2⟩, ⟨cell, h1, h2, by rw [hcl]; exact h3⟩, fun U hU hW => ⟨rfl, hSU.warm hW (by rw [hU]; exact hSt.2.1)⟩⟩ rfl hn hsz rfl (lv_room hw) hd ⟨hc, hs⟩) kk
end TXT
theorem tx_mem {w : Cond} (i : Nat) (h : lw_tbl[i]? = some w) (hg : goodWord w = true) : w ∈ tm_Om := tm_Om_in i h hg
abbrev tt_coder : tm_Mt := (yJ0_coder_7d493, cJ0_coder_7d493, 1, some .byte, 0, 0)
abbrev tt_isL : tm_Mt := (yJ0_isLatin1_aae02, cJ0_isLatin1_aae02, 1, some .boolean, 0, 0)
abbrev tt_len : tm_Mt := (yJ0_length_8abf5, cJ0_length_8abf5, 1, some .int, 1, 20)
abbrev tt_pck : tm_Mt := (yJ3_checkIndex_8e157, cJ3_checkIndex_8e157, 3, some .int, 0, 0)
abbrev tt_ck : tm_Mt := (yJ0_checkIndex_df160, cJ0_checkIndex_df160, 2, none, 1, 22)
abbrev tt_lch : tm_Mt := (yJ1_charAt_3b067, cJ1_charAt_3b067, 2, some .char, 2, 43)
abbrev tt_ch : tm_Mt := (yJ0_charAt_5068e, cJ0_charAt_5068e, 2, some .char, 3, 64)
set_option maxRecDepth 100000 in
theorem tx_o : (∀ w ∈ [Cond.fieldLink RJ0 38 "java/lang/String" "COMPACT_STRINGS" "Z", .fieldLink RJ0 15 "java/lang/String" "coder" "B", .fieldLink RJ0 9 "java/lang/String" "value" "[B", .methodLink RX5 28 yJ0_length_8abf5, .methodLink RJ0 335 yJ0_coder_7d493, .methodLink RX5 34 yJ0_charAt_5068e, .methodLink RJ0 492 yJ0_isLatin1_aae02, .methodLink RJ0 495 yJ1_charAt_3b067, .methodLink RJ1 9 yJ0_checkIndex_df160, .fieldLink RJ0 1053 "jdk/internal/util/Preconditions" "SIOOBE_FORMATTER" "Ljava/util/function/BiFunction;", .methodLink RJ0 1059 yJ3_checkIndex_8e157], w ∈ tm_Om) := tm_Om_ps [152, 1887, 1886, 144, 148, 154, 158, 162, 165, 168, 170] rfl rfl
set_option maxRecDepth 100000 in
theorem ty_coder : tm_yo tt_coder 0 := ⟨tx_mem 151 rfl rfl, tx_mem 112 rfl rfl, by decide +kernel⟩
set_option maxRecDepth 100000 in
theorem tz_coder : Cond.instanceMethod yJ0_coder_7d493 ∈ tm_Om ∧ Cond.selects yJ0_coder_7d493.cls yJ0_coder_7d493 yJ0_coder_7d493 ∈ tm_Om := ⟨tx_mem 149 rfl rfl, tx_mem 150 rfl rfl⟩
theorem dJ0_coder_7d493_0 : decode cJ0_coder_7d493 0 = .ok (.getstatic 38, 3) := by decide +kernel
theorem dJ0_coder_7d493_3 : decode cJ0_coder_7d493 3 = .ok (.ifCond .eq 10, 3) := by decide +kernel
theorem dJ0_coder_7d493_6 : decode cJ0_coder_7d493 6 = .ok (.aload_n 0, 1) := by decide +kernel
theorem dJ0_coder_7d493_7 : decode cJ0_coder_7d493 7 = .ok (.getfield 15, 3) := by decide +kernel
theorem dJ0_coder_7d493_10 : decode cJ0_coder_7d493 10 = .ok (.goto 4, 3) := by decide +kernel
theorem dJ0_coder_7d493_13 : decode cJ0_coder_7d493 13 = .ok (.iconst 1, 1) := by decide +kernel
theorem dJ0_coder_7d493_14 : decode cJ0_coder_7d493 14 = .ok (.ireturn, 1) := by decide +kernel
set_option maxRecDepth 100000 in
theorem ty_isL : tm_yo tt_isL 0 := ⟨tx_mem 161 rfl rfl, tx_mem 112 rfl rfl, by decide +kernel⟩
set_option maxRecDepth 100000 in
theorem tz_isL : Cond.instanceMethod yJ0_isLatin1_aae02 ∈ tm_Om ∧ Cond.selects yJ0_isLatin1_aae02.cls yJ0_isLatin1_aae02 yJ0_isLatin1_aae02 ∈ tm_Om := ⟨tx_mem 159 rfl rfl, tx_mem 160 rfl rfl⟩
theorem dJ0_isLatin1_aae02_0 : decode cJ0_isLatin1_aae02 0 = .ok (.getstatic 38, 3) := by decide +kernel
theorem dJ0_isLatin1_aae02_3 : decode cJ0_isLatin1_aae02 3 = .ok (.ifCond .eq 14, 3) := by decide +kernel
theorem dJ0_isLatin1_aae02_6 : decode cJ0_isLatin1_aae02 6 = .ok (.aload_n 0, 1) := by decide +kernel
theorem dJ0_isLatin1_aae02_7 : decode cJ0_isLatin1_aae02 7 = .ok (.getfield 15, 3) := by decide +kernel
theorem dJ0_isLatin1_aae02_10 : decode cJ0_isLatin1_aae02 10 = .ok (.ifCond .ne 7, 3) := by decide +kernel
theorem dJ0_isLatin1_aae02_13 : decode cJ0_isLatin1_aae02 13 = .ok (.iconst 1, 1) := by decide +kernel
theorem dJ0_isLatin1_aae02_14 : decode cJ0_isLatin1_aae02 14 = .ok (.goto 4, 3) := by decide +kernel
theorem dJ0_isLatin1_aae02_17 : decode cJ0_isLatin1_aae02 17 = .ok (.iconst 0, 1) := by decide +kernel
theorem dJ0_isLatin1_aae02_18 : decode cJ0_isLatin1_aae02 18 = .ok (.ireturn, 1) := by decide +kernel
set_option maxRecDepth 100000 in
theorem ty_len : tm_yo tt_len 0 := ⟨tx_mem 147 rfl rfl, tx_mem 112 rfl rfl, by decide +kernel⟩
set_option maxRecDepth 100000 in
theorem tz_len : Cond.instanceMethod yJ0_length_8abf5 ∈ tm_Om ∧ Cond.selects yJ0_length_8abf5.cls yJ0_length_8abf5 yJ0_length_8abf5 ∈ tm_Om := ⟨tx_mem 145 rfl rfl, tx_mem 146 rfl rfl⟩
theorem dJ0_length_8abf5_0 : decode cJ0_length_8abf5 0 = .ok (.aload_n 0, 1) := by decide +kernel
theorem dJ0_length_8abf5_1 : decode cJ0_length_8abf5 1 = .ok (.getfield 9, 3) := by decide +kernel
theorem dJ0_length_8abf5_4 : decode cJ0_length_8abf5 4 = .ok (.arraylength, 1) := by decide +kernel
theorem dJ0_length_8abf5_5 : decode cJ0_length_8abf5 5 = .ok (.aload_n 0, 1) := by decide +kernel
theorem dJ0_length_8abf5_6 : decode cJ0_length_8abf5 6 = .ok (.invokevirtual 335, 3) := by decide +kernel
theorem dJ0_length_8abf5_9 : decode cJ0_length_8abf5 9 = .ok (.ishr, 1) := by decide +kernel
theorem dJ0_length_8abf5_10 : decode cJ0_length_8abf5 10 = .ok (.ireturn, 1) := by decide +kernel
set_option maxRecDepth 100000 in
theorem ty_ch : tm_yo tt_ch 1 := ⟨tx_mem 157 rfl rfl, tx_mem 112 rfl rfl, by decide +kernel⟩
set_option maxRecDepth 100000 in
theorem tz_ch : Cond.instanceMethod yJ0_charAt_5068e ∈ tm_Om ∧ Cond.selects yJ0_charAt_5068e.cls yJ0_charAt_5068e yJ0_charAt_5068e ∈ tm_Om := ⟨tx_mem 155 rfl rfl, tx_mem 156 rfl rfl⟩
theorem dJ0_charAt_5068e_0 : decode cJ0_charAt_5068e 0 = .ok (.aload_n 0, 1) := by decide +kernel
theorem dJ0_charAt_5068e_1 : decode cJ0_charAt_5068e 1 = .ok (.invokevirtual 492, 3) := by decide +kernel
theorem dJ0_charAt_5068e_4 : decode cJ0_charAt_5068e 4 = .ok (.ifCond .eq 12, 3) := by decide +kernel
theorem dJ0_charAt_5068e_7 : decode cJ0_charAt_5068e 7 = .ok (.aload_n 0, 1) := by decide +kernel
theorem dJ0_charAt_5068e_8 : decode cJ0_charAt_5068e 8 = .ok (.getfield 9, 3) := by decide +kernel
theorem dJ0_charAt_5068e_11 : decode cJ0_charAt_5068e 11 = .ok (.iload_n 1, 1) := by decide +kernel
theorem dJ0_charAt_5068e_12 : decode cJ0_charAt_5068e 12 = .ok (.invokestatic 495, 3) := by decide +kernel
theorem dJ0_charAt_5068e_15 : decode cJ0_charAt_5068e 15 = .ok (.ireturn, 1) := by decide +kernel
theorem dJ0_charAt_5068e_16 : decode cJ0_charAt_5068e 16 = .ok (.aload_n 0, 1) := by decide +kernel
theorem dJ0_charAt_5068e_17 : decode cJ0_charAt_5068e 17 = .ok (.getfield 9, 3) := by decide +kernel
theorem dJ0_charAt_5068e_20 : decode cJ0_charAt_5068e 20 = .ok (.iload_n 1, 1) := by decide +kernel
theorem dJ0_charAt_5068e_21 : decode cJ0_charAt_5068e 21 = .ok (.invokestatic 498, 3) := by decide +kernel
theorem dJ0_charAt_5068e_24 : decode cJ0_charAt_5068e 24 = .ok (.ireturn, 1) := by decide +kernel
set_option maxRecDepth 100000 in
theorem ty_ck : tm_yo tt_ck 2 := ⟨tx_mem 167 rfl rfl, tx_mem 112 rfl rfl, by decide +kernel⟩
set_option maxRecDepth 100000 in
theorem tz_ck : Cond.static yJ0_checkIndex_df160 ∈ tm_Om := tx_mem 166 rfl rfl
theorem dJ0_checkIndex_df160_0 : decode cJ0_checkIndex_df160 0 = .ok (.iload_n 0, 1) := by decide +kernel
theorem dJ0_checkIndex_df160_1 : decode cJ0_checkIndex_df160 1 = .ok (.iload_n 1, 1) := by decide +kernel
theorem dJ0_checkIndex_df160_2 : decode cJ0_checkIndex_df160 2 = .ok (.getstatic 1053, 3) := by decide +kernel
theorem dJ0_checkIndex_df160_5 : decode cJ0_checkIndex_df160 5 = .ok (.invokestatic 1059, 3) := by decide +kernel
theorem dJ0_checkIndex_df160_8 : decode cJ0_checkIndex_df160 8 = .ok (.pop, 1) := by decide +kernel
theorem dJ0_checkIndex_df160_9 : decode cJ0_checkIndex_df160 9 = .ok (.return_, 1) := by decide +kernel
set_option maxRecDepth 100000 in
theorem ty_lch : tm_yo tt_lch 2 := ⟨tx_mem 164 rfl rfl, tx_mem 113 rfl rfl, by decide +kernel⟩
set_option maxRecDepth 100000 in
theorem tz_lch : Cond.static yJ1_charAt_3b067 ∈ tm_Om := tx_mem 163 rfl rfl
theorem dJ1_charAt_3b067_0 : decode cJ1_charAt_3b067 0 = .ok (.iload_n 1, 1) := by decide +kernel
theorem dJ1_charAt_3b067_1 : decode cJ1_charAt_3b067 1 = .ok (.aload_n 0, 1) := by decide +kernel
theorem dJ1_charAt_3b067_2 : decode cJ1_charAt_3b067 2 = .ok (.arraylength, 1) := by decide +kernel
theorem dJ1_charAt_3b067_3 : decode cJ1_charAt_3b067 3 = .ok (.invokestatic 9, 3) := by decide +kernel
theorem dJ1_charAt_3b067_6 : decode cJ1_charAt_3b067 6 = .ok (.aload_n 0, 1) := by decide +kernel
theorem dJ1_charAt_3b067_7 : decode cJ1_charAt_3b067 7 = .ok (.iload_n 1, 1) := by decide +kernel
theorem dJ1_charAt_3b067_8 : decode cJ1_charAt_3b067 8 = .ok (.baload, 1) := by decide +kernel
theorem dJ1_charAt_3b067_9 : decode cJ1_charAt_3b067 9 = .ok (.sipush 255, 3) := by decide +kernel
theorem dJ1_charAt_3b067_12 : decode cJ1_charAt_3b067 12 = .ok (.iand, 1) := by decide +kernel
theorem dJ1_charAt_3b067_13 : decode cJ1_charAt_3b067 13 = .ok (.i2c, 1) := by decide +kernel
theorem dJ1_charAt_3b067_14 : decode cJ1_charAt_3b067 14 = .ok (.ireturn, 1) := by decide +kernel
set_option maxRecDepth 100000 in
theorem ty_pck : tm_yo tt_pck 3 := ⟨tx_mem 172 rfl rfl, tx_mem 114 rfl rfl, by decide +kernel⟩
set_option maxRecDepth 100000 in
theorem tz_pck : Cond.static yJ3_checkIndex_8e157 ∈ tm_Om := tx_mem 171 rfl rfl
theorem dJ3_checkIndex_8e157_0 : decode cJ3_checkIndex_8e157 0 = .ok (.iload_n 0, 1) := by decide +kernel
theorem dJ3_checkIndex_8e157_1 : decode cJ3_checkIndex_8e157 1 = .ok (.ifCond .lt 8, 3) := by decide +kernel
theorem dJ3_checkIndex_8e157_4 : decode cJ3_checkIndex_8e157 4 = .ok (.iload_n 0, 1) := by decide +kernel
theorem dJ3_checkIndex_8e157_5 : decode cJ3_checkIndex_8e157 5 = .ok (.iload_n 1, 1) := by decide +kernel
theorem dJ3_checkIndex_8e157_6 : decode cJ3_checkIndex_8e157 6 = .ok (.if_icmp .lt 10, 3) := by decide +kernel
theorem dJ3_checkIndex_8e157_9 : decode cJ3_checkIndex_8e157 9 = .ok (.aload_n 2, 1) := by decide +kernel
theorem dJ3_checkIndex_8e157_10 : decode cJ3_checkIndex_8e157 10 = .ok (.iload_n 0, 1) := by decide +kernel
theorem dJ3_checkIndex_8e157_11 : decode cJ3_checkIndex_8e157 11 = .ok (.iload_n 1, 1) := by decide +kernel
theorem dJ3_checkIndex_8e157_12 : decode cJ3_checkIndex_8e157 12 = .ok (.invokestatic 95, 3) := by decide +kernel
theorem dJ3_checkIndex_8e157_15 : decode cJ3_checkIndex_8e157 15 = .ok (.athrow, 1) := by decide +kernel
theorem dJ3_checkIndex_8e157_16 : decode cJ3_checkIndex_8e157 16 = .ok (.iload_n 0, 1) := by decide +kernel
theorem dJ3_checkIndex_8e157_17 : decode cJ3_checkIndex_8e157 17 = .ok (.ireturn, 1) := by decide +kernel
theorem c_coder (l : Launch) (B : tm_B) : tm_Ct l tt_coder [.ref B.2.2.1] B (some (.int 0)) := by
  refine tm_ct (by decide +kernel) (Nat.le_of_ble_eq_true rfl) ?_
  intro p e s m below meth c ls hx hb hml hown hts hr hlocks hSU hl hS
  refine va_gets hx hb hSU.2.1 hS hown (hts _ (tx_o _ (List.mem_of_getElem? (i := 0) rfl))) (fun _ h => h) dJ0_coder_7d493_0 ?_
  refine lv_if_eq (tgt := 13) hx hb dJ0_coder_7d493_3 (by decide) (fun h => absurd h (by decide)) (fun _ => ?_)
  refine lv_aload_n hx hb dJ0_coder_7d493_6 rfl (lv_at hl 0 rfl) ?_
  refine vk_getf hx hb hSU.2.2.2.2.1 hS hown (hts _ (tx_o _ (List.mem_of_getElem? (i := 1) rfl))) (fun _ h => h) dJ0_coder_7d493_7 ?_
  refine lv_goto (tgt := 14) hx hb dJ0_coder_7d493_10 (by decide) ?_
  exact W.zret hx hb hr rfl (fun t ht _ => ⟨rfl, ht⟩) (fun q h => by cases h) dJ0_coder_7d493_14
theorem c_isL (l : Launch) (B : tm_B) : tm_Ct l tt_isL [.ref B.2.2.1] B (some (.int 1)) := by
  refine tm_ct (by decide +kernel) (Nat.le_of_ble_eq_true rfl) ?_
  intro p e s m below meth c ls hx hb hml hown hts hr hlocks hSU hl hS
  refine va_gets hx hb hSU.2.1 hS hown (hts _ (tx_o _ (List.mem_of_getElem? (i := 0) rfl))) (fun _ h => h) dJ0_isLatin1_aae02_0 ?_
  refine lv_if_eq (tgt := 17) hx hb dJ0_isLatin1_aae02_3 (by decide) (fun h => absurd h (by decide)) (fun _ => ?_)
  refine lv_aload_n hx hb dJ0_isLatin1_aae02_6 rfl (lv_at hl 0 rfl) ?_
  refine vk_getf hx hb hSU.2.2.2.2.1 hS hown (hts _ (tx_o _ (List.mem_of_getElem? (i := 1) rfl))) (fun _ h => h) dJ0_isLatin1_aae02_7 ?_
  refine lv_if_ne (tgt := 17) hx hb dJ0_isLatin1_aae02_10 (by decide) (fun h => absurd rfl h) (fun _ => ?_)
  refine lv_iconst (v := 1) hx hb dJ0_isLatin1_aae02_13 (by decide) ?_
  refine lv_goto (tgt := 18) hx hb dJ0_isLatin1_aae02_14 (by decide) ?_
  exact W.zret hx hb hr rfl (fun t ht _ => ⟨rfl, ht⟩) (fun q h => by cases h) dJ0_isLatin1_aae02_18
theorem c_len (l : Launch) (B : tm_B) : tm_Ct l tt_len [.ref B.2.2.1] B (some (.int 108)) := by
  refine tm_ct (by decide +kernel) (Nat.le_of_ble_eq_true rfl) ?_
  intro p e s m below meth c ls hx hb hml hown hts hr hlocks hSU hl hS
  obtain ⟨hw1, hw2⟩ := hSU.2.2.2.2.2
  refine lv_aload_n hx hb dJ0_length_8abf5_0 rfl (lv_at hl 0 rfl) ?_
  refine vk_getf hx hb hw1 hS hown (hts _ (tx_o _ (List.mem_of_getElem? (i := 2) rfl))) (fun _ h => h) dJ0_length_8abf5_1 ?_
  refine va_tlen hx hb hw2 hS rfl dJ0_length_8abf5_4 ?_
  refine lv_aload_n hx hb dJ0_length_8abf5_5 rfl (lv_at hl 0 rfl) ?_
  refine tm_ctV (as := []) hx hb hml hown hts hSU hS (c_coder l B) rfl ty_coder tz_coder.1 tz_coder.2 (tx_o _ (List.mem_of_getElem? (i := 4) rfl)) ⟨by decide, by decide⟩ rfl (by decide) hl.1 dJ0_length_8abf5_6 (Nat.le_refl _) (Nat.le_refl _) ?_
  refine lv_ishr hx hb dJ0_length_8abf5_9 ?_
  exact W.iret (v := 108) hx hb hr (fun t ht _ => ⟨rfl, ht⟩) (fun q h => by cases h) dJ0_length_8abf5_10
theorem c_pck (l : Launch) (B : tm_B) (x y : Int32) (f : Value) (hf : f.category = 1) (h0 : 0 ≤ x) (h1 : x < y) : tm_Ct l tt_pck [.int x, .int y, f] B (some (.int x)) := by
  refine tm_ct (by decide +kernel) (by have e : tm_w [.int x, .int y, f] = 1 + (1 + (f.category + 0)) := rfl; rw [e, hf]; exact Nat.le_refl _) ?_
  intro p e s m below meth c ls hx hb hml hown hts hr hlocks hSU hl hS
  refine lv_iload_n hx hb dJ3_checkIndex_8e157_0 rfl (lv_at hl 0 rfl) ?_
  refine lv_if_lt (tgt := 9) hx hb dJ3_checkIndex_8e157_1 (by decide) (fun h => absurd h (by simpa using h0)) (fun _ => ?_)
  refine lv_iload_n hx hb dJ3_checkIndex_8e157_4 rfl (lv_at hl 0 rfl) ?_
  refine lv_iload_n hx hb dJ3_checkIndex_8e157_5 rfl (lv_at hl 1 rfl) ?_
  refine lv_icmp_lt (tgt := 16) hx hb dJ3_checkIndex_8e157_6 (by decide) (fun _ => ?_) (fun h => absurd h1 h)
  refine lv_iload_n hx hb dJ3_checkIndex_8e157_16 rfl (lv_at hl 0 rfl) ?_
  exact W.iret hx hb hr (fun t ht _ => ⟨rfl, ht⟩) (fun q h => by cases h) dJ3_checkIndex_8e157_17
theorem c_ck (l : Launch) (B : tm_B) (x y : Int32) (h0 : 0 ≤ x) (h1 : x < y) : tm_Ct l tt_ck [.int x, .int y] B none := by
  refine tm_ct (by decide +kernel) (Nat.le_of_ble_eq_true rfl) ?_
  intro p e s m below meth c ls hx hb hml hown hts hr hlocks hSU hl hS
  refine lv_iload_n hx hb dJ0_checkIndex_df160_0 rfl (lv_at hl 0 rfl) ?_
  refine lv_iload_n hx hb dJ0_checkIndex_df160_1 rfl (lv_at hl 1 rfl) ?_
  have key : ∀ f : Value, f.category = 1 → va_Z "jdk/internal/util/Preconditions" "SIOOBE_FORMATTER" "Ljava/util/function/BiFunction;" f (fun q => B.1 ≤ q) s s.heap → W p l e { frames := 1, cells := 0, slots := 0, locals := 22 } s m [.int x, .int y].toArray below meth c s.heap [] 0 0 (MQ below (tm_Qt none) [.int x, .int y].toArray s 0 0 (fun _ => False)) (F0 m 2 ls [.int y, .int x]) := by
    intro f hf hZ
    refine va_gets hx hb hZ hS hown (hts _ (tx_o _ (List.mem_of_getElem? (i := 9) rfl))) (fun _ h => h) dJ0_checkIndex_df160_2 ?_
    refine tm_ctS (as := [.int x, .int y, f]) (rest := []) hx hb hml hown hts hSU hS (c_pck l B x y f hf h0 h1) ty_pck tz_pck (tx_o _ (List.mem_of_getElem? (i := 10) rfl)) ⟨by decide, by decide⟩ rfl (by decide) hl.1 dJ0_checkIndex_df160_5 (Nat.le_refl _) (Nat.le_refl _) ?_
    refine lv_pop hx hb dJ0_checkIndex_df160_8 rfl ?_
    exact W.vret hx hb hr (fun t ht _ => ⟨rfl, ht⟩) (fun q h => by cases h) dJ0_checkIndex_df160_9
  rcases hSU.2.2.1 with hZ | ⟨f, hZ⟩
  · exact key _ rfl hZ
  · exact key _ rfl hZ
theorem tx_and (j : Nat) (h : j < 108) : ((tm_by j &&& (Int16.ofInt 255).toInt32).toUInt32 % 65536).toInt32 = tm_by j ∧ narrow .char (.int (tm_by j)) = .int (tm_by j) := by
  have h1 : ∀ j, j < 108 → ((tm_by j &&& (Int16.ofInt 255).toInt32).toUInt32 % 65536).toInt32 = tm_by j ∧ narrow .char (.int (tm_by j)) = .int (tm_by j) := by decide +kernel
  exact h1 j h
theorem c_lch (l : Launch) (B : tm_B) (x : Int32) (h0 : 0 ≤ x) (h1 : x.toNatClampNeg < 108) : tm_Ct l tt_lch [.ref B.2.2.2, .int x] B (some (.int (tm_by x.toNatClampNeg))) := by
  refine tm_ct (by decide +kernel) (Nat.le_of_ble_eq_true rfl) ?_
  intro p e s m below meth c ls hx hb hml hown hts hr hlocks hSU hl hS
  have hlt : x < 108 := by
    rw [Int32.lt_iff_toInt_lt]
    have e1 : x.toInt = (x.toNatClampNeg : Int) := by
      have : 0 ≤ x.toInt := by rw [Int32.le_iff_toInt_le] at h0; simpa using h0
      simp only [Int32.toNatClampNeg]
      omega
    rw [e1]
    show (x.toNatClampNeg : Int) < 108
    omega
  refine lv_iload_n hx hb dJ1_charAt_3b067_0 rfl (lv_at hl 1 rfl) ?_
  refine lv_aload_n hx hb dJ1_charAt_3b067_1 rfl (lv_at hl 0 rfl) ?_
  refine va_tlen hx hb hSU.2.2.2.2.2.2 hS rfl dJ1_charAt_3b067_2 ?_
  refine tm_ctS (as := [.int x, .int 108]) (rest := []) hx hb hml hown hts hSU hS (c_ck l B x 108 h0 hlt) ty_ck tz_ck (tx_o _ (List.mem_of_getElem? (i := 8) rfl)) ⟨by decide, by decide⟩ rfl (by decide) hl.1 dJ1_charAt_3b067_3 (Nat.le_refl _) (Nat.le_refl _) ?_
  refine lv_aload_n hx hb dJ1_charAt_3b067_6 rfl (lv_at hl 0 rfl) ?_
  refine lv_iload_n hx hb dJ1_charAt_3b067_7 rfl (lv_at hl 1 rfl) ?_
  refine va_tb hx hb hSU.2.2.2.2.2.2 hS (tm_vpin ⟨h0, h1⟩) rfl dJ1_charAt_3b067_8 ?_
  refine lv_sipush hx hb dJ1_charAt_3b067_9 rfl ?_
  refine lv_iand hx hb dJ1_charAt_3b067_12 ?_
  refine lv_i2c hx hb dJ1_charAt_3b067_13 (tx_and _ h1).1 ?_
  exact W.zret hx hb hr (tx_and _ h1).2 (fun t ht _ => ⟨rfl, ht⟩) (fun q h => by cases h) dJ1_charAt_3b067_14
theorem c_ch (l : Launch) (B : tm_B) (x : Int32) (h0 : 0 ≤ x) (h1 : x.toNatClampNeg < 108) : tm_Ct l tt_ch [.ref B.2.2.1, .int x] B (some (.int (tm_by x.toNatClampNeg))) := by
  refine tm_ct (by decide +kernel) (Nat.le_of_ble_eq_true rfl) ?_
  intro p e s m below meth c ls hx hb hml hown hts hr hlocks hSU hl hS
  refine lv_aload_n hx hb dJ0_charAt_5068e_0 rfl (lv_at hl 0 rfl) ?_
  refine tm_ctV (as := []) (rest := []) hx hb hml hown hts hSU hS (c_isL l B) rfl ty_isL tz_isL.1 tz_isL.2 (tx_o _ (List.mem_of_getElem? (i := 6) rfl)) ⟨by decide, by decide⟩ rfl (by decide) hl.1 dJ0_charAt_5068e_1 (Nat.le_refl _) (Nat.le_refl _) ?_
  refine lv_if_eq (tgt := 16) hx hb dJ0_charAt_5068e_4 (by decide) (fun h => absurd h (by decide)) (fun _ => ?_)
  refine lv_aload_n hx hb dJ0_charAt_5068e_7 rfl (lv_at hl 0 rfl) ?_
  refine vk_getf hx hb hSU.2.2.2.2.2.1 hS hown (hts _ (tx_o _ (List.mem_of_getElem? (i := 2) rfl))) (fun _ h => h) dJ0_charAt_5068e_8 ?_
  refine lv_iload_n hx hb dJ0_charAt_5068e_11 rfl (lv_at hl 1 rfl) ?_
  refine tm_ctS (as := [.ref B.2.2.2, .int x]) (rest := []) hx hb hml hown hts hSU hS (c_lch l B x h0 h1) ty_lch tz_lch (tx_o _ (List.mem_of_getElem? (i := 7) rfl)) ⟨by decide, by decide⟩ rfl (by decide) hl.1 dJ0_charAt_5068e_12 (Nat.le_refl _) (Nat.le_refl _) ?_
  exact W.zret hx hb hr (tx_and _ h1).2 (fun t ht _ => ⟨rfl, ht⟩) (fun q h => by cases h) dJ0_charAt_5068e_15
/-- the rules of the text constant hold in Reader's constructor -/
theorem tm_Str_ok {l : Launch} {B : tm_B} {p : Program} {e : Env} {R : Room} {s : State} {m : MethodId} {args : Array Value} {below : List Frame} {meth : Method} {c : Code} {cc : ByteArray} {nL : Nat} {Q : State → Prop} (hx : p.tables.exec = Jvm.exec) (hb : c.code = cc) (hml : c.maxLocals = nL) (hown : s.vm.findClass RX5 = some m.cls) (hts : ∀ w ∈ tm_Om, w.before args s = true) (hSU : tm_SU B s) (hR1 : 4 ≤ R.frames) (hR2 : 85 ≤ R.locals) {i : Instr} {x1 x3 : Nat} (hi : (∃ k, i = .ldc k ∧ k ≠ 26) → x3 ≠ 1) (hi2 : (∃ k, i = .invokevirtual k) → x1 ≠ 9001 ∨ i = .invokevirtual 28) (hi3 : (∃ k, i = .invokevirtual k) → x1 ≠ 9002 ∨ i = .invokevirtual 34) : tm_Str B p l e R s m args below meth c cc nL Q i x1 x3 := by
  unfold tm_Str
  split
  · rename_i k
    intro h3 H locs cells slots pc ls rest hd kk
    by_cases hk : k = 26
    · subst hk
      exact va_ldcS hx hb hown hSU.1 hd kk
    · exact absurd h3 (hi ⟨k, rfl, hk⟩)
  · rename_i k
    refine ⟨?_, ?_⟩
    · intro h1 H locs cells slots pc ls rest hsz hw hS hc hs hd kk
      rcases hi2 ⟨k, rfl⟩ with h | h
      · exact absurd h1 h
      · cases h
        exact tm_ctV (as := []) hx hb hml hown hts hSU hS (c_len l B) rfl ty_len tz_len.1 tz_len.2 (tx_o _ (List.mem_of_getElem? (i := 3) rfl)) ⟨by show 1 + 1 ≤ _; omega, by show 8 + (1 + 11) + 20 ≤ _; omega⟩ rfl hw hsz hd hc hs kk
    · intro h1 H locs cells slots pc ls rest j hj0 hj1 hsz hw hS hc hs hd kk
      rcases hi3 ⟨k, rfl⟩ with h | h
      · exact absurd h1 h
      · cases h
        exact tm_ctV (as := [.int j]) hx hb hml hown hts hSU hS (c_ch l B j hj0 hj1) rfl ty_ch tz_ch.1 tz_ch.2 (tx_o _ (List.mem_of_getElem? (i := 5) rfl)) ⟨by show 3 + 1 ≤ _; omega, by show 8 + (2 + 11) + 64 ≤ _; omega⟩ rfl hw hsz hd hc hs kk
  · trivial
theorem tm_at_mem {cd : List tm_E} {pc : Nat} {q : Instr × Nat × Nat × Nat × Nat} (h : tm_at cd pc = some q) : (pc, q) ∈ cd := by
  induction cd with
  | nil => cases h
  | cons e r ih =>
    unfold tm_at at h
    cases hb : Nat.beq e.1 pc with
    | true =>
      rw [hb] at h
      obtain rfl : e.2 = q := Option.some.inj h
      obtain rfl : e.1 = pc := Nat.eq_of_beq_eq_true hb
      exact List.mem_cons_self
    | false =>
      rw [hb] at h
      exact List.mem_cons_of_mem _ (ih h)
theorem tm_StrM_ok {l : Launch} {t : tm_Mt} {cA : Nat → ClassId} {D : va_G} {B : tm_B} {R : Room} {s : State} {cd : List tm_E} (ht : t.1.cls = RX5) (hR1 : 4 ≤ R.frames) (hR2 : 85 ≤ R.locals) (hc : cd.all (fun e => (match e.2.1 with
  | .ldc k => k == 26 || e.2.2.2.2.2 != 1
  | .invokevirtual k => (e.2.2.2.1 != 9001 || k == 28) && (e.2.2.2.1 != 9002 || k == 34)
  | _ => true)) = true) : tm_StrM l t cA D B R s cd := by
  intro p e m args below meth c Q hx hb hml hown hts _ hSU pc q hq
  have h := List.all_eq_true.mp hc _ (tm_at_mem hq)
  rw [ht] at hown
  refine tm_Str_ok hx hb hml hown hts hSU hR1 hR2 ?_ ?_ ?_
  · rintro ⟨k, hk, hne⟩ h1
    simp [hk, hne, h1] at h
  · rintro ⟨k, hk⟩
    simp [hk] at h
    rw [hk]
    rcases h.1 with h | h
    · exact Or.inl h
    · exact Or.inr (by rw [h])
  · rintro ⟨k, hk⟩
    simp [hk] at h
    rw [hk]
    rcases h.2 with h | h
    · exact Or.inl h
    · exact Or.inr (by rw [h])
