/-! THE CLAIM OUT OF ONE WALK OF THE LAW'S BODY. Your part is whole_start (and what it stands on); all else here is the same for every law, but numbers. -/
def R_law : String := "TwoRopesLaw"
def lw_P (b : Addr) (xs : List Int32) (args : Array Value) (s : State) : Prop := args = #[.ref b] ∧ s.IntsAt b xs ∧ xs.length ≤ 3584 ∧ (Jvm.Cond.and given_1 narrow_1).before args s = true
def lw_Q (_ : Array Value) (s : State) (o : Outcome) (t : State) : Prop := o = .returned (some (.int 1)) ∧ Framed s o t [] 600000 7302250
def lw_Z (below : List Frame) (a : Array Value) (s : State) : State → Prop := fun t => ∃ o, t.status = .running ∧ Ended t below o ∧ lw_Q a s o t
/-- the law's own end, with 1 on the stack, nothing written that was there before, its room as the claim has it -/
theorem lw_ret {p : Program} {l : Launch} {e : Env} {s : State} {m : MethodId} {below : List Frame} {meth : Method} {c : Code} {b : Nat} (hx : p.tables.exec = Jvm.exec) (hb : c.code = code) (hr : meth.sig.returnType = ret) (hlocks : meth.locks = false) {pc : Nat} {H : Heap} {ls : Array Slot} (hdg : decode code pc = .ok (.ireturn, 1)) : W p l e room_1 s m #[Value.ref b] below meth c H [] 600000 7302250 (lw_Z below #[Value.ref b] s) (F0 m pc ls [.int 1]) := by
  intro T hT X
  obtain ⟨fs, hret, hrun, hended, hW, hframe⟩ := X.leave (v := some (.int 1)) (hlocks := hlocks) (fun h => by rw [hr] at h; cases h)
  have hmeth' : T.vm.method? m = some meth := X.method'
  refine ⟨T.setFrames fs, ?_, .returned (some (.int 1)), hrun, hended, rfl, ⟨_, rfl⟩, hW, hframe⟩
  jvm_step X.here [X.here.top, hx, hb, hdg, hmeth', hr, ret, narrow_b1]
  (try refine ⟨rfl, ?_⟩); (try refine ⟨rfl, ?_⟩)
  first | (intro acts; rw [hret _ acts rfl rfl rfl]) | rw [hret _ _ rfl rfl rfl]
  exact Steps.refl _
/-- what holds at the law's entry: the machine, the code, the tables' words (any of lw_tbl by 'hts w (by decide +kernel)'), the script of L ints xs at the cell b, what the Statement gives of the start (any of its parts by flat_of_before) -/
def lw_At (p : Program) (s : State) (m : MethodId) (meth : Method) (c : Code) (b L : Nat) (xs : Nat → Int32) : Prop :=
  p.tables.exec = Jvm.exec ∧ c.code = code ∧ meth.sig.returnType = ret ∧ c.maxLocals = 4 ∧ s.vm.findClass R_law = some m.cls ∧ (∀ w ∈ lw_tbl, w.before #[Value.ref b] s = true) ∧ va_X b L xs s s.heap ∧ b < s.heap.size ∧ meth.locks = false ∧ (Jvm.Cond.and given_1 narrow_1).before #[Value.ref b] s = true
/-- the memory at the law's entry: nothing -/
def tm_M0 : tm_M := (fun _ _ => 0, fun _ _ => 0, fun _ _ => 0, 0, 0)
/-- what the law comes to, by the plain machine, from its loop's head -/
noncomputable def lawF (L : Nat) (xs : Nat → Int32) : tm_K := tm_F tm_sh (some (L, xs)) G_252 true cd_252 cu_252 825
/-- what the law comes to, by the plain machine -/
noncomputable def lawR (L : Nat) (xs : Nat → Int32) : Option tm_R := tm_b tm_sh (some (L, xs)) G_252 true cd_252 cu_252 (lawF L xs) 825 0 [(0, .ref 1)] [] tm_M0
set_option maxRecDepth 100000 in
theorem law_words : (∀ w ∈ [Cond.instantiable RX0 2, .instantiable RX1 11, .instantiable RX2 11, .instantiable RX3 7, .instantiable RX4 11, .instantiable RX5 10, .instantiable RX6 3, .instantiable RX7 7, .instantiable RX8 9, .instantiable RX9 6, .instantiable RX10 14, .instantiable RX11 86, .arrayClass .int, .arrayClass .byte, .arrayClass .boolean, .arrayClass .long, .initialized "java/lang/String", .initialized "jdk/internal/util/Preconditions"], w ∈ tm_Om) := tm_Om_ps [458, 357, 416, 294, 245, 138, 397, 524, 465, 239, 130, 1246, 291, 236, 335, 237, 112, 114] rfl rfl
theorem law_tbl {w : Cond} (i : Nat) (h : lw_tbl[i]? = some w) : w ∈ lw_tbl := List.mem_of_getElem? h
theorem law_inst : ∀ (ci : Nat) (C : String) (T : u_T) (N : Nat), vwCl[ci]? = some (C, T, N) → Cond.instantiable C N ∈ tm_Om := by
  intro ci C T N h
  match ci, h with
  | 0, h => cases h; exact law_words _ (List.mem_of_getElem? (i := 0) rfl)
  | 1, h => cases h; exact law_words _ (List.mem_of_getElem? (i := 1) rfl)
  | 2, h => cases h; exact law_words _ (List.mem_of_getElem? (i := 2) rfl)
  | 3, h => cases h; exact law_words _ (List.mem_of_getElem? (i := 3) rfl)
  | 4, h => cases h; exact law_words _ (List.mem_of_getElem? (i := 4) rfl)
  | 5, h => cases h; exact law_words _ (List.mem_of_getElem? (i := 5) rfl)
  | 6, h => cases h; exact law_words _ (List.mem_of_getElem? (i := 6) rfl)
  | 7, h => cases h; exact law_words _ (List.mem_of_getElem? (i := 7) rfl)
  | 8, h => cases h; exact law_words _ (List.mem_of_getElem? (i := 8) rfl)
  | 9, h => cases h; exact law_words _ (List.mem_of_getElem? (i := 9) rfl)
  | 10, h => cases h; exact law_words _ (List.mem_of_getElem? (i := 10) rfl)
  | 11, h => cases h; exact law_words _ (List.mem_of_getElem? (i := 11) rfl)
  | n + 12, h => cases h
theorem law_KU {args : Array Value} {s : State} (hts : ∀ w ∈ lw_tbl, w.before args s = true) : ∃ (cA : Nat → ClassId) (D : va_G), tm_KU cA D s := by
  have htO : ∀ w ∈ tm_Om, w.before args s = true := fun w hw => hts w (List.mem_filter.mp hw).1
  have h0 : ∀ ci : Nat, ∃ z : ClassId × (Nat → Nat), ∀ q : vw_C, vwCl[ci]? = some q → u_Kn s q.1 q.2.1 q.2.2 z.1 z.2 := by
    intro ci
    cases hc : vwCl[ci]? with
    | none => exact ⟨(0, fun _ => 0), fun q h => by cases h⟩
    | some q =>
      obtain ⟨C, T, N⟩ := q
      obtain ⟨cC, iS, hk⟩ := u_known htO (tm_CL_ok ci C T N hc).2.1 (htO _ (law_inst ci C T N hc))
      exact ⟨(cC, iS), fun q h => by cases h; exact hk⟩
  obtain ⟨f, hf⟩ := Classical.axiomOfChoice h0
  obtain ⟨c1, k1, q1, a1, b1, d1⟩ := Cond.arrayClass_spec (htO _ (law_words _ (List.mem_of_getElem? (i := 12) rfl)))
  obtain ⟨c2, k2, q2, a2, b2, d2⟩ := Cond.arrayClass_spec (htO _ (law_words _ (List.mem_of_getElem? (i := 13) rfl)))
  obtain ⟨c3, k3, q3, a3, b3, d3⟩ := Cond.arrayClass_spec (htO _ (law_words _ (List.mem_of_getElem? (i := 14) rfl)))
  obtain ⟨c4, k4, q4, a4, b4, d4⟩ := Cond.arrayClass_spec (htO _ (law_words _ (List.mem_of_getElem? (i := 15) rfl)))
  have o5 : (Cond.arrayOver (.object RX8)).before args s = true := hts _ (law_tbl 464 rfl)
  have o6 : (Cond.arrayOver (.object RX3)).before args s = true := hts _ (law_tbl 293 rfl)
  obtain ⟨q5, c5, k5, a5, -, b5, d5, e5⟩ := Cond.arrayOver_spec o5
  obtain ⟨q6, c6, k6, a6, -, b6, d6, e6⟩ := Cond.arrayOver_spec o6
  refine ⟨fun k => if k = 1 then c1 else if k = 2 then c2 else if k = 3 then c3 else if k = 4 then c4 else if k = 5 then c5 else c6, (fun k => (f k).1, fun k => (f k).2), ⟨fun ci q h => hf ci q h, ?_⟩, fun w hw => va_Nw.of (tm_nest_on hw) (hts w (List.mem_filter.mp hw).1), va_AO.of o5, va_AO.of o6⟩
  intro k q h
  match k, h with
  | 0, h => cases h; exact ⟨fun n z => ⟨fun k h => (by cases h), k1, b1, q1, d1⟩, a1⟩
  | 1, h => cases h; exact ⟨fun n z => ⟨fun k h => (by cases h), k2, b2, q2, d2⟩, a2⟩
  | 2, h => cases h; exact ⟨fun n z => ⟨fun k h => (by cases h), k3, b3, q3, d3⟩, a3⟩
  | 3, h => cases h; exact ⟨fun n z => ⟨fun k h => (by cases h), k4, b4, q4, d4⟩, a4⟩
  | 4, h => cases h; exact ⟨fun n z => ⟨fun k h => (by cases h), k5, b5, q5, d5⟩, k5, q5, b5, d5, a5, e5⟩
  | 5, h => cases h; exact ⟨fun n z => ⟨fun k h => (by cases h), k6, b6, q6, d6⟩, k6, q6, b6, d6, a6, e6⟩
  | n + 6, h => cases h
theorem law_txt : (Cond.exactly (.string RX5 26) "java/lang/String" ∈ flatC (Jvm.Cond.and given_1 narrow_1)) ∧ (Cond.eq (.field (.string RX5 26) "java/lang/String" "coder" "B") (.int 0) ∈ flatC (Jvm.Cond.and given_1 narrow_1)) ∧ (Cond.arrayOf (.field (.string RX5 26) "java/lang/String" "value" "[B") .byte ∈ flatC (Jvm.Cond.and given_1 narrow_1)) ∧ (Cond.eq (.length (.field (.string RX5 26) "java/lang/String" "value" "[B")) (.int 108) ∈ flatC (Jvm.Cond.and given_1 narrow_1)) ∧ (Cond.eq (.static "java/lang/String" "COMPACT_STRINGS" "Z") (.int 1) ∈ flatC (Jvm.Cond.and given_1 narrow_1)) ∧ (Cond.isRef (.static "jdk/internal/util/Preconditions" "SIOOBE_FORMATTER" "Ljava/util/function/BiFunction;") ∈ flatC (Jvm.Cond.and given_1 narrow_1)) := by decide +kernel
theorem law_el : ∀ j, j < 108 → Cond.eq (.elem (.field (.string RX5 26) "java/lang/String" "value" "[B") (.int (Int32.ofNat j))) (.int (((List.range 108).map tm_by).getD j 0)) ∈ flatC (Jvm.Cond.and given_1 narrow_1) := by decide +kernel
theorem law_SU {args : Array Value} {s : State} {b : Nat} (hts : ∀ w ∈ lw_tbl, w.before args s = true) (hgv : (Jvm.Cond.and given_1 narrow_1).before args s = true) : ∃ k v : Nat, tm_SU (s.heap.size, b, k, v) s := by
  have hs := flat_of_before _ hgv
  have hA : ∀ a : Nat, a < s.heap.size → ¬ (fun q : Nat => s.heap.size ≤ q) a := fun a h => Nat.not_le.mpr h
  have htO : ∀ w ∈ tm_Om, w.before args s = true := fun w hw => hts w (List.mem_filter.mp hw).1
  obtain ⟨x1, x2, x3, x4, x5, x6⟩ := law_txt
  obtain ⟨adK, adV, hS, hE⟩ := vk_Sof (args := args) (s := s) (N := 1) (tm := fun _ => .string RX5 26) (len := [108]) (byt := [(List.range 108).map tm_by]) (A := fun q : Nat => s.heap.size ≤ q)
    (fun i hi => by rw [show i = 0 by omega]; decide) (fun i hi => hs _ x1) (fun i hi => hs _ x2) (fun i hi => hs _ x3) (fun i hi => by rw [show i = 0 by omega]; exact hs _ x4) (fun i hi j hj => by
      rw [show i = 0 by omega] at hj ⊢
      exact hs _ (law_el j hj)) (fun i j hi hj hne => absurd (by omega) hne) hA
  obtain ⟨h1, h2, h3, h4⟩ := hS.1 0 (by omega)
  refine ⟨adK 0, adV 0, vk_R.of (hts _ (law_tbl 143 rfl)) (hE 0 (by omega)), va_Zof (hts _ (law_tbl 153 rfl)) (htO _ (law_words _ (List.mem_of_getElem? (i := 16) rfl))) (va_eqi (hs _ x5)) hA, va_Zqof (hts _ (law_tbl 169 rfl)) (htO _ (law_words _ (List.mem_of_getElem? (i := 17) rfl))) (hs _ x6) hA, h1, h2, h3, ?_⟩
  obtain ⟨cell, g1, g2, g3, g4, g5, g6, g7⟩ := h4
  refine ⟨cell, g1, g2, g3, g4, g5, fun j hj => ?_, g7⟩
  rw [g6 j hj]
  have : (((List.range 108).map tm_by)).getD j 0 = tm_by j := by
    rw [List.getD_eq_getElem?_getD, List.getElem?_map, List.getElem?_range hj]; rfl
  show some (Value.int ((((List.range 108).map tm_by)).getD j 0)) = _
  rw [this]
set_option maxRecDepth 100000 in
/-- the walk of the law out of what the plain machine gives -/
theorem whole_start_open (hpure : ∀ (L : Nat) (xs : Nat → Int32), L ≤ 3584 → ∃ M' : tm_M, lawR L xs = some (some (.int 1), M') ∧ tm_z M' ≤ 600000 ∧ tm_s M' ≤ 7302250)
    {p : Program} {e : Env} {s : State} {m : MethodId} {below : List Frame} {meth : Method} {c : Code} (l : Launch) {b L : Nat} {xs : Nat → Int32} (hL : L ≤ 3584) (C0 : lw_At p s m meth c b L xs) : W p l e room_1 s m #[Value.ref b] below meth c s.heap [] 0 0 (lw_Z below #[Value.ref b] s) (entryFrame m ([Value.ref b] : List Value).toArray 4) := by
  obtain ⟨hx, hb, hr, hml, hown, hts, hX, hbl, hlocks, hgv⟩ := C0
  obtain ⟨M', hM, hz, hs⟩ := hpure L xs hL
  obtain ⟨cA, D, hKU⟩ := law_KU hts
  obtain ⟨k, v, hSU⟩ := law_SU (b := b) hts hgv
  have htO : ∀ w ∈ tm_Om, w.before #[Value.ref b] s = true := fun w hw => hts w (List.mem_filter.mp hw).1
  have hC : tm_Cx tm_sh cA D (s.heap.size, b, k, v) p s m #[Value.ref b] meth c (tm_mt 252).2.1 RL false (tm_mt 252).2.2.1 0 := ⟨hx, hb, hml, hown, htO, hKU, rfl, tm_Sok_ok, tm_CL_ok, fun h => (by cases h), hSU⟩
  have hXo : tm_XOk (s.heap.size, b, k, v) s (some (L, xs)) := ⟨hX, hbl, Nat.not_le.mpr hbl⟩
  have hret : tm_Ret tm_sh cA D (s.heap.size, b, k, v) p l e room_1 s m #[Value.ref b] below meth c (tm_mt 252).2.1 (tm_mt 252).2.2.1 0 0 (lw_Z below #[Value.ref b] s) (tm_mt 252).2.2.2.1 true (some (.int 1), M') := by
    refine ⟨?_, ?_, ?_⟩
    · intro pc al w _ hd hw _ H locs cells slots ls hP hS hc hs' hlv
      cases hw
      refine va_forget (fun q hq => hS.2.2 q hq) ?_
      refine W.widen (k := 600000) (n := 7302250) (by have : cells + 0 = tm_z M' := hc; omega) (by have : slots + 0 = tm_s M' := hs'; omega) ?_
      exact lw_ret hx hb hr hlocks hd
    · intro pc al w _ _ hw
      cases hw
    · intro pc al _ _ hw
      cases hw
  have hl := lv_entry [Value.ref b] (n := 4) (Nat.le_of_ble_eq_true rfl)
  rw [lg_entry_eq]
  have hst : ∀ pc q, tm_at cd_252 pc = some q → tm_Str (s.heap.size, b, k, v) p l e room_1 s m #[Value.ref b] below meth c (tm_mt 252).2.1 (tm_mt 252).2.2.1 (lw_Z below #[Value.ref b] s) q.1 q.2.2.1 q.2.2.2.2 := fun pc q hq => tm_nos_ok (List.all_eq_true.mp nos_252 _ (tm_at_mem hq))
  exact tm_b_ok (t := tm_mt 252) (X := some (L, xs)) (G := G_252) (cuts := cu_252) (r := (some (.int 1), M')) (R := room_1) (e := e) (l := l) hC hXo gg_252 (gm_252 l) (fun _ _ => ⟨rfl, rfl⟩) rfl rfl (by show tm_z M' ≤ 600000 + 0; omega) (by show tm_s M' ≤ 7302250 + 0; omega) hret ck_252 hst (tm_F_gr gg_252)
    (tm_F_ok (t := tm_mt 252) (X := some (L, xs)) (G := G_252) (cuts := cu_252) (r := (some (.int 1), M')) (R := room_1) (e := e) (l := l) hC hXo gg_252 (gm_252 l) (fun _ _ => ⟨rfl, rfl⟩) rfl rfl (by show tm_z M' ≤ 600000 + 0; omega) (by show tm_s M' ≤ 7302250 + 0; omega) hret ck_252 hst)
    825 0 [(0, .ref 1)] [] tm_M0 hM s.heap [] 0 0 _ (fun k q h => by cases h) va_S.rf rfl rfl hl
