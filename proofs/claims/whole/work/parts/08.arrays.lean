/-! arrays and new cells -/
section ARR
variable {S : tm_S} {X : tm_X} {G : tm_G} {tz : Bool} {go : tm_N} {cA : Nat → ClassId} {D : va_G} {B : tm_B} {p : Program} {l : Launch} {e : Env} {R : Room} {s : State} {m : MethodId} {args : Array Value} {below : List Frame} {meth : Method} {c : Code} {cc : ByteArray} {own : String} {nL z0 s0 : Nat} {Q : State → Prop}
variable {ini : Bool} {H : Heap} {locs : List Loc} {cells slots : Nat} {ls : Array Slot} {rest : List Value} {M : tm_M} {a pc : Nat} {i : Int32}
theorem tm_ald_i (hC : tm_Cx S cA D B p s m args meth c cc own ini nL z0) (hP : va_P D vwCl (tm_wd S cA B M) H) (hk : tm_kd S M a = 1) (hi : 0 ≤ i ∧ i.toNatClampNeg < (S a).2) (hd : decode cc pc = .ok (.iaload, 1))
    (kk : W p l e R s m args below meth c H locs cells slots Q (F0 m (pc + 1) ls (.int (tm_i M a i.toNatClampNeg) :: rest))) : W p l e R s m args below meth c H locs cells slots Q (F0 m pc ls (.int i :: .ref (tm_ad B a) :: rest)) := by
  obtain ⟨hx, hb, hml, hown, hts, ⟨hK, hn, -⟩, -, hS, hCL, -⟩ := hC
  obtain ⟨g1, g2, g3⟩ := tm_kd_pos hS.1 hS.2.1 hk (by omega)
  have he := tm_wd_get (S := S) (cA := cA) (B := B) g1 g2
  rw [tm_e_int g3 (by omega)] at he
  exact va_iald hx hb hK hP (a - 2) 0 he rfl (tm_vpin hi) hd kk
theorem tm_ald_b (hC : tm_Cx S cA D B p s m args meth c cc own ini nL z0) (hP : va_P D vwCl (tm_wd S cA B M) H) (hk : tm_kd S M a = 2 ∨ tm_kd S M a = 3) (hi : 0 ≤ i ∧ i.toNatClampNeg < (S a).2) (hd : decode cc pc = .ok (.baload, 1))
    (kk : W p l e R s m args below meth c H locs cells slots Q (F0 m (pc + 1) ls (.int (tm_i M a i.toNatClampNeg) :: rest))) : W p l e R s m args below meth c H locs cells slots Q (F0 m pc ls (.int i :: .ref (tm_ad B a) :: rest)) := by
  obtain ⟨hx, hb, hml, hown, hts, ⟨hK, hn, -⟩, -, hS, hCL, -⟩ := hC
  rcases hk with hk | hk
  · obtain ⟨g1, g2, g3⟩ := tm_kd_pos hS.1 hS.2.1 hk (by omega)
    have he := tm_wd_get (S := S) (cA := cA) (B := B) g1 g2
    rw [tm_e_int g3 (by omega)] at he
    exact va_bald hx hb hK hP (a - 2) 1 he rfl (tm_vpin hi) hd kk
  · obtain ⟨g1, g2, g3⟩ := tm_kd_pos hS.1 hS.2.1 hk (by omega)
    have he := tm_wd_get (S := S) (cA := cA) (B := B) g1 g2
    rw [tm_e_int g3 (by omega)] at he
    exact va_zald hx hb hK hP (a - 2) 2 he rfl (tm_vpin hi) hd kk
theorem tm_ald_l (hC : tm_Cx S cA D B p s m args meth c cc own ini nL z0) (hP : va_P D vwCl (tm_wd S cA B M) H) (hk : tm_kd S M a = 4) (hi : 0 ≤ i ∧ i.toNatClampNeg < (S a).2) (hd : decode cc pc = .ok (.laload, 1))
    (kk : W p l e R s m args below meth c H locs cells slots Q (F0 m (pc + 1) ls (.long (tm_j M a i.toNatClampNeg) :: rest))) : W p l e R s m args below meth c H locs cells slots Q (F0 m pc ls (.int i :: .ref (tm_ad B a) :: rest)) := by
  obtain ⟨hx, hb, hml, hown, hts, ⟨hK, hn, -⟩, -, hS, hCL, -⟩ := hC
  obtain ⟨g1, g2, g3⟩ := tm_kd_pos hS.1 hS.2.1 hk (by omega)
  have he := tm_wd_get (S := S) (cA := cA) (B := B) g1 g2
  rw [tm_e_long g3] at he
  exact va_lald hx hb hK hP (a - 2) 3 he rfl (tm_vpin hi) hd kk
theorem tm_ald_a (hC : tm_Cx S cA D B p s m args meth c cc own ini nL z0) (hP : va_P D vwCl (tm_wd S cA B M) H) (hk : tm_kd S M a = 5 ∨ tm_kd S M a = 6) (hi : 0 ≤ i ∧ i.toNatClampNeg < (S a).2) (hd : decode cc pc = .ok (.aaload, 1))
    (kk : W p l e R s m args below meth c H locs cells slots Q (F0 m (pc + 1) ls (tm_rl B (.ref (tm_r M a i.toNatClampNeg)) :: rest))) : W p l e R s m args below meth c H locs cells slots Q (F0 m pc ls (.int i :: .ref (tm_ad B a) :: rest)) := by
  obtain ⟨hx, hb, hml, hown, hts, ⟨hK, hn, -⟩, -, hS, hCL, -⟩ := hC
  rcases hk with hk | hk
  · obtain ⟨g1, g2, g3⟩ := tm_kd_pos hS.1 hS.2.1 hk (by omega)
    have he := tm_wd_get (S := S) (cA := cA) (B := B) g1 g2
    rw [tm_e_refs g3 (by omega) (by omega)] at he
    exact va_aldq hx hb hK hP (a - 2) 4 he rfl (tm_vpin hi) hd kk
  · obtain ⟨g1, g2, g3⟩ := tm_kd_pos hS.1 hS.2.1 hk (by omega)
    have he := tm_wd_get (S := S) (cA := cA) (B := B) g1 g2
    rw [tm_e_refs g3 (by omega) (by omega)] at he
    exact va_aldq hx hb hK hP (a - 2) 5 he rfl (tm_vpin hi) hd kk
theorem tm_ast_i (hC : tm_Cx S cA D B p s m args meth c cc own ini nL z0) (hP : va_P D vwCl (tm_wd S cA B M) H) (hSt : va_S (fun q => B.1 ≤ q) s.heap H locs) (hk : tm_kd S M a = 1) (hi : 0 ≤ i ∧ i.toNatClampNeg < (S a).2) {v : Int32} (hd : decode cc pc = .ok (.iastore, 1))
    (kk : ∀ (H1 : Heap) (locs1 : List Loc), va_P D vwCl (tm_wd S cA B (tm_si M a i.toNatClampNeg v)) H1 → va_S (fun q => B.1 ≤ q) s.heap H1 locs1 → W p l e R s m args below meth c H1 locs1 cells slots Q (F0 m (pc + 1) ls rest)) : W p l e R s m args below meth c H locs cells slots Q (F0 m pc ls (.int v :: .int i :: .ref (tm_ad B a) :: rest)) := by
  obtain ⟨hx, hb, hml, hown, hts, ⟨hK, hn, -⟩, -, hS, hCL, -⟩ := hC
  obtain ⟨g1, g2, g3⟩ := tm_kd_pos hS.1 hS.2.1 hk (by omega)
  have he := tm_wd_get (S := S) (cA := cA) (B := B) g1 g2
  rw [tm_e_int g3 (by omega)] at he
  refine va_iast hx hb hK hP tm_wd_D hSt (a - 2) 0 he rfl (tm_vpin hi) hd fun H1 l1 q1 _ q3 => kk H1 l1 ?_ q3
  rwa [tm_wd_set (M := M) (M' := tm_si M a i.toNatClampNeg v) g1 rfl ?_ (fun n hn => tm_e_si hn)] at q1
  rw [tm_e_int g3 (by omega), tm_i_si]
theorem tm_ast_b (hC : tm_Cx S cA D B p s m args meth c cc own ini nL z0) (hP : va_P D vwCl (tm_wd S cA B M) H) (hSt : va_S (fun q => B.1 ≤ q) s.heap H locs) (hk : tm_kd S M a = 2) (hi : 0 ≤ i ∧ i.toNatClampNeg < (S a).2) {v : Int32} (hd : decode cc pc = .ok (.bastore, 1))
    (kk : ∀ (H1 : Heap) (locs1 : List Loc), va_P D vwCl (tm_wd S cA B (tm_si M a i.toNatClampNeg v.toInt8.toInt32)) H1 → va_S (fun q => B.1 ≤ q) s.heap H1 locs1 → W p l e R s m args below meth c H1 locs1 cells slots Q (F0 m (pc + 1) ls rest)) : W p l e R s m args below meth c H locs cells slots Q (F0 m pc ls (.int v :: .int i :: .ref (tm_ad B a) :: rest)) := by
  obtain ⟨hx, hb, hml, hown, hts, ⟨hK, hn, -⟩, -, hS, hCL, -⟩ := hC
  obtain ⟨g1, g2, g3⟩ := tm_kd_pos hS.1 hS.2.1 hk (by omega)
  have he := tm_wd_get (S := S) (cA := cA) (B := B) g1 g2
  rw [tm_e_int g3 (by omega)] at he
  refine va_bast hx hb hK hP tm_wd_D hSt (a - 2) 1 he rfl (tm_vpin hi) hd fun H1 l1 q1 _ q3 => kk H1 l1 ?_ q3
  rwa [tm_wd_set (M := M) (M' := tm_si M a i.toNatClampNeg v.toInt8.toInt32) g1 rfl ?_ (fun n hn => tm_e_si hn)] at q1
  rw [tm_e_int g3 (by omega), tm_i_si]
  rfl
theorem tm_ast_z (hC : tm_Cx S cA D B p s m args meth c cc own ini nL z0) (hP : va_P D vwCl (tm_wd S cA B M) H) (hSt : va_S (fun q => B.1 ≤ q) s.heap H locs) (hk : tm_kd S M a = 3) (hi : 0 ≤ i ∧ i.toNatClampNeg < (S a).2) {v : Int32} (hd : decode cc pc = .ok (.bastore, 1))
    (kk : ∀ (H1 : Heap) (locs1 : List Loc), va_P D vwCl (tm_wd S cA B (tm_si M a i.toNatClampNeg (v &&& 1))) H1 → va_S (fun q => B.1 ≤ q) s.heap H1 locs1 → W p l e R s m args below meth c H1 locs1 cells slots Q (F0 m (pc + 1) ls rest)) : W p l e R s m args below meth c H locs cells slots Q (F0 m pc ls (.int v :: .int i :: .ref (tm_ad B a) :: rest)) := by
  obtain ⟨hx, hb, hml, hown, hts, ⟨hK, hn, -⟩, -, hS, hCL, -⟩ := hC
  obtain ⟨g1, g2, g3⟩ := tm_kd_pos hS.1 hS.2.1 hk (by omega)
  have he := tm_wd_get (S := S) (cA := cA) (B := B) g1 g2
  rw [tm_e_int g3 (by omega)] at he
  refine va_zast hx hb hK hP tm_wd_D hSt (a - 2) 2 he rfl (tm_vpin hi) hd fun H1 l1 q1 _ q3 => kk H1 l1 ?_ q3
  rwa [tm_wd_set (M := M) (M' := tm_si M a i.toNatClampNeg (v &&& 1)) g1 rfl ?_ (fun n hn => tm_e_si hn)] at q1
  rw [tm_e_int g3 (by omega), tm_i_si]
  rfl
theorem tm_ast_l (hC : tm_Cx S cA D B p s m args meth c cc own ini nL z0) (hP : va_P D vwCl (tm_wd S cA B M) H) (hSt : va_S (fun q => B.1 ≤ q) s.heap H locs) (hk : tm_kd S M a = 4) (hi : 0 ≤ i ∧ i.toNatClampNeg < (S a).2) {v : Int64} (hd : decode cc pc = .ok (.lastore, 1))
    (kk : ∀ (H1 : Heap) (locs1 : List Loc), va_P D vwCl (tm_wd S cA B (tm_sj M a i.toNatClampNeg v)) H1 → va_S (fun q => B.1 ≤ q) s.heap H1 locs1 → W p l e R s m args below meth c H1 locs1 cells slots Q (F0 m (pc + 1) ls rest)) : W p l e R s m args below meth c H locs cells slots Q (F0 m pc ls (.long v :: .int i :: .ref (tm_ad B a) :: rest)) := by
  obtain ⟨hx, hb, hml, hown, hts, ⟨hK, hn, -⟩, -, hS, hCL, -⟩ := hC
  obtain ⟨g1, g2, g3⟩ := tm_kd_pos hS.1 hS.2.1 hk (by omega)
  have he := tm_wd_get (S := S) (cA := cA) (B := B) g1 g2
  rw [tm_e_long g3] at he
  refine va_last hx hb hK hP tm_wd_D hSt (a - 2) 3 he rfl (tm_vpin hi) hd fun H1 l1 q1 _ q3 => kk H1 l1 ?_ q3
  rwa [tm_wd_set (M := M) (M' := tm_sj M a i.toNatClampNeg v) g1 rfl ?_ (fun n hn => tm_e_sj hn)] at q1
  rw [tm_e_long g3, tm_j_sj]
theorem tm_ast_a (hC : tm_Cx S cA D B p s m args meth c cc own ini nL z0) (hP : va_P D vwCl (tm_wd S cA B M) H) (hSt : va_S (fun q => B.1 ≤ q) s.heap H locs) {v x1 x2 : Nat} (hx12 : (x1 = 8 ∧ x2 = 5) ∨ (x1 = 3 ∧ x2 = 6)) (hk : tm_kd S M a = x2) (hkv : tm_kd S M v = 100 + x1) (hi : 0 ≤ i ∧ i.toNatClampNeg < (S a).2) (hd : decode cc pc = .ok (.aastore, 1))
    (kk : ∀ (H1 : Heap) (locs1 : List Loc), va_P D vwCl (tm_wd S cA B (tm_sr M a i.toNatClampNeg v)) H1 → va_S (fun q => B.1 ≤ q) s.heap H1 locs1 → W p l e R s m args below meth c H1 locs1 cells slots Q (F0 m (pc + 1) ls rest)) : W p l e R s m args below meth c H locs cells slots Q (F0 m pc ls (.ref (tm_ad B v) :: .int i :: .ref (tm_ad B a) :: rest)) := by
  obtain ⟨hx, hb, hml, hown, hts, ⟨hK, hn, -⟩, -, hS, hCL, -⟩ := hC
  obtain ⟨g1, g2, g3⟩ := tm_kd_pos hS.1 hS.2.1 hk (by omega)
  have he := tm_wd_get (S := S) (cA := cA) (B := B) g1 g2
  rw [tm_e_refs g3 (by omega) (by omega)] at he
  obtain ⟨f1, f2, f3⟩ := tm_kd_pos hS.1 hS.2.1 hkv (by omega)
  have hve := tm_wd_get (S := S) (cA := cA) (B := B) f1 f2
  rw [tm_e_obj f3] at hve
  have hset : (tm_wd S cA B M).set (a - 2) (tm_ad B a, .inl (cA x2, (S a).2, .inr (.inr (.inr (.inr (va_up (fun j => tm_q B (tm_r M a j)) i.toNatClampNeg (some (tm_ad B v)))))))) = tm_wd S cA B (tm_sr M a i.toNatClampNeg v) := by
    refine tm_wd_set g1 rfl ?_ (fun n hn => tm_e_sr hn)
    rw [tm_e_refs g3 (by omega) (by omega), tm_r_sr]
    have : (fun j => tm_q B (va_up (tm_r M a) i.toNatClampNeg v j)) = va_up (fun j => tm_q B (tm_r M a j)) i.toNatClampNeg (some (tm_ad B v)) := by
      funext j
      unfold va_up
      split
      · unfold tm_q
        rw [if_neg (by omega)]
      · rfl
    rw [this]
  rcases hx12 with ⟨rfl, rfl⟩ | ⟨rfl, rfl⟩
  · exact va_astq (r := (RX8, TX8, 9)) hx hb hK hP tm_wd_D hSt (a - 2) 4 (v - 2) 8 he rfl hve rfl (tm_vpin hi) hd fun H1 l1 q1 _ q3 => kk H1 l1 (hset ▸ q1) q3
  · exact va_astq (r := (RX3, TX3, 7)) hx hb hK hP tm_wd_D hSt (a - 2) 5 (v - 2) 3 he rfl hve rfl (tm_vpin hi) hd fun H1 l1 q1 _ q3 => kk H1 l1 (hset ▸ q1) q3
theorem tm_alen (hC : tm_Cx S cA D B p s m args meth c cc own ini nL z0) (hP : va_P D vwCl (tm_wd S cA B M) H) (hk : 1 ≤ tm_kd S M a ∧ tm_kd S M a ≤ 6) (hd : decode cc pc = .ok (.arraylength, 1))
    (kk : W p l e R s m args below meth c H locs cells slots Q (F0 m (pc + 1) ls (.int (Int32.ofNat (S a).2) :: rest))) : W p l e R s m args below meth c H locs cells slots Q (F0 m pc ls (.ref (tm_ad B a) :: rest)) := by
  obtain ⟨hx, hb, hml, hown, hts, ⟨hK, hn, -⟩, -, hS, hCL, -⟩ := hC
  obtain ⟨g1, g2, g3⟩ := tm_kd_pos hS.1 hS.2.1 (rfl : tm_kd S M a = tm_kd S M a) (by omega)
  have he := tm_wd_get (S := S) (cA := cA) (B := B) g1 g2
  generalize hkd : tm_kd S M a = k at hk g3
  obtain ⟨h1, h2⟩ := hk
  have h7 : k = 1 ∨ k = 2 ∨ k = 3 ∨ k = 4 ∨ k = 5 ∨ k = 6 := by omega
  rcases h7 with rfl | rfl | rfl | rfl | rfl | rfl
  · rw [tm_e_int g3 (by omega)] at he
    exact va_alen hx hb hK hP (a - 2) 0 he (ty := .int) rfl rfl hd kk
  · rw [tm_e_int g3 (by omega)] at he
    exact va_alen hx hb hK hP (a - 2) 1 he (ty := .byte) rfl rfl hd kk
  · rw [tm_e_int g3 (by omega)] at he
    exact va_alen hx hb hK hP (a - 2) 2 he (ty := .boolean) rfl rfl hd kk
  · rw [tm_e_long g3] at he
    exact va_alen hx hb hK hP (a - 2) 3 he (ty := .long) rfl rfl hd kk
  · rw [tm_e_refs g3 (by omega) (by omega)] at he
    exact va_alen hx hb hK hP (a - 2) 4 he (ty := .object RX8) rfl rfl hd kk
  · rw [tm_e_refs g3 (by omega) (by omega)] at he
    exact va_alen hx hb hK hP (a - 2) 5 he (ty := .object RX3) rfl rfl hd kk
/-- a new cell behind the others -/
theorem tm_pnew {H1 : Heap} {n : Nat} (hP : va_P D vwCl (tm_wd S cA B M) H) (hz : H.size = B.1 + tm_z M) (ho : ∀ q, q < H.size → H1[q]? = H[q]?) (ha : va_at D vwCl (B.1 + tm_z M, tm_e S cA B (tm_nw M n) (tm_z M + 2)) H1) : va_P D vwCl (tm_wd S cA B (tm_nw M n)) H1 := by
  rw [tm_wd_nw]
  refine va_P.app (hP.kept fun k q hq => ho q.1 ((hP k q hq).lt)) (fun k q hk => ?_)
  have hk1 : k < 1 := (List.getElem?_eq_some_iff.mp hk).1
  rw [show k = 0 by omega] at hk
  cases hk
  exact ha
theorem tm_snew {H1 : Heap} (hSt : va_S (fun q => B.1 ≤ q) s.heap H locs) (hz1 : H1.size = H.size + 1) (ho : ∀ q, q < H.size → H1[q]? = H[q]?) : va_S (fun q => B.1 ≤ q) s.heap H1 locs := ⟨Nat.le_trans hSt.1 (by omega), fun x h1 h2 => (ho x (Nat.lt_of_lt_of_le h1 hSt.1)).trans (hSt.2.1 x h1 h2), hSt.2.2⟩
theorem tm_new_ok (hC : tm_Cx S cA D B p s m args meth c cc own ini nL z0) (hP : va_P D vwCl (tm_wd S cA B M) H) (hSt : va_S (fun q => B.1 ≤ q) s.heap H locs) (hz : H.size = B.1 + tm_z M) {ci i : Nat} {C : String} {T : u_T} {N : Nat} (hc : vwCl[ci]? = some (C, T, N)) (hl1 : Cond.classLink own i C ∈ tm_Om) (hl2 : Cond.instantiable C N ∈ tm_Om) (hl3 : Cond.initialized C ∈ tm_Om)
    (hsh : S (tm_z M + 2) = (100 + ci, N)) (hcells : cells + 1 ≤ R.cells) (hslots : slots + N ≤ R.slots) (hd : decode cc pc = .ok (.new i, 3))
    (kk : ∀ (H1 : Heap), va_P D vwCl (tm_wd S cA B (tm_nw M N)) H1 → va_S (fun q => B.1 ≤ q) s.heap H1 locs → W p l e R s m args below meth c H1 locs (cells + 1) (slots + N) Q (F0 m (pc + 3) ls (.ref (tm_ad B (tm_z M + 2)) :: rest))) : W p l e R s m args below meth c H locs cells slots Q (F0 m pc ls rest) := by
  obtain ⟨hx, hb, hml, hown, hts, ⟨hK, hn, -⟩, -, hS, hCL, -⟩ := hC
  obtain ⟨hN, hw, hty, hnm⟩ := hCL ci C T N hc
  have hKn := hK.1 ci _ hc
  refine W.newcK hx hb hown (hts _ hl1) (hts _ hl2) (hts _ hl3) rfl hd hcells hslots hKn.2.1 rfl fun H1 kC hkC e1 z1 o1 => ?_
  have had : tm_ad B (tm_z M + 2) = B.1 + tm_z M := by unfold tm_ad; rw [if_neg (by omega)]; omega
  have h := kk H1 (tm_pnew hP hz o1 ?_) (tm_snew hSt z1 o1)
  · rw [had] at h
    rw [hz]
    exact h
  · rw [tm_e_obj (by rw [hsh])]
    refine ⟨_, hc, ?_⟩
    rw [← hz]
    refine (u_born (tm_ty ci) hts hw hKn hkC e1 hty).to fun k hk => ?_
    have hk' : k < N := hk
    simp only [hsh, vp_V]
    have hg : ((List.range N).map (tm_fv B (tm_nw M N) (tm_z M + 2) ci)).getD k .null = tm_fv B (tm_nw M N) (tm_z M + 2) ci k := by
      rw [List.getD_eq_getElem?_getD, List.getElem?_map, List.getElem?_range hk']; rfl
    rw [hg]
    unfold tm_fv tm_ft
    have z1 : tm_i (tm_nw M N) (tm_z M + 2) k = 0 := by simp [tm_i, tm_nw, tm_c, tm_z]
    have z2 : tm_j (tm_nw M N) (tm_z M + 2) k = 0 := by simp [tm_j, tm_nw, tm_c, tm_z]
    have z3 : tm_r (tm_nw M N) (tm_z M + 2) k = 0 := by simp [tm_r, tm_nw, tm_c, tm_z]
    rw [z1, z2, z3]
    have hnf : ∀ t : FieldType, t ≠ .float → t ≠ .double → defaultValue t = if tm_fc t = 0 then .int 0 else if tm_fc t = 1 then .long 0 else va_rf (tm_q B 0) := by
      intro t h1 h2
      cases t <;> first | rfl | exact absurd rfl h1 | exact absurd rfl h2
    have hall : ∀ ci, ci < 12 → ∀ k, k < tm_Nf ci → tm_ty ci k ≠ .float ∧ tm_ty ci k ≠ .double := by decide +kernel
    have hci : ci < 12 := (List.getElem?_eq_some_iff.mp hc).1
    obtain ⟨n1, n2⟩ := hall ci hci k (by omega)
    exact hnf _ n1 n2
theorem tm_newa_ok (hC : tm_Cx S cA D B p s m args meth c cc own ini nL z0) (hP : va_P D vwCl (tm_wd S cA B M) H) (hSt : va_S (fun q => B.1 ≤ q) s.heap H locs) (hz : H.size = B.1 + tm_z M) {t : ArrayType} {k : Nat} {n : Int32} (ht : (t = .int ∧ k = 1) ∨ (t = .byte ∧ k = 2) ∨ (t = .boolean ∧ k = 3) ∨ (t = .long ∧ k = 4)) (hl : Cond.arrayClass (newarray.typeOf t) ∈ tm_Om)
    (hn0 : 0 ≤ n) (hn1 : n.toNatClampNeg ≤ 100000) (hsh : S (tm_z M + 2) = (k, n.toNatClampNeg)) (hcells : cells + 1 ≤ R.cells) (hslots : slots + n.toNatClampNeg ≤ R.slots) (hd : decode cc pc = .ok (.newarray t, 2))
    (kk : ∀ (H1 : Heap), va_P D vwCl (tm_wd S cA B (tm_nw M n.toNatClampNeg)) H1 → va_S (fun q => B.1 ≤ q) s.heap H1 locs → W p l e R s m args below meth c H1 locs (cells + 1) (slots + n.toNatClampNeg) Q (F0 m (pc + 2) ls (.ref (tm_ad B (tm_z M + 2)) :: rest))) : W p l e R s m args below meth c H locs cells slots Q (F0 m pc ls (.int n :: rest)) := by
  obtain ⟨hx, hb, hml, hown, hts, ⟨hK, -⟩, -, hS, hCL, -⟩ := hC
  have had : tm_ad B (tm_z M + 2) = B.1 + tm_z M := by unfold tm_ad; rw [if_neg (by omega)]; omega
  have z1 : tm_i (tm_nw M n.toNatClampNeg) (tm_z M + 2) = fun _ => 0 := by funext k; simp [tm_i, tm_nw, tm_c, tm_z]
  have z2 : tm_j (tm_nw M n.toNatClampNeg) (tm_z M + 2) = fun _ => 0 := by funext k; simp [tm_j, tm_nw, tm_c, tm_z]
  refine va_newaK hx hb (hts _ hl) rfl hd rfl (by simpa using hn0) rfl (by rcases ht with ⟨rfl, -⟩ | ⟨rfl, -⟩ | ⟨rfl, -⟩ | ⟨rfl, -⟩ <;> simp [newarray.typeOf, componentBytes] <;> omega) hcells hslots rfl fun H1 cA' e1 hz1 o1 hAr hNm => ?_
  have h := kk H1 (tm_pnew hP hz o1 ?_) (tm_snew hSt hz1 o1)
  · rw [had] at h
    show W p l e R s m args below meth c H1 locs (cells + 1) (slots + n.toNatClampNeg) Q (F0 m (pc + 2) ls (.ref H.size :: rest))
    rw [hz]
    exact h
  · rw [hz] at e1
    rcases ht with ⟨rfl, rfl⟩ | ⟨rfl, rfl⟩ | ⟨rfl, rfl⟩ | ⟨rfl, rfl⟩
    · have hcA : cA 1 = cA' := Option.some.inj ((hK.2 0 _ rfl).2.symm.trans hNm)
      rw [tm_e_int (by rw [hsh]) (by omega), z1, hsh, hcA]
      exact e1
    · have hcA : cA 2 = cA' := Option.some.inj ((hK.2 1 _ rfl).2.symm.trans hNm)
      rw [tm_e_int (by rw [hsh]) (by omega), z1, hsh, hcA]
      exact e1
    · have hcA : cA 3 = cA' := Option.some.inj ((hK.2 2 _ rfl).2.symm.trans hNm)
      rw [tm_e_int (by rw [hsh]) (by omega), z1, hsh, hcA]
      exact e1
    · have hcA : cA 4 = cA' := Option.some.inj ((hK.2 3 _ rfl).2.symm.trans hNm)
      rw [tm_e_long (by rw [hsh]), z2, hsh, hcA]
      exact e1
theorem tm_newq_ok (hC : tm_Cx S cA D B p s m args meth c cc own ini nL z0) (hP : va_P D vwCl (tm_wd S cA B M) H) (hSt : va_S (fun q => B.1 ≤ q) s.heap H locs) (hz : H.size = B.1 + tm_z M) {k i : Nat} {n : Int32} {C : String} (hk : (k = 5 ∧ C = RX8) ∨ (k = 6 ∧ C = RX3)) (hl : Cond.classLink own i C ∈ tm_Om)
    (hn0 : 0 ≤ n) (hn1 : n.toNatClampNeg ≤ 100000) (hsh : S (tm_z M + 2) = (k, n.toNatClampNeg)) (hcells : cells + 1 ≤ R.cells) (hslots : slots + n.toNatClampNeg ≤ R.slots) (hd : decode cc pc = .ok (.anewarray i, 3))
    (kk : ∀ (H1 : Heap), va_P D vwCl (tm_wd S cA B (tm_nw M n.toNatClampNeg)) H1 → va_S (fun q => B.1 ≤ q) s.heap H1 locs → W p l e R s m args below meth c H1 locs (cells + 1) (slots + n.toNatClampNeg) Q (F0 m (pc + 3) ls (.ref (tm_ad B (tm_z M + 2)) :: rest))) : W p l e R s m args below meth c H locs cells slots Q (F0 m pc ls (.int n :: rest)) := by
  obtain ⟨hx, hb, hml, hown, hts, ⟨hK, -, hA8, hA3⟩, -, hS, hCL, -⟩ := hC
  have had : tm_ad B (tm_z M + 2) = B.1 + tm_z M := by unfold tm_ad; rw [if_neg (by omega)]; omega
  have z3 : tm_r (tm_nw M n.toNatClampNeg) (tm_z M + 2) = fun _ => 0 := by funext k; simp [tm_r, tm_nw, tm_c, tm_z]
  have hAO : va_AO C s := by rcases hk with ⟨-, rfl⟩ | ⟨-, rfl⟩ <;> assumption
  refine W.anew hx hb hown (hts _ hl) hAO.use rfl hd rfl (by simpa using hn0) (by omega) hcells hslots fun cA' kA comp h1 h2 h3 h4 => ?_
  have e1 : (H.push ({ cls := cA', slots := Array.replicate n.toNatClampNeg .null, vm := .none } : Cell))[B.1 + tm_z M]? = some (arrV cA' n.toNatClampNeg (fun _ => .null)) := by
    rw [← arrV_new, ← hz]; simp
  have o1 : ∀ q, q < H.size → (H.push ({ cls := cA', slots := Array.replicate n.toNatClampNeg .null, vm := .none } : Cell))[q]? = H[q]? := by
    intro q hq
    rw [Array.getElem?_push, if_neg (Nat.ne_of_lt hq)]
  have h := kk _ (tm_pnew hP hz o1 ?_) (tm_snew hSt (by simp) o1)
  · rw [had] at h
    show W p l e R s m args below meth c _ locs (cells + 1) (slots + n.toNatClampNeg) Q (F0 m (pc + 3) ls (.ref H.size :: rest))
    rw [hz]
    exact h
  · rcases hk with ⟨rfl, rfl⟩ | ⟨rfl, rfl⟩
    · obtain ⟨_, _, -, -, -, q4⟩ := (hK.2 4 _ rfl).2
      have hcA : cA 5 = cA' := Option.some.inj (q4.symm.trans h1)
      rw [tm_e_refs (by rw [hsh]) (by omega) (by omega), z3, hsh, hcA]
      exact e1
    · obtain ⟨_, _, -, -, -, q4⟩ := (hK.2 5 _ rfl).2
      have hcA : cA 6 = cA' := Option.some.inj (q4.symm.trans h1)
      rw [tm_e_refs (by rw [hsh]) (by omega) (by omega), z3, hsh, hcA]
      exact e1
end ARR
