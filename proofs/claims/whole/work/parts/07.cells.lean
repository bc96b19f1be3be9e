/-! fields, arrays, new cells, calls of the plain machine -/
section CEL
variable {S : tm_S} {X : tm_X} {G : tm_G} {tz : Bool} {go : tm_N} {cA : Nat → ClassId} {D : va_G} {B : tm_B} {p : Program} {l : Launch} {e : Env} {R : Room} {s : State} {m : MethodId} {args : Array Value} {below : List Frame} {meth : Method} {c : Code} {cc : ByteArray} {own : String} {nL z0 s0 : Nat} {Q : State → Prop}
/-- what the tables say of the classes -/
def tm_CL : Prop := ∀ (ci : Nat) (C : String) (T : u_T) (N : Nat), vwCl[ci]? = some (C, T, N) → N = tm_Nf ci ∧ (∀ w ∈ u_ws C T N, w ∈ tm_Om) ∧ (∀ k, k < N → parseFieldDescriptor (T k).2.2.1 = some (tm_ty ci k)) ∧ (∀ a, a < N → ∀ b, b < N → a ≠ b → (T a).2.1 ≠ (T b).2.1)
def tm_fL (own : String) (i ci k : Nat) : Prop := ∃ (C : String) (T : u_T) (N : Nat), vwCl[ci]? = some (C, T, N) ∧ (Cond.fieldLink own i (T k).1 (T k).2.1 (T k).2.2.1 ∈ tm_Om ∨ ∃ host, Cond.fieldLinkNest own i (T k).1 (T k).2.1 (T k).2.2.1 host ∈ tm_nest)
def tm_pL (own : String) (ini : Bool) (i ci k : Nat) : Prop := ∃ (C : String) (T : u_T) (N : Nat), vwCl[ci]? = some (C, T, N) ∧ ((Cond.fieldLink own i (T k).1 (T k).2.1 (T k).2.2.1 ∈ tm_Om ∧ (T k).2.2.2 = false) ∨ (∃ host, Cond.fieldLinkNest own i (T k).1 (T k).2.1 (T k).2.2.1 host ∈ tm_nest ∧ (T k).2.2.2 = false) ∨ (Cond.fieldLink own i (T k).1 (T k).2.1 (T k).2.2.1 ∈ tm_Om ∧ (T k).2.2.2 = true ∧ ini = true ∧ (T k).1 = own))
/-- what holds all through a method -/
def tm_Cx (S : tm_S) (cA : Nat → ClassId) (D : va_G) (B : tm_B) (p : Program) (s : State) (m : MethodId) (args : Array Value) (meth : Method) (c : Code) (cc : ByteArray) (own : String) (ini : Bool) (nL z0 : Nat) : Prop :=
  p.tables.exec = Jvm.exec ∧ c.code = cc ∧ c.maxLocals = nL ∧ s.vm.findClass own = some m.cls ∧ (∀ w ∈ tm_Om, w.before args s = true) ∧ tm_KU cA D s ∧ s.heap.size = B.1 + z0 ∧ tm_Sok S ∧ tm_CL ∧ (ini = true → meth.name = "<init>") ∧ tm_SU B s
theorem tm_size {H : Heap} {locs : List Loc} {cells slots : Nat} {g : JFrame} (k : H.size ≤ s.heap.size + cells → W p l e R s m args below meth c H locs cells slots Q g) : W p l e R s m args below meth c H locs cells slots Q g := by
  intro T hT X
  have h := X.same.2.2.1
  exact k (by rw [← hT]; exact h) T hT X
theorem tm_size2 {H : Heap} {locs : List Loc} {cells slots : Nat} {g : JFrame} {M : tm_M} (hz : s.heap.size = B.1 + z0) (hP : va_P D vwCl (tm_wd S cA B M) H) (hS : va_S (fun q => B.1 ≤ q) s.heap H locs) (hc : cells + z0 = tm_z M) (k : H.size = B.1 + tm_z M → W p l e R s m args below meth c H locs cells slots Q g) : W p l e R s m args below meth c H locs cells slots Q g := by
  refine tm_size fun h1 => k ?_
  have h2 : B.1 + tm_z M ≤ H.size := by
    rcases Nat.eq_zero_or_pos (tm_z M) with q | q
    · have := hS.1
      omega
    · have h3 := (hP (tm_z M - 1) _ (by
        have := tm_wd_get (S := S) (cA := cA) (B := B) (M := M) (a := tm_z M + 1) (by omega) (by omega)
        rwa [show tm_z M + 1 - 2 = tm_z M - 1 by omega] at this)).lt
      simp only [tm_ad] at h3
      rw [if_neg (by omega)] at h3
      omega
  omega
theorem tm_e_obj {M : tm_M} {a ci : Nat} (h : (S a).1 = 100 + ci) : tm_e S cA B M a = .inr (ci, (List.range (S a).2).map (tm_fv B M a ci)) := by
  unfold tm_e
  rw [h, if_neg (by omega), if_neg (by omega), if_neg (by omega), show 100 + ci - 100 = ci by omega]
theorem tm_e_int {M : tm_M} {a k : Nat} (h : (S a).1 = k) (hk : k < 4) : tm_e S cA B M a = .inl (cA k, (S a).2, .inl (tm_i M a)) := by
  unfold tm_e
  rw [h, if_pos hk]
theorem tm_e_long {M : tm_M} {a : Nat} (h : (S a).1 = 4) : tm_e S cA B M a = .inl (cA 4, (S a).2, .inr (.inl (tm_j M a))) := by
  unfold tm_e
  rw [h]
  rfl
theorem tm_e_refs {M : tm_M} {a k : Nat} (h : (S a).1 = k) (hk : 4 < k) (hk2 : k < 100) : tm_e S cA B M a = .inl (cA k, (S a).2, .inr (.inr (.inr (.inr fun j => tm_q B (tm_r M a j))))) := by
  unfold tm_e
  rw [h, if_neg (by omega), if_neg (by omega), if_pos hk2]
theorem tm_cl_some {ci : Nat} (h : ci < 12) : ∃ (C : String) (T : u_T) (N : Nat), vwCl[ci]? = some (C, T, N) := by
  have h2 : vwCl[ci]? = some (vwCl[ci]'h) := List.getElem?_eq_getElem h
  exact ⟨_, _, _, h2⟩
theorem tm_get_ok {ini : Bool} (hC : tm_Cx S cA D B p s m args meth c cc own ini nL z0) {H : Heap} {locs : List Loc} {cells slots : Nat} {ls : Array Slot} {rest : List Value} {M : tm_M} {a i ci k pc : Nat} (hP : va_P D vwCl (tm_wd S cA B M) H) (hk : tm_kd S M a = 100 + ci) (hF : tm_fL own i ci k) (hkN : k < tm_Nf ci) (hd : decode cc pc = .ok (.getfield i, 3))
    (kk : W p l e R s m args below meth c H locs cells slots Q (F0 m (pc + 3) ls (tm_fv B M a ci k :: rest))) : W p l e R s m args below meth c H locs cells slots Q (F0 m pc ls (.ref (tm_ad B a) :: rest)) := by
  obtain ⟨hx, hb, hml, hown, hts, ⟨hK, hn, -⟩, -, hS, hCL, -⟩ := hC
  obtain ⟨C, T, N, hc, hl⟩ := hF
  obtain ⟨hN, hw, -, -⟩ := hCL ci C T N hc
  obtain ⟨g1, g2, g3⟩ := tm_kd_pos hS.1 hS.2.1 hk (by omega)
  obtain ⟨-, hNf⟩ := hS.2.2 a ci g3
  have he := tm_wd_get (S := S) (cA := cA) (B := B) g1 g2
  rw [tm_e_obj g3] at he
  have hv : ((List.range (S a).2).map (tm_fv B M a ci))[k]? = some (tm_fv B M a ci k) := by
    rw [List.getElem?_map, List.getElem?_range (by omega)]; rfl
  rcases hl with hl | ⟨host, hl⟩
  · exact va_get hx hb hts hw hown hK hP (a - 2) he hc k (by omega) (hts _ hl) (fun _ h => h) hv hd kk
  · exact va_getN hx hb hts hw hown hK hP (a - 2) he hc k (by omega) (va_Nw.use rfl (hn _ hl)) (fun _ h => h) hv hd kk
theorem tm_fvset {M M' : tm_M} {a ci k N : Nat} (ho : ∀ j, j ≠ k → tm_fv B M' a ci j = tm_fv B M a ci j) : (List.range N).map (tm_fv B M' a ci) = ((List.range N).map (tm_fv B M a ci)).set k (tm_fv B M' a ci k) := by
  apply List.ext_getElem?
  intro j
  rw [List.getElem?_set]
  by_cases hj : k = j
  · subst hj
    rw [if_pos rfl]
    by_cases hl : k < N
    · rw [if_pos (by simpa using hl), List.getElem?_map, List.getElem?_range hl]; rfl
    · rw [if_neg (by simpa using hl), List.getElem?_map, List.getElem?_eq_none (by simpa using hl)]; rfl
  · rw [if_neg hj, List.getElem?_map, List.getElem?_map]
    by_cases hl : j < N
    · rw [List.getElem?_range hl]
      show some _ = some _
      rw [ho j (Ne.symm hj)]
    · rw [List.getElem?_eq_none (by simpa using hl)]; rfl
theorem tm_put_ok {ini : Bool} (hC : tm_Cx S cA D B p s m args meth c cc own ini nL z0) {H : Heap} {locs : List Loc} {cells slots : Nat} {ls : Array Slot} {rest : List Value} {M M' : tm_M} {a i ci k pc : Nat} {v : Value} (hP : va_P D vwCl (tm_wd S cA B M) H) (hSt : va_S (fun q => B.1 ≤ q) s.heap H locs) (hk : tm_kd S M a = 100 + ci) (hF : tm_pL own ini i ci k) (hkN : k < tm_Nf ci) (hd : decode cc pc = .ok (.putfield i, 3))
    (hn : narrow (tm_ty ci k) v = v) (hfit : fits (tm_ty ci k) v = true) (hz : tm_z M' = tm_z M) (hv : tm_fv B M' a ci k = v) (ho : ∀ j, j ≠ k → tm_fv B M' a ci j = tm_fv B M a ci j) (hoe : ∀ n, n ≠ a → tm_e S cA B M' n = tm_e S cA B M n)
    (kk : ∀ (H1 : Heap) (locs1 : List Loc), va_P D vwCl (tm_wd S cA B M') H1 → va_S (fun q => B.1 ≤ q) s.heap H1 locs1 → W p l e R s m args below meth c H1 locs1 cells slots Q (F0 m (pc + 3) ls rest)) : W p l e R s m args below meth c H locs cells slots Q (F0 m pc ls (v :: .ref (tm_ad B a) :: rest)) := by
  obtain ⟨hx, hb, hml, hown, hts, ⟨hK, hnst, -⟩, -, hS, hCL, hini, -⟩ := hC
  obtain ⟨C, T, N, hc, hl⟩ := hF
  obtain ⟨hN, hw, hty, hnm⟩ := hCL ci C T N hc
  obtain ⟨g1, g2, g3⟩ := tm_kd_pos hS.1 hS.2.1 hk (by omega)
  obtain ⟨-, hNf⟩ := hS.2.2 a ci g3
  have he := tm_wd_get (S := S) (cA := cA) (B := B) g1 g2
  rw [tm_e_obj g3] at he
  have hset : (tm_wd S cA B M).set (a - 2) (tm_ad B a, .inr (ci, ((List.range (S a).2).map (tm_fv B M a ci)).set k v)) = tm_wd S cA B M' := by
    refine tm_wd_set g1 hz ?_ hoe
    rw [tm_e_obj g3, tm_fvset ho, hv]
  have hlen : k < ((List.range (S a).2).map (tm_fv B M a ci)).length := by simp; omega
  rcases hl with ⟨hl, hfin⟩ | ⟨host, hl, hfin⟩ | ⟨hl, hfin, hi, hdecl⟩
  · exact va_put hx hb hts hw (tm_ty ci) hty hnm hown hK hP tm_wd_D hSt (a - 2) he hc k (by omega) (hts _ hl) (fun _ h => h) hfin (hty k (by omega)) hn hfit hlen hd fun H1 l1 q1 _ q3 => kk H1 l1 (hset ▸ q1) q3
  · exact va_putN hx hb hts hw (tm_ty ci) hty hnm hown hK hP tm_wd_D hSt (a - 2) he hc k (by omega) (va_Nw.use rfl (hnst _ hl)) (fun _ h => h) hfin (hty k (by omega)) hn hfit hlen hd fun H1 l1 q1 _ q3 => kk H1 l1 (hset ▸ q1) q3
  · exact va_putF hx hb hts hw (tm_ty ci) hty hnm hown hK hP tm_wd_D hSt (a - 2) he hc k (by omega) (hts _ hl) (fun _ h => h) hfin (hini hi) hdecl (hty k (by omega)) hn hfit hlen hd fun H1 l1 q1 _ q3 => kk H1 l1 (hset ▸ q1) q3
theorem tm_vpin {i : Int32} {n : Nat} (h : 0 ≤ i ∧ i.toNatClampNeg < n) : vp_in i n := by
  intro q
  rcases q with q | q
  · exact absurd h.1 (by simpa using q)
  · omega
end CEL
