/-! DIGITS in a long: its bits from k on, w of them -/
theorem wb_tb (n : Nat) : (lN n).toBitVec = BitVec.ofNat 64 n := rfl
theorem wb_c : ∀ k, k < 64 → ((nI k).toInt64 &&& 63) = lN k := by decide +kernel
theorem wb_sm : ∀ k, k < 64 → (BitVec.ofNat 64 k).smod 64 = BitVec.ofNat 64 k := by decide +kernel
def lb (x : Int64) (i : Nat) : Bool := x.toBitVec.getLsbD i
def dg (x : Int64) (k w : Nat) : Nat := x.toBitVec.toNat / 2 ^ k % 2 ^ w
theorem dg_lt (x : Int64) (k w : Nat) : dg x k w < 2 ^ w := Nat.mod_lt _ (Nat.two_pow_pos w)
theorem dg_bit (x : Int64) (k w i : Nat) : (dg x k w).testBit i = (decide (i < w) && lb x (k + i)) := by
  unfold dg lb
  rw [Nat.testBit_mod_two_pow, Nat.testBit_div_two_pow, Nat.add_comm i k]
  rfl
theorem dg_ext {x y : Int64} {k w : Nat} (h : ∀ i, i < w → lb x (k + i) = lb y (k + i)) : dg x k w = dg y k w := by
  apply Nat.eq_of_testBit_eq
  intro i
  rw [dg_bit, dg_bit]
  by_cases c : i < w
  · rw [h i c]
  · simp [c]
theorem lb_big {x : Int64} {i : Nat} (h : 64 ≤ i) : lb x i = false := BitVec.getLsbD_of_ge _ _ h
theorem lb_or (x y : Int64) (i : Nat) : lb (x ||| y) i = (lb x i || lb y i) := by unfold lb; rw [Int64.toBitVec_or, BitVec.getLsbD_or]
theorem lb_and (x y : Int64) (i : Nat) : lb (x &&& y) i = (lb x i && lb y i) := by unfold lb; rw [Int64.toBitVec_and, BitVec.getLsbD_and]
theorem lb_xor (x y : Int64) (i : Nat) : lb (x ^^^ y) i = (lb x i ^^ lb y i) := by unfold lb; rw [Int64.toBitVec_xor, BitVec.getLsbD_xor]
theorem lb_m1 : ∀ i, i < 64 → lb (-1) i = true := by decide +kernel
theorem lb_0 (i : Nat) : lb 0 i = false := BitVec.getLsbD_zero
theorem lb_lN {g : Nat} (hg : g < 2 ^ 64) (i : Nat) : lb (lN g) i = g.testBit i := by
  show (BitVec.ofNat 64 g).getLsbD i = _
  rw [BitVec.getLsbD_ofNat]
  by_cases c : i < 64
  · simp [c]
  · rw [Nat.testBit_lt_two_pow (Nat.lt_of_lt_of_le hg (Nat.pow_le_pow_right (by decide) (by omega)))]
    simp
theorem lb_shr (x : Int64) {k i : Nat} (hk : k < 64) (hi : k + i < 64) : lb (x >>> ((nI k).toInt64 &&& 63)) i = lb x (k + i) := by
  unfold lb
  rw [wb_c k hk, Int64.toBitVec_shiftRight, wb_tb, wb_sm k hk]
  show (x.toBitVec.sshiftRight (BitVec.ofNat 64 k).toNat).getLsbD i = _
  rw [BitVec.toNat_ofNat, Nat.mod_eq_of_lt (by omega), BitVec.getLsbD_sshiftRight]
  simp [hi]
  omega
theorem lb_shl (x : Int64) {k i : Nat} (hk : k < 64) (hi : i < 64) : lb (x <<< ((nI k).toInt64 &&& 63)) i = (decide (k ≤ i) && lb x (i - k)) := by
  unfold lb
  rw [wb_c k hk, Int64.toBitVec_shiftLeft, wb_tb, wb_sm k hk]
  show (x.toBitVec <<< (BitVec.ofNat 64 k).toNat).getLsbD i = _
  rw [BitVec.toNat_ofNat, Nat.mod_eq_of_lt (by omega), BitVec.getLsbD_shiftLeft]
  rcases Nat.lt_or_ge i k with h | h
  · simp [h, Nat.not_le.mpr h]
  · simp [hi, h, Nat.not_lt.mpr h]
theorem dg_rd (x : Int64) {k w : Nat} (hk : k < 64) (hw : w ≤ 31) (h : k + w ≤ 64) : (x >>> ((nI k).toInt64 &&& 63)).toInt32 &&& nI (2 ^ w - 1) = nI (dg x k w) := by
  apply Int32.toBitVec_inj.mp
  apply BitVec.eq_of_getLsbD_eq
  intro i hi
  rw [Int32.toBitVec_and, BitVec.getLsbD_and]
  have h1 : ((x >>> ((nI k).toInt64 &&& 63)).toInt32).toBitVec.getLsbD i = lb (x >>> ((nI k).toInt64 &&& 63)) i := by
    show (BitVec.signExtend 32 (x >>> ((nI k).toInt64 &&& 63)).toBitVec).getLsbD i = _
    rw [BitVec.getLsbD_signExtend]
    simp [hi, show i < 64 by omega]
    rfl
  have h2 : (nI (2 ^ w - 1)).toBitVec.getLsbD i = decide (i < w) := by
    show (BitVec.ofNat 32 (2 ^ w - 1)).getLsbD i = _
    rw [BitVec.getLsbD_ofNat, Nat.testBit_two_pow_sub_one]
    simp [hi]
  have h3 : (nI (dg x k w)).toBitVec.getLsbD i = (dg x k w).testBit i := by
    show (BitVec.ofNat 32 _).getLsbD i = _
    rw [BitVec.getLsbD_ofNat]
    simp [hi]
  rw [h1, h2, h3, dg_bit]
  by_cases c : i < w
  · rw [lb_shr x hk (by omega)]; simp [c]
  · simp [c]
theorem i64_n {n : Nat} (h : n < 2147483648) : (nI n).toInt64 = lN n := nI_l h
theorem tb_big {g w i : Nat} (hg : g < 2 ^ w) (h : w ≤ i) : g.testBit i = false := Nat.testBit_lt_two_pow (Nat.lt_of_lt_of_le hg (Nat.pow_le_pow_right (by decide) h))
/-- a digit put on top of those that are there -/
theorem sg_wr {x : Int64} {k g : Nat} (hk : k + 3 ≤ 64) (hg : g < 8) (hx : ∀ i, k ≤ i → lb x i = false) : dg (x ||| ((nI g).toInt64 <<< ((nI k).toInt64 &&& 63))) k 3 = g ∧ (∀ q, q + 3 ≤ k → dg (x ||| ((nI g).toInt64 <<< ((nI k).toInt64 &&& 63))) q 3 = dg x q 3) ∧ (∀ i, k + 3 ≤ i → lb (x ||| ((nI g).toInt64 <<< ((nI k).toInt64 &&& 63))) i = false) := by
  rw [i64_n (show g < 2147483648 by omega)]
  have hg' : g < 2 ^ 64 := by omega
  have hg3 : g < 2 ^ 3 := by omega
  refine ⟨?_, fun q hq => dg_ext fun i hi => ?_, fun i hi => ?_⟩
  · apply Nat.eq_of_testBit_eq
    intro i
    rw [dg_bit]
    by_cases c : i < 3
    · rw [lb_or, hx _ (by omega), lb_shl _ (by omega) (by omega), lb_lN hg', show k + i - k = i by omega]
      simp [c]
    · rw [tb_big hg3 (by omega)]
      simp [c]
  · rw [lb_or, lb_shl _ (by omega) (by omega)]
    simp [show ¬ k ≤ q + i by omega]
  · by_cases c : i < 64
    · rw [lb_or, hx _ (by omega), lb_shl _ (by omega) c, lb_lN hg', tb_big hg3 (by omega)]
      simp
    · exact lb_big (by omega)
/-- sixteen bits put in the place of those that are there -/
theorem st_wr (x : Int64) {k g : Nat} (hk : k + 16 ≤ 64) (hg : g < 65536) : dg ((x &&& ((65535 <<< ((nI k).toInt64 &&& 63)) ^^^ (-1))) ||| ((nI g).toInt64 <<< ((nI k).toInt64 &&& 63))) k 16 = g ∧ (∀ q, q + 16 ≤ k ∨ k + 16 ≤ q → q + 16 ≤ 64 → dg ((x &&& ((65535 <<< ((nI k).toInt64 &&& 63)) ^^^ (-1))) ||| ((nI g).toInt64 <<< ((nI k).toInt64 &&& 63))) q 16 = dg x q 16) := by
  rw [i64_n (show g < 2147483648 by omega)]
  have hg' : g < 2 ^ 64 := by omega
  have hg3 : g < 2 ^ 16 := by omega
  have hm : ∀ i, lb 65535 i = decide (i < 16) := fun i => by
    rw [show (65535 : Int64) = lN (2 ^ 16 - 1) by decide, lb_lN (by decide), Nat.testBit_two_pow_sub_one]
  refine ⟨?_, fun q hq h64 => dg_ext fun i hi => ?_⟩
  · apply Nat.eq_of_testBit_eq
    intro i
    rw [dg_bit]
    by_cases c : i < 16
    · rw [lb_or, lb_and, lb_xor, lb_shl _ (by omega) (by omega), lb_shl _ (by omega) (by omega), lb_lN hg', hm, lb_m1 _ (by omega), show k + i - k = i by omega]
      simp [c]
    · rw [tb_big hg3 (by omega)]
      simp [c]
  · rw [lb_or, lb_and, lb_xor, lb_shl _ (by omega) (by omega), lb_shl _ (by omega) (by omega), lb_lN hg', hm, lb_m1 _ (by omega)]
    by_cases c : k ≤ q + i
    · rw [tb_big hg3 (show 16 ≤ q + i - k by omega)]
      simp [show ¬ q + i - k < 16 by omega]
    · simp [c]
theorem nr_div_20 {a : Nat} (h : a < 2147483648) : nI a / 20 = nI (a / 20) := pk_div (d := 20) h (by omega) (by omega)
theorem nr_div_64 {a : Nat} (h : a < 2147483648) : nI a / 64 = nI (a / 64) := pk_div (d := 64) h (by omega) (by omega)
/-- the sign o of tape j -/
def sgJ (J : Nat → Nat → Int64) (j o : Nat) : Nat := dg (J 35 (j * 10 + o / 20)) (3 * (o % 20)) 3
