/-! numbers: Int32 as naturals -/
theorem na_add (a b : Nat) : nI a + nI b = nI (a + b) := by
  apply Int32.toBitVec_inj.1
  show BitVec.ofNat 32 a + BitVec.ofNat 32 b = BitVec.ofNat 32 (a + b)
  rw [BitVec.ofNat_add]
theorem na_mul (a b : Nat) : nI a * nI b = nI (a * b) := by
  apply Int32.toBitVec_inj.1
  show BitVec.ofNat 32 a * BitVec.ofNat 32 b = BitVec.ofNat 32 (a * b)
  rw [BitVec.ofNat_mul]
theorem na_sub {a b : Nat} (h : b ≤ a) : nI a - nI b = nI (a - b) := by
  have h1 : nI a = nI (a - b) + nI b := by rw [na_add, Nat.sub_add_cancel h]
  rw [h1, Int32.add_sub_cancel]
theorem na_inj {a b : Nat} (ha : a < 2 ^ 31) (hb : b < 2 ^ 31) : (nI a = nI b) = (a = b) := by
  refine propext ⟨fun h => ?_, fun h => by rw [h]⟩
  have := congrArg Int32.toNatClampNeg h
  rwa [nI_clamp ha, nI_clamp hb] at this
theorem na_le {a b : Nat} (ha : a < 2 ^ 31) (hb : b < 2 ^ 31) : (nI a ≤ nI b) = (a ≤ b) := by
  rw [Int32.le_iff_toInt_le, nI_toInt ha, nI_toInt hb]
  exact propext Int.ofNat_le
theorem na_lt {a b : Nat} (ha : a < 2 ^ 31) (hb : b < 2 ^ 31) : (nI a < nI b) = (a < b) := by
  rw [Int32.lt_iff_toInt_lt, nI_toInt ha, nI_toInt hb]
  exact propext Int.ofNat_lt
theorem na_and (a b : Nat) : nI a &&& nI b = nI (a &&& b) := by
  apply Int32.toBitVec_inj.1
  show BitVec.ofNat 32 a &&& BitVec.ofNat 32 b = BitVec.ofNat 32 (a &&& b)
  apply BitVec.eq_of_getLsbD_eq
  intro i hi
  simp [hi]
theorem na_or (a b : Nat) : nI a ||| nI b = nI (a ||| b) := by
  apply Int32.toBitVec_inj.1
  show BitVec.ofNat 32 a ||| BitVec.ofNat 32 b = BitVec.ofNat 32 (a ||| b)
  apply BitVec.eq_of_getLsbD_eq
  intro i hi
  simp [hi]
theorem na_xor (a b : Nat) : nI a ^^^ nI b = nI (a ^^^ b) := by
  apply Int32.toBitVec_inj.1
  show BitVec.ofNat 32 a ^^^ BitVec.ofNat 32 b = BitVec.ofNat 32 (a ^^^ b)
  apply BitVec.eq_of_getLsbD_eq
  intro i hi
  simp [hi]
theorem i_0 : (0 : Int32) = nI 0 := by decide +kernel
theorem i_1 : (1 : Int32) = nI 1 := by decide +kernel
theorem i_2 : (2 : Int32) = nI 2 := by decide +kernel
theorem i_3 : (3 : Int32) = nI 3 := by decide +kernel
theorem i_4 : (4 : Int32) = nI 4 := by decide +kernel
theorem i_5 : (5 : Int32) = nI 5 := by decide +kernel
theorem i_6 : (6 : Int32) = nI 6 := by decide +kernel
theorem i_7 : (7 : Int32) = nI 7 := by decide +kernel
theorem i_8 : (8 : Int32) = nI 8 := by decide +kernel
theorem i_9 : (9 : Int32) = nI 9 := by decide +kernel
theorem i_10 : (10 : Int32) = nI 10 := by decide +kernel
theorem i_12 : (12 : Int32) = nI 12 := by decide +kernel
theorem i_16 : (16 : Int32) = nI 16 := by decide +kernel
theorem i_20 : (20 : Int32) = nI 20 := by decide +kernel
theorem i_21 : (21 : Int32) = nI 21 := by decide +kernel
theorem i_31 : (31 : Int32) = nI 31 := by decide +kernel
theorem i_32 : (32 : Int32) = nI 32 := by decide +kernel
theorem i_40 : (40 : Int32) = nI 40 := by decide +kernel
theorem i_60 : (60 : Int32) = nI 60 := by decide +kernel
theorem ni_shl : ∀ n, n < 32 → ((nI n &&& 31).toBitVec.smod 32).toNat = n := by decide +kernel
theorem na_shl {a n : Nat} (hn : n < 32) : nI a <<< (nI n &&& 31) = nI (a * 2 ^ n) := by
  apply Int32.toBitVec_inj.1
  rw [Int32.toBitVec_shiftLeft]
  show BitVec.ofNat 32 a <<< ((nI n &&& 31).toBitVec.smod 32).toNat = BitVec.ofNat 32 (a * 2 ^ n)
  rw [ni_shl n hn]
  apply BitVec.eq_of_toNat_eq
  simp [Nat.shiftLeft_eq]
theorem na_shr {a n : Nat} (ha : a < 2 ^ 31) (hn : n < 32) : nI a >>> (nI n &&& 31) = nI (a >>> n) := by
  apply Int32.toBitVec_inj.1
  rw [Int32.toBitVec_shiftRight]
  show (BitVec.ofNat 32 a).sshiftRight ((nI n &&& 31).toBitVec.smod 32).toNat = BitVec.ofNat 32 (a >>> n)
  rw [ni_shl n hn]
  have hm : (BitVec.ofNat 32 a).msb = false := by
    rw [BitVec.msb_eq_decide]
    simp
    omega
  apply BitVec.eq_of_toNat_eq
  rw [BitVec.sshiftRight_eq_of_msb_false hm]
  have h2 : a >>> n ≤ a := by rw [Nat.shiftRight_eq_div_pow]; exact Nat.div_le_self _ _
  simp only [BitVec.toNat_ushiftRight, BitVec.toNat_ofNat]
  rw [Nat.mod_eq_of_lt (by omega), Nat.mod_eq_of_lt (by omega)]
theorem na_div {a b : Nat} (ha : a < 2 ^ 31) (hb : b < 2 ^ 31) : nI a / nI b = nI (a / b) := by
  apply Int32.toInt_inj.mp
  have h2 : a / b ≤ a := Nat.div_le_self _ _
  rw [Int32.toInt_div, nI_toInt ha, nI_toInt hb, nI_toInt (by omega)]
  have hq : ((a : Int).tdiv b) = ((a / b : Nat) : Int) := (Int.ofNat_tdiv a b).symm
  rw [hq]
  generalize a / b = q at *
  rw [Int.bmod_eq_of_le] <;> omega
theorem na_rem {a b : Nat} (ha : a < 2 ^ 31) (hb : b < 2 ^ 31) : nI a - nI a / nI b * nI b = nI (a % b) := by
  have h1 := Nat.div_add_mod a b
  have h2 : a / b * b ≤ a := Nat.div_mul_le_self a b
  rw [na_div ha hb, na_mul, na_sub h2]
  congr 1
  rw [Nat.mul_comm] at h1
  omega
theorem bit1 (c p : Nat) : (c >>> p) &&& 1 = if c.testBit p then 1 else 0 := by
  rw [Nat.and_one_is_mod, Nat.testBit_eq_decide_div_mod_eq, Nat.shiftRight_eq_div_pow]
  by_cases h : c / 2 ^ p % 2 = 1
  · simp [h]
  · have : c / 2 ^ p % 2 = 0 := by omega
    simp [this]
theorem and7 (a : Nat) : a &&& 7 = a % 8 := by
  rw [show (7 : Nat) = 2 ^ 3 - 1 by rfl, Nat.and_two_pow_sub_one_eq_mod]
/-- a set without others -/
def nd (a b : Nat) : Nat := a &&& (b ^^^ 4294967295)
theorem nd_bit {a b i : Nat} (hi : i < 32) : (nd a b).testBit i = (a.testBit i && !b.testBit i) := by
  unfold nd
  rw [Nat.testBit_and, Nat.testBit_xor, show (4294967295 : Nat) = 2 ^ 32 - 1 by rfl, Nat.testBit_two_pow_sub_one]
  simp [hi]
theorem nd_le (a b : Nat) : nd a b ≤ a := Nat.and_le_left
def bz (b : Bool) : Nat := if b then 1 else 0
theorem zt {b : Bool} (h : b = true) : some (Value.int (nI 1)) = some (Value.int (nI (bz b))) := by subst h; rfl
theorem zf {b : Bool} (h : b = false) : some (Value.int (nI 0)) = some (Value.int (nI (bz b))) := by subst h; rfl
theorem zn {a b : Nat} (h : a = b) : some (Value.int (nI a)) = some (Value.int (nI b)) := by rw [h]
theorem nd_fold (a b : Nat) : a &&& (b ^^^ 4294967295) = nd a b := rfl
/-- numbers below 0, one by one -/
def nm (k : Nat) : Int32 := -(Int32.ofNat k)
theorem m_1 : (-1 : Int32) = nm 1 := by decide +kernel
theorem m_2 : (-2 : Int32) = nm 2 := by decide +kernel
theorem m_3 : (-3 : Int32) = nm 3 := by decide +kernel
theorem m_4 : (-4 : Int32) = nm 4 := by decide +kernel
theorem m_9 : (-9 : Int32) = nm 9 := by decide +kernel
theorem m_1000 : (-1000 : Int32) = nm 1000 := by decide +kernel
theorem nm_toInt : ∀ k, k < 2000 → (nm k).toInt = -(k : Int) := by decide +kernel
theorem nm_ne {a k : Nat} (ha : a < 2 ^ 31) (h0 : 0 < k) (hk : k < 2000) : (nI a = nm k) = False := by
  refine eq_false fun e => ?_
  have h1 := congrArg Int32.toInt e
  rw [nI_toInt ha, nm_toInt k hk] at h1
  omega
theorem nm_ne' {a k : Nat} (ha : a < 2 ^ 31) (h0 : 0 < k) (hk : k < 2000) : (nm k = nI a) = False := by
  rw [← nm_ne ha h0 hk]; exact propext ⟨Eq.symm, Eq.symm⟩
theorem nm_inj {a k : Nat} (ha : a < 2000) (hk : k < 2000) : (nm k = nm a) = (k = a) := by
  refine propext ⟨fun e => ?_, fun e => by rw [e]⟩
  have h1 := congrArg Int32.toInt e
  rw [nm_toInt a ha, nm_toInt k hk] at h1
  omega
theorem nm_lt {a k : Nat} (ha : a < 2 ^ 31) (h0 : 0 < k) (hk : k < 2000) : (nm k < nI a) = True := by
  refine eq_true ?_
  rw [Int32.lt_iff_toInt_lt, nI_toInt ha, nm_toInt k hk]; omega
theorem nm_le {a k : Nat} (ha : a < 2 ^ 31) (h0 : 0 < k) (hk : k < 2000) : (nm k ≤ nI a) = True := by
  refine eq_true ?_
  rw [Int32.le_iff_toInt_le, nI_toInt ha, nm_toInt k hk]; omega
theorem nm_gt {a k : Nat} (ha : a < 2 ^ 31) (h0 : 0 < k) (hk : k < 2000) : (nI a < nm k) = False := by
  refine eq_false ?_
  rw [Int32.lt_iff_toInt_lt, nI_toInt ha, nm_toInt k hk]; omega
theorem nm_ge {a k : Nat} (ha : a < 2 ^ 31) (h0 : 0 < k) (hk : k < 2000) : (nI a ≤ nm k) = False := by
  refine eq_false ?_
  rw [Int32.le_iff_toInt_le, nI_toInt ha, nm_toInt k hk]; omega
theorem nm_add {a k : Nat} (h : k ≤ a) : nI a + nm k = nI (a - k) := by
  have e : nm k = -(nI k) := rfl
  rw [e, ← na_sub h, Int32.sub_eq_add_neg]
theorem nm_xor (a : Nat) : nI a ^^^ nm 1 = nI (a ^^^ 4294967295) := by
  rw [show nm 1 = nI 4294967295 by decide +kernel, na_xor]
theorem lx {l m : List Nat} (h : l.length = m.length) (hi : ∀ i, i < l.length → l.getD i 0 = m.getD i 0) : l = m := by
  apply List.ext_getElem h
  intro i h1 h2
  have := hi i h1
  simpa [List.getD_eq_getElem?_getD, h1, h2] using this
theorem gr {f : Nat → Nat} {n i : Nat} (h : i < n) : ((List.range n).map f).getD i 0 = f i := by simp [List.getD_eq_getElem?_getD, h]
theorem gs {l : List Nat} {i j v : Nat} (h : i < l.length) : (l.set i v).getD j 0 = if j = i then v else l.getD j 0 := by
  by_cases e : j = i
  · subst e; simp [List.getD_eq_getElem?_getD, h]
  · simp [List.getD_eq_getElem?_getD, List.getElem?_set_ne (Ne.symm e), e]
theorem pow_lt {q n : Nat} (h : q < n) : 2 ^ q < 2 ^ n := Nat.pow_lt_pow_right (by omega) h
theorem or_lt {a b n : Nat} (ha : a < 2 ^ n) (hb : b < 2 ^ n) : a ||| b < 2 ^ n := Nat.or_lt_two_pow ha hb
