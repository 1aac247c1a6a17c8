/-! ===== bits (the first rows are pasted out of kit/laws/BITS.to-paste) ===== -/
def bt (x : Int32) (i : Nat) : Bool := x.toBitVec.getLsbD i
theorem b_ext {x y : Int32} (h : ∀ i, i < 32 → bt x i = bt y i) : x = y := Int32.toBitVec_inj.mp (BitVec.eq_of_getLsbD_eq (fun i hi => h i hi))
theorem b_or (x y : Int32) (i : Nat) : bt (x ||| y) i = (bt x i || bt y i) := by unfold bt; rw [Int32.toBitVec_or, BitVec.getLsbD_or]
theorem b_and (x y : Int32) (i : Nat) : bt (x &&& y) i = (bt x i && bt y i) := by unfold bt; rw [Int32.toBitVec_and, BitVec.getLsbD_and]
theorem b_xor (x y : Int32) (i : Nat) : bt (x ^^^ y) i = (bt x i ^^ bt y i) := by unfold bt; rw [Int32.toBitVec_xor, BitVec.getLsbD_xor]
theorem b_big {x : Int32} {i : Nat} (h : 32 ≤ i) : bt x i = false := BitVec.getLsbD_of_ge _ _ h
theorem b_m1 : ∀ i, i < 32 → bt (-1) i = true := by decide +kernel
theorem b_0 (i : Nat) : bt 0 i = false := BitVec.getLsbD_zero
theorem s_l : ∀ n, n < 32 → ((nI n &&& 31).toBitVec.smod 32).toNat = n := by decide +kernel
theorem b_shl (n : Nat) (hn : n < 32) (x : Int32) {i : Nat} (hi : i < 32) : bt (x <<< (nI n &&& 31)) i = (decide (n ≤ i) && bt x (i - n)) := by
  unfold bt
  rw [Int32.toBitVec_shiftLeft]
  show (x.toBitVec <<< ((nI n &&& 31).toBitVec.smod 32).toNat).getLsbD i = _
  rw [s_l n hn, BitVec.getLsbD_shiftLeft]
  rcases Nat.lt_or_ge i n with h | h
  · simp [h, Nat.not_le.mpr h]
  · simp [hi, h, Nat.not_lt.mpr h]
theorem b_sshr (n : Nat) (hn : n < 32) (x : Int32) {i : Nat} (hi : i < 32) : bt (x >>> (nI n &&& 31)) i = if n + i < 32 then bt x (n + i) else bt x 31 := by
  unfold bt
  rw [Int32.toBitVec_shiftRight]
  show (x.toBitVec.sshiftRight ((nI n &&& 31).toBitVec.smod 32).toNat).getLsbD i = _
  rw [s_l n hn, BitVec.getLsbD_sshiftRight, BitVec.msb_eq_getLsbD_last]
  simp [hi]
theorem nx_and (a b : Nat) : nI a &&& nI b = nI (a &&& b) := by
  apply Int32.toBitVec_inj.1
  show BitVec.ofNat 32 a &&& BitVec.ofNat 32 b = BitVec.ofNat 32 (a &&& b)
  apply BitVec.eq_of_getLsbD_eq
  intro i hi
  simp [hi]
theorem bt_nI {a i : Nat} (hi : i < 32) : bt (nI a) i = a.testBit i := by
  unfold bt
  show (BitVec.ofNat 32 a).getLsbD i = _
  rw [BitVec.getLsbD_ofNat, decide_eq_true hi, Bool.true_and]
def R7 (x : Int32) : Prop := ∀ i, 7 ≤ i → i < 32 → bt x i = false
theorem R7_of {a : Nat} (h : a < 128) : R7 (nI a) := by
  intro i h7 h32
  rw [bt_nI h32]
  exact Nat.testBit_lt_two_pow (Nat.lt_of_lt_of_le h (show 2 ^ 7 ≤ 2 ^ i from Nat.pow_le_pow_right (by decide) h7))
theorem nI_self (x : Int32) : x = nI x.toBitVec.toNat := by
  apply Int32.toBitVec_inj.mp
  show x.toBitVec = BitVec.ofNat 32 x.toBitVec.toNat
  rw [BitVec.ofNat_toNat, BitVec.setWidth_eq]
theorem R7_ex {x : Int32} (h : R7 x) : ∃ a, a < 128 ∧ x = nI a := by
  refine ⟨x.toBitVec.toNat, ?_, nI_self x⟩
  refine Nat.lt_pow_two_of_testBit (n := 7) _ (fun i hi => ?_)
  by_cases h32 : i < 32
  · exact h i hi h32
  · exact b_big (x := x) (by omega)
theorem bt_1 (i : Nat) (hi : i < 32) : bt 1 i = decide (i = 0) := by
  rw [show (1 : Int32) = nI 1 from rfl, bt_nI hi]
  cases i with
  | zero => rfl
  | succ i => rw [Nat.testBit_succ, show 1 / 2 = 0 from rfl, Nat.zero_testBit]; rfl
theorem and1_bt (y : Int32) : (y &&& 1 == 0) = !bt y 0 := by
  have h : bt (y &&& 1) 0 = bt y 0 := by rw [b_and, bt_1 0 (by decide)]; simp
  cases hb : bt y 0 with
  | true =>
    have : ¬ y &&& 1 = 0 := fun e => by rw [e, b_0, hb] at h; cases h
    simp [this]
  | false =>
    have : y &&& 1 = 0 := b_ext (fun i hi => by
      rw [b_and, bt_1 i hi, b_0]
      by_cases h0 : i = 0
      · rw [h0, hb]; rfl
      · rw [decide_eq_false h0, Bool.and_false])
    simp [this]
theorem tb_bt (x : Int32) {j : Nat} (hj : j < 32) : tb x (nI j) = bt x j := by
  unfold tb
  rw [and1_bt, b_sshr j hj x (by decide), if_pos (by omega), Bool.not_not, Nat.add_zero]
theorem b_sl1 {j i : Nat} (hj : j < 32) (hi : i < 32) : bt ((1 : Int32) <<< (nI j &&& 31)) i = decide (i = j) := by
  rw [b_shl j hj _ hi]
  by_cases h : j ≤ i
  · rw [decide_eq_true h, Bool.true_and, bt_1 _ (by omega)]
    by_cases h2 : i = j
    · rw [decide_eq_true h2, decide_eq_true (by omega)]
    · rw [decide_eq_false h2, decide_eq_false (by omega)]
  · rw [decide_eq_false h, Bool.false_and, decide_eq_false (by omega)]
theorem bt_not (x : Int32) {i : Nat} (hi : i < 32) : bt (x ^^^ (-1)) i = !bt x i := by
  rw [b_xor, b_m1 i hi]
  cases bt x i <;> rfl
theorem R7_and {x y : Int32} (h : R7 x) : R7 (x &&& y) := fun i h7 h32 => by rw [b_and, h i h7 h32, Bool.false_and]
theorem R7_or {x y : Int32} (h : R7 x) (h' : R7 y) : R7 (x ||| y) := fun i h7 h32 => by rw [b_or, h i h7 h32, h' i h7 h32]; rfl
theorem R7_xor {x y : Int32} (h : R7 x) (h' : R7 y) : R7 (x ^^^ y) := fun i h7 h32 => by rw [b_xor, h i h7 h32, h' i h7 h32]; rfl
theorem R7_sl {j : Nat} (hj : j < 7) : R7 ((1 : Int32) <<< (nI j &&& 31)) := fun i h7 h32 => by rw [b_sl1 (by omega) h32, decide_eq_false (by omega)]
theorem R7_0 : R7 0 := fun i _ _ => b_0 i
theorem R7_127 : R7 127 := R7_of (a := 127) (by decide)
