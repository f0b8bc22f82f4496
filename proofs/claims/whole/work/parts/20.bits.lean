/-! ===== Int32 by its bits: bt x i ===== -/
def bt (x : Int32) (i : Nat) : Bool := x.toBitVec.getLsbD i
theorem b_ext {x y : Int32} (h : ∀ i, i < 32 → bt x i = bt y i) : x = y := Int32.toBitVec_inj.mp (BitVec.eq_of_getLsbD_eq (fun i hi => h i hi))
theorem b_or (x y : Int32) (i : Nat) : bt (x ||| y) i = (bt x i || bt y i) := by unfold bt; rw [Int32.toBitVec_or, BitVec.getLsbD_or]
theorem b_and (x y : Int32) (i : Nat) : bt (x &&& y) i = (bt x i && bt y i) := by unfold bt; rw [Int32.toBitVec_and, BitVec.getLsbD_and]
theorem b_xor (x y : Int32) (i : Nat) : bt (x ^^^ y) i = (bt x i ^^ bt y i) := by unfold bt; rw [Int32.toBitVec_xor, BitVec.getLsbD_xor]
theorem b_big {x : Int32} {i : Nat} (h : 32 ≤ i) : bt x i = false := BitVec.getLsbD_of_ge _ _ h
theorem b_255 (i : Nat) : bt 255 i = decide (i < 8) := by
  rcases Nat.lt_or_ge i 32 with h | h
  · exact (by decide +kernel : ∀ i, i < 32 → bt 255 i = decide (i < 8)) i h
  · rw [b_big h, decide_eq_false (by omega)]
theorem b_65535 (i : Nat) : bt 65535 i = decide (i < 16) := by
  rcases Nat.lt_or_ge i 32 with h | h
  · exact (by decide +kernel : ∀ i, i < 32 → bt 65535 i = decide (i < 16)) i h
  · rw [b_big h, decide_eq_false (by omega)]
theorem b_m1 : ∀ i, i < 32 → bt (-1) i = true := by decide +kernel
theorem b_0 (i : Nat) : bt 0 i = false := BitVec.getLsbD_zero
theorem s_l : ∀ n, n < 32 → ((nI n &&& 31).toBitVec.smod 32).toNat = n := by decide +kernel
theorem s_u : ∀ n, n < 32 → (((nI n).toUInt32 &&& Int32.toUInt32 31).toBitVec % 32).toNat = n := by decide +kernel
theorem b_shl (n : Nat) (hn : n < 32) (x : Int32) {i : Nat} (hi : i < 32) : bt (x <<< (nI n &&& 31)) i = (decide (n ≤ i) && bt x (i - n)) := by
  unfold bt
  rw [Int32.toBitVec_shiftLeft]
  show (x.toBitVec <<< ((nI n &&& 31).toBitVec.smod 32).toNat).getLsbD i = _
  rw [s_l n hn, BitVec.getLsbD_shiftLeft]
  rcases Nat.lt_or_ge i n with h | h
  · simp [h, Nat.not_le.mpr h]
  · simp [hi, h, Nat.not_lt.mpr h]
theorem b_ushr (n : Nat) (hn : n < 32) (x : Int32) (i : Nat) : bt ((x.toUInt32 >>> ((nI n).toUInt32 &&& Int32.toUInt32 31)).toInt32) i = bt x (n + i) := by
  show (x.toUInt32 >>> ((nI n).toUInt32 &&& Int32.toUInt32 31)).toBitVec.getLsbD i = x.toUInt32.toBitVec.getLsbD (n + i)
  rw [UInt32.toBitVec_shiftRight]
  show (x.toUInt32.toBitVec >>> (((nI n).toUInt32 &&& Int32.toUInt32 31).toBitVec % 32).toNat).getLsbD i = _
  rw [s_u n hn, BitVec.getLsbD_ushiftRight]
theorem b_sshr (n : Nat) (hn : n < 32) (x : Int32) {i : Nat} (hi : i < 32) : bt (x >>> (nI n &&& 31)) i = if n + i < 32 then bt x (n + i) else bt x 31 := by
  unfold bt
  rw [Int32.toBitVec_shiftRight]
  show (x.toBitVec.sshiftRight ((nI n &&& 31).toBitVec.smod 32).toNat).getLsbD i = _
  rw [s_l n hn, BitVec.getLsbD_sshiftRight, BitVec.msb_eq_getLsbD_last]
  simp [hi]
theorem b_shl8 (x : Int32) {i : Nat} (hi : i < 32) : bt (x <<< ((8 : Int32) &&& 31)) i = (decide (8 ≤ i) && bt x (i - 8)) := b_shl 8 (by omega) x hi
theorem cp_b1 : ∀ i, bt 1 i = decide (i = 0) := by
  intro i
  rcases Nat.lt_or_ge i 32 with h | h
  · exact (by decide +kernel : ∀ i, i < 32 → bt 1 i = decide (i = 0)) i h
  · rw [b_big h, decide_eq_false (by omega)]
/-- bit n, by the reference's shift -/
theorem cp_bit_n {x : Int32} {n : Nat} (hn : n < 32) : cp_bit x (nI n) ↔ bt x n = true := by
  unfold cp_bit
  constructor
  · intro h
    have h1 := congrArg (fun z => bt z 0) h
    simp only [b_and, cp_b1] at h1
    rw [b_sshr n hn x (by decide : 0 < 32)] at h1
    simpa [hn] using h1
  · intro h
    apply b_ext
    intro i hi
    rw [b_and, cp_b1, b_sshr n hn x hi]
    by_cases h0 : i = 0
    · subst h0; simp [hn, h]
    · simp [h0]
def bL (x : Int64) (i : Nat) : Bool := x.toBitVec.getLsbD i
theorem bL_ext {x y : Int64} (h : ∀ i, i < 64 → bL x i = bL y i) : x = y := Int64.toBitVec_inj.mp (BitVec.eq_of_getLsbD_eq (fun i hi => h i hi))
theorem bL_and (x y : Int64) (i : Nat) : bL (x &&& y) i = (bL x i && bL y i) := by unfold bL; rw [Int64.toBitVec_and, BitVec.getLsbD_and]
theorem bL_or (x y : Int64) (i : Nat) : bL (x ||| y) i = (bL x i || bL y i) := by unfold bL; rw [Int64.toBitVec_or, BitVec.getLsbD_or]
theorem bL_1 (i : Nat) (hi : i < 64) : bL 1 i = decide (i = 0) := (by decide +kernel : ∀ i, i < 64 → bL 1 i = decide (i = 0)) i hi
theorem s_lL : ∀ n, n < 64 → (((nI n).toInt64 &&& 63).toBitVec.smod 64).toNat = n := by decide +kernel
theorem bL_sshr (n : Nat) (hn : n < 64) (x : Int64) {i : Nat} (hi : i < 64) : bL (x >>> ((nI n).toInt64 &&& 63)) i = if n + i < 64 then bL x (n + i) else bL x 63 := by
  unfold bL
  rw [Int64.toBitVec_shiftRight]
  show (x.toBitVec.sshiftRight (((nI n).toInt64 &&& 63).toBitVec.smod 64).toNat).getLsbD i = _
  rw [s_lL n hn, BitVec.getLsbD_sshiftRight, BitVec.msb_eq_getLsbD_last]
  simp [hi]
theorem bL_shl1 : ∀ n, n < 64 → ∀ i, i < 64 → bL ((1 : Int64) <<< ((nI n).toInt64 &&& 63)) i = decide (i = n) := by
  intro n hn i hi
  unfold bL
  rw [Int64.toBitVec_shiftLeft]
  show ((1 : Int64).toBitVec <<< (((nI n).toInt64 &&& 63).toBitVec.smod 64).toNat).getLsbD i = _
  rw [s_lL n hn, BitVec.getLsbD_shiftLeft]
  rcases Nat.lt_or_ge i n with h | h
  · simp [h, Nat.ne_of_lt h]
  · have h1 : bL 1 (i - n) = decide (i - n = 0) := bL_1 _ (by omega)
    unfold bL at h1
    rw [h1]
    by_cases e : i = n
    · subst e; simp [hi]
    · simp [hi, Nat.not_lt.mpr h, e]; omega
/-- bit n, by the class's shift of a long -/
theorem cp_inS_L {x : Int64} {n : Nat} (hn : n < 64) : cp_inS (nI n) x ↔ bL x n = true := by
  unfold cp_inS
  constructor
  · intro h
    have h1 := congrArg (fun z => bL z 0) h
    simp only [bL_and, bL_1 0 (by decide)] at h1
    rw [bL_sshr n hn x (by decide : 0 < 64)] at h1
    simpa [hn] using h1
  · intro h
    apply bL_ext
    intro i hi
    rw [bL_and, bL_1 i hi, bL_sshr n hn x hi]
    by_cases h0 : i = 0
    · subst h0; simp [hn, h]
    · simp [h0]
theorem bL_wide (x : Int32) {n : Nat} (hn : n < 32) : bL x.toInt64 n = bt x n := by
  unfold bL bt
  rw [Int32.toBitVec_toInt64, BitVec.getLsbD_signExtend]
  simp [hn]; omega
theorem cp_inS_n {x : Int32} {n : Nat} (hn : n < 32) : cp_inS (nI n) x.toInt64 ↔ bt x n = true := by
  rw [cp_inS_L (by omega), bL_wide x hn]
theorem cp_in_bit {x : Int32} {n : Nat} (hn : n < 32) : cp_inS (nI n) x.toInt64 ↔ cp_bit x (nI n) := (cp_inS_n hn).trans (cp_bit_n hn).symm
theorem cp_q_c {re : Int32} {k : Nat} (hk : k < 32) : cp_q re k ↔ cp_qY re k := cp_in_bit hk
theorem cp_shl1 {n i : Nat} (hn : n < 32) (hi : i < 32) : bt ((1 : Int32) <<< (nI n &&& 31)) i = decide (i = n) := by
  rw [b_shl n hn 1 hi, cp_b1]
  by_cases e : i = n
  · subst e; simp
  · rcases Nat.lt_or_ge i n with h | h
    · simp [e, Nat.not_le.mpr h]
    · simp [e]; omega
/-- a bit turned over -/
theorem cp_flip {x : Int32} {n i : Nat} (hn : n < 32) (hi : i < 32) : bt (x ^^^ ((1 : Int32) <<< (nI n &&& 31))) i = (bt x i ^^ decide (i = n)) := by rw [b_xor, cp_shl1 hn hi]
/-- the set of the silenced services -/
theorem cp_msk_b (u : cp_M) : ∀ n, n ≤ 64 → ∀ i, i < 64 → (bL (cp_msk u n) i = true ↔ i < n ∧ cp_lost u i)
  | 0, _, i, _ => by
    have h : bL (cp_msk u 0) i = false := BitVec.getLsbD_zero
    simp [h]
  | n + 1, hn, i, hi => by
    have ih := cp_msk_b u n (by omega) i hi
    by_cases hq : cp_lost u n
    · rw [cp_msk_t hq, bL_or, bL_shl1 n (by omega) i hi]
      by_cases e : i = n
      · subst e; simp [hq]
      · simp only [Bool.or_eq_true, decide_eq_true_eq, e, or_false, ih]
        constructor
        · rintro ⟨h1, h2⟩; exact ⟨by omega, h2⟩
        · rintro ⟨h1, h2⟩; exact ⟨by omega, h2⟩
    · rw [cp_msk_f hq, ih]
      constructor
      · rintro ⟨h1, h2⟩; exact ⟨by omega, h2⟩
      · rintro ⟨h1, h2⟩
        refine ⟨?_, h2⟩
        rcases Nat.lt_or_ge i n with q | q
        · exact q
        · obtain rfl : i = n := by omega
          exact absurd h2 hq
