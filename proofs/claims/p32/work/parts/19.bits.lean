/-! rows on bits, shifts and unsigned numbers, to paste: each family out of a closed proof of our own, whole with what it rests on; each by itself clean at Lean in its own claim (generation 39, form 5). Take a family whole -/
/-! ===== Int32 by its bits: bt x i ===== -/
def bt (x : Int32) (i : Nat) : Bool := x.toBitVec.getLsbD i
theorem b_ext {x y : Int32} (h : ∀ i, i < 32 → bt x i = bt y i) : x = y := Int32.toBitVec_inj.mp (BitVec.eq_of_getLsbD_eq (fun i hi => h i hi))
theorem b_or (x y : Int32) (i : Nat) : bt (x ||| y) i = (bt x i || bt y i) := by unfold bt; rw [Int32.toBitVec_or, BitVec.getLsbD_or]
theorem b_and (x y : Int32) (i : Nat) : bt (x &&& y) i = (bt x i && bt y i) := by unfold bt; rw [Int32.toBitVec_and, BitVec.getLsbD_and]
theorem b_xor (x y : Int32) (i : Nat) : bt (x ^^^ y) i = (bt x i ^^ bt y i) := by unfold bt; rw [Int32.toBitVec_xor, BitVec.getLsbD_xor]
theorem b_big {x : Int32} {i : Nat} (h : 32 ≤ i) : bt x i = false := BitVec.getLsbD_of_ge _ _ h
theorem b_255 (i : Nat) : bt 255 i = decide (i < 8) := by
  rcases Nat.lt_or_ge i 32 with h | h
  · exact (by decide +kernel : ∀ i, i < 32 → bt 255 i = decide (i < 8)) i h
  · rw [b_big h, decide_eq_false (by omega)]
theorem b_65535 (i : Nat) : bt 65535 i = decide (i < 16) := by
  rcases Nat.lt_or_ge i 32 with h | h
  · exact (by decide +kernel : ∀ i, i < 32 → bt 65535 i = decide (i < 16)) i h
  · rw [b_big h, decide_eq_false (by omega)]
theorem b_m1 : ∀ i, i < 32 → bt (-1) i = true := by decide +kernel
theorem b_0 (i : Nat) : bt 0 i = false := BitVec.getLsbD_zero
theorem s_l : ∀ n, n < 32 → ((nI n &&& 31).toBitVec.smod 32).toNat = n := by decide +kernel
theorem s_u : ∀ n, n < 32 → (((nI n).toUInt32 &&& Int32.toUInt32 31).toBitVec % 32).toNat = n := by decide +kernel
theorem b_shl (n : Nat) (hn : n < 32) (x : Int32) {i : Nat} (hi : i < 32) : bt (x <<< (nI n &&& 31)) i = (decide (n ≤ i) && bt x (i - n)) := by
  unfold bt
  rw [Int32.toBitVec_shiftLeft]
  show (x.toBitVec <<< ((nI n &&& 31).toBitVec.smod 32).toNat).getLsbD i = _
  rw [s_l n hn, BitVec.getLsbD_shiftLeft]
  rcases Nat.lt_or_ge i n with h | h
  · simp [h, Nat.not_le.mpr h]
  · simp [hi, h, Nat.not_lt.mpr h]
theorem b_ushr (n : Nat) (hn : n < 32) (x : Int32) (i : Nat) : bt ((x.toUInt32 >>> ((nI n).toUInt32 &&& Int32.toUInt32 31)).toInt32) i = bt x (n + i) := by
  show (x.toUInt32 >>> ((nI n).toUInt32 &&& Int32.toUInt32 31)).toBitVec.getLsbD i = x.toUInt32.toBitVec.getLsbD (n + i)
  rw [UInt32.toBitVec_shiftRight]
  show (x.toUInt32.toBitVec >>> (((nI n).toUInt32 &&& Int32.toUInt32 31).toBitVec % 32).toNat).getLsbD i = _
  rw [s_u n hn, BitVec.getLsbD_ushiftRight]
theorem b_sshr (n : Nat) (hn : n < 32) (x : Int32) {i : Nat} (hi : i < 32) : bt (x >>> (nI n &&& 31)) i = if n + i < 32 then bt x (n + i) else bt x 31 := by
  unfold bt
  rw [Int32.toBitVec_shiftRight]
  show (x.toBitVec.sshiftRight ((nI n &&& 31).toBitVec.smod 32).toNat).getLsbD i = _
  rw [s_l n hn, BitVec.getLsbD_sshiftRight, BitVec.msb_eq_getLsbD_last]
  simp [hi]
theorem b_shl8 (x : Int32) {i : Nat} (hi : i < 32) : bt (x <<< ((8 : Int32) &&& 31)) i = (decide (8 ≤ i) && bt x (i - 8)) := b_shl 8 (by omega) x hi
theorem b_shl16 (x : Int32) {i : Nat} (hi : i < 32) : bt (x <<< ((16 : Int32) &&& 31)) i = (decide (16 ≤ i) && bt x (i - 16)) := b_shl 16 (by omega) x hi
theorem b_shl24 (x : Int32) {i : Nat} (hi : i < 32) : bt (x <<< ((24 : Int32) &&& 31)) i = (decide (24 ≤ i) && bt x (i - 24)) := b_shl 24 (by omega) x hi
theorem b_sshr8 (x : Int32) {i : Nat} (hi : i < 32) : bt (x >>> ((8 : Int32) &&& 31)) i = if 8 + i < 32 then bt x (8 + i) else bt x 31 := b_sshr 8 (by omega) x hi
/-! ===== nI under and, xor, >>>, one bit, 65535 ===== -/
def zbi (b : Bool) : Int32 := if b = true then 1 else 0
theorem zbi_t : zbi true = 1 := rfl
theorem zbi_f : zbi false = 0 := rfl
theorem zbi_0 {b : Bool} : zbi b = 0 ↔ b = false := by cases b <;> decide
theorem zbi_1 {b : Bool} : zbi b = 1 ↔ b = true := by cases b <;> decide
theorem zbi_ne {b : Bool} : ¬ zbi b = 0 ↔ b = true := by cases b <;> decide
theorem zbi_z (b : Bool) : zbi b = 0 ∨ zbi b = 1 := by cases b <;> decide
theorem zbi_nar (b : Bool) : narrow .boolean (.int (zbi b)) = .int (zbi b) := by cases b <;> rfl
theorem zbi_inj {a b : Bool} : zbi a = zbi b ↔ a = b := by cases a <;> cases b <;> decide
theorem b_1 : ∀ i, i < 32 → bt 1 i = decide (i = 0) := by decide +kernel
theorem b_one (k : Nat) (hk : k < 32) {i : Nat} (hi : i < 32) : bt ((1 : Int32) <<< (nI k &&& 31)) i = decide (i = k) := by
  rw [b_shl k hk _ hi, b_1 _ (by omega)]
  by_cases h : i = k
  · subst h; simp
  · by_cases h2 : k ≤ i
    · have : ¬ i - k = 0 := by omega
      simp [h, h2, this]
    · simp [h, h2]
theorem b_has (m : Int32) (i : Nat) (h : i < 32) : ((m >>> (nI i &&& 31)) &&& 1 = 1) ↔ bt m i = true := by
  constructor
  · intro e
    have h0 := congrArg (fun x => bt x 0) e
    simp only [b_and, b_sshr i h m (show 0 < 32 by decide)] at h0
    rw [b_1 0 (by decide)] at h0
    have : i + 0 < 32 := by omega
    rw [if_pos this] at h0
    simpa using h0
  · intro e
    apply b_ext
    intro j hj
    rw [b_and, b_1 j hj]
    by_cases h0 : j = 0
    · subst h0
      rw [b_sshr i h m (by decide), if_pos (by omega)]
      simp [e]
    · simp [h0]
theorem b_has0 (m : Int32) (i : Nat) (h : i < 32) : ((m >>> (nI i &&& 31)) &&& 1 = 0) ↔ bt m i = false := by
  constructor
  · intro e
    have h0 := congrArg (fun x => bt x 0) e
    simp only [b_and, b_sshr i h m (show 0 < 32 by decide)] at h0
    rw [b_1 0 (by decide), b_0] at h0
    have : i + 0 < 32 := by omega
    rw [if_pos this] at h0
    simpa using h0
  · intro e
    apply b_ext
    intro j hj
    rw [b_and, b_1 j hj, b_0]
    by_cases h0 : j = 0
    · subst h0
      rw [b_sshr i h m (by decide), if_pos (by omega)]
      simp [e]
    · simp [h0]
theorem nI_lt_lit {i n : Nat} (h : i < n) (hn : n < 2 ^ 31) : nI i < nI n := nI_lt h hn
theorem nI_ge_lit {i n : Nat} (h : n ≤ i) (hn : i < 2 ^ 31) : nI i ≥ nI n := nI_le h hn

