/-! ===== Int32 by its bits: bt x i ===== -/
def bt (x : Int32) (i : Nat) : Bool := x.toBitVec.getLsbD i
theorem b_ext {x y : Int32} (h : ∀ i, i < 32 → bt x i = bt y i) : x = y := Int32.toBitVec_inj.mp (BitVec.eq_of_getLsbD_eq (fun i hi => h i hi))
theorem b_or (x y : Int32) (i : Nat) : bt (x ||| y) i = (bt x i || bt y i) := by unfold bt; rw [Int32.toBitVec_or, BitVec.getLsbD_or]
theorem b_and (x y : Int32) (i : Nat) : bt (x &&& y) i = (bt x i && bt y i) := by unfold bt; rw [Int32.toBitVec_and, BitVec.getLsbD_and]
theorem b_xor (x y : Int32) (i : Nat) : bt (x ^^^ y) i = (bt x i ^^ bt y i) := by unfold bt; rw [Int32.toBitVec_xor, BitVec.getLsbD_xor]
theorem b_big {x : Int32} {i : Nat} (h : 32 ≤ i) : bt x i = false := BitVec.getLsbD_of_ge _ _ h
theorem b_255 (i : Nat) : bt 255 i = decide (i < 8) := by
  rcases Nat.lt_or_ge i 32 with h | h
  · exact (by decide +kernel : ∀ i, i < 32 → bt 255 i = decide (i < 8)) i h
  · rw [b_big h, decide_eq_false (by omega)]
theorem b_65535 (i : Nat) : bt 65535 i = decide (i < 16) := by
  rcases Nat.lt_or_ge i 32 with h | h
  · exact (by decide +kernel : ∀ i, i < 32 → bt 65535 i = decide (i < 16)) i h
  · rw [b_big h, decide_eq_false (by omega)]
theorem b_m1 : ∀ i, i < 32 → bt (-1) i = true := by decide +kernel
theorem b_0 (i : Nat) : bt 0 i = false := BitVec.getLsbD_zero
theorem s_l : ∀ n, n < 32 → ((nI n &&& 31).toBitVec.smod 32).toNat = n := by decide +kernel
theorem s_u : ∀ n, n < 32 → (((nI n).toUInt32 &&& Int32.toUInt32 31).toBitVec % 32).toNat = n := by decide +kernel
theorem b_shl (n : Nat) (hn : n < 32) (x : Int32) {i : Nat} (hi : i < 32) : bt (x <<< (nI n &&& 31)) i = (decide (n ≤ i) && bt x (i - n)) := by
  unfold bt
  rw [Int32.toBitVec_shiftLeft]
  show (x.toBitVec <<< ((nI n &&& 31).toBitVec.smod 32).toNat).getLsbD i = _
  rw [s_l n hn, BitVec.getLsbD_shiftLeft]
  rcases Nat.lt_or_ge i n with h | h
  · simp [h, Nat.not_le.mpr h]
  · simp [hi, h, Nat.not_lt.mpr h]
theorem b_ushr (n : Nat) (hn : n < 32) (x : Int32) (i : Nat) : bt ((x.toUInt32 >>> ((nI n).toUInt32 &&& Int32.toUInt32 31)).toInt32) i = bt x (n + i) := by
  show (x.toUInt32 >>> ((nI n).toUInt32 &&& Int32.toUInt32 31)).toBitVec.getLsbD i = x.toUInt32.toBitVec.getLsbD (n + i)
  rw [UInt32.toBitVec_shiftRight]
  show (x.toUInt32.toBitVec >>> (((nI n).toUInt32 &&& Int32.toUInt32 31).toBitVec % 32).toNat).getLsbD i = _
  rw [s_u n hn, BitVec.getLsbD_ushiftRight]
theorem b_sshr (n : Nat) (hn : n < 32) (x : Int32) {i : Nat} (hi : i < 32) : bt (x >>> (nI n &&& 31)) i = if n + i < 32 then bt x (n + i) else bt x 31 := by
  unfold bt
  rw [Int32.toBitVec_shiftRight]
  show (x.toBitVec.sshiftRight ((nI n &&& 31).toBitVec.smod 32).toNat).getLsbD i = _
  rw [s_l n hn, BitVec.getLsbD_sshiftRight, BitVec.msb_eq_getLsbD_last]
  simp [hi]
/-! bits of sets -/
theorem bt_one (i : Nat) : bt 1 i = decide (i = 0) := by
  by_cases h : i < 32
  · have : ∀ i, i < 32 → bt 1 i = decide (i = 0) := by decide +kernel
    exact this i h
  · rw [b_big (by omega)]
    simp; omega
theorem bt_and1 (y : Int32) : (y &&& 1 = 1) ↔ bt y 0 = true := by
  constructor
  · intro h
    have h1 : bt (y &&& 1) 0 = bt 1 0 := by rw [h]
    rw [b_and, bt_one] at h1
    simpa using h1
  · intro h
    apply b_ext
    intro i hi
    rw [b_and, bt_one]
    by_cases h0 : i = 0
    · subst h0; simp [h]
    · simp [h0]
theorem jb_bt (s : Int32) {i : Nat} (hi : i < 32) : jb s i = if bt s i then 1 else 0 := by
  unfold jb jbit
  have h : (s >>> (nI i &&& 31)) &&& 1 = 1 ↔ bt s i = true := by
    rw [bt_and1, b_sshr i hi s (by omega), if_pos (by omega)]
    simp
  by_cases c : bt s i = true
  · rw [if_pos (h.mpr c), if_pos c]
  · rw [if_neg (fun q => c (h.mp q)), if_neg c]
theorem jb_ne (s : Int32) {i : Nat} (hi : i < 32) : (¬ jb s i = 0) ↔ bt s i = true := by
  rw [jb_bt s hi]
  cases bt s i <;> decide
theorem jb_eq (s : Int32) {i : Nat} (hi : i < 32) : (jb s i = 0) ↔ bt s i = false := by
  rw [jb_bt s hi]
  cases bt s i <;> decide
theorem bt_bit {k i : Nat} (hk : k < 32) (hi : i < 32) : bt ((1 : Int32) <<< (nI k &&& 31)) i = decide (i = k) := by
  rw [b_shl k hk 1 hi, bt_one]
  by_cases h : i = k
  · subst h; simp
  · by_cases h2 : k ≤ i
    · have : ¬ i - k = 0 := by omega
      simp [h, h2, this]
    · simp [h, h2]
theorem bt_jbs (q : Nat → Int32) : ∀ (n i : Nat), n ≤ 32 → i < 32 → bt (jbs q n) i = decide (i < n ∧ ¬ q i = 0)
  | 0, i, _, _ => by rw [jbs, b_0]; simp
  | n + 1, i, hn, hi => by
    have ih := bt_jbs q n i (by omega) hi
    rw [jbs]
    split
    · next h =>
      rw [ih]
      by_cases c : i = n
      · subst c; simp [h]
      · have : i < n ↔ i < n + 1 := by omega
        simp [this]
    · next h =>
      rw [b_or, ih, bt_bit (by omega) hi]
      by_cases c : i = n
      · subst c; simp [h]
      · have : i < n ↔ i < n + 1 := by omega
        simp [c, this]
theorem bt_not (s : Int32) {i : Nat} (hi : i < 32) : bt (s ^^^ (-1)) i = !bt s i := by
  rw [b_xor, b_m1 i hi]
  cases bt s i <;> rfl
theorem bt_all_aux : ∀ n, n < 31 → ∀ i, i < 32 → bt (((1 : Int32) <<< (nI n &&& 31)) - 1) i = decide (i < n) := by decide +kernel
theorem bt_all {n i : Nat} (hn : n < 31) (hi : i < 32) : bt (jall (nI n)) i = decide (i < n) := bt_all_aux n hn i hi
theorem bt_any (b : Nat → Int32) (x : Int32) : ∀ (n i : Nat), n ≤ 32 → (bt (jany b x n) i = true ↔ ∃ k, k < n ∧ bt x k = true ∧ bt (b k) i = true)
  | 0, i, _ => by rw [jany, b_0]; simp
  | n + 1, i, hn => by
    have ih := bt_any b x n i (by omega)
    rw [jany]
    split
    · next h =>
      rw [jb_eq x (by omega)] at h
      rw [ih]
      constructor
      · rintro ⟨k, h1, h2⟩; exact ⟨k, by omega, h2⟩
      · rintro ⟨k, h1, h2, h3⟩
        by_cases c : k = n
        · subst c; rw [h] at h2; cases h2
        · exact ⟨k, by omega, h2, h3⟩
    · next h =>
      rw [jb_ne x (by omega)] at h
      rw [b_or, Bool.or_eq_true, ih]
      constructor
      · rintro (⟨k, h1, h2⟩ | h1)
        · exact ⟨k, by omega, h2⟩
        · exact ⟨n, by omega, h, h1⟩
      · rintro ⟨k, h1, h2, h3⟩
        by_cases c : k = n
        · subst c; exact Or.inr h3
        · exact Or.inl ⟨k, by omega, h2, h3⟩
