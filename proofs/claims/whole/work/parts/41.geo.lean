/-! SHAPES, by bits: bit 5 y + x -/
theorem bt_nI (v i : Nat) : bt (nI v) i = (decide (i < 32) && v.testBit i) := by
  show (BitVec.ofNat 32 v).getLsbD i = _
  rw [BitVec.getLsbD_ofNat]
/-- within the square -/
def Sq (s : Int32) : Prop := ∀ i, 25 ≤ i → bt s i = false
def Ne (s : Int32) : Prop := ∃ i, bt s i = true
theorem shp_Sq {s : Int32} (h : shp s) : Sq s ∧ Ne s := by
  obtain ⟨v, h0, h1, rfl⟩ := h
  refine ⟨fun i hi => ?_, ?_⟩
  · rw [bt_nI, Nat.testBit_lt_two_pow (Nat.lt_of_lt_of_le h1 (show 2 ^ 25 ≤ 2 ^ i from Nat.pow_le_pow_right (by decide) hi)), Bool.and_false]
  · refine Classical.byContradiction (fun q => ?_)
    have : nI v = 0 := b_ext (fun i _ => by
      rw [b_0]
      cases c : bt (nI v) i with
      | false => rfl
      | true => exact absurd ⟨i, c⟩ q)
    exact nI_ne0 h0 (by omega) this
theorem shp_of_Sq {s : Int32} (h : Sq s) (h2 : Ne s) : shp s := by
  have e : s = nI s.toBitVec.toNat := by
    apply Int32.toBitVec_inj.mp
    show _ = BitVec.ofNat 32 _
    rw [BitVec.ofNat_toNat, BitVec.setWidth_eq]
  refine ⟨s.toBitVec.toNat, ?_, ?_, e⟩
  · refine Nat.pos_of_ne_zero (fun q => ?_)
    obtain ⟨i, hi⟩ := h2
    rw [e, q, show nI 0 = 0 from rfl, b_0] at hi
    cases hi
  · refine Nat.lt_pow_two_of_testBit (n := 25) _ (fun i hi => ?_)
    exact h i hi
theorem Ne_lt {s : Int32} (h : Sq s) {i : Nat} (hi : bt s i = true) : i < 25 := by
  by_cases c : i < 25
  · exact c
  · rw [h i (by omega)] at hi; cases hi
theorem sq_shr {s : Int32} (h : Sq s) (n : Nat) (hn : n < 32) (i : Nat) : bt (s >>> (nI n &&& 31)) i = bt s (n + i) := by
  by_cases hi : i < 32
  · rw [b_sshr n hn s hi]
    split
    · rfl
    · rw [h 31 (by decide), h (n + i) (by omega)]
  · rw [b_big (by omega), b_big (by omega)]
theorem sq_shr_Sq {s : Int32} (h : Sq s) (n : Nat) (hn : n < 32) : Sq (s >>> (nI n &&& 31)) := fun i hi => by rw [sq_shr h n hn]; exact h _ (by omega)
theorem and_0 {s m : Int32} : s &&& m = 0 ↔ ∀ i, i < 32 → bt m i = true → bt s i = false := by
  constructor
  · intro h i hi hm
    have := congrArg (fun q => bt q i) h
    simp only [b_and, b_0, hm, Bool.and_true] at this
    exact this
  · intro h
    apply b_ext
    intro i hi
    rw [b_and, b_0]
    cases c : bt m i with
    | false => rw [Bool.and_false]
    | true => rw [h i hi c, Bool.false_and]
theorem bt_31 : ∀ i, i < 32 → bt 31 i = decide (i < 5) := by decide +kernel
theorem bt_col : ∀ i, i < 32 → bt 1082401 i = decide (i % 5 = 0 ∧ i < 25) := by decide +kernel
theorem row_0 {s : Int32} : s &&& 31 = 0 ↔ ∀ x, x < 5 → bt s x = false := by
  rw [and_0]
  constructor
  · intro h x hx
    exact h x (by omega) (by rw [bt_31 x (by omega)]; exact decide_eq_true hx)
  · intro h i hi hm
    rw [bt_31 i hi] at hm
    exact h i (of_decide_eq_true hm)
theorem col_0 {s : Int32} : s &&& 1082401 = 0 ↔ ∀ i, i % 5 = 0 → i < 25 → bt s i = false := by
  rw [and_0]
  constructor
  · intro h x h1 h2
    exact h x (by omega) (by rw [bt_col x (by omega)]; exact decide_eq_true ⟨h1, h2⟩)
  · intro h i hi hm
    rw [bt_col i hi] at hm
    have := of_decide_eq_true hm
    exact h i this.1 this.2
theorem jup_spec : ∀ (k : Nat) (s : Int32), Sq s → ∃ a, a ≤ k ∧ Sq (jup k s) ∧ (∀ i, bt (jup k s) i = bt s (i + 5 * a)) ∧ (∀ i, i < 5 * a → bt s i = false) ∧ (a = k ∨ ∃ x, x < 5 ∧ bt (jup k s) x = true)
  | 0, s, h => ⟨0, Nat.le_refl _, h, fun i => rfl, fun i hi => absurd hi (by omega), Or.inl rfl⟩
  | k + 1, s, h => by
    rw [jup]
    split
    · next c =>
      rw [row_0] at c
      have hs := sq_shr_Sq h 5 (by decide)
      obtain ⟨a, a1, a2, a3, a4, a5⟩ := jup_spec k (s >>> (nI 5 &&& 31)) hs
      refine ⟨a + 1, by omega, a2, fun i => ?_, fun i hi => ?_, ?_⟩
      · have := a3 i
        rw [sq_shr h 5 (by decide)] at this
        rw [show i + 5 * (a + 1) = 5 + (i + 5 * a) by omega]
        exact this
      · by_cases c5 : i < 5
        · exact c i c5
        · have := a4 (i - 5) (by omega)
          rw [sq_shr h 5 (by decide)] at this
          rw [show i = 5 + (i - 5) by omega]
          exact this
      · rcases a5 with a5 | a5
        · left; omega
        · right; exact a5
    · next c =>
      refine ⟨0, by omega, h, fun i => rfl, fun i hi => absurd hi (by omega), Or.inr ?_⟩
      refine Classical.byContradiction (fun q => c (row_0.mpr (fun x hx => ?_)))
      cases e : bt s x with
      | false => rfl
      | true => exact absurd ⟨x, hx, e⟩ q
theorem jup_row {s : Int32} (h : Sq s) (hn : Ne s) : ∃ x, x < 5 ∧ bt (jup 4 s) x = true := by
  obtain ⟨a, a1, a2, a3, a4, a5⟩ := jup_spec 4 s h
  rcases a5 with rfl | a5
  · obtain ⟨i, hi⟩ := hn
    have := Ne_lt h hi
    by_cases c : i < 20
    · rw [a4 i (by omega)] at hi; cases hi
    · exact ⟨i - 20, by omega, by rw [a3, show i - 20 + 5 * 4 = i by omega]; exact hi⟩
  · exact a5
theorem jlf_spec : ∀ (k : Nat) (s : Int32), Sq s → ∃ b, b ≤ k ∧ Sq (jlf k s) ∧ (∀ i, bt (jlf k s) i = bt s (i + b)) ∧ (∀ i, i % 5 < b → bt s i = false) ∧ (b = k ∨ ∃ i, i % 5 = 0 ∧ i < 25 ∧ bt (jlf k s) i = true)
  | 0, s, h => ⟨0, Nat.le_refl _, h, fun i => rfl, fun i hi => absurd hi (by omega), Or.inl rfl⟩
  | k + 1, s, h => by
    rw [jlf]
    split
    · next c =>
      rw [col_0] at c
      have hs := sq_shr_Sq h 1 (by decide)
      obtain ⟨a, a1, a2, a3, a4, a5⟩ := jlf_spec k (s >>> (nI 1 &&& 31)) hs
      refine ⟨a + 1, by omega, a2, fun i => ?_, fun i hi => ?_, ?_⟩
      · have := a3 i
        rw [sq_shr h 1 (by decide)] at this
        rw [show i + (a + 1) = 1 + (i + a) by omega]
        exact this
      · by_cases c5 : i % 5 = 0
        · by_cases c25 : i < 25
          · exact c i c5 c25
          · exact h i (by omega)
        · have := a4 (i - 1) (by omega)
          rw [sq_shr h 1 (by decide)] at this
          rw [show i = 1 + (i - 1) by omega]
          exact this
      · rcases a5 with a5 | a5
        · left; omega
        · right; exact a5
    · next c =>
      refine ⟨0, by omega, h, fun i => rfl, fun i hi => absurd hi (by omega), Or.inr ?_⟩
      refine Classical.byContradiction (fun q => c (col_0.mpr (fun x h1 h2 => ?_)))
      cases e : bt s x with
      | false => rfl
      | true => exact absurd ⟨x, h1, h2, e⟩ q
theorem jlf_col {s : Int32} (h : Sq s) (hn : Ne s) : ∃ i, i % 5 = 0 ∧ i < 25 ∧ bt (jlf 4 s) i = true := by
  obtain ⟨a, a1, a2, a3, a4, a5⟩ := jlf_spec 4 s h
  rcases a5 with rfl | a5
  · obtain ⟨i, hi⟩ := hn
    have := Ne_lt h hi
    by_cases c : i % 5 < 4
    · rw [a4 i c] at hi; cases hi
    · exact ⟨i - 4, by omega, by omega, by rw [a3, show i - 4 + 4 = i by omega]; exact hi⟩
  · exact a5
/-- a shape in its corner -/
theorem jcor_spec {s : Int32} (h : Sq s) (hn : Ne s) : ∃ a b, a ≤ 4 ∧ b ≤ 4 ∧ Sq (jcor s) ∧ (∀ i, bt (jcor s) i = bt s (i + b + 5 * a)) ∧ (∀ i, i < 5 * a → bt s i = false) ∧ (∀ i, i % 5 < b → bt s i = false) ∧ (∃ x, x < 5 ∧ bt (jcor s) x = true) ∧ ∃ i, i % 5 = 0 ∧ i < 25 ∧ bt (jcor s) i = true := by
  obtain ⟨a, a1, a2, a3, a4, a5⟩ := jup_spec 4 s h
  obtain ⟨x, hx, hxb⟩ := jup_row h hn
  obtain ⟨b, b1, b2, b3, b4, b5⟩ := jlf_spec 4 (jup 4 s) a2
  refine ⟨a, b, a1, b1, b2, fun i => ?_, a4, fun i hi => ?_, ?_, jlf_col a2 ⟨x, hxb⟩⟩
  · show bt (jlf 4 (jup 4 s)) i = _
    rw [b3, a3]
  · by_cases c : i < 5 * a
    · exact a4 i c
    · have := b4 (i - 5 * a) (by omega)
      rw [a3, show i - 5 * a + 5 * a = i by omega] at this
      exact this
  · have hb : b ≤ x := by
      by_cases c : b ≤ x
      · exact c
      · rw [b4 x (by omega)] at hxb; cases hxb
    refine ⟨x - b, by omega, ?_⟩
    show bt (jlf 4 (jup 4 s)) (x - b) = true
    rw [b3, show x - b + b = x by omega]
    exact hxb
/-- turned once -/
theorem jti_bt (s : Int32) (y : Nat) (hy : y < 5) (u : Int32) : ∀ (k : Nat), k ≤ 5 → ∀ i, i < 32 → (bt (jti s y u k) i = true ↔ bt u i = true ∨ ∃ x, x < k ∧ bt s (5 * y + x) = true ∧ i = 5 * x + 4 - y)
  | 0, _, i, hi => by simp [jti]
  | k + 1, hk, i, hi => by
    have ih := jti_bt s y hy u k (by omega) i hi
    have hc : ((s >>> ((5 * nI y + nI k) &&& 31)) &&& 1 = 1) ↔ bt s (5 * y + k) = true := by
      rw [bt_and1, show (5 : Int32) * nI y + nI k = nI (5 * y + k) by rw [show (5 : Int32) = nI 5 from rfl, pk_mul, nI_add], b_sshr _ (by omega) s (by decide), if_pos (by omega)]
      rfl
    rw [jti]
    split
    · next c =>
      rw [hc] at c
      rw [b_or, show (5 : Int32) * nI k + 5 - 1 - nI y = nI (5 * k + 4 - y) by rw [show (5 : Int32) = nI 5 from rfl, show (1 : Int32) = nI 1 from rfl, pk_mul, nI_add, pk_sub (by omega), pk_sub (by omega)]; congr 1, bt_bit (by omega) hi, Bool.or_eq_true, ih]
      constructor
      · rintro ((q | ⟨x, h1, h2, h3⟩) | q)
        · exact Or.inl q
        · exact Or.inr ⟨x, by omega, h2, h3⟩
        · exact Or.inr ⟨k, by omega, c, of_decide_eq_true q⟩
      · rintro (q | ⟨x, h1, h2, h3⟩)
        · exact Or.inl (Or.inl q)
        · by_cases cx : x = k
          · subst cx; exact Or.inr (decide_eq_true h3)
          · exact Or.inl (Or.inr ⟨x, by omega, h2, h3⟩)
    · next c =>
      rw [hc] at c
      rw [ih]
      constructor
      · rintro (q | ⟨x, h1, h2, h3⟩)
        · exact Or.inl q
        · exact Or.inr ⟨x, by omega, h2, h3⟩
      · rintro (q | ⟨x, h1, h2, h3⟩)
        · exact Or.inl q
        · by_cases cx : x = k
          · subst cx; exact absurd h2 c
          · exact Or.inr ⟨x, by omega, h2, h3⟩
theorem jto_bt (s : Int32) : ∀ (k : Nat), k ≤ 5 → ∀ i, i < 32 → (bt (jto s k) i = true ↔ ∃ y x, y < k ∧ x < 5 ∧ bt s (5 * y + x) = true ∧ i = 5 * x + 4 - y)
  | 0, _, i, hi => by simp [jto, b_0]
  | k + 1, hk, i, hi => by
    rw [jto, jti_bt s k (by omega) _ 5 (by decide) i hi, jto_bt s k (by omega) i hi]
    constructor
    · rintro (⟨y, x, h1, h2, h3, h4⟩ | ⟨x, h1, h2, h3⟩)
      · exact ⟨y, x, by omega, h2, h3, h4⟩
      · exact ⟨k, x, by omega, h1, h2, h3⟩
    · rintro ⟨y, x, h1, h2, h3, h4⟩
      by_cases c : y = k
      · subst c; exact Or.inr ⟨x, h2, h3, h4⟩
      · exact Or.inl ⟨y, x, by omega, h2, h3, h4⟩
/-- a cell -/
def cl (s : Int32) (x y : Nat) : Bool := bt s (5 * y + x)
theorem jto_Sq (s : Int32) : Sq (jto s 5) := by
  intro i hi
  by_cases h32 : i < 32
  · cases c : bt (jto s 5) i with
    | false => rfl
    | true =>
      obtain ⟨y, x, h1, h2, h3, h4⟩ := (jto_bt s 5 (by decide) i h32).mp c
      omega
  · exact b_big (by omega)
theorem jto_cl (s : Int32) {x y : Nat} (hx : x < 5) (hy : y < 5) : cl (jto s 5) x y = cl s y (4 - x) := by
  unfold cl
  have key := jto_bt s 5 (by decide) (5 * y + x) (by omega)
  cases c : bt s (5 * (4 - x) + y) with
  | true => exact key.mpr ⟨4 - x, y, by omega, hy, c, by omega⟩
  | false =>
    cases c2 : bt (jto s 5) (5 * y + x) with
    | false => rfl
    | true =>
      obtain ⟨y2, x2, h1, h2, h3, h4⟩ := key.mp c2
      have e1 : x2 = y := by omega
      have e2 : y2 = 4 - x := by omega
      subst e1 e2
      rw [c] at h3; cases h3
theorem cl_of {s : Int32} (h : Sq s) {i : Nat} (hi : bt s i = true) : i % 5 < 5 ∧ i / 5 < 5 ∧ cl s (i % 5) (i / 5) = true := by
  have := Ne_lt h hi
  refine ⟨by omega, by omega, ?_⟩
  unfold cl
  rw [show 5 * (i / 5) + i % 5 = i by omega]
  exact hi
theorem jto_Ne {s : Int32} (h : Sq s) (hn : Ne s) : Ne (jto s 5) := by
  obtain ⟨i, hi⟩ := hn
  obtain ⟨h1, h2, h3⟩ := cl_of h hi
  refine ⟨5 * (i % 5) + (4 - i / 5), ?_⟩
  have := jto_cl s (x := 4 - i / 5) (y := i % 5) (by omega) h1
  rw [show 4 - (4 - i / 5) = i / 5 by omega, h3] at this
  exact this
theorem jrot_SN {s : Int32} (h : Sq s) (hn : Ne s) : ∀ t, Sq (jrot s t) ∧ Ne (jrot s t)
  | 0 => ⟨h, hn⟩
  | t + 1 => ⟨jto_Sq _, jto_Ne (jrot_SN h hn t).1 (jrot_SN h hn t).2⟩
theorem jcor_SN {s : Int32} (h : Sq s) (hn : Ne s) : Sq (jcor s) ∧ Ne (jcor s) := by
  obtain ⟨a, b, a1, b1, h1, h2, h3, h4, ⟨x, hx, hxb⟩, h6⟩ := jcor_spec h hn
  exact ⟨h1, x, hxb⟩
theorem jturn_SN {s : Int32} (h : Sq s) (hn : Ne s) (t : Nat) : Sq (jturn s t) ∧ Ne (jturn s t) := jcor_SN (jrot_SN h hn t).1 (jrot_SN h hn t).2
