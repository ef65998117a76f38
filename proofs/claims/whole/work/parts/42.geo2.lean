/-! SHAPES: how wide, how tall, places -/
/-- cells of a shape in its corner -/
theorem jcor_cl {s : Int32} (h : Sq s) (hn : Ne s) : ∃ a b, a ≤ 4 ∧ b ≤ 4 ∧ (∀ x y, x < 5 → y < 5 → (cl (jcor s) x y = true ↔ x + b < 5 ∧ y + a < 5 ∧ cl s (x + b) (y + a) = true)) ∧ (∀ x y, x < 5 → y < 5 → cl s x y = true → b ≤ x ∧ a ≤ y) ∧ (∃ x, x < 5 ∧ cl (jcor s) x 0 = true) ∧ ∃ y, y < 5 ∧ cl (jcor s) 0 y = true := by
  obtain ⟨a, b, a1, b1, h1, h2, h3, h4, ⟨x0, hx, hxb⟩, ⟨i0, i1, i2, i3⟩⟩ := jcor_spec h hn
  have inn : ∀ x y, x < 5 → y < 5 → cl s x y = true → b ≤ x ∧ a ≤ y := by
    intro x y hx hy hc
    unfold cl at hc
    refine ⟨Nat.le_of_not_lt (fun q => ?_), Nat.le_of_not_lt (fun q => ?_)⟩
    · rw [h4 _ (by omega)] at hc; cases hc
    · rw [h3 _ (by omega)] at hc; cases hc
  refine ⟨a, b, a1, b1, fun x y hx hy => ?_, inn, ⟨x0, hx, by unfold cl; rw [show 5 * 0 + x0 = x0 by omega]; exact hxb⟩, i0 / 5, by omega, by unfold cl; rw [show 5 * (i0 / 5) + 0 = i0 by omega]; exact i3⟩
  unfold cl
  rw [h2, show 5 * y + x + b + 5 * a = 5 * (y + a) + (x + b) by omega]
  constructor
  · intro hc
    have h25 := Ne_lt h hc
    have hxb : x + b < 5 := by
      refine Nat.lt_of_not_le (fun q => ?_)
      rw [h4 _ (by omega)] at hc; cases hc
    exact ⟨hxb, by omega, hc⟩
  · rintro ⟨_, _, hc⟩
    exact hc
theorem col_sh {s : Int32} {k : Nat} (hk : k ≤ 4) : s &&& ((1082401 : Int32) <<< (nI k &&& 31)) = 0 ↔ ∀ y, y < 5 → cl s k y = false := by
  rw [and_0]
  constructor
  · intro h y hy
    unfold cl
    refine h _ (by omega) ?_
    rw [b_shl k (by omega) _ (by omega), bt_col _ (by omega)]
    simp; omega
  · intro h i hi hm
    rw [b_shl k (by omega) _ hi, Bool.and_eq_true] at hm
    have h1 := of_decide_eq_true hm.1
    have h2 := hm.2
    rw [bt_col _ (by omega)] at h2
    have h3 := of_decide_eq_true h2
    have := h ((i - k) / 5) (by omega)
    unfold cl at this
    rw [show 5 * ((i - k) / 5) + k = i by omega] at this
    exact this
theorem row_sh {s : Int32} {k : Nat} (hk : k ≤ 4) : s &&& ((31 : Int32) <<< (5 * nI k &&& 31)) = 0 ↔ ∀ x, x < 5 → cl s x k = false := by
  rw [show (5 : Int32) * nI k = nI (5 * k) by rw [show (5 : Int32) = nI 5 from rfl, pk_mul], and_0]
  constructor
  · intro h x hx
    unfold cl
    refine h _ (by omega) ?_
    rw [b_shl (5 * k) (by omega) _ (by omega), bt_31 _ (by omega)]
    simp; omega
  · intro h i hi hm
    rw [b_shl (5 * k) (by omega) _ hi, Bool.and_eq_true] at hm
    have h1 := of_decide_eq_true hm.1
    have h2 := hm.2
    rw [bt_31 _ (by omega)] at h2
    have h3 := of_decide_eq_true h2
    have := h (i - 5 * k) (by omega)
    unfold cl at this
    rw [show 5 * k + (i - 5 * k) = i by omega] at this
    exact this
theorem jwide_spec (s : Int32) : ∀ k, k ≤ 4 → ∃ w, jwide s k = nI w ∧ 1 ≤ w ∧ w ≤ k + 1 ∧ (∀ x, w ≤ x → x ≤ k → ∀ y, y < 5 → cl s x y = false) ∧ (w = 1 ∨ ∃ y, y < 5 ∧ cl s (w - 1) y = true)
  | 0, _ => ⟨1, rfl, by omega, by omega, fun x h1 h2 => absurd h1 (by omega), Or.inl rfl⟩
  | k + 1, hk => by
    rw [jwide]
    split
    · next c =>
      rw [col_sh hk] at c
      obtain ⟨w, w1, w2, w3, w4, w5⟩ := jwide_spec s k (by omega)
      refine ⟨w, w1, w2, by omega, fun x h1 h2 => ?_, w5⟩
      by_cases e : x = k + 1
      · subst e; exact c
      · exact w4 x h1 (by omega)
    · next c =>
      rw [col_sh hk] at c
      refine ⟨k + 2, nI_1 _, by omega, by omega, fun x h1 h2 => absurd h1 (by omega), Or.inr ?_⟩
      refine Classical.byContradiction (fun q => c (fun y hy => ?_))
      cases e : cl s (k + 1) y with
      | false => rfl
      | true => exact absurd ⟨y, hy, e⟩ q
theorem jtall_spec (s : Int32) : ∀ k, k ≤ 4 → ∃ w, jtall s k = nI w ∧ 1 ≤ w ∧ w ≤ k + 1 ∧ (∀ y, w ≤ y → y ≤ k → ∀ x, x < 5 → cl s x y = false) ∧ (w = 1 ∨ ∃ x, x < 5 ∧ cl s x (w - 1) = true)
  | 0, _ => ⟨1, rfl, by omega, by omega, fun x h1 h2 => absurd h1 (by omega), Or.inl rfl⟩
  | k + 1, hk => by
    rw [jtall]
    split
    · next c =>
      rw [row_sh hk] at c
      obtain ⟨w, w1, w2, w3, w4, w5⟩ := jtall_spec s k (by omega)
      refine ⟨w, w1, w2, by omega, fun x h1 h2 => ?_, w5⟩
      by_cases e : x = k + 1
      · subst e; exact c
      · exact w4 x h1 (by omega)
    · next c =>
      rw [row_sh hk] at c
      refine ⟨k + 2, nI_1 _, by omega, by omega, fun x h1 h2 => absurd h1 (by omega), Or.inr ?_⟩
      refine Classical.byContradiction (fun q => c (fun y hy => ?_))
      cases e : cl s y (k + 1) with
      | false => rfl
      | true => exact absurd ⟨y, hy, e⟩ q
/-- in its corner: a cell in the first row, one in the first column -/
def Cn (s : Int32) : Prop := (∃ x, x < 5 ∧ cl s x 0 = true) ∧ ∃ y, y < 5 ∧ cl s 0 y = true
/-- how far to the right it can be moved -/
theorem jr_iff {s : Int32} (hc : Cn s) {dx : Nat} (hd : dx ≤ 4) : dx ≤ jr s ↔ ∀ x y, x < 5 → y < 5 → cl s x y = true → x + dx ≤ 4 := by
  obtain ⟨w, w1, w2, w3, w4, w5⟩ := jwide_spec s 4 (by omega)
  have e : jr s = 5 - w := by unfold jr; rw [w1, nI_clamp (by omega)]
  rw [e]
  constructor
  · intro h x y hx hy hq
    refine Nat.le_of_not_lt (fun q => ?_)
    rw [w4 x (by omega) (by omega) y hy] at hq; cases hq
  · intro h
    rcases w5 with rfl | ⟨y, hy, hq⟩
    · omega
    · have := h (w - 1) y (by omega) hy hq
      omega
theorem jdn_iff {s : Int32} (hc : Cn s) {dy : Nat} (hd : dy ≤ 4) : dy ≤ jdn s ↔ ∀ x y, x < 5 → y < 5 → cl s x y = true → y + dy ≤ 4 := by
  obtain ⟨w, w1, w2, w3, w4, w5⟩ := jtall_spec s 4 (by omega)
  have e : jdn s = 5 - w := by unfold jdn; rw [w1, nI_clamp (by omega)]
  rw [e]
  constructor
  · intro h x y hx hy hq
    refine Nat.le_of_not_lt (fun q => ?_)
    rw [w4 y (by omega) (by omega) x hx] at hq; cases hq
  · intro h
    rcases w5 with rfl | ⟨y, hy, hq⟩
    · omega
    · have := h y (w - 1) hy (by omega) hq
      omega
/-- moved within the square -/
def jsh5 (s : Int32) (dx dy : Nat) : Int32 := s <<< ((5 * nI dy + nI dx) &&& 31)
def fitsIn (s : Int32) (dx dy : Nat) : Prop := ∀ x y, x < 5 → y < 5 → cl s x y = true → x + dx ≤ 4 ∧ y + dy ≤ 4
theorem jsh5_bt {s : Int32} (h : Sq s) {dx dy : Nat} (hx : dx ≤ 4) (hy : dy ≤ 4) (hf : fitsIn s dx dy) {i : Nat} (hi : i < 32) : bt (jsh5 s dx dy) i = true ↔ ∃ x y, x < 5 ∧ y < 5 ∧ cl s x y = true ∧ i = 5 * (y + dy) + (x + dx) := by
  unfold jsh5
  rw [show (5 : Int32) * nI dy + nI dx = nI (5 * dy + dx) by rw [show (5 : Int32) = nI 5 from rfl, pk_mul, nI_add], b_shl _ (by omega) _ hi, Bool.and_eq_true]
  constructor
  · rintro ⟨h1, h2⟩
    have h1 := of_decide_eq_true h1
    obtain ⟨c1, c2, c3⟩ := cl_of h h2
    exact ⟨_, _, c1, c2, c3, by omega⟩
  · rintro ⟨x, y, c1, c2, c3, rfl⟩
    refine ⟨decide_eq_true (by omega), ?_⟩
    unfold cl at c3
    rw [show 5 * (y + dy) + (x + dx) - (5 * dy + dx) = 5 * y + x by omega]
    exact c3
theorem jsh5_Sq {s : Int32} (h : Sq s) {dx dy : Nat} (hx : dx ≤ 4) (hy : dy ≤ 4) (hf : fitsIn s dx dy) : Sq (jsh5 s dx dy) := by
  intro i hi
  by_cases h32 : i < 32
  · cases c : bt (jsh5 s dx dy) i with
    | false => rfl
    | true =>
      obtain ⟨x, y, c1, c2, c3, rfl⟩ := (jsh5_bt h hx hy hf h32).mp c
      have := hf x y c1 c2 c3
      omega
  · exact b_big (by omega)
theorem jsh5_cl {s : Int32} (h : Sq s) {dx dy : Nat} (hx : dx ≤ 4) (hy : dy ≤ 4) (hf : fitsIn s dx dy) {x y : Nat} (hx5 : x < 5) (hy5 : y < 5) : cl (jsh5 s dx dy) x y = true ↔ dx ≤ x ∧ dy ≤ y ∧ cl s (x - dx) (y - dy) = true := by
  unfold cl
  rw [jsh5_bt h hx hy hf (by omega)]
  constructor
  · rintro ⟨x2, y2, c1, c2, c3, e⟩
    have := hf x2 y2 c1 c2 c3
    have e1 : x = x2 + dx := by omega
    have e2 : y = y2 + dy := by omega
    subst e1 e2
    refine ⟨by omega, by omega, ?_⟩
    rw [Nat.add_sub_cancel, Nat.add_sub_cancel]
    exact c3
  · rintro ⟨h1, h2, h3⟩
    exact ⟨x - dx, y - dy, by omega, by omega, h3, by omega⟩
theorem jsh5_Ne {s : Int32} (h : Sq s) (hn : Ne s) {dx dy : Nat} (hx : dx ≤ 4) (hy : dy ≤ 4) (hf : fitsIn s dx dy) : Ne (jsh5 s dx dy) := by
  obtain ⟨i, hi⟩ := hn
  obtain ⟨c1, c2, c3⟩ := cl_of h hi
  have := hf _ _ c1 c2 c3
  exact ⟨_, (jsh5_bt h hx hy hf (i := 5 * (i / 5 + dy) + (i % 5 + dx)) (by omega)).mpr ⟨_, _, c1, c2, c3, rfl⟩⟩
theorem jsh5_ne0 {s : Int32} (h : Sq s) (hn : Ne s) {dx dy : Nat} (hx : dx ≤ 4) (hy : dy ≤ 4) (hf : fitsIn s dx dy) : ¬ jsh5 s dx dy = 0 := by
  obtain ⟨i, hi⟩ := jsh5_Ne h hn hx hy hf
  intro q
  rw [q, b_0] at hi; cases hi
theorem fits_iff {s : Int32} (hc : Cn s) {dx dy : Nat} (hx : dx ≤ 4) (hy : dy ≤ 4) : fitsIn s dx dy ↔ dx ≤ jr s ∧ dy ≤ jdn s := by
  rw [jr_iff hc hx, jdn_iff hc hy]
  exact ⟨fun h => ⟨fun x y a b c => (h x y a b c).1, fun x y a b c => (h x y a b c).2⟩, fun h x y a b c => ⟨h.1 x y a b c, h.2 x y a b c⟩⟩
theorem jturn_Cn {s : Int32} (h : Sq s) (hn : Ne s) (t : Nat) : Cn (jturn s t) := by
  obtain ⟨a, b, a1, b1, c1, c2, c3, c4⟩ := jcor_cl (jrot_SN h hn t).1 (jrot_SN h hn t).2
  exact ⟨c3, c4⟩
theorem jr_le (s : Int32) : jr s ≤ 4 := (jr_eq s).2
theorem jdn_le (s : Int32) : jdn s ≤ 4 := (jdn_eq s).2
/-- what the reference's 'moved' gives, cell by cell: m more from c on -/
def mvR (s : Int32) (dx dy : Nat) : Nat → Nat → Int32 → Int32
  | 0, _, u => u
  | m + 1, c, u => if jb s c = 0 then mvR s dx dy m (c + 1) u else if 4 < c % 5 + dx ∨ 4 < c / 5 + dy then 0 else mvR s dx dy m (c + 1) (u ||| ((1 : Int32) <<< (nI (5 * (c / 5 + dy) + (c % 5 + dx)) &&& 31)))
theorem mvR_in (s : Int32) (dx dy : Nat) : ∀ (m c : Nat) (u : Int32), c + m ≤ 25 → (∀ k, c ≤ k → k < c + m → bt s k = true → k % 5 + dx ≤ 4 ∧ k / 5 + dy ≤ 4) → ∀ i, i < 32 → (bt (mvR s dx dy m c u) i = true ↔ bt u i = true ∨ ∃ k, c ≤ k ∧ k < c + m ∧ bt s k = true ∧ i = 5 * (k / 5 + dy) + (k % 5 + dx))
  | 0, c, u, _, _, i, hi => by
    rw [mvR]
    exact ⟨Or.inl, fun h => h.elim id (fun ⟨k, h1, h2, _⟩ => absurd h2 (by omega))⟩
  | m + 1, c, u, hc, hf, i, hi => by
    rw [mvR]
    split
    · next q =>
      rw [jb_eq s (by omega)] at q
      rw [mvR_in s dx dy m (c + 1) u (by omega) (fun k h1 h2 => hf k (by omega) (by omega)) i hi]
      constructor
      · rintro (h | ⟨k, h1, h2, h3, h4⟩)
        · exact Or.inl h
        · exact Or.inr ⟨k, by omega, by omega, h3, h4⟩
      · rintro (h | ⟨k, h1, h2, h3, h4⟩)
        · exact Or.inl h
        · by_cases e : k = c
          · subst e; rw [q] at h3; cases h3
          · exact Or.inr ⟨k, by omega, by omega, h3, h4⟩
    · next q =>
      have q2 := (jb_ne s (by omega)).mp q
      have hf0 := hf c (by omega) (by omega) q2
      rw [if_neg (by omega), mvR_in s dx dy m (c + 1) _ (by omega) (fun k h1 h2 => hf k (by omega) (by omega)) i hi, b_or, bt_bit (by omega) hi, Bool.or_eq_true]
      constructor
      · rintro ((h | h) | ⟨k, h1, h2, h3, h4⟩)
        · exact Or.inl h
        · exact Or.inr ⟨c, by omega, by omega, q2, of_decide_eq_true h⟩
        · exact Or.inr ⟨k, by omega, by omega, h3, h4⟩
      · rintro (h | ⟨k, h1, h2, h3, h4⟩)
        · exact Or.inl (Or.inl h)
        · by_cases e : k = c
          · subst e; exact Or.inl (Or.inr (decide_eq_true h4))
          · exact Or.inr ⟨k, by omega, by omega, h3, h4⟩
theorem mvR_out (s : Int32) (dx dy : Nat) : ∀ (m c : Nat) (u : Int32), c + m ≤ 25 → (∃ k, c ≤ k ∧ k < c + m ∧ bt s k = true ∧ (4 < k % 5 + dx ∨ 4 < k / 5 + dy)) → mvR s dx dy m c u = 0
  | 0, c, u, _, ⟨k, h1, h2, _⟩ => absurd h2 (by omega)
  | m + 1, c, u, hc, ⟨k, h1, h2, h3, h4⟩ => by
    rw [mvR]
    split
    · next q =>
      rw [jb_eq s (by omega)] at q
      have : k ≠ c := fun e => by rw [e, q] at h3; cases h3
      exact mvR_out s dx dy m (c + 1) u (by omega) ⟨k, by omega, by omega, h3, h4⟩
    · split
      · rfl
      · next q2 =>
        have : k ≠ c := fun e => by rw [e] at h4; exact q2 h4
        exact mvR_out s dx dy m (c + 1) _ (by omega) ⟨k, by omega, by omega, h3, h4⟩
/-- the reference's 'moved' -/
def jmv (s : Int32) (dx dy : Nat) : Int32 := mvR s dx dy 25 0 0
theorem jmv_eq {s : Int32} (h : Sq s) (hc : Cn s) {dx dy : Nat} (hx : dx ≤ 4) (hy : dy ≤ 4) : jmv s dx dy = if dx ≤ jr s ∧ dy ≤ jdn s then jsh5 s dx dy else 0 := by
  by_cases c : fitsIn s dx dy
  · rw [if_pos ((fits_iff hc hx hy).mp c)]
    apply b_ext
    intro i hi
    have hk : ∀ k, bt s k = true → k % 5 + dx ≤ 4 ∧ k / 5 + dy ≤ 4 := fun k hk => by
      obtain ⟨c1, c2, c3⟩ := cl_of h hk
      exact c _ _ c1 c2 c3
    have e1 := mvR_in s dx dy 25 0 0 (by decide) (fun k _ _ hb => hk k hb) i hi
    have e2 := jsh5_bt h hx hy c hi
    have e3 : bt (jmv s dx dy) i = true ↔ bt (jsh5 s dx dy) i = true := by
      unfold jmv
      rw [e1, e2, b_0]
      constructor
      · rintro (q | ⟨k, h1, h2, h3, h4⟩)
        · cases q
        · obtain ⟨c1, c2, c3⟩ := cl_of h h3
          exact ⟨_, _, c1, c2, c3, h4⟩
      · rintro ⟨x, y, c1, c2, c3, h4⟩
        exact Or.inr ⟨5 * y + x, by omega, by omega, c3, by omega⟩
    cases a : bt (jmv s dx dy) i <;> cases b : bt (jsh5 s dx dy) i <;> simp_all
  · rw [if_neg (fun q => c ((fits_iff hc hx hy).mpr q))]
    refine mvR_out s dx dy 25 0 0 (by decide) ?_
    refine Classical.byContradiction (fun q => c (fun x y hx2 hy2 hb => ?_))
    refine Classical.byContradiction (fun q2 => q ⟨5 * y + x, by omega, by omega, hb, ?_⟩)
    omega
