/-! SHAPES: how many cells (Integer.bitCount), by lanes of eight bits -/
theorem ln_and (a b c e : Nat) (ha : a < 256) (hc : c < 256) : (256 * b + a) &&& (256 * e + c) = 256 * (b &&& e) + (a &&& c) := by
  apply Nat.eq_of_testBit_eq
  intro i
  have h1 := Nat.testBit_two_pow_mul_add b (show a < 2 ^ 8 from ha) i
  have h2 := Nat.testBit_two_pow_mul_add e (show c < 2 ^ 8 from hc) i
  have h3 := Nat.testBit_two_pow_mul_add (b &&& e) (show a &&& c < 2 ^ 8 from Nat.and_lt_two_pow _ hc) i
  rw [Nat.testBit_and, show (256 : Nat) = 2 ^ 8 from rfl, h1, h2, h3]
  split
  · rw [Nat.testBit_and]
  · rw [Nat.testBit_and]
/-- four lanes -/
def L4 (a b c e : Nat) : Nat := 256 * (256 * (256 * e + c) + b) + a
theorem L4_and {a b c e m : Nat} (ha : a < 256) (hb : b < 256) (hc : c < 256) (hm : m < 256) : L4 a b c e &&& L4 m m m m = L4 (a &&& m) (b &&& m) (c &&& m) (e &&& m) := by
  unfold L4
  rw [ln_and _ _ _ _ ha hm, ln_and _ _ _ _ hb hm, ln_and _ _ _ _ hc hm]
def p1 (b : Nat) : Nat := b - ((b / 2) &&& 85)
def p2 (c : Nat) : Nat := (c &&& 51) + ((c / 4) &&& 51)
def p3 (e : Nat) : Nat := (e + e / 16) &&& 15
theorem p1_ok : ∀ b, b < 256 → ((b / 2) &&& 85 ≤ b ∧ p1 b < 256 ∧ ∀ t, t < 2 → (b / 2 + 128 * t) &&& 85 = (b / 2) &&& 85) := by decide +kernel
theorem p2_ok : ∀ b, b < 256 → (p2 b < 103 ∧ ∀ t, t < 4 → (b / 4 + 64 * t) &&& 51 = (b / 4) &&& 51) := by decide +kernel
theorem p2_nib : ∀ b, b < 256 → (p2 (p1 b) ≤ 68 ∧ p2 (p1 b) % 16 ≤ 4) := by decide +kernel
theorem p3_ok : ∀ e, e < 69 → ∀ t, t < 5 → (e + (e / 16 + 16 * t)) &&& 15 = p3 e := by decide +kernel
/-- bits of a byte -/
def by8 (b : Nat) : Nat := fb_ct (fun k => b.testBit k) 8
theorem p_by : ∀ b, b < 256 → p3 (p2 (p1 b)) = by8 b ∧ by8 b ≤ 8 := by decide +kernel
theorem nI_and (a b : Nat) : nI a &&& nI b = nI (a &&& b) := by
  apply b_ext
  intro i hi
  rw [b_and, bt_nI, bt_nI, bt_nI, Nat.testBit_and, decide_eq_true hi, Bool.true_and, Bool.true_and, Bool.true_and]
theorem L4_lt {a b c e : Nat} (ha : a < 256) (hb : b < 256) (hc : c < 256) (he : e < 256) : L4 a b c e < 2 ^ 32 := by unfold L4; omega
theorem L4_sum {a b c e : Nat} (ha : a ≤ 8) (hb : b ≤ 8) (hc : c ≤ 8) (he : e ≤ 8) : (L4 a b c e + L4 a b c e / 256 + (L4 a b c e + L4 a b c e / 256) / 65536) % 64 = a + b + c + e := by
  have h1 : L4 a b c e / 256 = 256 * (256 * e + c) + b := by unfold L4; omega
  have h2 : L4 a b c e + L4 a b c e / 256 = 65536 * (256 * e + c + e) + (256 * (b + c) + (a + b)) := by rw [h1]; unfold L4; omega
  have h3 : (L4 a b c e + L4 a b c e / 256) / 65536 = 256 * e + c + e := by rw [h2]; omega
  rw [h3, h2]
  omega
theorem jpc_lanes {a b c e : Nat} (ha : a < 256) (hb : b < 256) (hc : c < 256) (he : e < 256) : jpc (nI (L4 a b c e)) = nI (by8 a + by8 b + by8 c + by8 e) := by
  obtain ⟨a1, a2, a3⟩ := p1_ok a ha
  obtain ⟨b1, b2, b3⟩ := p1_ok b hb
  obtain ⟨c1, c2, c3⟩ := p1_ok c hc
  obtain ⟨e1, e2, e3⟩ := p1_ok e he
  have s1 : L4 a b c e / 2 &&& 1431655765 = L4 ((a / 2) &&& 85) ((b / 2) &&& 85) ((c / 2) &&& 85) ((e / 2) &&& 85) := by
    rw [show L4 a b c e / 2 = L4 (a / 2 + 128 * (b % 2)) (b / 2 + 128 * (c % 2)) (c / 2 + 128 * (e % 2)) (e / 2 + 128 * 0) by unfold L4; omega, show 1431655765 = L4 85 85 85 85 from rfl, L4_and (by omega) (by omega) (by omega) (by decide), a3 _ (by omega), b3 _ (by omega), c3 _ (by omega), e3 _ (by omega)]
  have s2 : L4 a b c e - L4 ((a / 2) &&& 85) ((b / 2) &&& 85) ((c / 2) &&& 85) ((e / 2) &&& 85) = L4 (p1 a) (p1 b) (p1 c) (p1 e) := by
    unfold L4 p1; omega
  have s2' : L4 ((a / 2) &&& 85) ((b / 2) &&& 85) ((c / 2) &&& 85) ((e / 2) &&& 85) ≤ L4 a b c e := by
    unfold L4; omega
  have A : nI (L4 a b c e) - (((nI (L4 a b c e)).toUInt32 >>> ((1 : Int32).toUInt32 &&& Int32.toUInt32 31)).toInt32 &&& 1431655765) = nI (L4 (p1 a) (p1 b) (p1 c) (p1 e)) := by
    rw [pk_ushrN (L4_lt ha hb hc he) 1 1 (by decide), show (1431655765 : Int32) = nI 1431655765 by decide +kernel, nI_and, show 2 ^ 1 = 2 from rfl, s1, pk_sub s2', s2]
  obtain ⟨a4, a5⟩ := p2_ok _ a2
  obtain ⟨b4, b5⟩ := p2_ok _ b2
  obtain ⟨c4, c5⟩ := p2_ok _ c2
  obtain ⟨e4, e5⟩ := p2_ok _ e2
  have t1 : L4 (p1 a) (p1 b) (p1 c) (p1 e) &&& 858993459 = L4 (p1 a &&& 51) (p1 b &&& 51) (p1 c &&& 51) (p1 e &&& 51) := by
    rw [show 858993459 = L4 51 51 51 51 from rfl, L4_and a2 b2 c2 (by decide)]
  have t2 : L4 (p1 a) (p1 b) (p1 c) (p1 e) / 4 &&& 858993459 = L4 ((p1 a / 4) &&& 51) ((p1 b / 4) &&& 51) ((p1 c / 4) &&& 51) ((p1 e / 4) &&& 51) := by
    rw [show L4 (p1 a) (p1 b) (p1 c) (p1 e) / 4 = L4 (p1 a / 4 + 64 * (p1 b % 4)) (p1 b / 4 + 64 * (p1 c % 4)) (p1 c / 4 + 64 * (p1 e % 4)) (p1 e / 4 + 64 * 0) by unfold L4; omega, show 858993459 = L4 51 51 51 51 from rfl, L4_and (by omega) (by omega) (by omega) (by decide), a5 _ (by omega), b5 _ (by omega), c5 _ (by omega), e5 _ (by omega)]
  have B : (nI (L4 (p1 a) (p1 b) (p1 c) (p1 e)) &&& 858993459) + (((nI (L4 (p1 a) (p1 b) (p1 c) (p1 e))).toUInt32 >>> ((2 : Int32).toUInt32 &&& Int32.toUInt32 31)).toInt32 &&& 858993459) = nI (L4 (p2 (p1 a)) (p2 (p1 b)) (p2 (p1 c)) (p2 (p1 e))) := by
    rw [pk_ushrN (L4_lt a2 b2 c2 e2) 2 2 (by decide), show (858993459 : Int32) = nI 858993459 by decide +kernel, nI_and, nI_and, show 2 ^ 2 = 4 from rfl, t1, t2, nI_add]
    congr 1
    unfold L4 p2; omega
  obtain ⟨a6, a7⟩ := p2_nib a ha
  obtain ⟨b6, b7⟩ := p2_nib b hb
  obtain ⟨c6, c7⟩ := p2_nib c hc
  obtain ⟨e6, e7⟩ := p2_nib e he
  have a8 := p3_ok _ (show p2 (p1 a) < 69 by omega)
  have b8 := p3_ok _ (show p2 (p1 b) < 69 by omega)
  have c8 := p3_ok _ (show p2 (p1 c) < 69 by omega)
  have e8 := p3_ok _ (show p2 (p1 e) < 69 by omega)
  have C : (nI (L4 (p2 (p1 a)) (p2 (p1 b)) (p2 (p1 c)) (p2 (p1 e))) + ((nI (L4 (p2 (p1 a)) (p2 (p1 b)) (p2 (p1 c)) (p2 (p1 e)))).toUInt32 >>> ((4 : Int32).toUInt32 &&& Int32.toUInt32 31)).toInt32) &&& 252645135 = nI (L4 (p3 (p2 (p1 a))) (p3 (p2 (p1 b))) (p3 (p2 (p1 c))) (p3 (p2 (p1 e)))) := by
    rw [pk_ushrN (L4_lt (by omega) (by omega) (by omega) (by omega)) 4 4 (by decide), nI_add, show (252645135 : Int32) = nI 252645135 by decide +kernel, nI_and, show 2 ^ 4 = 16 from rfl, show L4 (p2 (p1 a)) (p2 (p1 b)) (p2 (p1 c)) (p2 (p1 e)) + L4 (p2 (p1 a)) (p2 (p1 b)) (p2 (p1 c)) (p2 (p1 e)) / 16 = L4 (p2 (p1 a) + (p2 (p1 a) / 16 + 16 * (p2 (p1 b) % 16))) (p2 (p1 b) + (p2 (p1 b) / 16 + 16 * (p2 (p1 c) % 16))) (p2 (p1 c) + (p2 (p1 c) / 16 + 16 * (p2 (p1 e) % 16))) (p2 (p1 e) + (p2 (p1 e) / 16 + 16 * 0)) by unfold L4; omega, show 252645135 = L4 15 15 15 15 from rfl, L4_and (by omega) (by omega) (by omega) (by decide), a8 _ (by omega), b8 _ (by omega), c8 _ (by omega), e8 _ (by decide)]
  obtain ⟨a9, a10⟩ := p_by a ha
  obtain ⟨b9, b10⟩ := p_by b hb
  obtain ⟨c9, c10⟩ := p_by c hc
  obtain ⟨e9, e10⟩ := p_by e he
  unfold jpc
  simp only []
  rw [A, B, C, a9, b9, c9, e9, pk_ushrN (L4_lt (by omega) (by omega) (by omega) (by omega)) 8 8 (by decide), nI_add, pk_ushrN (by unfold L4; omega) 16 16 (by decide), nI_add, show (63 : Int32) = nI 63 from rfl, nI_and, show 63 = 2 ^ 6 - 1 from rfl, Nat.and_two_pow_sub_one_eq_mod]
  congr 1
  simp only [show (2 : Nat) ^ 8 = 256 from rfl, show (2 : Nat) ^ 16 = 65536 from rfl, show (2 : Nat) ^ 6 = 64 from rfl]
  exact L4_sum a10 b10 c10 e10
/-- how many of the bits below 32 -/
def pct (x : Int32) : Nat := fb_ct (bt x) 32
theorem jpc_pct (x : Int32) : jpc x = nI (pct x) := by
  obtain ⟨N, hN, rfl⟩ : ∃ N, N < 2 ^ 32 ∧ x = nI N := by
    refine ⟨x.toBitVec.toNat, x.toBitVec.isLt, ?_⟩
    apply Int32.toBitVec_inj.mp
    show _ = BitVec.ofNat 32 _
    rw [BitVec.ofNat_toNat, BitVec.setWidth_eq]
  have e : N = L4 (N % 256) (N / 256 % 256) (N / 65536 % 256) (N / 16777216) := by unfold L4; omega
  have hb : ∀ i, i < 32 → bt (nI N) i = N.testBit i := fun i hi => by rw [bt_nI, decide_eq_true hi, Bool.true_and]
  have lane : ∀ (M k : Nat), fb_ct (fun i => N.testBit (k + i)) 8 = by8 (N / 2 ^ k % 256) := by
    intro _ k
    unfold by8
    refine fb_ct_cong (fun i hi => ?_)
    rw [show (256 : Nat) = 2 ^ 8 from rfl, Nat.testBit_mod_two_pow, Nat.testBit_div_two_pow, decide_eq_true hi, Bool.true_and, Nat.add_comm]
  unfold pct
  rw [fb_ct_cong (q := fun i => N.testBit i) hb, show 32 = 8 + (8 + (8 + 8)) from rfl, fb_ct_split, fb_ct_split, fb_ct_split]
  have l0 := lane 0 0
  have l1 := lane 0 8
  have l2 := lane 0 16
  have l3 := lane 0 24
  simp only [Nat.zero_add, Nat.pow_zero, Nat.div_one] at l0
  have l2' : fb_ct (fun k => N.testBit (8 + (8 + k))) 8 = by8 (N / 2 ^ 16 % 256) := by rw [← l2]; exact fb_ct_cong (fun i hi => by rw [← Nat.add_assoc])
  have l3' : fb_ct (fun k => N.testBit (8 + (8 + (8 + k)))) 8 = by8 (N / 2 ^ 24 % 256) := by rw [← l3]; exact fb_ct_cong (fun i hi => by rw [← Nat.add_assoc, ← Nat.add_assoc])
  rw [l0, l1, l2', l3']
  have := jpc_lanes (a := N % 256) (b := N / 256 % 256) (c := N / 65536 % 256) (e := N / 16777216) (by omega) (by omega) (by omega) (by omega)
  rw [← e] at this
  rw [this, show N / 2 ^ 8 % 256 = N / 256 % 256 from rfl, show N / 2 ^ 16 % 256 = N / 65536 % 256 from rfl, show N / 2 ^ 24 % 256 = N / 16777216 by rw [show 2 ^ 24 = 16777216 from rfl]; omega]
  congr 1
  omega
theorem pct_le (x : Int32) : pct x ≤ 32 := fb_ct_le _ 32
theorem pct_Sq {x : Int32} (h : Sq x) : pct x = fb_ct (bt x) 25 := by
  unfold pct
  have e0 : fb_ct (fun k => bt x (25 + k)) 7 = 0 := fb_ct_zero.mpr (fun k _ => h _ (by omega))
  rw [show 32 = 25 + 7 from rfl, fb_ct_split, e0, Nat.add_zero]
theorem pct_25 {x : Int32} (h : Sq x) : pct x ≤ 25 := by rw [pct_Sq h]; exact fb_ct_le _ 25
theorem jpc_lt {x y : Int32} : jpc x < jpc y ↔ pct x < pct y := by
  rw [jpc_pct, jpc_pct]
  exact nI_ltI (by have := pct_le x; omega) (by have := pct_le y; omega)
theorem jpc_le {x y : Int32} : jpc x ≤ jpc y ↔ pct x ≤ pct y := by
  rw [jpc_pct, jpc_pct]
  exact nI_leI (by have := pct_le x; omega) (by have := pct_le y; omega)
theorem jpc_eq {x y : Int32} : jpc x = jpc y ↔ pct x = pct y := by
  rw [jpc_pct, jpc_pct]
  exact nI_eq (by have := pct_le x; omega) (by have := pct_le y; omega)
/-- as many there as here -/
theorem ct_inj {p q : Nat → Bool} {n : Nat} (φ : Nat → Nat) (h : ∀ i, i < n → p i = true → φ i < n ∧ q (φ i) = true) (h2 : ∀ i j, i < n → j < n → p i = true → p j = true → φ i = φ j → i = j) : fb_ct p n ≤ fb_ct q n := by
  have kth : ∀ k, k < fb_ct p n → ∃ i, i < n ∧ p i = true ∧ fb_ct p i = k := fun k hk => fb_ct_kth hk
  refine fb_holes (fb_ct q n) (fb_ct p n) (fun k => if hk : k < fb_ct p n then fb_ct q (φ (kth k hk).choose) else 0) (fun k hk => ?_) (fun k l hkl hl e => ?_)
  · show (if hk : k < fb_ct p n then fb_ct q (φ (kth k hk).choose) else 0) < fb_ct q n
    rw [dif_pos hk]
    obtain ⟨i1, i2, i3⟩ := (kth k hk).choose_spec
    obtain ⟨j1, j2⟩ := h _ i1 i2
    have := fb_ct_succ q (φ (kth k hk).choose)
    rw [if_pos j2] at this
    have := fb_ct_mono q (show φ (kth k hk).choose + 1 ≤ n from j1)
    omega
  · have hk : k < fb_ct p n := by omega
    have e : (if hk : k < fb_ct p n then fb_ct q (φ (kth k hk).choose) else 0) = (if hk : l < fb_ct p n then fb_ct q (φ (kth l hk).choose) else 0) := e
    rw [dif_pos hk, dif_pos hl] at e
    obtain ⟨i1, i2, i3⟩ := (kth k hk).choose_spec
    obtain ⟨j1, j2, j3⟩ := (kth l hl).choose_spec
    have := fb_ct_kth_one (h _ i1 i2).2 (h _ j1 j2).2 e
    have := h2 _ _ i1 j1 i2 j2 this
    rw [this, j3] at i3
    omega
theorem ct_bij {p q : Nat → Bool} {n : Nat} (φ ψ : Nat → Nat) (h : ∀ i, i < n → p i = true → φ i < n ∧ q (φ i) = true ∧ ψ (φ i) = i) (h2 : ∀ j, j < n → q j = true → ψ j < n ∧ p (ψ j) = true ∧ φ (ψ j) = j) : fb_ct p n = fb_ct q n :=
  Nat.le_antisymm (ct_inj φ (fun i h1 h3 => ⟨(h i h1 h3).1, (h i h1 h3).2.1⟩) (fun i j a b c e f => by rw [← (h i a c).2.2, ← (h j b e).2.2, f]))
    (ct_inj ψ (fun i h1 h3 => ⟨(h2 i h1 h3).1, (h2 i h1 h3).2.1⟩) (fun i j a b c e f => by rw [← (h2 i a c).2.2, ← (h2 j b e).2.2, f]))
theorem pct_jto {s : Int32} (h : Sq s) : pct (jto s 5) = pct s := by
  rw [pct_Sq h, pct_Sq (jto_Sq s)]
  refine ct_bij (fun i => 5 * (4 - i % 5) + i / 5) (fun j => 5 * (j % 5) + 4 - j / 5) (fun i hi hb => ?_) (fun j hj hb => ?_)
  · obtain ⟨y, x, h1, h2, h3, h4⟩ := (jto_bt s 5 (by decide) i (by omega)).mp hb
    have e1 : i % 5 = 4 - y := by omega
    have e2 : i / 5 = x := by omega
    refine ⟨by omega, ?_, by omega⟩
    show bt s (5 * (4 - i % 5) + i / 5) = true
    rw [e1, e2, show 4 - (4 - y) = y by omega]
    exact h3
  · refine ⟨by omega, ?_, by omega⟩
    exact (jto_bt s 5 (by decide) _ (by omega)).mpr ⟨j / 5, j % 5, by omega, by omega, by rw [show 5 * (j / 5) + j % 5 = j by omega]; exact hb, rfl⟩
theorem pct_jcor {s : Int32} (h : Sq s) (hn : Ne s) : pct (jcor s) = pct s := by
  obtain ⟨a, b, a1, b1, h1, h2, h3, h4, h5, h6⟩ := jcor_spec h hn
  rw [pct_Sq h, pct_Sq h1]
  refine ct_bij (fun i => i + b + 5 * a) (fun j => j - (b + 5 * a)) (fun i hi hb => ?_) (fun j hj hb => ?_)
  · rw [h2] at hb
    exact ⟨Ne_lt h hb, hb, by omega⟩
  · have k1 : 5 * a ≤ j := Nat.le_of_not_lt (fun q => by rw [h3 j q] at hb; cases hb)
    have k2 : b ≤ j % 5 := Nat.le_of_not_lt (fun q => by rw [h4 j q] at hb; cases hb)
    refine ⟨by omega, ?_, by omega⟩
    rw [h2, show j - (b + 5 * a) + b + 5 * a = j by omega]
    exact hb
theorem pct_jsh5 {s : Int32} (h : Sq s) {dx dy : Nat} (hx : dx ≤ 4) (hy : dy ≤ 4) (hf : fitsIn s dx dy) : pct (jsh5 s dx dy) = pct s := by
  rw [pct_Sq h, pct_Sq (jsh5_Sq h hx hy hf)]
  refine ct_bij (fun i => i - (5 * dy + dx)) (fun j => j + (5 * dy + dx)) (fun i hi hb => ?_) (fun j hj hb => ?_)
  · obtain ⟨x, y, c1, c2, c3, rfl⟩ := (jsh5_bt h hx hy hf (by omega)).mp hb
    have := hf x y c1 c2 c3
    refine ⟨by omega, ?_, by omega⟩
    show bt s (5 * (y + dy) + (x + dx) - (5 * dy + dx)) = true
    rw [show 5 * (y + dy) + (x + dx) - (5 * dy + dx) = 5 * y + x by omega]
    exact c3
  · obtain ⟨c1, c2, c3⟩ := cl_of h hb
    have := hf _ _ c1 c2 c3
    exact ⟨by omega, (jsh5_bt h hx hy hf (by omega)).mpr ⟨_, _, c1, c2, c3, by omega⟩, by omega⟩
theorem pct_jturn {s : Int32} (h : Sq s) (hn : Ne s) (t : Nat) : pct (jturn s t) = pct s := by
  have : ∀ t, pct (jrot s t) = pct s := by
    intro t
    induction t with
    | zero => rfl
    | succ t ih => exact (pct_jto (jrot_SN h hn t).1).trans ih
  exact (pct_jcor (jrot_SN h hn t).1 (jrot_SN h hn t).2).trans (this t)
