/-! FORM.take, leastWith -/
theorem u2_at {α : Type} (f : Nat → Nat → α) (a k : Nat) (v : α) : u2 f a k v a k = v := by simp [u2]
theorem u2_off {α : Type} (f : Nat → Nat → α) (a : Nat) {k j : Nat} (v : α) (h : j ≠ k) : u2 f a k v a j = f a j := by simp [u2, h]
def jrot (s : Int32) : Nat → Int32
  | 0 => s
  | t + 1 => jto (jrot s t) 5
def jturn (s : Int32) (t : Nat) : Int32 := jcor (jrot s t)
def jpl (s : Int32) (n : Nat) : List (Int32 × Int32) := (List.range n).flatMap (fun t => jtrn (jturn s t) t (jdn (jturn s t) + 1))
theorem jpl_succ (s : Int32) (n : Nat) : jpl s (n + 1) = jpl s n ++ jtrn (jturn s n) n (jdn (jturn s n) + 1) := by simp [jpl, List.range_succ]
theorem jpl_len (s : Int32) : ∀ n, (jpl s n).length ≤ 25 * n
  | 0 => by simp [jpl]
  | n + 1 => by
    have h := jpl_len s n
    rw [jpl_succ, List.length_append, jtrn_len]
    have h1 := (jr_eq (jturn s n)).2
    have h2 := (jdn_eq (jturn s n)).2
    have : (jdn (jturn s n) + 1) * (jr (jturn s n) + 1) ≤ 5 * 5 := Nat.mul_le_mul (by omega) (by omega)
    omega
/-- the Form at a is that of the shape s -/
def fOk (f : Nat → Nat → Int32) (a : Nat) (s : Int32) : Prop := f a 3 = s ∧ f a 4 = jpc s ∧ (∀ t, t < 4 → f (a + 1) t = jturn s t) ∧ hasP f a (jpl s 4)
/-- nothing but the Form at a has changed -/
def sameF (f f2 : Nat → Nat → Int32) (a : Nat) : Prop := ∀ b, b ≠ a → b ≠ a + 1 → b ≠ a + 2 → b ≠ a + 3 → f2 b = f b
theorem k_take (d : Nat) (sw : Bool) (f : Nat → Nat → Int32) (g : Nat → Nat → Int64) (a : Nat) (s : Int32) (ha : isF a) : CT (d + 2) 0 0 iX1_take [.ref a, .int s] (S sw f g) (QS (fun r sw2 f2 g2 => r = none ∧ sw2 = sw ∧ g2 = g ∧ sameF f f2 a ∧ fOk f2 a s)) := by
  refine CT.of rfl (Nat.le_of_ble_eq_true rfl) (fun X hX hR hN _ => ?_)
  have hX : Good X RX1 cX1_take (d + 2) 0 0 := hX
  have hN : x_nl X = 4 := hN
  show WP X 0 0 0 [_, _, _, _] [] _
  refine wp_aload_n hX (dk DX1_take 0 rfl) rfl ?_
  refine wp_iload_n hX (dk DX1_take 1 rfl) rfl ?_
  refine w_puti hX fpX1_21 (dk DX1_take 2 rfl) ha.1 ?_
  refine wp_aload_n hX (dk DX1_take 3 rfl) rfl ?_
  refine wp_iload_n hX (dk DX1_take 4 rfl) rfl ?_
  refine w_callS (As := [_]) lkX1_25 hX (dk DX1_take 5 rfl) rfl (by simp [Value.category]) (k_bitCount (d + 1) s _) ?_
  show WP _ _ _ 10 [_, _, _, _] [_, _] _
  refine w_puti hX fpX1_31 (dk DX1_take 6 rfl) ha.1 ?_
  refine wp_aload_n hX (dk DX1_take 7 rfl) rfl ?_
  refine wp_iconst (v := 0) hX (dk DX1_take 8 rfl) (by decide) ?_
  refine w_puti hX fpX1_34 (dk DX1_take 9 rfl) ha.1 ?_
  refine wp_iload_n hX (dk DX1_take 10 rfl) rfl ?_
  refine wp_istore_n hX (dk DX1_take 11 rfl) rfl rfl hN (Nat.le_of_ble_eq_true rfl) ?_
  show WP _ _ _ 20 [_, _, _, _] [] _
  have lo : ∀ (n t : Nat) (f2 : Nat → Nat → Int32), t + n = 4 → sameF f f2 a → f2 a 3 = s → f2 a 4 = jpc s → (∀ i, i < t → f2 (a + 1) i = jturn s i) → hasP f2 a (jpl s t) → WP X 0 0 22 [some (.ref a), some (.int s), some (.int (jrot s t)), some (.int (nI t))] [] (S sw f2 g) := by
    intro n
    induction n with
    | zero =>
      intro t f2 hn hs h3 h4 ht hp
      obtain rfl : t = 4 := by omega
      refine wp_iload_n hX (dk DX1_take 14 rfl) rfl ?_
      refine wp_iconst (v := 4) hX (dk DX1_take 15 rfl) (by decide) ?_
      refine wp_icmp_ge (tgt := 53) hX (dk DX1_take 16 rfl) (by decide) (fun _ => ?_) (fun h_ => absurd ((by decide)) h_)
      exact wp_return hX hR (dk DX1_take 31 rfl) (Nat.le_refl _) (Nat.le_refl _) (⟨sw, f2, g, rfl, rfl, rfl, rfl, hs, h3, h4, ht, hp⟩)
    | succ n ih =>
      intro t f2 hn hs h3 h4 ht hp
      have hp1 : hasP (u2 f2 (a + 1) t (jcor (jrot s t))) a (jpl s t) := by
        refine ⟨by rw [u2_ne _ _ _ (by omega)]; exact hp.1, hp.2.1, fun j q hq => ?_⟩
        rw [u2_ne _ _ _ (by omega), u2_ne _ _ _ (by omega)]
        exact hp.2.2 j q hq
      have e1 : u2 f2 (a + 1) t (jcor (jrot s t)) (a + 1) t = jturn s t := by rw [u2_row]; simp [jturn]
      refine wp_iload_n hX (dk DX1_take 14 rfl) rfl ?_
      refine wp_iconst (v := 4) hX (dk DX1_take 15 rfl) (by decide) ?_
      refine wp_icmp_ge (tgt := 53) hX (dk DX1_take 16 rfl) (by decide) (fun h_ => absurd h_ ((nI_ge (a := t) (b := 4) (by omega) (by omega)))) (fun _ => ?_)
      refine wp_aload_n hX (dk DX1_take 17 rfl) rfl ?_
      refine w_getr hX flX1_11 (dk DX1_take 18 rfl) ha.1 (ha.2.1 sw).1 ?_
      refine wp_iload_n hX (dk DX1_take 19 rfl) rfl ?_
      refine wp_iload_n hX (dk DX1_take 20 rfl) rfl ?_
      refine w_callS (As := [_]) lkX1_37 hX (dk DX1_take 21 rfl) rfl (by simp [Value.category]) (k_cornered (d + 1) (jrot s t) _) ?_
      show WP _ _ _ 36 [_, _, _, _] [_, _, _] _
      refine w_iast (j := _) hX (dk DX1_take 22 rfl) ha.2.2.1 rfl (by rw [ha.2.2.2.2.2.1]; omega) ?_
      refine wp_aload_n hX (dk DX1_take 23 rfl) rfl ?_
      refine wp_iload_n hX (dk DX1_take 24 rfl) rfl ?_
      refine w_callVQ (As := [_]) lkX1_40 hX (dk DX1_take 25 rfl) ha.1 rfl (by decide) hN (k_addPlaces d sw (u2 f2 (a + 1) t (jcor (jrot s t))) g a t (jpl s t) ha (by omega) hp1 (jpl_len s t)) (fun v_ sw_ f_ g_ hq_ => ?_)
      obtain ⟨rfl, rfl, rfl, hsp, hp2⟩ := hq_
      show WP _ _ _ 42 [_, _, _, _] [] _
      rw [e1, ← jpl_succ] at hp2
      refine wp_iload_n hX (dk DX1_take 26 rfl) rfl ?_
      refine w_callS (As := [_]) lkX1_44 hX (dk DX1_take 27 rfl) rfl (by decide) (k_turnedOnce (d + 1) (jrot s t) _) ?_
      show WP _ _ _ 46 [_, _, _, _] [_] _
      refine wp_istore_n hX (dk DX1_take 28 rfl) rfl rfl hN (Nat.le_of_ble_eq_true rfl) ?_
      show WP _ _ _ 47 [_, _, _, _] [] _
      refine wp_iinc hX (dk DX1_take 29 rfl) rfl (nI_inc _) rfl hN ?_
      show WP _ _ _ 50 [_, _, _, _] [] _
      refine wp_goto (tgt := 22) hX (dk DX1_take 30 rfl) (by decide) ?_
      -- to 22
      refine ih (t + 1) f_ (by omega) ?_ ?_ ?_ ?_ hp2
      · intro b g1 g2 g3 g4
        rw [hsp.1 b g1 g3 g4, u2_ne _ _ _ g2]
        exact hs b g1 g2 g3 g4
      · rw [hsp.2 3 (by decide), u2_ne _ _ _ (by omega)]
        exact h3
      · rw [hsp.2 4 (by decide), u2_ne _ _ _ (by omega)]
        exact h4
      · intro i hi
        rw [hsp.1 (a + 1) (by omega) (by omega) (by omega)]
        by_cases hit : i = t
        · subst hit; exact e1
        · rw [u2_off _ _ _ hit]
          exact ht i (by omega)
  refine wp_iconst (v := 0) hX (dk DX1_take 12 rfl) (by decide) ?_
  refine wp_istore_n hX (dk DX1_take 13 rfl) rfl rfl hN (Nat.le_of_ble_eq_true rfl) ?_
  show WP _ _ _ 22 [_, _, _, _] [] _
  refine lo 4 0 _ (by omega) ?_ ?_ ?_ (fun i hi => absurd hi (by omega)) ?_
  · intro b g1 g2 g3 g4
    rw [u2_ne _ _ _ g1, u2_ne _ _ _ g1, u2_ne _ _ _ g1]
  · simp [u2]
  · simp [u2]
  · refine ⟨by simp [u2, jpl, nI_0], by simp [jpl], fun j q hq => by simp [jpl] at hq⟩
/-- the places of a shape: how many, each, its way -/
def jn (s : Int32) : Nat := (jpl s 4).length
def jP (s : Int32) (j : Nat) : Int32 := ((jpl s 4).getD j (0, 0)).1
def jW (s : Int32) (j : Nat) : Int32 := ((jpl s 4).getD j (0, 0)).2
theorem jn_le (s : Int32) : jn s ≤ 100 := jpl_len s 4
theorem fOk.n {f : Nat → Nat → Int32} {a : Nat} {s : Int32} (h : fOk f a s) : f a 5 = nI (jn s) := h.2.2.2.1
theorem fOk.P {f : Nat → Nat → Int32} {a : Nat} {s : Int32} (h : fOk f a s) {j : Nat} (hj : j < jn s) : f (a + 2) j = jP s j ∧ f (a + 3) j = jW s j := by
  have h1 : (jpl s 4)[j]? = some ((jpl s 4)[j]'hj) := List.getElem?_eq_getElem hj
  have h2 := h.2.2.2.2.2 j _ h1
  unfold jP jW
  rw [List.getD_eq_getElem?_getD, h1]
  exact h2
theorem jfirst_cong {p q : Nat → Int32} {x : Int32} : ∀ (k j : Nat), (∀ i, i < j + k → p i = q i) → jfirst p x k j = jfirst q x k j
  | 0, _, _ => rfl
  | k + 1, j, h => by
    rw [jfirst, jfirst, h j (by omega), jfirst_cong k (j + 1) (fun i hi => h i (by omega))]
theorem jcnt_cong {p q : Nat → Int32} {x : Int32} : ∀ (k : Nat), (∀ i, i < k → p i = q i) → jcnt p x k = jcnt q x k
  | 0, _ => rfl
  | k + 1, h => by
    rw [jcnt, jcnt, h k (by omega), jcnt_cong k (fun i hi => h i (by omega))]
/-- the first place of s within x; can s be cut out of x -/
def jfp (s x : Int32) : Int32 := jfirst (jP s) x (jn s) 0
def jct (s x : Int32) : Int32 := jcan (jP s) (jn s) (jpc s) x
theorem k_first (d : Nat) (sw : Bool) (f : Nat → Nat → Int32) (g : Nat → Nat → Int64) (a : Nat) (s x : Int32) (ha : isF a) (h : fOk f a s) : CT d 0 0 iX1_firstPlace [.ref a, .int x] (S sw f g) (QR (some (.int (jfp s x))) (S sw f g)) := by
  have := k_firstPlace d sw f g a (jn s) x ha h.n (jn_le s)
  rw [jfirst_cong (q := jP s) _ _ (fun i hi => (h.P (by omega)).1)] at this
  exact this
theorem k_count (d : Nat) (sw : Bool) (f : Nat → Nat → Int32) (g : Nat → Nat → Int64) (a : Nat) (s x : Int32) (ha : isF a) (h : fOk f a s) : CT d 0 0 iX1_countWays [.ref a, .int x] (S sw f g) (QR (some (.int (jcnt (jP s) x (jn s)))) (S sw f g)) := by
  have := k_countWays d sw f g a (jn s) x ha h.n (jn_le s)
  rw [jcnt_cong (q := jP s) _ (fun i hi => (h.P (by omega)).1)] at this
  exact this
theorem k_can (d : Nat) (sw : Bool) (f : Nat → Nat → Int32) (g : Nat → Nat → Int64) (a : Nat) (s x : Int32) (ha : isF a) (h : fOk f a s) : CT (d + 1) 0 0 iX1_canBeCutOf [.ref a, .int x] (S sw f g) (QR (some (.int (jct s x))) (S sw f g)) := by
  have := k_canBeCutOf d sw f g a (jn s) x ha h.n (jn_le s)
  rw [jcan, jfirst_cong (q := jP s) _ _ (fun i hi => (h.P (by omega)).1), h.2.1] at this
  exact this
/-- the least shape with both: p of k, q of m places; best, fewest -/
def jli (p : Int32) (q : Nat → Int32) : Nat → Nat → Int32 × Int32 → Int32 × Int32
  | 0, _, b => b
  | m + 1, j, b => jli p q m (j + 1) (if jpc (p ||| q j) < b.2 ∨ (jpc (p ||| q j) = b.2 ∧ (p ||| q j) < b.1) then (p ||| q j, jpc (p ||| q j)) else b)
def jlo (p q : Nat → Int32) (m : Nat) : Nat → Nat → Int32 × Int32 → Int32 × Int32
  | 0, _, b => b
  | k + 1, i, b => jlo p q m k (i + 1) (jli (p i) q m 0 b)
theorem k_leastWith (d : Nat) (sw : Bool) (f : Nat → Nat → Int32) (g : Nat → Nat → Int64) (a c k m : Nat) (ha : isF a) (hc : isF c) (hk : junl (f (a + 1)) (f a 5) = nI k) (hm : junl (f (c + 1)) (f c 5) = nI m) (hk1 : k ≤ 100) (hm1 : m ≤ 100) : CT (d + 1) 0 0 iX1_leastWith [.ref a, .ref c] (S sw f g) (QR (some (.int (jlo (f (a + 2)) (f (c + 2)) m k 0 (33554431, 25)).1)) (S sw f g)) := by
  refine CT.of rfl (Nat.le_of_ble_eq_true rfl) (fun X hX hR hN _ => ?_)
  have hX : Good X RX1 cX1_leastWith (d + 1) 0 0 := hX
  have hN : x_nl X = 10 := hN
  show WP X 0 0 0 [_, _, _, _, _, _, _, _, _, _] [] _
  refine wp_ldc hX (dk DX1_leastWith 0 rfl) kcX1_50 ?_
  refine wp_istore_n hX (dk DX1_leastWith 1 rfl) rfl rfl hN (Nat.le_of_ble_eq_true rfl) ?_
  show WP _ _ _ 3 [_, _, _, _, _, _, _, _, _, _] [] _
  refine wp_bipush (v := 25) hX (dk DX1_leastWith 2 rfl) (by decide) ?_
  refine wp_istore_n hX (dk DX1_leastWith 3 rfl) rfl rfl hN (Nat.le_of_ble_eq_true rfl) ?_
  show WP _ _ _ 6 [_, _, _, _, _, _, _, _, _, _] [] _
  refine wp_aload_n hX (dk DX1_leastWith 4 rfl) rfl ?_
  refine w_callV (As := []) lkX1_51 hX (dk DX1_leastWith 5 rfl) ha.1 rfl (by decide) hN (k_unlikePlaces d sw f g a ha) ?_
  show WP _ _ _ 10 [_, _, _, _, _, _, _, _, _, _] [_] _
  rw [hk]
  refine wp_istore hX (dk DX1_leastWith 6 rfl) rfl hN (Nat.le_of_ble_eq_true rfl) ?_
  show WP _ _ _ 12 [_, _, _, _, _, _, _, _, _, _] [] _
  refine wp_aload_n hX (dk DX1_leastWith 7 rfl) rfl ?_
  refine w_callV (As := []) lkX1_51 hX (dk DX1_leastWith 8 rfl) hc.1 rfl (by decide) hN (k_unlikePlaces d sw f g c hc) ?_
  show WP _ _ _ 16 [_, _, _, _, _, _, _, _, _, _] [_] _
  rw [hm]
  refine wp_istore hX (dk DX1_leastWith 9 rfl) rfl hN (Nat.le_of_ble_eq_true rfl) ?_
  show WP _ _ _ 18 [_, _, _, _, _, _, _, _, _, _] [] _
  refine wp_iconst (v := 0) hX (dk DX1_leastWith 10 rfl) (by decide) ?_
  refine wp_istore hX (dk DX1_leastWith 11 rfl) rfl hN (Nat.le_of_ble_eq_true rfl) ?_
  show WP _ _ _ 21 [_, _, _, _, _, _, _, _, _, _] [] _
  have lo : ∀ (n i : Nat) (b : Int32 × Int32) (z1 z2 z3 : Option Value), i + n = k → jlo (f (a + 2)) (f (c + 2)) m k 0 (33554431, 25) = jlo (f (a + 2)) (f (c + 2)) m n i b → WP X 0 0 21 [some (.ref a), some (.ref c), some (.int b.1), some (.int b.2), some (.int (nI k)), some (.int (nI m)), some (.int (nI i)), z1, z2, z3] [] (S sw f g) := by
    intro n
    induction n with
    | zero =>
      intro i b z1 z2 z3 hi e
      refine wp_iload hX (dk DX1_leastWith 12 rfl) rfl ?_
      refine wp_iload hX (dk DX1_leastWith 13 rfl) rfl ?_
      refine wp_icmp_ge (tgt := 98) hX (dk DX1_leastWith 14 rfl) (by decide) (fun _ => ?_) (fun h_ => absurd ((nI_le (by omega) (by omega))) h_)
      refine wp_iload_n hX (dk DX1_leastWith 50 rfl) rfl ?_
      exact wp_ireturn hX hR (dk DX1_leastWith 51 rfl) rfl (Nat.le_refl _) (Nat.le_refl _) (⟨by rw [e]; rfl, rfl⟩)
    | succ n ih =>
      intro i b z1 z2 z3 hi e
      refine wp_iload hX (dk DX1_leastWith 12 rfl) rfl ?_
      refine wp_iload hX (dk DX1_leastWith 13 rfl) rfl ?_
      refine wp_icmp_ge (tgt := 98) hX (dk DX1_leastWith 14 rfl) (by decide) (fun h_ => absurd h_ ((nI_ge (by omega) (by omega)))) (fun _ => ?_)
      refine wp_iconst (v := 0) hX (dk DX1_leastWith 15 rfl) (by decide) ?_
      refine wp_istore hX (dk DX1_leastWith 16 rfl) rfl hN (Nat.le_of_ble_eq_true rfl) ?_
      show WP _ _ _ 31 [_, _, _, _, _, _, _, _, _, _] [] _
      rw [jlo] at e
      have li : ∀ (r j : Nat) (b2 : Int32 × Int32) (y2 y3 : Option Value), j + r = m → jli (f (a + 2) i) (f (c + 2)) m 0 b = jli (f (a + 2) i) (f (c + 2)) r j b2 → WP X 0 0 31 [some (.ref a), some (.ref c), some (.int b2.1), some (.int b2.2), some (.int (nI k)), some (.int (nI m)), some (.int (nI i)), some (.int (nI j)), y2, y3] [] (S sw f g) := by
        intro r
        induction r with
        | zero =>
          intro j b2 y2 y3 hj e2
          refine wp_iload hX (dk DX1_leastWith 17 rfl) rfl ?_
          refine wp_iload hX (dk DX1_leastWith 18 rfl) rfl ?_
          refine wp_icmp_ge (tgt := 92) hX (dk DX1_leastWith 19 rfl) (by decide) (fun _ => ?_) (fun h_ => absurd ((nI_le (by omega) (by omega))) h_)
          refine wp_iinc hX (dk DX1_leastWith 48 rfl) rfl (nI_inc _) rfl hN ?_
          show WP _ _ _ 95 [_, _, _, _, _, _, _, _, _, _] [] _
          refine wp_goto (tgt := 21) hX (dk DX1_leastWith 49 rfl) (by decide) ?_
          -- to 21
          rw [e2] at e
          exact ih (i + 1) b2 _ _ _ (by omega) e
        | succ r ihr =>
          intro j b2 y2 y3 hj e2
          refine wp_iload hX (dk DX1_leastWith 17 rfl) rfl ?_
          refine wp_iload hX (dk DX1_leastWith 18 rfl) rfl ?_
          refine wp_icmp_ge (tgt := 92) hX (dk DX1_leastWith 19 rfl) (by decide) (fun h_ => absurd h_ ((nI_ge (by omega) (by omega)))) (fun _ => ?_)
          refine wp_aload_n hX (dk DX1_leastWith 20 rfl) rfl ?_
          refine w_getr hX flX1_15 (dk DX1_leastWith 21 rfl) ha.1 (ha.2.1 sw).2.1 ?_
          refine wp_iload hX (dk DX1_leastWith 22 rfl) rfl ?_
          refine w_iald (j := _) hX (dk DX1_leastWith 23 rfl) ha.2.2.2.1 rfl (by rw [ha.2.2.2.2.2.2.1]; omega) ?_
          refine wp_aload_n hX (dk DX1_leastWith 24 rfl) rfl ?_
          refine w_getr hX flX1_15 (dk DX1_leastWith 25 rfl) hc.1 (hc.2.1 sw).2.1 ?_
          refine wp_iload hX (dk DX1_leastWith 26 rfl) rfl ?_
          refine w_iald (j := _) hX (dk DX1_leastWith 27 rfl) hc.2.2.2.1 rfl (by rw [hc.2.2.2.2.2.2.1]; omega) ?_
          refine wp_ior hX (dk DX1_leastWith 28 rfl) ?_
          refine wp_istore hX (dk DX1_leastWith 29 rfl) rfl hN (Nat.le_of_ble_eq_true rfl) ?_
          show WP _ _ _ 55 [_, _, _, _, _, _, _, _, _, _] [] _
          refine wp_iload hX (dk DX1_leastWith 30 rfl) rfl ?_
          refine w_callS (As := [_]) lkX1_25 hX (dk DX1_leastWith 31 rfl) rfl (by decide) (k_bitCount d (f (a + 2) i ||| f (c + 2) j) _) ?_
          show WP _ _ _ 60 [_, _, _, _, _, _, _, _, _, _] [_] _
          refine wp_istore hX (dk DX1_leastWith 32 rfl) rfl hN (Nat.le_of_ble_eq_true rfl) ?_
          show WP _ _ _ 62 [_, _, _, _, _, _, _, _, _, _] [] _
          refine wp_iload hX (dk DX1_leastWith 33 rfl) rfl ?_
          refine wp_iload_n hX (dk DX1_leastWith 34 rfl) rfl ?_
          rw [jli] at e2
          refine wp_icmp_lt (tgt := 80) hX (dk DX1_leastWith 35 rfl) (by decide) (fun h => ?_) (fun h => ?_)
          · refine wp_iload hX (dk DX1_leastWith 42 rfl) rfl ?_
            refine wp_istore_n hX (dk DX1_leastWith 43 rfl) rfl rfl hN (Nat.le_of_ble_eq_true rfl) ?_
            show WP _ _ _ 83 [_, _, _, _, _, _, _, _, _, _] [] _
            refine wp_iload hX (dk DX1_leastWith 44 rfl) rfl ?_
            refine wp_istore_n hX (dk DX1_leastWith 45 rfl) rfl rfl hN (Nat.le_of_ble_eq_true rfl) ?_
            show WP _ _ _ 86 [_, _, _, _, _, _, _, _, _, _] [] _
            refine wp_iinc hX (dk DX1_leastWith 46 rfl) rfl (nI_inc _) rfl hN ?_
            show WP _ _ _ 89 [_, _, _, _, _, _, _, _, _, _] [] _
            refine wp_goto (tgt := 31) hX (dk DX1_leastWith 47 rfl) (by decide) ?_
            -- to 31
            rw [if_pos (Or.inl h)] at e2
            exact ihr (j + 1) _ _ _ (by omega) e2
          · refine wp_iload hX (dk DX1_leastWith 36 rfl) rfl ?_
            refine wp_iload_n hX (dk DX1_leastWith 37 rfl) rfl ?_
            refine wp_icmp_ne (tgt := 86) hX (dk DX1_leastWith 38 rfl) (by decide) (fun h2 => ?_) (fun h2 => ?_)
            · refine wp_iinc hX (dk DX1_leastWith 46 rfl) rfl (nI_inc _) rfl hN ?_
              show WP _ _ _ 89 [_, _, _, _, _, _, _, _, _, _] [] _
              refine wp_goto (tgt := 31) hX (dk DX1_leastWith 47 rfl) (by decide) ?_
              -- to 31
              rw [if_neg (fun q => q.elim h (fun q => h2 q.1))] at e2
              exact ihr (j + 1) _ _ _ (by omega) e2
            · refine wp_iload hX (dk DX1_leastWith 39 rfl) rfl ?_
              refine wp_iload_n hX (dk DX1_leastWith 40 rfl) rfl ?_
              refine wp_icmp_ge (tgt := 86) hX (dk DX1_leastWith 41 rfl) (by decide) (fun h3 => ?_) (fun h3 => ?_)
              · refine wp_iinc hX (dk DX1_leastWith 46 rfl) rfl (nI_inc _) rfl hN ?_
                show WP _ _ _ 89 [_, _, _, _, _, _, _, _, _, _] [] _
                refine wp_goto (tgt := 31) hX (dk DX1_leastWith 47 rfl) (by decide) ?_
                -- to 31
                rw [if_neg (fun q => q.elim h (fun q => Int32.not_lt.mpr h3 q.2))] at e2
                exact ihr (j + 1) _ _ _ (by omega) e2
              · refine wp_iload hX (dk DX1_leastWith 42 rfl) rfl ?_
                refine wp_istore_n hX (dk DX1_leastWith 43 rfl) rfl rfl hN (Nat.le_of_ble_eq_true rfl) ?_
                show WP _ _ _ 83 [_, _, _, _, _, _, _, _, _, _] [] _
                refine wp_iload hX (dk DX1_leastWith 44 rfl) rfl ?_
                refine wp_istore_n hX (dk DX1_leastWith 45 rfl) rfl rfl hN (Nat.le_of_ble_eq_true rfl) ?_
                show WP _ _ _ 86 [_, _, _, _, _, _, _, _, _, _] [] _
                refine wp_iinc hX (dk DX1_leastWith 46 rfl) rfl (nI_inc _) rfl hN ?_
                show WP _ _ _ 89 [_, _, _, _, _, _, _, _, _, _] [] _
                refine wp_goto (tgt := 31) hX (dk DX1_leastWith 47 rfl) (by decide) ?_
                -- to 31
                rw [if_pos (Or.inr ⟨h2, Int32.not_le.mp h3⟩)] at e2
                exact ihr (j + 1) _ _ _ (by omega) e2
      exact li m 0 b _ _ (by omega) rfl
  exact lo k 0 (33554431, 25) none none none (by omega) rfl
