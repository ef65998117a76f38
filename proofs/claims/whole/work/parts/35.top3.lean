/-! THE CLASS'S CALLS: rows of cuttings -/
/-- position in the order of cells: what can be cut out of one stands ahead -/
theorem stk.pos {f : Nat → Nat → Int32} {n : Nat} {sh : Nat → Int32} (h : stk f n sh) : ∃ ρ : Nat → Nat, (∀ i, i < n → ρ i < n) ∧ ∀ i j, i < n → bt (f 4 i) j = true → j < 32 → j < n ∧ ρ j < ρ i := by
  obtain ⟨π, p1, p2, p3⟩ := h.2.2
  refine ⟨fun i => if hi : ∃ p, p < n ∧ π p = i then hi.choose else 0, fun i hi => ?_, fun i j hi hb hj => ?_⟩
  · have e := p2 i hi
    show (if hi : ∃ p, p < n ∧ π p = i then hi.choose else 0) < n
    rw [dif_pos e]
    exact e.choose_spec.1
  · rw [h.cut hi hj] at hb
    obtain ⟨hjn, hct⟩ := of_decide_eq_true hb
    refine ⟨hjn, ?_⟩
    have e1 := p2 i hi
    have e2 := p2 j hjn
    show (if hi : ∃ p, p < n ∧ π p = j then hi.choose else 0) < (if hi : ∃ p, p < n ∧ π p = i then hi.choose else 0)
    rw [dif_pos e1, dif_pos e2]
    obtain ⟨a1, a2⟩ := e1.choose_spec
    obtain ⟨b1, b2⟩ := e2.choose_spec
    have hlt := jct_lt hct
    rw [← a2, ← b2] at hlt
    by_cases c : e2.choose < e1.choose
    · exact c
    · exfalso
      by_cases c2 : e1.choose = e2.choose
      · rw [c2] at hlt; exact Int32.lt_irrefl hlt
      · exact Int32.lt_irrefl (Int32.lt_of_lt_of_le hlt (p3 _ _ (by omega) b1))
/-- the longest row from figure i, those allowed that are in al -/
def LN (B : Nat → Int32) (n : Nat) (al : Int32) : Nat → Nat → Int32
  | 0, _ => 0
  | k + 1, i => if jb al i = 0 then 0 else 1 + jmx (LN B n al k) (B i) n
/-- the longest row out of a set -/
def LG (B : Nat → Int32) (n : Nat) (al s : Int32) : Int32 := jmx (LN B n al 10) s n
theorem lenOk_LN {f : Nat → Nat → Int32} {n : Nat} {sh : Nat → Int32} {al : Int32} {r : Nat → Int32} (hs : stk f n sh) (h : ∀ i, i < n → lenOk r (f 4) al n i) : ∀ i, i < n → r i = LN (f 4) n al 10 i := by
  obtain ⟨ρ, h1, h2⟩ := hs.pos
  have hn := hs.1.2.1
  have key : ∀ (k i : Nat), i < n → ρ i < k → r i = LN (f 4) n al k i := by
    intro k
    induction k with
    | zero => intro i _ hk; omega
    | succ k ih =>
      intro i hi hk
      rw [h i hi, LN, jmx_cong n (by omega) (fun j hj hb => ih j hj (by have := (h2 i j hi hb (by omega)).2; omega))]
  exact fun i hi => key 10 i hi (by have := h1 i hi; omega)
theorem jmx_LG {f : Nat → Nat → Int32} {n : Nat} {sh : Nat → Int32} {al s : Int32} {r : Nat → Int32} (hs : stk f n sh) (h : ∀ i, i < n → lenOk r (f 4) al n i) : jmx r s n = LG (f 4) n al s :=
  jmx_cong n (by have := hs.1.2.1; omega) (fun k hk _ => lenOk_LN hs h k hk)
theorem jfl_cong {r q : Nat → Int32} {s l : Int32} : ∀ (k i : Nat), (∀ j, i ≤ j → j < i + k → r j = q j) → jfl r s l k i = jfl q s l k i
  | 0, _, _ => rfl
  | k + 1, i, h => by rw [jfl, jfl, h i (by omega) (by omega), jfl_cong k (i + 1) (fun j h1 h2 => h j (by omega) (by omega))]
theorem jil_cong {r q B : Nat → Int32} {n : Nat} {k : Int32} (hn : n ≤ 32) (h : ∀ j, j < n → r j = q j) : ∀ (m i : Nat) (s : Int32), jil r B n k m i s = jil q B n k m i s
  | 0, _, _ => rfl
  | m + 1, i, s => by
    have e : jfl r s (jmx r s n) n 0 = jfl q s (jmx q s n) n 0 := by rw [jmx_cong n hn (fun k hk _ => h k hk), jfl_cong n 0 (fun j _ hj => h j (by omega))]
    rw [jil, jil, e, jil_cong hn h m]
theorem t_longest0 (d : Nat) (sw : Bool) (f : Nat → Nat → Int32) (g : Nat → Nat → Int64) (m : Nat) (x k : Int32) (hm : f 61 6 = nI m) (hm6 : m ≤ 6) (h : ¬ ((∃ b, b < m ∧ x = nI b) ∧ -1 ≤ k)) : CT (d + 110) 0 0 iX10_longest [.ref 0, .int x, .int k] (S sw f g) (rdC g f (-1)) := by
  refine CT.rdC ?_
  refine CT.of rfl (Nat.le_of_ble_eq_true rfl) (fun X hX hR hN _ => ?_)
  have hX : Good X RX10 cX10_longest (d + 110) 0 0 := hX
  have hN : x_nl X = 4 := hN
  show WP X 0 0 0 [_, _, _, _] [] _
  refine wp_aload_n hX (dk DX10_longest 0 rfl) rfl ?_
  refine w_getr hX flX10_51 (dk DX10_longest 1 rfl) rfl rfl ?_
  refine wp_iload_n hX (dk DX10_longest 2 rfl) rfl ?_
  refine w_callV (As := [_]) lkX10_127 hX (dk DX10_longest 3 rfl) rfl rfl (by decide) hN (k_yhas (d + 109) sw f g x) ?_
  show WP _ _ _ 8 [_, _, _, _] [_] _
  rw [hm]
  refine wp_if_eq (tgt := 16) hX (dk DX10_longest 4 rfl) (by decide) (fun h8 => ?_) (fun h8 => ?_)
  · refine wp_iconst (v := -1) hX (dk DX10_longest 8 rfl) (by decide) ?_
    exact wp_ireturn hX hR (dk DX10_longest 9 rfl) rfl (Nat.le_refl _) (Nat.le_refl _) (⟨rfl, rfl⟩)
  · refine wp_iload_n hX (dk DX10_longest 5 rfl) rfl ?_
    refine wp_iconst (v := -1) hX (dk DX10_longest 6 rfl) (by decide) ?_
    refine wp_icmp_ge (tgt := 18) hX (dk DX10_longest 7 rfl) (by decide) (fun h13 => ?_) (fun h13 => ?_)
    · exact absurd ⟨jin_ex (by omega) h8, h13⟩ h
    · refine wp_iconst (v := -1) hX (dk DX10_longest 8 rfl) (by decide) ?_
      exact wp_ireturn hX hR (dk DX10_longest 9 rfl) rfl (Nat.le_refl _) (Nat.le_refl _) (⟨rfl, rfl⟩)
theorem t_longest1 (d : Nat) (sw : Bool) (f : Nat → Nat → Int32) (g : Nat → Nat → Int64) (n m b : Nat) (sh : Nat → Int32) (k : Int32) (hs : stk f n sh) (hm : f 61 6 = nI m) (hm6 : m ≤ 6) (hb : b < m) (hk : -1 ≤ k) : CT (d + 110) 0 0 iX10_longest [.ref 0, .int (nI b), .int k] (S sw f g) (rdC g f (if k = -1 then LG (f 4) n (jall (nI n)) (jfo sh n (f 62 b)) else jil (LN (f 4) n (jall (nI n)) 10) (f 4) n k 10 0 (jfo sh n (f 62 b)))) := by
  have hn10 := hs.1.2.1
  refine CT.of rfl (Nat.le_of_ble_eq_true rfl) (fun X hX hR hN _ => ?_)
  have hX : Good X RX10 cX10_longest (d + 110) 0 0 := hX
  have hN : x_nl X = 4 := hN
  show WP X 0 0 0 [_, _, _, _] [] _
  refine wp_aload_n hX (dk DX10_longest 0 rfl) rfl ?_
  refine w_getr hX flX10_51 (dk DX10_longest 1 rfl) rfl rfl ?_
  refine wp_iload_n hX (dk DX10_longest 2 rfl) rfl ?_
  refine w_callV (As := [_]) lkX10_127 hX (dk DX10_longest 3 rfl) rfl rfl (by decide) hN (k_yhas (d + 109) sw f g (nI b)) ?_
  show WP _ _ _ 8 [_, _, _, _] [_] _
  rw [hm, jin_1 (by omega) hb rfl]
  refine wp_if_eq (tgt := 16) hX (dk DX10_longest 4 rfl) (by decide) (fun h_ => absurd h_ (by decide)) (fun _ => ?_)
  refine wp_iload_n hX (dk DX10_longest 5 rfl) rfl ?_
  refine wp_iconst (v := -1) hX (dk DX10_longest 6 rfl) (by decide) ?_
  refine wp_icmp_ge (tgt := 18) hX (dk DX10_longest 7 rfl) (by decide) (fun _ => ?_) (fun h_ => absurd (hk) h_)
  refine wp_aload_n hX (dk DX10_longest 10 rfl) rfl ?_
  refine wp_iload_n hX (dk DX10_longest 11 rfl) rfl ?_
  refine w_callV (As := [_]) lkX10_204 hX (dk DX10_longest 12 rfl) rfl rfl (by decide) hN (k_firstOut (d + 106) sw f g n b sh hs.1 (by omega)) ?_
  show WP _ _ _ 23 [_, _, _, _] [_] _
  refine wp_istore_n hX (dk DX10_longest 13 rfl) rfl rfl hN (Nat.le_of_ble_eq_true rfl) ?_
  show WP _ _ _ 24 [_, _, _, _] [] _
  refine wp_aload_n hX (dk DX10_longest 14 rfl) rfl ?_
  refine w_getr hX flX10_35 (dk DX10_longest 15 rfl) rfl rfl ?_
  refine wp_aload_n hX (dk DX10_longest 16 rfl) rfl ?_
  refine w_getr hX flX10_10 (dk DX10_longest 17 rfl) rfl rfl ?_
  refine w_callV (As := []) lkX10_201 hX (dk DX10_longest 18 rfl) rfl rfl (by simp [Value.category]) hN (k_all (d + 109) sw f g) ?_
  show WP _ _ _ 35 [_, _, _, _] [_, _] _
  rw [hs.1.1]
  refine w_callVQ (As := [_]) lkX10_207 hX (dk DX10_longest 19 rfl) rfl rfl (by decide) hN (k_measure (d + 107) sw f g n sh _ hs) (fun v_ sw_ f_ g_ hq_ => ?_)
  obtain ⟨rfl, rfl, rfl, hf, hl⟩ := hq_
  show WP _ _ _ 38 [_, _, _, _] [] _
  refine wp_iload_n hX (dk DX10_longest 20 rfl) rfl ?_
  refine wp_iconst (v := -1) hX (dk DX10_longest 21 rfl) (by decide) ?_
  refine wp_icmp_ne (tgt := 54) hX (dk DX10_longest 22 rfl) (by decide) (fun h40 => ?_) (fun h40 => ?_)
  · refine wp_aload_n hX (dk DX10_longest 28 rfl) rfl ?_
    refine w_getr hX flX10_35 (dk DX10_longest 29 rfl) rfl rfl ?_
    refine wp_iload_n hX (dk DX10_longest 30 rfl) rfl ?_
    refine wp_iload_n hX (dk DX10_longest 31 rfl) rfl ?_
    refine w_callV (As := [_, _]) lkX10_214 hX (dk DX10_longest 32 rfl) rfl rfl (by decide) hN (k_inLongest (d + 107) _ f_ _ n _ k (by rw [hf 1 (by decide)]; exact hs.1.1) hn10) ?_
    show WP _ _ _ 63 [_, _, _, _] [_] _
    exact wp_ireturn hX hR (dk DX10_longest 33 rfl) rfl (Nat.le_refl _) (Nat.le_refl _) (⟨_, _, _, rfl, by first | rw [if_pos h40, jmx_LG hs hl] | rw [if_neg h40, hf 4 (by decide), jil_cong (by omega) (fun j hj => lenOk_LN hs hl j hj)], rfl, fun b h1 h2 h3 => hf b (by omega), fun i _ => by rw [hf 49 (by decide)]⟩)
  · refine wp_aload_n hX (dk DX10_longest 23 rfl) rfl ?_
    refine w_getr hX flX10_35 (dk DX10_longest 24 rfl) rfl rfl ?_
    refine wp_iload_n hX (dk DX10_longest 25 rfl) rfl ?_
    refine w_callV (As := [_]) lkX10_211 hX (dk DX10_longest 26 rfl) rfl rfl (by decide) hN (k_longestOf (d + 108) _ f_ _ n _ (by rw [hf 1 (by decide)]; exact hs.1.1) hn10) ?_
    show WP _ _ _ 51 [_, _, _, _] [_] _
    refine wp_goto (tgt := 63) hX (dk DX10_longest 27 rfl) (by decide) ?_
    exact wp_ireturn hX hR (dk DX10_longest 33 rfl) rfl (Nat.le_refl _) (Nat.le_refl _) (⟨_, _, _, rfl, by first | rw [if_pos h40, jmx_LG hs hl] | rw [if_neg h40, hf 4 (by decide), jil_cong (by omega) (fun j hj => lenOk_LN hs hl j hj)], rfl, fun b h1 h2 h3 => hf b (by omega), fun i _ => by rw [hf 49 (by decide)]⟩)
theorem t_richest0 (d : Nat) (sw : Bool) (f : Nat → Nat → Int32) (g : Nat → Nat → Int64) (m : Nat) (x y k : Int32) (hm : f 61 6 = nI m) (hm6 : m ≤ 6) (h : ¬ ((∃ b, b < m ∧ x = nI b) ∧ (∃ z, z < 100 ∧ y = nI z) ∧ -1 ≤ k)) : CT (d + 110) 0 0 iX10_richest [.ref 0, .int x, .int y, .int k] (S sw f g) (rdC g f (-1)) := by
  refine CT.rdC ?_
  refine CT.of rfl (Nat.le_of_ble_eq_true rfl) (fun X hX hR hN _ => ?_)
  have hX : Good X RX10 cX10_richest (d + 110) 0 0 := hX
  have hN : x_nl X = 5 := hN
  show WP X 0 0 0 [_, _, _, _, _] [] _
  by_cases c : ∃ z, z < 100 ∧ y = nI z
  · obtain ⟨z, hz, rfl⟩ := c
    refine wp_aload_n hX (dk DX10_richest 0 rfl) rfl ?_
    refine w_getr hX flX10_51 (dk DX10_richest 1 rfl) rfl rfl ?_
    refine wp_iload_n hX (dk DX10_richest 2 rfl) rfl ?_
    refine w_callV (As := [_]) lkX10_127 hX (dk DX10_richest 3 rfl) rfl rfl (by decide) hN (k_yhas (d + 109) sw f g x) ?_
    show WP _ _ _ 8 [_, _, _, _, _] [_] _
    rw [hm]
    refine wp_if_eq (tgt := 23) hX (dk DX10_richest 4 rfl) (by decide) (fun h8 => ?_) (fun h8 => ?_)
    · refine wp_iconst (v := -1) hX (dk DX10_richest 11 rfl) (by decide) ?_
      exact wp_ireturn hX hR (dk DX10_richest 12 rfl) rfl (Nat.le_refl _) (Nat.le_refl _) (⟨rfl, rfl⟩)
    · refine wp_iload_n hX (dk DX10_richest 5 rfl) rfl ?_
      refine w_callS (As := [_]) lkX10_149 hX (dk DX10_richest 6 rfl) rfl (by decide) (k_isYear1 (d + 109) z _ hz) ?_
      show WP _ _ _ 15 [_, _, _, _, _] [_] _
      refine wp_if_eq (tgt := 23) hX (dk DX10_richest 7 rfl) (by decide) (fun h_ => absurd h_ (by decide)) (fun _ => ?_)
      refine wp_iload_n hX (dk DX10_richest 8 rfl) rfl ?_
      refine wp_iconst (v := -1) hX (dk DX10_richest 9 rfl) (by decide) ?_
      refine wp_icmp_ge (tgt := 25) hX (dk DX10_richest 10 rfl) (by decide) (fun h20 => ?_) (fun h20 => ?_)
      · exact absurd ⟨jin_ex (by omega) h8, ⟨z, hz, rfl⟩, h20⟩ h
      · refine wp_iconst (v := -1) hX (dk DX10_richest 11 rfl) (by decide) ?_
        exact wp_ireturn hX hR (dk DX10_richest 12 rfl) rfl (Nat.le_refl _) (Nat.le_refl _) (⟨rfl, rfl⟩)
  · refine wp_aload_n hX (dk DX10_richest 0 rfl) rfl ?_
    refine w_getr hX flX10_51 (dk DX10_richest 1 rfl) rfl rfl ?_
    refine wp_iload_n hX (dk DX10_richest 2 rfl) rfl ?_
    refine w_callV (As := [_]) lkX10_127 hX (dk DX10_richest 3 rfl) rfl rfl (by decide) hN (k_yhas (d + 109) sw f g x) ?_
    show WP _ _ _ 8 [_, _, _, _, _] [_] _
    rw [hm]
    refine wp_if_eq (tgt := 23) hX (dk DX10_richest 4 rfl) (by decide) (fun h8 => ?_) (fun h8 => ?_)
    · refine wp_iconst (v := -1) hX (dk DX10_richest 11 rfl) (by decide) ?_
      exact wp_ireturn hX hR (dk DX10_richest 12 rfl) rfl (Nat.le_refl _) (Nat.le_refl _) (⟨rfl, rfl⟩)
    · refine wp_iload_n hX (dk DX10_richest 5 rfl) rfl ?_
      refine w_callS (As := [_]) lkX10_149 hX (dk DX10_richest 6 rfl) rfl (by decide) (k_isYear0 (d + 109) y _ c) ?_
      show WP _ _ _ 15 [_, _, _, _, _] [_] _
      refine wp_if_eq (tgt := 23) hX (dk DX10_richest 7 rfl) (by decide) (fun _ => ?_) (fun h_ => absurd (rfl) h_)
      refine wp_iconst (v := -1) hX (dk DX10_richest 11 rfl) (by decide) ?_
      exact wp_ireturn hX hR (dk DX10_richest 12 rfl) rfl (Nat.le_refl _) (Nat.le_refl _) (⟨rfl, rfl⟩)
theorem t_richest1 (d : Nat) (sw : Bool) (f : Nat → Nat → Int32) (g : Nat → Nat → Int64) (n m b y : Nat) (sh : Nat → Int32) (L : List (List Nat × List Nat)) (k : Int32) (hs : stk f n sh) (hr : rlOk f L) (hm : f 61 6 = nI m) (hm6 : m ≤ 6) (hb : b < m) (hy : y < 100) (hk : -1 ≤ k) : CT (d + 110) 0 0 iX10_richest [.ref 0, .int (nI b), .int (nI y), .int k] (S sw f g) (rdC g f (if k = -1 then (rC (rS (jwp f L sh (nI y)) (f 4) n 10) (jfo sh n (f 62 b)) n).2.1 else rI (rS (jwp f L sh (nI y)) (f 4) n) (f 4) n k 10 (jfo sh n (f 62 b)))) := by
  have hn10 := hs.1.2.1
  refine CT.of rfl (Nat.le_of_ble_eq_true rfl) (fun X hX hR hN _ => ?_)
  have hX : Good X RX10 cX10_richest (d + 110) 0 0 := hX
  have hN : x_nl X = 5 := hN
  show WP X 0 0 0 [_, _, _, _, _] [] _
  refine wp_aload_n hX (dk DX10_richest 0 rfl) rfl ?_
  refine w_getr hX flX10_51 (dk DX10_richest 1 rfl) rfl rfl ?_
  refine wp_iload_n hX (dk DX10_richest 2 rfl) rfl ?_
  refine w_callV (As := [_]) lkX10_127 hX (dk DX10_richest 3 rfl) rfl rfl (by decide) hN (k_yhas (d + 109) sw f g (nI b)) ?_
  show WP _ _ _ 8 [_, _, _, _, _] [_] _
  rw [hm, jin_1 (by omega) hb rfl]
  refine wp_if_eq (tgt := 23) hX (dk DX10_richest 4 rfl) (by decide) (fun h_ => absurd h_ (by decide)) (fun _ => ?_)
  refine wp_iload_n hX (dk DX10_richest 5 rfl) rfl ?_
  refine w_callS (As := [_]) lkX10_149 hX (dk DX10_richest 6 rfl) rfl (by decide) (k_isYear1 (d + 109) y _ hy) ?_
  show WP _ _ _ 15 [_, _, _, _, _] [_] _
  refine wp_if_eq (tgt := 23) hX (dk DX10_richest 7 rfl) (by decide) (fun h_ => absurd h_ (by decide)) (fun _ => ?_)
  refine wp_iload_n hX (dk DX10_richest 8 rfl) rfl ?_
  refine wp_iconst (v := -1) hX (dk DX10_richest 9 rfl) (by decide) ?_
  refine wp_icmp_ge (tgt := 25) hX (dk DX10_richest 10 rfl) (by decide) (fun _ => ?_) (fun h_ => absurd (hk) h_)
  refine wp_aload_n hX (dk DX10_richest 13 rfl) rfl ?_
  refine wp_iload_n hX (dk DX10_richest 14 rfl) rfl ?_
  refine w_callV (As := [_]) lkX10_204 hX (dk DX10_richest 15 rfl) rfl rfl (by decide) hN (k_firstOut (d + 106) sw f g n b sh hs.1 (by omega)) ?_
  show WP _ _ _ 30 [_, _, _, _, _] [_] _
  refine wp_istore hX (dk DX10_richest 16 rfl) rfl hN (Nat.le_of_ble_eq_true rfl) ?_
  show WP _ _ _ 32 [_, _, _, _, _] [] _
  refine wp_aload_n hX (dk DX10_richest 17 rfl) rfl ?_
  refine w_getr hX flX10_35 (dk DX10_richest 18 rfl) rfl rfl ?_
  refine wp_iload_n hX (dk DX10_richest 19 rfl) rfl ?_
  refine w_callVQ (As := [_]) lkX10_217 hX (dk DX10_richest 20 rfl) rfl rfl (by decide) hN (k_weigh (d + 104) sw f g n sh _ L hs.1 hr) (fun v_ sw_ f_ g_ hq_ => ?_)
  obtain ⟨rfl, rfl, rfl, hf, h49, hl⟩ := hq_
  show WP _ _ _ 40 [_, _, _, _, _] [] _
  refine wp_iload_n hX (dk DX10_richest 21 rfl) rfl ?_
  refine wp_iconst (v := -1) hX (dk DX10_richest 22 rfl) (by decide) ?_
  refine wp_icmp_ne (tgt := 57) hX (dk DX10_richest 23 rfl) (by decide) (fun h42 => ?_) (fun h42 => ?_)
  · refine wp_aload_n hX (dk DX10_richest 29 rfl) rfl ?_
    refine w_getr hX flX10_35 (dk DX10_richest 30 rfl) rfl rfl ?_
    refine wp_iload hX (dk DX10_richest 31 rfl) rfl ?_
    refine wp_iload_n hX (dk DX10_richest 32 rfl) rfl ?_
    refine w_callV (As := [_, _]) lkX10_223 hX (dk DX10_richest 33 rfl) rfl rfl (by decide) hN (k_inRichest (d + 107) _ f_ _ n _ k (jwp f L sh (nI y)) (by rw [hf 1 (by decide) (by decide) (by decide) (by decide) (by decide)]; exact hs.1.1) hn10 (fun p i hp hi => by rw [hf 4 (by decide) (by decide) (by decide) (by decide) (by decide)]; exact hl p i hp hi)) ?_
    show WP _ _ _ 67 [_, _, _, _, _] [_] _
    exact wp_ireturn hX hR (dk DX10_richest 34 rfl) rfl (Nat.le_refl _) (Nat.le_refl _) (⟨_, _, _, rfl, by first | rw [if_pos h42] | rw [if_neg h42, hf 4 (by decide) (by decide) (by decide) (by decide) (by decide)], rfl, fun b h1 h2 h3 => hf b h1 (by omega) (by omega) (by omega) (by omega), h49⟩)
  · refine wp_aload_n hX (dk DX10_richest 24 rfl) rfl ?_
    refine w_getr hX flX10_35 (dk DX10_richest 25 rfl) rfl rfl ?_
    refine wp_iload hX (dk DX10_richest 26 rfl) rfl ?_
    refine w_callV (As := [_]) lkX10_220 hX (dk DX10_richest 27 rfl) rfl rfl (by decide) hN (k_mostOf (d + 107) _ f_ _ n _ (jwp f L sh (nI y)) (f 4) (by rw [hf 1 (by decide) (by decide) (by decide) (by decide) (by decide)]; exact hs.1.1) hn10 (fun i hi => hl 0 i (by decide) hi)) ?_
    show WP _ _ _ 54 [_, _, _, _, _] [_] _
    refine wp_goto (tgt := 67) hX (dk DX10_richest 28 rfl) (by decide) ?_
    exact wp_ireturn hX hR (dk DX10_richest 34 rfl) rfl (Nat.le_refl _) (Nat.le_refl _) (⟨_, _, _, rfl, by first | rw [if_pos h42] | rw [if_neg h42, hf 4 (by decide) (by decide) (by decide) (by decide) (by decide)], rfl, fun b h1 h2 h3 => hf b h1 (by omega) (by omega) (by omega) (by omega), h49⟩)
/-- the longest row with both, out of the set s -/
def jwi (B : Nat → Int32) (n : Nat) (s : Int32) (a b : Nat) : Int32 := if ¬ jb s a = 0 ∧ ¬ jb s b = 0 ∧ ¬ jb (jou B n a) b = 0 then LG B n (jou B n a &&& jou B n b ||| ((1 : Int32) <<< (nI a &&& 31) ||| (1 : Int32) <<< (nI b &&& 31))) s else -2
theorem t_with0 (d : Nat) (sw : Bool) (f : Nat → Nat → Int32) (g : Nat → Nat → Int64) (n m : Nat) (x y : Int32) (hn : f 1 4 = nI n) (hn10 : n ≤ 10) (hm : f 61 6 = nI m) (hm6 : m ≤ 6) (h : ¬ ((∃ b, b < m ∧ x = nI b) ∧ two n y)) : CT (d + 110) 0 0 iX10_with [.ref 0, .int x, .int y] (S sw f g) (rdC g f (-1)) := by
  refine CT.rdC ?_
  refine CT.of rfl (Nat.le_of_ble_eq_true rfl) (fun X hX hR hN _ => ?_)
  have hX : Good X RX10 cX10_with (d + 110) 0 0 := hX
  have hN : x_nl X = 3 := hN
  show WP X 0 0 0 [_, _, _] [] _
  by_cases c : two n y
  · obtain ⟨a, b, ha, hb, hab, ha10, hb10, rfl⟩ := c
    refine wp_aload_n hX (dk DX10_with 0 rfl) rfl ?_
    refine w_getr hX flX10_51 (dk DX10_with 1 rfl) rfl rfl ?_
    refine wp_iload_n hX (dk DX10_with 2 rfl) rfl ?_
    refine w_callV (As := [_]) lkX10_127 hX (dk DX10_with 3 rfl) rfl rfl (by decide) hN (k_yhas (d + 109) sw f g x) ?_
    show WP _ _ _ 8 [_, _, _] [_] _
    rw [hm]
    refine wp_if_eq (tgt := 19) hX (dk DX10_with 4 rfl) (by decide) (fun h8 => ?_) (fun h8 => ?_)
    · refine wp_iconst (v := -1) hX (dk DX10_with 9 rfl) (by decide) ?_
      exact wp_ireturn hX hR (dk DX10_with 10 rfl) rfl (Nat.le_refl _) (Nat.le_refl _) (⟨rfl, rfl⟩)
    · refine wp_aload_n hX (dk DX10_with 5 rfl) rfl ?_
      refine wp_iload_n hX (dk DX10_with 6 rfl) rfl ?_
      refine w_callV (As := [_]) lkX10_188 hX (dk DX10_with 7 rfl) rfl rfl (by decide) hN (k_is21 (d + 108) sw f g n a b hn hn10 ha hb hab) ?_
      show WP _ _ _ 16 [_, _, _] [_] _
      refine wp_if_ne (tgt := 21) hX (dk DX10_with 8 rfl) (by decide) (fun _ => ?_) (fun h_ => absurd h_ (by decide))
      exact absurd ⟨jin_ex (by omega) h8, a, b, ha, hb, hab, ha10, hb10, rfl⟩ h
  · refine wp_aload_n hX (dk DX10_with 0 rfl) rfl ?_
    refine w_getr hX flX10_51 (dk DX10_with 1 rfl) rfl rfl ?_
    refine wp_iload_n hX (dk DX10_with 2 rfl) rfl ?_
    refine w_callV (As := [_]) lkX10_127 hX (dk DX10_with 3 rfl) rfl rfl (by decide) hN (k_yhas (d + 109) sw f g x) ?_
    show WP _ _ _ 8 [_, _, _] [_] _
    rw [hm]
    refine wp_if_eq (tgt := 19) hX (dk DX10_with 4 rfl) (by decide) (fun h8 => ?_) (fun h8 => ?_)
    · refine wp_iconst (v := -1) hX (dk DX10_with 9 rfl) (by decide) ?_
      exact wp_ireturn hX hR (dk DX10_with 10 rfl) rfl (Nat.le_refl _) (Nat.le_refl _) (⟨rfl, rfl⟩)
    · refine wp_aload_n hX (dk DX10_with 5 rfl) rfl ?_
      refine wp_iload_n hX (dk DX10_with 6 rfl) rfl ?_
      refine w_callV (As := [_]) lkX10_188 hX (dk DX10_with 7 rfl) rfl rfl (by decide) hN (k_is20 (d + 108) sw f g n y hn hn10 c) ?_
      show WP _ _ _ 16 [_, _, _] [_] _
      refine wp_if_ne (tgt := 21) hX (dk DX10_with 8 rfl) (by decide) (fun h_ => absurd (rfl) h_) (fun _ => ?_)
      refine wp_iconst (v := -1) hX (dk DX10_with 9 rfl) (by decide) ?_
      exact wp_ireturn hX hR (dk DX10_with 10 rfl) rfl (Nat.le_refl _) (Nat.le_refl _) (⟨rfl, rfl⟩)
theorem t_with1 (d : Nat) (sw : Bool) (f : Nat → Nat → Int32) (g : Nat → Nat → Int64) (n m q a b : Nat) (sh : Nat → Int32) (hs : stk f n sh) (hm : f 61 6 = nI m) (hm6 : m ≤ 6) (hq : q < m) (ha : a < n) (hb : b < n) (hab : a ≠ b) : CT (d + 110) 0 0 iX10_with [.ref 0, .int (nI q), .int (nI (10 * a + b))] (S sw f g) (rdC g f (jwi (f 4) n (jfo sh n (f 62 q)) a b)) := by
  have hn10 := hs.1.2.1
  refine CT.of rfl (Nat.le_of_ble_eq_true rfl) (fun X hX hR hN _ => ?_)
  have hX : Good X RX10 cX10_with (d + 110) 0 0 := hX
  have hN : x_nl X = 3 := hN
  show WP X 0 0 0 [_, _, _] [] _
  have pre : (WP X 0 0 38 [some (.ref 0), some (.int (nI q)), some (.int (nI (10 * a + b)))] [.int (nI b), .int (nI a), .int (jfo sh n (f 62 q)), .ref 53] (S sw f g)) → WP X 0 0 0 [some (.ref 0), some (.int (nI q)), some (.int (nI (10 * a + b)))] [] (S sw f g) := by
    intro k
    refine wp_aload_n hX (dk DX10_with 0 rfl) rfl ?_
    refine w_getr hX flX10_51 (dk DX10_with 1 rfl) rfl rfl ?_
    refine wp_iload_n hX (dk DX10_with 2 rfl) rfl ?_
    refine w_callV (As := [_]) lkX10_127 hX (dk DX10_with 3 rfl) rfl rfl (by decide) hN (k_yhas (d + 109) sw f g (nI q)) ?_
    show WP _ _ _ 8 [_, _, _] [_] _
    rw [hm, jin_1 (by omega) hq rfl]
    refine wp_if_eq (tgt := 19) hX (dk DX10_with 4 rfl) (by decide) (fun h_ => absurd h_ (by decide)) (fun _ => ?_)
    refine wp_aload_n hX (dk DX10_with 5 rfl) rfl ?_
    refine wp_iload_n hX (dk DX10_with 6 rfl) rfl ?_
    refine w_callV (As := [_]) lkX10_188 hX (dk DX10_with 7 rfl) rfl rfl (by decide) hN (k_is21 (d + 108) sw f g n a b hs.1.1 hn10 ha hb hab) ?_
    show WP _ _ _ 16 [_, _, _] [_] _
    refine wp_if_ne (tgt := 21) hX (dk DX10_with 8 rfl) (by decide) (fun _ => ?_) (fun h_ => absurd h_ (by decide))
    refine wp_aload_n hX (dk DX10_with 11 rfl) rfl ?_
    refine w_getr hX flX10_35 (dk DX10_with 12 rfl) rfl rfl ?_
    refine wp_aload_n hX (dk DX10_with 13 rfl) rfl ?_
    refine wp_iload_n hX (dk DX10_with 14 rfl) rfl ?_
    refine w_callV (As := [_]) lkX10_204 hX (dk DX10_with 15 rfl) rfl rfl (by simp [Value.category]) hN (k_firstOut (d + 106) sw f g n q sh hs.1 (by omega)) ?_
    show WP _ _ _ 30 [_, _, _] [_, _] _
    refine wp_iload_n hX (dk DX10_with 16 rfl) rfl ?_
    refine wp_bipush (v := 10) hX (dk DX10_with 17 rfl) (by decide) ?_
    refine wp_idiv hX (dk DX10_with 18 rfl) (by decide) ?_
    rw [dv10 (by omega) (by omega)]
    refine wp_iload_n hX (dk DX10_with 19 rfl) rfl ?_
    refine wp_bipush (v := 10) hX (dk DX10_with 20 rfl) (by decide) ?_
    refine wp_irem hX (dk DX10_with 21 rfl) (by decide) ?_
    rw [show nI (10 * a + b) - nI (10 * a + b) / 10 * 10 = nI b from rm10 (by omega) (by omega)]
    exact k
  refine pre ?_
  by_cases c : ¬ jb (jfo sh n (f 62 q)) a = 0 ∧ ¬ jb (jfo sh n (f 62 q)) b = 0 ∧ ¬ jb (jou (f 4) n a) b = 0
  · refine w_callVQ (As := [_, _, _]) lkX10_226 hX (dk DX10_with 22 rfl) rfl rfl (by decide) hN (k_longestWith (d + 106) sw f g n a b sh _ hs ha hb c.1 c.2.1 c.2.2) (fun v_ sw_ f_ g_ hq_ => ?_)
    obtain ⟨rfl, rfl, hf, hl, rfl⟩ := hq_
    show WP _ _ _ 41 [_, _, _] [_] _
    exact wp_ireturn hX hR (dk DX10_with 23 rfl) rfl (Nat.le_refl _) (Nat.le_refl _) (⟨_, _, _, rfl, by rw [jwi, if_pos c, jmx_LG hs hl], rfl, fun b h1 h2 h3 => hf b (by omega), fun i _ => by rw [hf 49 (by decide)]⟩)
  · refine w_callV (As := [_, _, _]) lkX10_226 hX (dk DX10_with 22 rfl) rfl rfl (by decide) hN (k_longestWith0 (d + 106) sw f g n a b sh _ hs ha hb c) ?_
    show WP _ _ _ 41 [_, _, _] [_] _
    exact wp_ireturn hX hR (dk DX10_with 23 rfl) rfl (Nat.le_refl _) (Nat.le_refl _) (⟨_, _, _, rfl, by rw [jwi, if_neg c], rfl, qC.rf⟩)
/-- the first of least worth -/
def spF (v : Nat → Int32) : Nat → Nat × Int32
  | 0 => (0, v 0)
  | k + 1 => if v (k + 1) < (spF v k).2 then (k + 1, v (k + 1)) else spF v k
theorem t_spare0 (d : Nat) (sw : Bool) (f : Nat → Nat → Int32) (g : Nat → Nat → Int64) (m : Nat) (x y : Int32) (hm : f 61 6 = nI m) (hm6 : m ≤ 6) (h : ¬ ((∃ b, b < m ∧ x = nI b) ∧ ∃ w, w < 2 ∧ y = nI w)) : CT (d + 110) 0 0 iX10_spare [.ref 0, .int x, .int y] (S sw f g) (rdC g f (-1)) := by
  refine CT.rdC ?_
  refine CT.of rfl (Nat.le_of_ble_eq_true rfl) (fun X hX hR hN _ => ?_)
  have hX : Good X RX10 cX10_spare (d + 110) 0 0 := hX
  have hN : x_nl X = 8 := hN
  show WP X 0 0 0 [_, _, _, _, _, _, _, _] [] _
  refine wp_aload_n hX (dk DX10_spare 0 rfl) rfl ?_
  refine w_getr hX flX10_51 (dk DX10_spare 1 rfl) rfl rfl ?_
  refine wp_iload_n hX (dk DX10_spare 2 rfl) rfl ?_
  refine w_callV (As := [_]) lkX10_127 hX (dk DX10_spare 3 rfl) rfl rfl (by decide) hN (k_yhas (d + 109) sw f g x) ?_
  show WP _ _ _ 8 [_, _, _, _, _, _, _, _] [_] _
  rw [hm]
  refine wp_if_eq (tgt := 20) hX (dk DX10_spare 4 rfl) (by decide) (fun h8 => ?_) (fun h8 => ?_)
  · refine wp_iconst (v := -1) hX (dk DX10_spare 10 rfl) (by decide) ?_
    exact wp_ireturn hX hR (dk DX10_spare 11 rfl) rfl (Nat.le_refl _) (Nat.le_refl _) (⟨rfl, rfl⟩)
  · refine wp_iload_n hX (dk DX10_spare 5 rfl) rfl ?_
    refine wp_if_lt (tgt := 20) hX (dk DX10_spare 6 rfl) (by decide) (fun h12 => ?_) (fun h12 => ?_)
    · refine wp_iconst (v := -1) hX (dk DX10_spare 10 rfl) (by decide) ?_
      exact wp_ireturn hX hR (dk DX10_spare 11 rfl) rfl (Nat.le_refl _) (Nat.le_refl _) (⟨rfl, rfl⟩)
    · refine wp_iload_n hX (dk DX10_spare 7 rfl) rfl ?_
      refine wp_iconst (v := 1) hX (dk DX10_spare 8 rfl) (by decide) ?_
      refine wp_icmp_le (tgt := 22) hX (dk DX10_spare 9 rfl) (by decide) (fun h17 => ?_) (fun h17 => ?_)
      · exact absurd ⟨jin_ex (by omega) h8, by obtain ⟨w, h1, h2⟩ := rg_le2 (k := 1) (by decide) h12 h17; exact ⟨w, by omega, h2⟩⟩ h
      · refine wp_iconst (v := -1) hX (dk DX10_spare 10 rfl) (by decide) ?_
        exact wp_ireturn hX hR (dk DX10_spare 11 rfl) rfl (Nat.le_refl _) (Nat.le_refl _) (⟨rfl, rfl⟩)
theorem t_spareN (d : Nat) (sw : Bool) (f : Nat → Nat → Int32) (g : Nat → Nat → Int64) (m b w : Nat) (hn : f 1 4 = nI 0) (hm : f 61 6 = nI m) (hm6 : m ≤ 6) (hb : b < m) (hw : w < 2) : CT (d + 110) 0 0 iX10_spare [.ref 0, .int (nI b), .int (nI w)] (S sw f g) (rdC g f (-2)) := by
  refine CT.rdC ?_
  refine CT.of rfl (Nat.le_of_ble_eq_true rfl) (fun X hX hR hN _ => ?_)
  have hX : Good X RX10 cX10_spare (d + 110) 0 0 := hX
  have hN : x_nl X = 8 := hN
  show WP X 0 0 0 [_, _, _, _, _, _, _, _] [] _
  refine wp_aload_n hX (dk DX10_spare 0 rfl) rfl ?_
  refine w_getr hX flX10_51 (dk DX10_spare 1 rfl) rfl rfl ?_
  refine wp_iload_n hX (dk DX10_spare 2 rfl) rfl ?_
  refine w_callV (As := [_]) lkX10_127 hX (dk DX10_spare 3 rfl) rfl rfl (by decide) hN (k_yhas (d + 109) sw f g (nI b)) ?_
  show WP _ _ _ 8 [_, _, _, _, _, _, _, _] [_] _
  rw [hm, jin_1 (by omega) hb rfl]
  refine wp_if_eq (tgt := 20) hX (dk DX10_spare 4 rfl) (by decide) (fun h_ => absurd h_ (by decide)) (fun _ => ?_)
  refine wp_iload_n hX (dk DX10_spare 5 rfl) rfl ?_
  refine wp_if_lt (tgt := 20) hX (dk DX10_spare 6 rfl) (by decide) (fun h_ => absurd h_ (nI_pos (by omega))) (fun _ => ?_)
  refine wp_iload_n hX (dk DX10_spare 7 rfl) rfl ?_
  refine wp_iconst (v := 1) hX (dk DX10_spare 8 rfl) (by decide) ?_
  refine wp_icmp_le (tgt := 22) hX (dk DX10_spare 9 rfl) (by decide) (fun _ => ?_) (fun h_ => absurd (nI_le (b := 1) (by omega) (by omega)) h_)
  refine wp_aload_n hX (dk DX10_spare 12 rfl) rfl ?_
  refine w_getr hX flX10_10 (dk DX10_spare 13 rfl) rfl rfl ?_
  refine w_callV (As := []) lkX10_229 hX (dk DX10_spare 14 rfl) rfl rfl (by decide) hN (k_came (d + 109) sw f g) ?_
  show WP _ _ _ 29 [_, _, _, _, _, _, _, _] [_] _
  rw [hn]
  refine wp_if_ne (tgt := 35) hX (dk DX10_spare 15 rfl) (by decide) (fun h_ => absurd (rfl) h_) (fun _ => ?_)
  refine wp_bipush (v := -2) hX (dk DX10_spare 16 rfl) (by decide) ?_
  exact wp_ireturn hX hR (dk DX10_spare 17 rfl) rfl (Nat.le_refl _) (Nat.le_refl _) (⟨rfl, rfl⟩)
theorem t_spare1 (d : Nat) (sw : Bool) (f : Nat → Nat → Int32) (g : Nat → Nat → Int64) (n m b w : Nat) (sh : Nat → Int32) (hs : stk f n sh) (hn0 : 0 < n) (hm : f 61 6 = nI m) (hm6 : m ≤ 6) (hb : b < m) (hw : w < 2) : CT (d + 110) 0 0 iX10_spare [.ref 0, .int (nI b), .int (nI w)] (S sw f g) (rdC g f (if w = 0 then nI (spF (fun i => LG (f 4) n (jall (nI n) &&& (((1 : Int32) <<< (nI i &&& 31)) ^^^ (-1))) (jfo sh n (f 62 b))) (n - 1)).1 else (spF (fun i => LG (f 4) n (jall (nI n) &&& (((1 : Int32) <<< (nI i &&& 31)) ^^^ (-1))) (jfo sh n (f 62 b))) (n - 1)).2)) := by
  have hn10 := hs.1.2.1
  obtain ⟨v, hv⟩ : ∃ v : Nat → Int32, v = fun i => LG (f 4) n (jall (nI n) &&& (((1 : Int32) <<< (nI i &&& 31)) ^^^ (-1))) (jfo sh n (f 62 b)) := ⟨_, rfl⟩
  rw [← hv]
  refine CT.of rfl (Nat.le_of_ble_eq_true rfl) (fun X hX hR hN _ => ?_)
  have hX : Good X RX10 cX10_spare (d + 110) 0 0 := hX
  have hN : x_nl X = 8 := hN
  show WP X 0 0 0 [_, _, _, _, _, _, _, _] [] _
  have lo : ∀ (q i : Nat) (f2 : Nat → Nat → Int32) (z : Option Value), i + 1 + q = n → (∀ c, c ≠ 54 → f2 c = f c) → WP X 0 0 58 [some (.ref 0), some (.int (nI b)), some (.int (nI w)), some (.int (jfo sh n (f 62 b))), some (.int (nI (spF v i).1)), some (.int (spF v i).2), some (.int (nI (i + 1))), z] [] (S sw f2 g) := by
    intro q
    induction q with
    | zero =>
      intro i f2 z hi hf
      obtain rfl : i = n - 1 := by omega
      refine wp_iload hX (dk DX10_spare 32 rfl) rfl ?_
      refine wp_aload_n hX (dk DX10_spare 33 rfl) rfl ?_
      refine w_getr hX flX10_10 (dk DX10_spare 34 rfl) rfl rfl ?_
      refine w_callV (As := []) lkX10_229 hX (dk DX10_spare 35 rfl) rfl rfl (by simp [Value.category]) hN (k_came (d + 109) sw f2 g) ?_
      show WP _ _ _ 67 [_, _, _, _, _, _, _, _] [_, _] _
      refine wp_icmp_ge (tgt := 103) hX (dk DX10_spare 36 rfl) (by decide) (fun _ => ?_) (fun h_ => absurd (by rw [hf 1 (by decide), hs.1.1]; exact nI_le (by omega) (by omega)) h_)
      refine wp_iload_n hX (dk DX10_spare 52 rfl) rfl ?_
      refine wp_if_ne (tgt := 112) hX (dk DX10_spare 53 rfl) (by decide) (fun h104 => ?_) (fun h104 => ?_)
      · refine wp_iload hX (dk DX10_spare 56 rfl) rfl ?_
        exact wp_ireturn hX hR (dk DX10_spare 57 rfl) rfl (Nat.le_refl _) (Nat.le_refl _) (⟨_, _, _, rfl, by simp only [nIz (show w < 2 ^ 31 by omega)] at h104; simp [h104], rfl, fun b h1 h2 h3 => hf b (by omega), fun i _ => by rw [hf 49 (by decide)]⟩)
      · refine wp_iload hX (dk DX10_spare 54 rfl) rfl ?_
        refine wp_goto (tgt := 114) hX (dk DX10_spare 55 rfl) (by decide) ?_
        exact wp_ireturn hX hR (dk DX10_spare 57 rfl) rfl (Nat.le_refl _) (Nat.le_refl _) (⟨_, _, _, rfl, by simp only [nIz (show w < 2 ^ 31 by omega)] at h104; simp [h104], rfl, fun b h1 h2 h3 => hf b (by omega), fun i _ => by rw [hf 49 (by decide)]⟩)
    | succ q ih =>
      intro i f2 z hi hf
      have hs2 : stk f2 n sh := hs.at54 hf
      refine wp_iload hX (dk DX10_spare 32 rfl) rfl ?_
      refine wp_aload_n hX (dk DX10_spare 33 rfl) rfl ?_
      refine w_getr hX flX10_10 (dk DX10_spare 34 rfl) rfl rfl ?_
      refine w_callV (As := []) lkX10_229 hX (dk DX10_spare 35 rfl) rfl rfl (by simp [Value.category]) hN (k_came (d + 109) sw f2 g) ?_
      show WP _ _ _ 67 [_, _, _, _, _, _, _, _] [_, _] _
      refine wp_icmp_ge (tgt := 103) hX (dk DX10_spare 36 rfl) (by decide) (fun h_ => absurd h_ (by rw [hf 1 (by decide), hs.1.1]; exact nI_ge (by omega) (by omega))) (fun _ => ?_)
      refine wp_aload_n hX (dk DX10_spare 37 rfl) rfl ?_
      refine w_getr hX flX10_35 (dk DX10_spare 38 rfl) rfl rfl ?_
      refine wp_iload_n hX (dk DX10_spare 39 rfl) rfl ?_
      refine wp_iload hX (dk DX10_spare 40 rfl) rfl ?_
      refine w_callVQ (As := [_, _]) lkX10_232 hX (dk DX10_spare 41 rfl) rfl rfl (by decide) hN (k_longestWithout (d + 106) sw f2 g n (i + 1) sh _ hs2) (fun v_ sw_ f_ g_ hq_ => ?_)
      obtain ⟨rfl, rfl, hf2, hl, rfl⟩ := hq_
      rw [jmx_LG hs2 (al := jall (nI n) &&& (((1 : Int32) <<< (nI (i + 1) &&& 31)) ^^^ (-1))) hl, hf 4 (by decide), show LG (f 4) n (jall (nI n) &&& (((1 : Int32) <<< (nI (i + 1) &&& 31)) ^^^ (-1))) (jfo sh n (f 62 b)) = v (i + 1) by rw [hv]]
      show WP _ _ _ 80 [_, _, _, _, _, _, _, _] [_] _
      refine wp_istore hX (dk DX10_spare 42 rfl) rfl hN (Nat.le_of_ble_eq_true rfl) ?_
      show WP _ _ _ 82 [_, _, _, _, _, _, _, _] [] _
      refine wp_iload hX (dk DX10_spare 43 rfl) rfl ?_
      refine wp_iload hX (dk DX10_spare 44 rfl) rfl ?_
      refine wp_icmp_ge (tgt := 97) hX (dk DX10_spare 45 rfl) (by decide) (fun h86 => ?_) (fun h86 => ?_)
      · refine wp_iinc hX (dk DX10_spare 50 rfl) rfl (nI_inc _) rfl hN ?_
        show WP _ _ _ 100 [_, _, _, _, _, _, _, _] [] _
        refine wp_goto (tgt := 58) hX (dk DX10_spare 51 rfl) (by decide) ?_
        have := ih (i + 1) _ (some (.int (v (i + 1)))) (by omega) (fun c hc => (hf2 c hc).trans (hf c hc))
        rw [spF] at this
        first | rw [if_neg (Int32.not_lt.mpr h86)] at this; exact this | rw [if_pos (Int32.not_le.mp h86)] at this; exact this
      · refine wp_iload hX (dk DX10_spare 46 rfl) rfl ?_
        refine wp_istore hX (dk DX10_spare 47 rfl) rfl hN (Nat.le_of_ble_eq_true rfl) ?_
        show WP _ _ _ 93 [_, _, _, _, _, _, _, _] [] _
        refine wp_iload hX (dk DX10_spare 48 rfl) rfl ?_
        refine wp_istore hX (dk DX10_spare 49 rfl) rfl hN (Nat.le_of_ble_eq_true rfl) ?_
        show WP _ _ _ 97 [_, _, _, _, _, _, _, _] [] _
        refine wp_iinc hX (dk DX10_spare 50 rfl) rfl (nI_inc _) rfl hN ?_
        show WP _ _ _ 100 [_, _, _, _, _, _, _, _] [] _
        refine wp_goto (tgt := 58) hX (dk DX10_spare 51 rfl) (by decide) ?_
        have := ih (i + 1) _ (some (.int (v (i + 1)))) (by omega) (fun c hc => (hf2 c hc).trans (hf c hc))
        rw [spF] at this
        first | rw [if_neg (Int32.not_lt.mpr h86)] at this; exact this | rw [if_pos (Int32.not_le.mp h86)] at this; exact this
  refine wp_aload_n hX (dk DX10_spare 0 rfl) rfl ?_
  refine w_getr hX flX10_51 (dk DX10_spare 1 rfl) rfl rfl ?_
  refine wp_iload_n hX (dk DX10_spare 2 rfl) rfl ?_
  refine w_callV (As := [_]) lkX10_127 hX (dk DX10_spare 3 rfl) rfl rfl (by decide) hN (k_yhas (d + 109) sw f g (nI b)) ?_
  show WP _ _ _ 8 [_, _, _, _, _, _, _, _] [_] _
  rw [hm, jin_1 (by omega) hb rfl]
  refine wp_if_eq (tgt := 20) hX (dk DX10_spare 4 rfl) (by decide) (fun h_ => absurd h_ (by decide)) (fun _ => ?_)
  refine wp_iload_n hX (dk DX10_spare 5 rfl) rfl ?_
  refine wp_if_lt (tgt := 20) hX (dk DX10_spare 6 rfl) (by decide) (fun h_ => absurd h_ (nI_pos (by omega))) (fun _ => ?_)
  refine wp_iload_n hX (dk DX10_spare 7 rfl) rfl ?_
  refine wp_iconst (v := 1) hX (dk DX10_spare 8 rfl) (by decide) ?_
  refine wp_icmp_le (tgt := 22) hX (dk DX10_spare 9 rfl) (by decide) (fun _ => ?_) (fun h_ => absurd (nI_le (b := 1) (by omega) (by omega)) h_)
  refine wp_aload_n hX (dk DX10_spare 12 rfl) rfl ?_
  refine w_getr hX flX10_10 (dk DX10_spare 13 rfl) rfl rfl ?_
  refine w_callV (As := []) lkX10_229 hX (dk DX10_spare 14 rfl) rfl rfl (by decide) hN (k_came (d + 109) sw f g) ?_
  show WP _ _ _ 29 [_, _, _, _, _, _, _, _] [_] _
  rw [hs.1.1]
  refine wp_if_ne (tgt := 35) hX (dk DX10_spare 15 rfl) (by decide) (fun _ => ?_) (fun h_ => absurd h_ (nI_ne0 hn0 (by omega)))
  refine wp_aload_n hX (dk DX10_spare 18 rfl) rfl ?_
  refine wp_iload_n hX (dk DX10_spare 19 rfl) rfl ?_
  refine w_callV (As := [_]) lkX10_204 hX (dk DX10_spare 20 rfl) rfl rfl (by decide) hN (k_firstOut (d + 106) sw f g n b sh hs.1 (by omega)) ?_
  show WP _ _ _ 40 [_, _, _, _, _, _, _, _] [_] _
  refine wp_istore_n hX (dk DX10_spare 21 rfl) rfl rfl hN (Nat.le_of_ble_eq_true rfl) ?_
  show WP _ _ _ 41 [_, _, _, _, _, _, _, _] [] _
  refine wp_iconst (v := 0) hX (dk DX10_spare 22 rfl) (by decide) ?_
  refine wp_istore hX (dk DX10_spare 23 rfl) rfl hN (Nat.le_of_ble_eq_true rfl) ?_
  show WP _ _ _ 44 [_, _, _, _, _, _, _, _] [] _
  refine wp_aload_n hX (dk DX10_spare 24 rfl) rfl ?_
  refine w_getr hX flX10_35 (dk DX10_spare 25 rfl) rfl rfl ?_
  refine wp_iload_n hX (dk DX10_spare 26 rfl) rfl ?_
  refine wp_iconst (v := 0) hX (dk DX10_spare 27 rfl) (by decide) ?_
  refine w_callVQ (As := [_, _]) lkX10_232 hX (dk DX10_spare 28 rfl) rfl rfl (by decide) hN (k_longestWithout (d + 106) sw f g n 0 sh _ hs) (fun v_ sw_ f_ g_ hq_ => ?_)
  obtain ⟨rfl, rfl, hf2, hl, rfl⟩ := hq_
  rw [jmx_LG hs (al := jall (nI n) &&& (((1 : Int32) <<< (nI 0 &&& 31)) ^^^ (-1))) hl, show LG (f 4) n (jall (nI n) &&& (((1 : Int32) <<< (nI 0 &&& 31)) ^^^ (-1))) (jfo sh n (f 62 b)) = v 0 by rw [hv]]
  show WP _ _ _ 53 [_, _, _, _, _, _, _, _] [_] _
  refine wp_istore hX (dk DX10_spare 29 rfl) rfl hN (Nat.le_of_ble_eq_true rfl) ?_
  show WP _ _ _ 55 [_, _, _, _, _, _, _, _] [] _
  refine wp_iconst (v := 1) hX (dk DX10_spare 30 rfl) (by decide) ?_
  refine wp_istore hX (dk DX10_spare 31 rfl) rfl hN (Nat.le_of_ble_eq_true rfl) ?_
  show WP _ _ _ 58 [_, _, _, _, _, _, _, _] [] _
  exact lo (n - 1) 0 _ none (by omega) hf2
