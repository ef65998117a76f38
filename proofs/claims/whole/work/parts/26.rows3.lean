/-! ROWS: the richest, those drawn -/
/-- the best to go on with, out of the set s: what comes most, of like ones the shortest, the first -/
def rC (t : Nat → Int32 × Int32) (s : Int32) : Nat → Option Nat × Int32 × Int32
  | 0 => (none, 0, 0)
  | i + 1 => if ¬ jb s i = 0 ∧ ((rC t s i).2.1 < (t i).1 ∨ ((t i).1 = (rC t s i).2.1 ∧ (t i).2 < (rC t s i).2.2)) then (some i, (t i).1, (t i).2) else rC t s i
def rE : Option Nat → Int32
  | none => -2
  | some j => nI j
theorem rC_in {t : Nat → Int32 × Int32} {s : Int32} : ∀ (n : Nat), (rC t s n = (none, 0, 0)) ∨ ∃ j, j < n ∧ (rC t s n).1 = some j ∧ (rC t s n).2 = t j ∧ ¬ jb s j = 0
  | 0 => Or.inl rfl
  | n + 1 => by
    rw [rC]
    split
    · next c => exact Or.inr ⟨n, by omega, rfl, rfl, c.1⟩
    · rcases rC_in (t := t) (s := s) n with h | ⟨j, h1, h2, h3, h4⟩
      · exact Or.inl h
      · exact Or.inr ⟨j, by omega, h2, h3, h4⟩
theorem rC_cong {t u : Nat → Int32 × Int32} {s : Int32} : ∀ (n : Nat), (∀ j, j < n → t j = u j) → rC t s n = rC u s n
  | 0, _ => rfl
  | n + 1, h => by rw [rC, rC, rC_cong n (fun j hj => h j (by omega)), h n (by omega)]
def rcE (q : Option Nat × Int32 × Int32) : Int32 × Int32 × Int32 := (rE q.1, q.2)
theorem jrn_rC {sm sp : Nat → Int32} {s : Int32} {p : Nat} : ∀ (k i : Nat), jrn sm sp s p k i (rcE (rC (fun j => (sm (p * 10 + j), sp (p * 10 + j))) s i)) = rcE (rC (fun j => (sm (p * 10 + j), sp (p * 10 + j))) s (i + k))
  | 0, _ => rfl
  | k + 1, i => by
    rw [jrn, show i + (k + 1) = (i + 1) + k by omega, ← jrn_rC k (i + 1)]
    congr 1
    rw [rC]
    by_cases c : ¬ jb s i = 0 ∧ ((rC (fun j => (sm (p * 10 + j), sp (p * 10 + j))) s i).2.1 < sm (p * 10 + i) ∨ (sm (p * 10 + i) = (rC (fun j => (sm (p * 10 + j), sp (p * 10 + j))) s i).2.1 ∧ sp (p * 10 + i) < (rC (fun j => (sm (p * 10 + j), sp (p * 10 + j))) s i).2.2))
    · rw [if_pos c]; exact if_pos c
    · rw [if_neg c]; exact if_neg c
theorem jrn_0 {sm sp : Nat → Int32} {s : Int32} {p n : Nat} {t : Nat → Int32 × Int32} (h : ∀ j, j < n → (sm (p * 10 + j), sp (p * 10 + j)) = t j) : (jrn sm sp s p n 0 (-2, 0, 0)).1 = rE (rC t s n).1 := by
  have := jrn_rC (sm := sm) (sp := sp) (s := s) (p := p) n 0
  rw [Nat.zero_add] at this
  rw [show ((-2, 0, 0) : Int32 × Int32 × Int32) = rcE (rC (fun j => (sm (p * 10 + j), sp (p * 10 + j))) s 0) from rfl, this, rC_cong n h]
  rfl
/-- with k places left (from place 10 - k on) the most that comes with figure i first, how many cuts -/
def rS (W : Nat → Nat → Int32) (B : Nat → Int32) (n : Nat) : Nat → Nat → Int32 × Int32
  | 0, _ => (0, 0)
  | k + 1, i => if k = 0 then (W i 9, 1) else match (rC (rS W B n k) (B i) n).1 with
    | none => (W i (9 - k), 1)
    | some j => (W i (9 - k) + (rS W B n k j).1, 1 + (rS W B n k j).2)
def rI (R : Nat → Nat → Int32 × Int32) (B : Nat → Int32) (n : Nat) (k : Int32) : Nat → Int32 → Int32
  | 0, _ => -2
  | m + 1, s => match (rC (R (m + 1)) s n).1 with
    | none => -2
    | some j => if nI (9 - m) = k then nI j else rI R B n k m (B j)
/-- the rows of the class hold them -/
def rkOk (f : Nat → Nat → Int32) (W : Nat → Nat → Int32) (B : Nat → Int32) (n p i : Nat) : Prop := (f 55 (p * 10 + i), f 56 (p * 10 + i)) = rS W B n (10 - p) i
/-- what figure i brings at place p, from year y on -/
def jwp (f : Nat → Nat → Int32) (L : List (List Nat × List Nat)) (sh : Nat → Int32) (y : Int32) (i p : Nat) : Int32 := jbr L (f 3 (i * 3)) (f 3 (i * 3 + 1)) (f 3 (i * 3 + 2)) (sh i) (nI i) (y + nI p) (nI p)
theorem rE_ne (j : Nat) (h : j < 2 ^ 31) : ¬ nI j = -2 := fun q => by
  have := nI_pos h
  rw [q] at this
  exact this (by decide)
theorem k_weigh (d : Nat) (sw : Bool) (f : Nat → Nat → Int32) (g : Nat → Nat → Int64) (n : Nat) (sh : Nat → Int32) (y : Int32) (L : List (List Nat × List Nat)) (hs : stF f n sh) (hr : rlOk f L) : CT (d + 5) 0 0 iX2_weigh [.ref 53, .int y] (S sw f g) (QS (fun r sw2 f2 g2 => r = none ∧ sw2 = sw ∧ g2 = g ∧ (∀ b, b ≠ 49 → b ≠ 51 → b ≠ 52 → b ≠ 55 → b ≠ 56 → f2 b = f b) ∧ (∀ i, i ≠ 4 → f2 49 i = f 49 i) ∧ ∀ p i, p < 10 → i < n → rkOk f2 (jwp f L sh y) (f 4) n p i)) := by
  have hn := hs.1
  have hn10 := hs.2.1
  refine CT.of rfl (Nat.le_of_ble_eq_true rfl) (fun X hX hR hN _ => ?_)
  have hX : Good X RX2 cX2_weigh (d + 5) 0 0 := hX
  have hN : x_nl X = 6 := hN
  show WP X 0 0 0 [_, _, _, _, _, _] [] _
  refine wp_bipush (v := 9) hX (dk DX2_weigh 0 rfl) (by decide) ?_
  refine wp_istore_n hX (dk DX2_weigh 1 rfl) rfl rfl hN (Nat.le_of_ble_eq_true rfl) ?_
  show WP _ _ _ 3 [_, _, _, _, _, _] [] _
  -- what is as it was
  have lo : ∀ (q : Nat) (f2 : Nat → Nat → Int32) (z1 z2 z3 : Option Value), q ≤ 10 → (∀ b, b ≠ 49 → b ≠ 51 → b ≠ 52 → b ≠ 55 → b ≠ 56 → f2 b = f b) → (∀ i, i ≠ 4 → f2 49 i = f 49 i) → (∀ p i, q ≤ p → p < 10 → i < n → rkOk f2 (jwp f L sh y) (f 4) n p i) → WP X 0 0 3 [some (.ref 53), some (.int y), some (.int (nI q - 1)), z1, z2, z3] [] (S sw f2 g) := by
    intro q
    induction q with
    | zero =>
      intro f2 z1 z2 z3 hq hf h49 hk
      refine wp_iload_n hX (dk DX2_weigh 2 rfl) rfl ?_
      refine wp_if_lt (tgt := 145) hX (dk DX2_weigh 3 rfl) (by decide) (fun _ => ?_) (fun h_ => absurd ((by decide)) h_)
      exact wp_return hX hR (dk DX2_weigh_1 27 rfl) (Nat.le_refl _) (Nat.le_refl _) (⟨_, _, _, rfl, rfl, rfl, rfl, hf, h49, fun p i hp hi => hk p i (by omega) hp hi⟩)
    | succ q ih =>
      intro f2 z1 z2 z3 hq hf h49 hk
      rw [nI_pred]
      refine wp_iload_n hX (dk DX2_weigh 2 rfl) rfl ?_
      refine wp_if_lt (tgt := 145) hX (dk DX2_weigh 3 rfl) (by decide) (fun h_ => absurd h_ ((nI_pos (by omega)))) (fun _ => ?_)
      refine wp_iconst (v := 0) hX (dk DX2_weigh 4 rfl) (by decide) ?_
      refine wp_istore_n hX (dk DX2_weigh 5 rfl) rfl rfl hN (Nat.le_of_ble_eq_true rfl) ?_
      show WP _ _ _ 9 [_, _, _, _, _, _] [] _
      have li : ∀ (m i : Nat) (f2 : Nat → Nat → Int32) (z2 z3 : Option Value), i + m = n → (∀ b, b ≠ 49 → b ≠ 51 → b ≠ 52 → b ≠ 55 → b ≠ 56 → f2 b = f b) → (∀ i, i ≠ 4 → f2 49 i = f 49 i) → (∀ p i, q + 1 ≤ p → p < 10 → i < n → rkOk f2 (jwp f L sh y) (f 4) n p i) → (∀ k, k < i → rkOk f2 (jwp f L sh y) (f 4) n q k) → WP X 0 0 9 [some (.ref 53), some (.int y), some (.int (nI q)), some (.int (nI i)), z2, z3] [] (S sw f2 g) := by
        intro m
        induction m with
        | zero =>
          intro i f2 z2 z3 hi hf h49 hk hk2
          obtain rfl : i = n := by omega
          refine wp_iload_n hX (dk DX2_weigh 6 rfl) rfl ?_
          refine wp_aload_n hX (dk DX2_weigh 7 rfl) rfl ?_
          refine w_getr hX flX2_24 (dk DX2_weigh 8 rfl) rfl rfl ?_
          refine w_callV (As := []) lkX2_32 hX (dk DX2_weigh 9 rfl) rfl rfl (by simp [Value.category]) hN (k_came (d + 4) sw f2 g) ?_
          show WP _ _ _ 17 [_, _, _, _, _, _] [_, _] _
          refine wp_icmp_ge (tgt := 139) hX (dk DX2_weigh 10 rfl) (by decide) (fun _ => ?_) (fun h_ => absurd ((by rw [hf 1 (by decide) (by decide) (by decide) (by decide) (by decide), hn]; exact nI_le (by omega) (by omega))) h_)
          refine wp_iinc hX (dk DX2_weigh_1 25 rfl) rfl (show nI q + Int32.ofInt (-1) = nI q - 1 by rw [Int32.sub_eq_add_neg]; rfl) rfl hN ?_
          show WP _ _ _ 142 [_, _, _, _, _, _] [] _
          refine wp_goto (tgt := 3) hX (dk DX2_weigh_1 26 rfl) (by decide) ?_
          -- to 3
          exact ih f2 _ _ _ (by omega) hf h49 (fun p i h1 h2 h3 => by
            by_cases c : p = q
            · subst c; exact hk2 i h3
            · exact hk p i (by omega) h2 h3)
        | succ m ihm =>
          intro i f2 z2 z3 hi hf h49 hk hk2
          -- behind the writes
          have key : ∀ (f3 : Nat → Nat → Int32) (a b : Int32) (z2 z3 : Option Value), (∀ b, b ≠ 49 → b ≠ 51 → b ≠ 52 → b ≠ 55 → b ≠ 56 → f3 b = f2 b) → (∀ i, i ≠ 4 → f3 49 i = f2 49 i) → (∀ k, f3 55 k = if k = q * 10 + i then a else f2 55 k) → (∀ k, f3 56 k = if k = q * 10 + i then b else f2 56 k) → (a, b) = rS (jwp f L sh y) (f 4) n (10 - q) i → WP X 0 0 133 [some (.ref 53), some (.int y), some (.int (nI q)), some (.int (nI i)), z2, z3] [] (S sw f3 g) := by
            intro f3 a b z2 z3 h1 h2 h3 h4 h5
            refine wp_iinc hX (dk DX2_weigh_1 23 rfl) rfl (nI_inc _) rfl hN ?_
            show WP _ _ _ 136 [_, _, _, _, _, _] [] _
            refine wp_goto (tgt := 9) hX (dk DX2_weigh_1 24 rfl) (by decide) ?_
            -- to 9
            refine ihm (i + 1) f3 _ _ (by omega) (fun b c1 c2 c3 c4 c5 => (h1 b c1 c2 c3 c4 c5).trans (hf b c1 c2 c3 c4 c5)) (fun j hj => (h2 j hj).trans (h49 j hj)) (fun p j c1 c2 c3 => ?_) (fun k hk3 => ?_)
            · have := hk p j c1 c2 c3
              unfold rkOk at this ⊢
              rw [h3, h4, if_neg (by omega), if_neg (by omega)]
              exact this
            · by_cases c : k = i
              · subst c
                unfold rkOk
                rw [h3, h4, if_pos rfl, if_pos rfl]
                exact h5
              · have := hk2 k (by omega)
                unfold rkOk at this ⊢
                rw [h3, h4, if_neg (by omega), if_neg (by omega)]
                exact this
          refine wp_iload_n hX (dk DX2_weigh 6 rfl) rfl ?_
          refine wp_aload_n hX (dk DX2_weigh 7 rfl) rfl ?_
          refine w_getr hX flX2_24 (dk DX2_weigh 8 rfl) rfl rfl ?_
          refine w_callV (As := []) lkX2_32 hX (dk DX2_weigh 9 rfl) rfl rfl (by simp [Value.category]) hN (k_came (d + 4) sw f2 g) ?_
          show WP _ _ _ 17 [_, _, _, _, _, _] [_, _] _
          refine wp_icmp_ge (tgt := 139) hX (dk DX2_weigh 10 rfl) (by decide) (fun h_ => absurd h_ ((by rw [hf 1 (by decide) (by decide) (by decide) (by decide) (by decide), hn]; exact nI_ge (by omega) (by omega)))) (fun _ => ?_)
          refine wp_aload_n hX (dk DX2_weigh 11 rfl) rfl ?_
          refine wp_aload_n hX (dk DX2_weigh 12 rfl) rfl ?_
          refine w_getr hX flX2_24 (dk DX2_weigh 13 rfl) rfl rfl ?_
          refine wp_iload_n hX (dk DX2_weigh 14 rfl) rfl ?_
          refine w_callV (As := [_]) lkX2_46 hX (dk DX2_weigh 15 rfl) rfl rfl (by simp [Value.category]) hN (k_outOf (d + 4) sw f2 g i (by omega)) ?_
          show WP _ _ _ 29 [_, _, _, _, _, _] [_, _] _
          refine wp_iload_n hX (dk DX2_weigh 16 rfl) rfl ?_
          refine wp_iconst (v := 1) hX (dk DX2_weigh 17 rfl) (by decide) ?_
          refine wp_iadd hX (dk DX2_weigh 18 rfl) ?_
          rw [nI_1, hf 4 (by decide) (by decide) (by decide) (by decide) (by decide)]
          refine w_callV (As := [_, _]) lkX2_71 hX (dk DX2_weigh 19 rfl) rfl rfl (by decide) hN (k_richestNext (d + 3) sw f2 g n (q + 1) (f 4 i) (by rw [hf 1 (by decide) (by decide) (by decide) (by decide) (by decide)]; exact hn) hn10 (by omega)) ?_
          show WP _ _ _ 35 [_, _, _, _, _, _] [_] _
          refine wp_istore hX (dk DX2_weigh 20 rfl) rfl hN (Nat.le_of_ble_eq_true rfl) ?_
          show WP _ _ _ 37 [_, _, _, _, _, _] [] _
          refine wp_iload_n hX (dk DX2_weigh 21 rfl) rfl ?_
          refine wp_bipush (v := 10) hX (dk DX2_weigh 22 rfl) (by decide) ?_
          refine wp_imul hX (dk DX2_weigh 23 rfl) ?_
          refine wp_iload_n hX (dk DX2_weigh 24 rfl) rfl ?_
          refine wp_iadd hX (dk DX2_weigh 25 rfl) ?_
          rw [show nI q * 10 + nI i = nI (q * 10 + i) from ix10 q i]
          refine wp_istore hX (dk DX2_weigh 26 rfl) rfl hN (Nat.le_of_ble_eq_true rfl) ?_
          show WP _ _ _ 45 [_, _, _, _, _, _] [] _
          refine wp_aload_n hX (dk DX2_weigh 27 rfl) rfl ?_
          refine w_getr hX flX2_15 (dk DX2_weigh 28 rfl) rfl rfl ?_
          refine wp_iload hX (dk DX2_weigh 29 rfl) rfl ?_
          refine wp_aload_n hX (dk DX2_weigh 30 rfl) rfl ?_
          refine w_getr hX flX2_28 (dk DX2_weigh 31 rfl) rfl rfl ?_
          refine wp_aload_n hX (dk DX2_weigh 32 rfl) rfl ?_
          refine w_getr hX flX2_24 (dk DX2_weigh 33 rfl) rfl rfl ?_
          refine wp_iload_n hX (dk DX2_weigh 34 rfl) rfl ?_
          refine wp_iload_n hX (dk DX2_weigh 35 rfl) rfl ?_
          refine wp_iload_n hX (dk DX2_weigh 36 rfl) rfl ?_
          refine wp_iadd hX (dk DX2_weigh 37 rfl) ?_
          refine wp_iload_n hX (dk DX2_weigh 38 rfl) rfl ?_
          refine w_callVQ (As := [_, _, _, _]) lkX2_74 hX (dk DX2_weigh 39 rfl) rfl rfl (by simp [Value.category]) hN (k_worthOf d sw f2 g n i sh _ _ L ⟨by rw [hf 1 (by decide) (by decide) (by decide) (by decide) (by decide)]; exact hs.1, hs.2.1, fun k hk => (hs.2.2 k hk).same (hf _ (by omega) (by omega) (by omega) (by omega) (by omega)) (hf _ (by omega) (by omega) (by omega) (by omega) (by omega)) (hf _ (by omega) (by omega) (by omega) (by omega) (by omega)) (hf _ (by omega) (by omega) (by omega) (by omega) (by omega))⟩ (hr.same (h49 3 (by decide)) (hf 50 (by decide) (by decide) (by decide) (by decide) (by decide))) (by omega)) (fun v_ sw_ f_ g_ hq_ => ?_)
          obtain ⟨rfl, rfl, rfl, e1, e2⟩ := hq_
          show WP _ _ _ 67 [_, _, _, _, _, _] [_, _, _] _
          rw [hf 3 (by decide) (by decide) (by decide) (by decide) (by decide)]
          refine w_iast (j := _) hX (dk DX2_weigh 40 rfl) rfl rfl (show _ < 100 by omega) ?_
          refine wp_aload_n hX (dk DX2_weigh 41 rfl) rfl ?_
          refine w_getr hX flX2_18 (dk DX2_weigh 42 rfl) rfl rfl ?_
          refine wp_iload hX (dk DX2_weigh 43 rfl) rfl ?_
          refine wp_iconst (v := 1) hX (dk DX2_weigh 44 rfl) (by decide) ?_
          refine w_iast (j := _) hX (dk DX2_weigh 45 rfl) rfl rfl (show _ < 100 by omega) ?_
          refine wp_iload hX (dk DX2_weigh 46 rfl) rfl ?_
          have hnx : (if q + 1 < 10 then (jrn (f2 55) (f2 56) (f 4 i) (q + 1) n 0 (-2, 0, 0)).1 else -2) = if q = 9 then -2 else rE (rC (rS (jwp f L sh y) (f 4) n (9 - q)) (f 4 i) n).1 := by
            by_cases c : q = 9
            · rw [if_neg (by omega), if_pos c]
            · rw [if_pos (by omega), if_neg c]
              refine jrn_0 (fun j hj => ?_)
              have := hk (q + 1) j (by omega) (by omega) hj
              unfold rkOk at this
              rw [this]
              congr 1
              omega
          rw [hnx]
          by_cases c9 : q = 9
          · rw [if_pos c9]
            refine wp_bipush (v := -2) hX (dk DX2_weigh 47 rfl) (by decide) ?_
            refine wp_icmp_eq (tgt := 133) hX (dk DX2_weigh 48 rfl) (by decide) (fun _ => ?_) (fun h_ => absurd ((rfl)) h_)
            refine key _ (jwp f L sh y i q) 1 _ _ (fun b c1 c2 c3 c4 c5 => ?_) (fun j hj => ?_) (fun k => ?_) (fun k => ?_) ?_
            rotate_left 4
            · rw [c9]; rfl
            · rw [u2_ne _ _ _ c5, u2_ne _ _ _ c4]; exact e1 b c1 c2 c3
            · rw [u2_ne _ _ _ (by decide), u2_ne _ _ _ (by decide)]; exact e2 j hj
            · rw [u2_ne _ _ _ (by decide), u2_row, e1 55 (by decide) (by decide) (by decide)]; rfl
            · rw [u2_row, u2_ne _ _ _ (by decide), e1 56 (by decide) (by decide) (by decide)]
          · rw [if_neg c9]
            have h10 : 10 - q = (9 - q) + 1 := by omega
            rcases rC_in (t := rS (jwp f L sh y) (f 4) n (9 - q)) (s := f 4 i) n with hc | ⟨j, hj1, hj2, hj3, hj4⟩
            · rw [hc]
              refine wp_bipush (v := -2) hX (dk DX2_weigh 47 rfl) (by decide) ?_
              refine wp_icmp_eq (tgt := 133) hX (dk DX2_weigh 48 rfl) (by decide) (fun _ => ?_) (fun h_ => absurd ((rfl)) h_)
              refine key _ (jwp f L sh y i q) 1 _ _ (fun b c1 c2 c3 c4 c5 => ?_) (fun j hj => ?_) (fun k => ?_) (fun k => ?_) ?_
              rotate_left 4
              · rw [h10, rS, if_neg (by omega), hc]
                simp only
                rw [show 9 - (9 - q) = q by omega]
              · rw [u2_ne _ _ _ c5, u2_ne _ _ _ c4]; exact e1 b c1 c2 c3
              · rw [u2_ne _ _ _ (by decide), u2_ne _ _ _ (by decide)]; exact e2 j hj
              · rw [u2_ne _ _ _ (by decide), u2_row, e1 55 (by decide) (by decide) (by decide)]; rfl
              · rw [u2_row, u2_ne _ _ _ (by decide), e1 56 (by decide) (by decide) (by decide)]
            · rw [hj2]
              have ixn : nI (q * 10 + i) - nI i + 10 + nI j = nI ((q + 1) * 10 + j) := by
                rw [pk_sub (by omega), show (10 : Int32) = nI 10 from rfl, nI_add, nI_add]
                congr 1
                omega
              have o55 : ∀ (v : Int32) (k : Nat), k ≠ q * 10 + i → u2 f_ 55 (q * 10 + i) v 55 k = f2 55 k := fun v k hk => by rw [u2_off _ _ _ hk, e1 55 (by decide) (by decide) (by decide)]
              refine wp_bipush (v := -2) hX (dk DX2_weigh 47 rfl) (by decide) ?_
              refine wp_icmp_eq (tgt := 133) hX (dk DX2_weigh 48 rfl) (by decide) (fun h_ => absurd h_ ((rE_ne j (by omega)))) (fun _ => ?_)
              refine wp_aload_n hX (dk DX2_weigh 49 rfl) rfl ?_
              refine w_getr hX flX2_15 (dk DX2_weigh 50 rfl) rfl rfl ?_
              refine wp_iload hX (dk DX2_weigh 51 rfl) rfl ?_
              refine wp_dup2 hX (dk DX2_weigh 52 rfl) rfl rfl ?_
              refine w_iald (j := _) hX (dk DX2_weigh 53 rfl) rfl rfl (show _ < 100 by omega) ?_
              refine wp_aload_n hX (dk DX2_weigh 54 rfl) rfl ?_
              refine w_getr hX flX2_15 (dk DX2_weigh 55 rfl) rfl rfl ?_
              refine wp_iload hX (dk DX2_weigh 56 rfl) rfl ?_
              refine wp_iload_n hX (dk DX2_weigh 57 rfl) rfl ?_
              refine wp_isub hX (dk DX2_weigh 58 rfl) ?_
              refine wp_bipush (v := 10) hX (dk DX2_weigh 59 rfl) (by decide) ?_
              refine wp_iadd hX (dk DX2_weigh_1 0 rfl) ?_
              refine wp_iload hX (dk DX2_weigh_1 1 rfl) rfl ?_
              refine wp_iadd hX (dk DX2_weigh_1 2 rfl) ?_
              refine w_iald (j := _) hX (dk DX2_weigh_1 3 rfl) rfl ixn (show _ < 100 by omega) ?_
              refine wp_iadd hX (dk DX2_weigh_1 4 rfl) ?_
              refine w_iast (j := _) hX (dk DX2_weigh_1 5 rfl) rfl rfl (show _ < 100 by omega) ?_
              refine wp_aload_n hX (dk DX2_weigh_1 6 rfl) rfl ?_
              refine w_getr hX flX2_18 (dk DX2_weigh_1 7 rfl) rfl rfl ?_
              refine wp_iload hX (dk DX2_weigh_1 8 rfl) rfl ?_
              refine wp_dup2 hX (dk DX2_weigh_1 9 rfl) rfl rfl ?_
              refine w_iald (j := _) hX (dk DX2_weigh_1 10 rfl) rfl rfl (show _ < 100 by omega) ?_
              refine wp_aload_n hX (dk DX2_weigh_1 11 rfl) rfl ?_
              refine w_getr hX flX2_18 (dk DX2_weigh_1 12 rfl) rfl rfl ?_
              refine wp_iload hX (dk DX2_weigh_1 13 rfl) rfl ?_
              refine wp_iload_n hX (dk DX2_weigh_1 14 rfl) rfl ?_
              refine wp_isub hX (dk DX2_weigh_1 15 rfl) ?_
              refine wp_bipush (v := 10) hX (dk DX2_weigh_1 16 rfl) (by decide) ?_
              refine wp_iadd hX (dk DX2_weigh_1 17 rfl) ?_
              refine wp_iload hX (dk DX2_weigh_1 18 rfl) rfl ?_
              refine wp_iadd hX (dk DX2_weigh_1 19 rfl) ?_
              refine w_iald (j := _) hX (dk DX2_weigh_1 20 rfl) rfl ixn (show _ < 100 by omega) ?_
              refine wp_iadd hX (dk DX2_weigh_1 21 rfl) ?_
              refine w_iast (j := _) hX (dk DX2_weigh_1 22 rfl) rfl rfl (show _ < 100 by omega) ?_
              have hk2' := hk (q + 1) j (by omega) (by omega) hj1
              unfold rkOk at hk2'
              rw [show 10 - (q + 1) = 9 - q by omega] at hk2'
              have k1 : f2 55 ((q + 1) * 10 + j) = (rS (jwp f L sh y) (f 4) n (9 - q) j).1 := congrArg Prod.fst hk2'
              have k2 : f2 56 ((q + 1) * 10 + j) = (rS (jwp f L sh y) (f 4) n (9 - q) j).2 := congrArg Prod.snd hk2'
              have q55 : f_ 55 = f2 55 := e1 55 (by decide) (by decide) (by decide)
              have q56 : f_ 56 = f2 56 := e1 56 (by decide) (by decide) (by decide)
              refine key _ (jwp f L sh y i q + (rS (jwp f L sh y) (f 4) n (9 - q) j).1) (1 + (rS (jwp f L sh y) (f 4) n (9 - q) j).2) _ _ (fun b c1 c2 c3 c4 c5 => ?_) (fun j hj => ?_) (fun k => ?_) (fun k => ?_) ?_
              rotate_left 4
              · rw [h10, rS, if_neg (by omega), hj2]
                simp only
                rw [show 9 - (9 - q) = q by omega]
              · rw [u2_ne _ _ _ c5, u2_ne _ _ _ c4, u2_ne _ _ _ c5, u2_ne _ _ _ c4]; exact e1 b c1 c2 c3
              · rw [u2_ne _ _ _ (by decide), u2_ne _ _ _ (by decide), u2_ne _ _ _ (by decide), u2_ne _ _ _ (by decide)]; exact e2 j hj
              · by_cases ck : k = q * 10 + i
                · subst ck
                  simp [u2, show ¬ ((q + 1) * 10 + j = q * 10 + i) by omega, q55, k1, jwp]
                · rw [if_neg ck, u2_ne _ _ _ (by decide), u2_off _ _ _ ck, u2_ne _ _ _ (by decide), u2_off _ _ _ ck, q55]
              · by_cases ck : k = q * 10 + i
                · subst ck
                  simp [u2, show ¬ ((q + 1) * 10 + j = q * 10 + i) by omega, q56, k2]
                · rw [if_neg ck, u2_off _ _ _ ck, u2_ne _ _ _ (by decide), u2_off _ _ _ ck, u2_ne _ _ _ (by decide), q56]
      exact li n 0 f2 _ _ (by omega) hf h49 hk (fun k hk => absurd hk (by omega))
  exact lo 10 f none none none (by omega) (fun _ _ _ _ _ _ => rfl) (fun _ _ => rfl) (fun p i h1 h2 _ => absurd h2 (by omega))
theorem k_mostOf (d : Nat) (sw : Bool) (f : Nat → Nat → Int32) (g : Nat → Nat → Int64) (n : Nat) (s : Int32) (W : Nat → Nat → Int32) (B : Nat → Int32) (hn : f 1 4 = nI n) (hn10 : n ≤ 10) (hk : ∀ i, i < n → rkOk f W B n 0 i) : CT (d + 2) 0 0 iX2_mostOf [.ref 53, .int s] (S sw f g) (QR (some (.int (rC (rS W B n 10) s n).2.1)) (S sw f g)) := by
  refine CT.of rfl (Nat.le_of_ble_eq_true rfl) (fun X hX hR hN _ => ?_)
  have hX : Good X RX2 cX2_mostOf (d + 2) 0 0 := hX
  have hN : x_nl X = 3 := hN
  show WP X 0 0 0 [_, _, _] [] _
  refine wp_aload_n hX (dk DX2_mostOf 0 rfl) rfl ?_
  refine wp_iload_n hX (dk DX2_mostOf 1 rfl) rfl ?_
  refine wp_iconst (v := 0) hX (dk DX2_mostOf 2 rfl) (by decide) ?_
  refine w_callV (As := [_, _]) lkX2_71 hX (dk DX2_mostOf 3 rfl) rfl rfl (by decide) hN (k_richestNext d sw f g n 0 s hn hn10 (by decide)) ?_
  show WP _ _ _ 6 [_, _, _] [_] _
  rw [if_pos (by decide), jrn_0 (t := rS W B n 10) (fun j hj => hk j hj)]
  rcases rC_in (t := rS W B n 10) (s := s) n with hc | ⟨j, hj1, hj2, hj3, hj4⟩
  · rw [hc]
    refine wp_istore_n hX (dk DX2_mostOf 4 rfl) rfl rfl hN (Nat.le_of_ble_eq_true rfl) ?_
    show WP _ _ _ 7 [_, _, _] [] _
    refine wp_iload_n hX (dk DX2_mostOf 5 rfl) rfl ?_
    refine wp_bipush (v := -2) hX (dk DX2_mostOf 6 rfl) (by decide) ?_
    refine wp_icmp_ne (tgt := 17) hX (dk DX2_mostOf 7 rfl) (by decide) (fun h_ => absurd ((rfl)) h_) (fun _ => ?_)
    refine wp_iconst (v := 0) hX (dk DX2_mostOf 8 rfl) (by decide) ?_
    refine wp_goto (tgt := 23) hX (dk DX2_mostOf 9 rfl) (by decide) ?_
    exact wp_ireturn hX hR (dk DX2_mostOf 14 rfl) rfl (Nat.le_refl _) (Nat.le_refl _) (⟨by rw [hc], rfl⟩)
  · rw [hj2]
    refine wp_istore_n hX (dk DX2_mostOf 4 rfl) rfl rfl hN (Nat.le_of_ble_eq_true rfl) ?_
    show WP _ _ _ 7 [_, _, _] [] _
    refine wp_iload_n hX (dk DX2_mostOf 5 rfl) rfl ?_
    refine wp_bipush (v := -2) hX (dk DX2_mostOf 6 rfl) (by decide) ?_
    refine wp_icmp_ne (tgt := 17) hX (dk DX2_mostOf 7 rfl) (by decide) (fun _ => ?_) (fun h_ => absurd h_ (rE_ne j (by omega)))
    refine wp_aload_n hX (dk DX2_mostOf 10 rfl) rfl ?_
    refine w_getr hX flX2_15 (dk DX2_mostOf 11 rfl) rfl rfl ?_
    refine wp_iload_n hX (dk DX2_mostOf 12 rfl) rfl ?_
    refine w_iald (j := _) hX (dk DX2_mostOf 13 rfl) rfl rfl (show _ < 100 by omega) ?_
    exact wp_ireturn hX hR (dk DX2_mostOf 14 rfl) rfl (Nat.le_refl _) (Nat.le_refl _) (⟨by rw [hj3, ← hk j hj1]; simp, rfl⟩)
theorem k_inRichest (d : Nat) (sw : Bool) (f : Nat → Nat → Int32) (g : Nat → Nat → Int64) (n : Nat) (s k : Int32) (W : Nat → Nat → Int32) (hn : f 1 4 = nI n) (hn10 : n ≤ 10) (hk : ∀ p i, p < 10 → i < n → rkOk f W (f 4) n p i) : CT (d + 2) 0 0 iX2_inRichest [.ref 53, .int s, .int k] (S sw f g) (QR (some (.int (rI (rS W (f 4) n) (f 4) n k 10 s))) (S sw f g)) := by
  obtain ⟨R0, hR0⟩ : ∃ R0, R0 = rI (rS W (f 4) n) (f 4) n k 10 s := ⟨_, rfl⟩
  rw [← hR0]
  refine CT.of rfl (Nat.le_of_ble_eq_true rfl) (fun X hX hR hN _ => ?_)
  have hX : Good X RX2 cX2_inRichest (d + 2) 0 0 := hX
  have hN : x_nl X = 6 := hN
  show WP X 0 0 0 [_, _, _, _, _, _] [] _
  refine wp_iload_n hX (dk DX2_inRichest 0 rfl) rfl ?_
  refine wp_istore_n hX (dk DX2_inRichest 1 rfl) rfl rfl hN (Nat.le_of_ble_eq_true rfl) ?_
  show WP _ _ _ 2 [_, _, _, _, _, _] [] _
  refine wp_iconst (v := 0) hX (dk DX2_inRichest 2 rfl) (by decide) ?_
  refine wp_istore hX (dk DX2_inRichest 3 rfl) rfl hN (Nat.le_of_ble_eq_true rfl) ?_
  show WP _ _ _ 5 [_, _, _, _, _, _] [] _
  have lo : ∀ (m i : Nat) (s2 : Int32) (z : Option Value), i + m = 10 → R0 = rI (rS W (f 4) n) (f 4) n k m s2 → WP X 0 0 5 [some (.ref 53), some (.int s), some (.int k), some (.int s2), some (.int (nI i)), z] [] (S sw f g) := by
    intro m
    induction m with
    | zero =>
      intro i s2 z hi e
      obtain rfl : i = 10 := by omega
      refine wp_iload hX (dk DX2_inRichest 4 rfl) rfl ?_
      refine wp_bipush (v := 10) hX (dk DX2_inRichest 5 rfl) (by decide) ?_
      refine wp_icmp_ge (tgt := 53) hX (dk DX2_inRichest 6 rfl) (by decide) (fun _ => ?_) (fun h_ => absurd (by decide) h_)
      refine wp_bipush (v := -2) hX (dk DX2_inRichest 27 rfl) (by decide) ?_
      exact wp_ireturn hX hR (dk DX2_inRichest 28 rfl) rfl (Nat.le_refl _) (Nat.le_refl _) (⟨by rw [e]; rfl, rfl⟩)
    | succ m ih =>
      intro i s2 z hi e
      rw [rI] at e
      refine wp_iload hX (dk DX2_inRichest 4 rfl) rfl ?_
      refine wp_bipush (v := 10) hX (dk DX2_inRichest 5 rfl) (by decide) ?_
      refine wp_icmp_ge (tgt := 53) hX (dk DX2_inRichest 6 rfl) (by decide) (fun h_ => absurd h_ ((nI_ge (b := 10) (by omega) (by omega)))) (fun _ => ?_)
      refine wp_aload_n hX (dk DX2_inRichest 7 rfl) rfl ?_
      refine wp_iload_n hX (dk DX2_inRichest 8 rfl) rfl ?_
      refine wp_iload hX (dk DX2_inRichest 9 rfl) rfl ?_
      refine w_callV (As := [_, _]) lkX2_71 hX (dk DX2_inRichest 10 rfl) rfl rfl (by decide) hN (k_richestNext d sw f g n i s2 hn hn10 (by omega)) ?_
      show WP _ _ _ 19 [_, _, _, _, _, _] [_] _
      rw [if_pos (by omega), jrn_0 (t := rS W (f 4) n (m + 1)) (fun j hj => by have := hk i j (by omega) hj; unfold rkOk at this; rw [this]; congr 1; omega)]
      rcases rC_in (t := rS W (f 4) n (m + 1)) (s := s2) n with hc | ⟨j, hj1, hj2, hj3, hj4⟩
      · rw [hc] at e ⊢
        refine wp_istore hX (dk DX2_inRichest 11 rfl) rfl hN (Nat.le_of_ble_eq_true rfl) ?_
        show WP _ _ _ 21 [_, _, _, _, _, _] [] _
        refine wp_iload hX (dk DX2_inRichest 12 rfl) rfl ?_
        refine wp_bipush (v := -2) hX (dk DX2_inRichest 13 rfl) (by decide) ?_
        refine wp_icmp_eq (tgt := 34) hX (dk DX2_inRichest 14 rfl) (by decide) (fun _ => ?_) (fun h_ => absurd ((rfl)) h_)
        refine wp_iload hX (dk DX2_inRichest 18 rfl) rfl ?_
        exact wp_ireturn hX hR (dk DX2_inRichest 19 rfl) rfl (Nat.le_refl _) (Nat.le_refl _) (⟨by rw [e]; rfl, rfl⟩)
      · rw [hj2] at e ⊢
        simp only at e
        rw [show 9 - m = i by omega] at e
        refine wp_istore hX (dk DX2_inRichest 11 rfl) rfl hN (Nat.le_of_ble_eq_true rfl) ?_
        show WP _ _ _ 21 [_, _, _, _, _, _] [] _
        refine wp_iload hX (dk DX2_inRichest 12 rfl) rfl ?_
        refine wp_bipush (v := -2) hX (dk DX2_inRichest 13 rfl) (by decide) ?_
        refine wp_icmp_eq (tgt := 34) hX (dk DX2_inRichest 14 rfl) (by decide) (fun h_ => absurd h_ (rE_ne j (by omega))) (fun _ => ?_)
        refine wp_iload hX (dk DX2_inRichest 15 rfl) rfl ?_
        refine wp_iload_n hX (dk DX2_inRichest 16 rfl) rfl ?_
        refine wp_icmp_ne (tgt := 37) hX (dk DX2_inRichest 17 rfl) (by decide) (fun h31 => ?_) (fun h31 => ?_)
        · refine wp_aload_n hX (dk DX2_inRichest 20 rfl) rfl ?_
          refine w_getr hX flX2_24 (dk DX2_inRichest 21 rfl) rfl rfl ?_
          refine wp_iload hX (dk DX2_inRichest 22 rfl) rfl ?_
          refine w_callV (As := [_]) lkX2_46 hX (dk DX2_inRichest 23 rfl) rfl rfl (by decide) hN (k_outOf (d + 1) sw f g j (by omega)) ?_
          show WP _ _ _ 46 [_, _, _, _, _, _] [_] _
          refine wp_istore_n hX (dk DX2_inRichest 24 rfl) rfl rfl hN (Nat.le_of_ble_eq_true rfl) ?_
          show WP _ _ _ 47 [_, _, _, _, _, _] [] _
          refine wp_iinc hX (dk DX2_inRichest 25 rfl) rfl (nI_inc _) rfl hN ?_
          show WP _ _ _ 50 [_, _, _, _, _, _] [] _
          refine wp_goto (tgt := 5) hX (dk DX2_inRichest 26 rfl) (by decide) ?_
          exact ih (i + 1) _ _ (by omega) (by rw [e, if_neg h31])
        · refine wp_iload hX (dk DX2_inRichest 18 rfl) rfl ?_
          exact wp_ireturn hX hR (dk DX2_inRichest 19 rfl) rfl (Nat.le_refl _) (Nat.le_refl _) (⟨by rw [e, if_pos h31]; rfl, rfl⟩)
  exact lo 10 0 s none (by omega) hR0
/-- one block cut by draws: what z, the last figure, the count become -/
def drB (B : Nat → Int32) (n : Nat) : Nat → Int32 × Int32 × Int32 → Int32 → Int32 × Int32 × Int32
  | 0, q, _ => q
  | m + 1, (z, a, e), s => if s = 0 then (z, a, e) else
    drB B n m (z * 1103515245 + 12345, a + 1, jnth s (((z * 1103515245 + 12345).toUInt32 >>> ((8 : Int32).toUInt32 &&& Int32.toUInt32 31)).toInt32 - ((z * 1103515245 + 12345).toUInt32 >>> ((8 : Int32).toUInt32 &&& Int32.toUInt32 31)).toInt32 / imx 1 (jpc s) * imx 1 (jpc s)) n 0 0) (B (jnth s (((z * 1103515245 + 12345).toUInt32 >>> ((8 : Int32).toUInt32 &&& Int32.toUInt32 31)).toInt32 - ((z * 1103515245 + 12345).toUInt32 >>> ((8 : Int32).toUInt32 &&& Int32.toUInt32 31)).toInt32 / imx 1 (jpc s) * imx 1 (jpc s)) n 0 0).toNatClampNeg)
/-- n blocks: z, all cuts, how many end as told -/
def drN (B : Nat → Int32) (n : Nat) (s fg : Int32) : Nat → Int32 × Int32 × Int32 → Int32 × Int32 × Int32
  | 0, q => q
  | k + 1, (z, a, w) => drN B n s fg k ((drB B n 10 (z, a, -1) s).1, (drB B n 10 (z, a, -1) s).2.1, if (drB B n 10 (z, a, -1) s).2.2 = fg then w + 1 else w)
theorem jnth_in {s q : Int32} : ∀ (k i : Nat) (a : Int32), jnth s q k i a = 0 ∨ ∃ j, i ≤ j ∧ j < i + k ∧ jnth s q k i a = nI j
  | 0, _, _ => Or.inl rfl
  | k + 1, i, a => by
    rw [jnth]
    split
    · rcases jnth_in (s := s) (q := q) k (i + 1) a with h | ⟨j, h1, h2, h3⟩
      · exact Or.inl h
      · exact Or.inr ⟨j, by omega, by omega, h3⟩
    · split
      · exact Or.inr ⟨i, by omega, by omega, rfl⟩
      · rcases jnth_in (s := s) (q := q) k (i + 1) (a + 1) with h | ⟨j, h1, h2, h3⟩
        · exact Or.inl h
        · exact Or.inr ⟨j, by omega, by omega, h3⟩
theorem jnth_nI {s q : Int32} {n : Nat} (hn : n ≤ 10) : ∃ j, j < 10 ∧ jnth s q n 0 0 = nI j := by
  rcases jnth_in (s := s) (q := q) n 0 0 with h | ⟨j, h1, h2, h3⟩
  · exact ⟨0, by decide, h⟩
  · exact ⟨j, by omega, h3⟩
theorem imx1_ne (x : Int32) : ¬ imx 1 x = 0 := by
  unfold imx
  split
  · next h => exact fun q => by rw [q] at h; exact absurd h (by decide)
  · decide
theorem k_draw (d : Nat) (sw : Bool) (f : Nat → Nat → Int32) (g : Nat → Nat → Int64) (n c : Nat) (s z fg : Int32) (hn : f 1 4 = nI n) (hn10 : n ≤ 10) (hc : c ≤ 1000) : CT (d + 2) 0 0 iX2_draw [.ref 53, .int s, .int z, .int (nI c), .int fg] (S sw f g) (QR (some (.int (if fg = -1 then (drN (f 4) n s fg c (z, 0, 0)).2.1 else (drN (f 4) n s fg c (z, 0, 0)).2.2))) (S sw f g)) := by
  obtain ⟨R0, hR0⟩ : ∃ R0, R0 = drN (f 4) n s fg c (z, 0, 0) := ⟨_, rfl⟩
  rw [← hR0]
  refine CT.of rfl (Nat.le_of_ble_eq_true rfl) (fun X hX hR hN _ => ?_)
  have hX : Good X RX2 cX2_draw (d + 2) 0 0 := hX
  have hN : x_nl X = 12 := hN
  show WP X 0 0 0 [_, _, _, _, _, _, _, _, _, _, _, _] [] _
  refine wp_iload_n hX (dk DX2_draw 0 rfl) rfl ?_
  refine wp_istore hX (dk DX2_draw 1 rfl) rfl hN (Nat.le_of_ble_eq_true rfl) ?_
  show WP _ _ _ 3 [_, _, _, _, _, _, _, _, _, _, _, _] [] _
  refine wp_iconst (v := 0) hX (dk DX2_draw 2 rfl) (by decide) ?_
  refine wp_istore hX (dk DX2_draw 3 rfl) rfl hN (Nat.le_of_ble_eq_true rfl) ?_
  show WP _ _ _ 6 [_, _, _, _, _, _, _, _, _, _, _, _] [] _
  refine wp_iconst (v := 0) hX (dk DX2_draw 4 rfl) (by decide) ?_
  refine wp_istore hX (dk DX2_draw 5 rfl) rfl hN (Nat.le_of_ble_eq_true rfl) ?_
  show WP _ _ _ 9 [_, _, _, _, _, _, _, _, _, _, _, _] [] _
  refine wp_iconst (v := 0) hX (dk DX2_draw 6 rfl) (by decide) ?_
  refine wp_istore hX (dk DX2_draw 7 rfl) rfl hN (Nat.le_of_ble_eq_true rfl) ?_
  show WP _ _ _ 12 [_, _, _, _, _, _, _, _, _, _, _, _] [] _
  have lo : ∀ (m i : Nat) (z2 a w : Int32) (y1 y2 y3 : Option Value), i + m = c → R0 = drN (f 4) n s fg m (z2, a, w) → WP X 0 0 12 [some (.ref 53), some (.int s), some (.int z), some (.int (nI c)), some (.int fg), some (.int z2), some (.int a), some (.int w), some (.int (nI i)), y1, y2, y3] [] (S sw f g) := by
    intro m
    induction m with
    | zero =>
      intro i z2 a w y1 y2 y3 hi e
      obtain rfl : i = c := by omega
      refine wp_iload hX (dk DX2_draw 8 rfl) rfl ?_
      refine wp_iload_n hX (dk DX2_draw 9 rfl) rfl ?_
      refine wp_icmp_ge (tgt := 109) hX (dk DX2_draw 10 rfl) (by decide) (fun _ => ?_) (fun h_ => absurd (nI_le (by omega) (by omega)) h_)
      refine wp_iload hX (dk DX2_draw 54 rfl) rfl ?_
      refine wp_iconst (v := -1) hX (dk DX2_draw 55 rfl) (by decide) ?_
      refine wp_icmp_ne (tgt := 120) hX (dk DX2_draw 56 rfl) (by decide) (fun h112 => ?_) (fun h112 => ?_)
      · refine wp_iload hX (dk DX2_draw 59 rfl) rfl ?_
        exact wp_ireturn hX hR (dk DX2_draw_1 0 rfl) rfl (Nat.le_refl _) (Nat.le_refl _) (⟨by rw [e, drN]; simp [h112], rfl⟩)
      · refine wp_iload hX (dk DX2_draw 57 rfl) rfl ?_
        refine wp_goto (tgt := 122) hX (dk DX2_draw 58 rfl) (by decide) ?_
        exact wp_ireturn hX hR (dk DX2_draw_1 0 rfl) rfl (Nat.le_refl _) (Nat.le_refl _) (⟨by rw [e, drN]; simp [h112], rfl⟩)
    | succ m ih =>
      intro i z2 a w y1 y2 y3 hi e
      rw [drN] at e
      refine wp_iload hX (dk DX2_draw 8 rfl) rfl ?_
      refine wp_iload_n hX (dk DX2_draw 9 rfl) rfl ?_
      refine wp_icmp_ge (tgt := 109) hX (dk DX2_draw 10 rfl) (by decide) (fun h_ => absurd h_ ((nI_ge (by omega) (by omega)))) (fun _ => ?_)
      refine wp_iconst (v := -1) hX (dk DX2_draw 11 rfl) (by decide) ?_
      refine wp_istore hX (dk DX2_draw 12 rfl) rfl hN (Nat.le_of_ble_eq_true rfl) ?_
      show WP _ _ _ 21 [_, _, _, _, _, _, _, _, _, _, _, _] [] _
      refine wp_iload_n hX (dk DX2_draw 13 rfl) rfl ?_
      refine wp_istore hX (dk DX2_draw 14 rfl) rfl hN (Nat.le_of_ble_eq_true rfl) ?_
      show WP _ _ _ 24 [_, _, _, _, _, _, _, _, _, _, _, _] [] _
      refine wp_iconst (v := 0) hX (dk DX2_draw 15 rfl) (by decide) ?_
      refine wp_istore hX (dk DX2_draw 16 rfl) rfl hN (Nat.le_of_ble_eq_true rfl) ?_
      show WP _ _ _ 27 [_, _, _, _, _, _, _, _, _, _, _, _] [] _
      obtain ⟨R1, hR1⟩ : ∃ R1, R1 = drB (f 4) n 10 (z2, a, -1) s := ⟨_, rfl⟩
      rw [← hR1] at e
      have li : ∀ (q j : Nat) (z3 a3 e3 s3 : Int32), j + q = 10 → R1 = drB (f 4) n q (z3, a3, e3) s3 → WP X 0 0 27 [some (.ref 53), some (.int s), some (.int z), some (.int (nI c)), some (.int fg), some (.int z3), some (.int a3), some (.int w), some (.int (nI i)), some (.int e3), some (.int s3), some (.int (nI j))] [] (S sw f g) := by
        intro q
        induction q with
        | zero =>
          intro j z3 a3 e3 s3 hj e2
          obtain rfl : j = 10 := by omega
          rw [e2] at e
          refine wp_iload hX (dk DX2_draw 17 rfl) rfl ?_
          refine wp_bipush (v := 10) hX (dk DX2_draw 18 rfl) (by decide) ?_
          refine wp_icmp_ge (tgt := 93) hX (dk DX2_draw 19 rfl) (by decide) (fun _ => ?_) (fun h_ => absurd (by decide) h_)
          refine wp_iload hX (dk DX2_draw 48 rfl) rfl ?_
          refine wp_iload hX (dk DX2_draw 49 rfl) rfl ?_
          refine wp_icmp_ne (tgt := 103) hX (dk DX2_draw 50 rfl) (by decide) (fun h97 => ?_) (fun h97 => ?_)
          · refine wp_iinc hX (dk DX2_draw 52 rfl) rfl (nI_inc _) rfl hN ?_
            show WP _ _ _ 106 [_, _, _, _, _, _, _, _, _, _, _, _] [] _
            refine wp_goto (tgt := 12) hX (dk DX2_draw 53 rfl) (by decide) ?_
            exact ih (i + 1) _ _ _ _ _ _ (by omega) (by rw [e]; simp only [drB]; simp [h97])
          · refine wp_iinc hX (dk DX2_draw 51 rfl) rfl (i_inc _) rfl hN ?_
            show WP _ _ _ 103 [_, _, _, _, _, _, _, _, _, _, _, _] [] _
            refine wp_iinc hX (dk DX2_draw 52 rfl) rfl (nI_inc _) rfl hN ?_
            show WP _ _ _ 106 [_, _, _, _, _, _, _, _, _, _, _, _] [] _
            refine wp_goto (tgt := 12) hX (dk DX2_draw 53 rfl) (by decide) ?_
            exact ih (i + 1) _ _ _ _ _ _ (by omega) (by rw [e]; simp only [drB]; simp [h97])
        | succ q ihq =>
          intro j z3 a3 e3 s3 hj e2
          refine wp_iload hX (dk DX2_draw 17 rfl) rfl ?_
          refine wp_bipush (v := 10) hX (dk DX2_draw 18 rfl) (by decide) ?_
          refine wp_icmp_ge (tgt := 93) hX (dk DX2_draw 19 rfl) (by decide) (fun h_ => absurd h_ ((nI_ge (b := 10) (by omega) (by omega)))) (fun _ => ?_)
          refine wp_iload hX (dk DX2_draw 20 rfl) rfl ?_
          refine wp_if_eq (tgt := 93) hX (dk DX2_draw 21 rfl) (by decide) (fun h0 => ?_) (fun h0 => ?_)
          · rw [drB, if_pos h0] at e2
            rw [e2] at e
            refine wp_iload hX (dk DX2_draw 48 rfl) rfl ?_
            refine wp_iload hX (dk DX2_draw 49 rfl) rfl ?_
            refine wp_icmp_ne (tgt := 103) hX (dk DX2_draw 50 rfl) (by decide) (fun h97 => ?_) (fun h97 => ?_)
            · refine wp_iinc hX (dk DX2_draw 52 rfl) rfl (nI_inc _) rfl hN ?_
              show WP _ _ _ 106 [_, _, _, _, _, _, _, _, _, _, _, _] [] _
              refine wp_goto (tgt := 12) hX (dk DX2_draw 53 rfl) (by decide) ?_
              exact ih (i + 1) _ _ _ _ _ _ (by omega) (by rw [e]; simp [h97])
            · refine wp_iinc hX (dk DX2_draw 51 rfl) rfl (i_inc _) rfl hN ?_
              show WP _ _ _ 103 [_, _, _, _, _, _, _, _, _, _, _, _] [] _
              refine wp_iinc hX (dk DX2_draw 52 rfl) rfl (nI_inc _) rfl hN ?_
              show WP _ _ _ 106 [_, _, _, _, _, _, _, _, _, _, _, _] [] _
              refine wp_goto (tgt := 12) hX (dk DX2_draw 53 rfl) (by decide) ?_
              exact ih (i + 1) _ _ _ _ _ _ (by omega) (by rw [e]; simp [h97])
          · rw [drB, if_neg h0] at e2
            refine wp_iload hX (dk DX2_draw 22 rfl) rfl ?_
            refine wp_ldc hX (dk DX2_draw 23 rfl) kcX2_93 ?_
            refine wp_imul hX (dk DX2_draw 24 rfl) ?_
            refine wp_sipush (v := 12345) hX (dk DX2_draw 25 rfl) (by decide) ?_
            refine wp_iadd hX (dk DX2_draw 26 rfl) ?_
            refine wp_istore hX (dk DX2_draw 27 rfl) rfl hN (Nat.le_of_ble_eq_true rfl) ?_
            show WP _ _ _ 50 [_, _, _, _, _, _, _, _, _, _, _, _] [] _
            refine wp_aload_n hX (dk DX2_draw 28 rfl) rfl ?_
            refine wp_iload hX (dk DX2_draw 29 rfl) rfl ?_
            refine wp_iload hX (dk DX2_draw 30 rfl) rfl ?_
            refine wp_bipush (v := 8) hX (dk DX2_draw 31 rfl) (by decide) ?_
            refine wp_iushr hX (dk DX2_draw 32 rfl) ?_
            refine wp_iconst (v := 1) hX (dk DX2_draw 33 rfl) (by decide) ?_
            refine wp_iload hX (dk DX2_draw 34 rfl) rfl ?_
            refine w_callS (As := [_]) lkX2_94 hX (dk DX2_draw 35 rfl) rfl (by simp [Value.category]) (k_bitCount (d + 1) s3 _) ?_
            show WP _ _ _ 64 [_, _, _, _, _, _, _, _, _, _, _, _] [_, _, _, _, _] _
            refine w_max hX lkX2_52 (dk DX2_draw 36 rfl) (by simp [Value.category]) ?_
            refine wp_irem hX (dk DX2_draw 37 rfl) (imx1_ne (jpc s3)) ?_
            refine w_callV (As := [_, _]) lkX2_99 hX (dk DX2_draw 38 rfl) rfl rfl (by decide) hN (k_nth d sw f g n s3 _ hn hn10) ?_
            show WP _ _ _ 71 [_, _, _, _, _, _, _, _, _, _, _, _] [_] _
            obtain ⟨t, ht1, ht2⟩ := jnth_nI (s := s3) (q := ((z3 * 1103515245 + 12345).toUInt32 >>> ((8 : Int32).toUInt32 &&& Int32.toUInt32 31)).toInt32 - ((z3 * 1103515245 + 12345).toUInt32 >>> ((8 : Int32).toUInt32 &&& Int32.toUInt32 31)).toInt32 / imx 1 (jpc s3) * imx 1 (jpc s3)) hn10
            have ht3 : jnth s3 (((z3 * 1103515245 + 12345).toUInt32 >>> ((8 : Int32).toUInt32 &&& Int32.toUInt32 31)).toInt32 - ((z3 * 1103515245 + 12345).toUInt32 >>> ((8 : Int32).toUInt32 &&& Int32.toUInt32 31)).toInt32 / (if 1 < jpc s3 then jpc s3 else 1) * (if 1 < jpc s3 then jpc s3 else 1)) n 0 0 = nI t := ht2
            rw [ht3]
            rw [ht2, nI_clamp (by omega)] at e2
            refine wp_istore hX (dk DX2_draw 39 rfl) rfl hN (Nat.le_of_ble_eq_true rfl) ?_
            show WP _ _ _ 73 [_, _, _, _, _, _, _, _, _, _, _, _] [] _
            refine wp_aload_n hX (dk DX2_draw 40 rfl) rfl ?_
            refine w_getr hX flX2_24 (dk DX2_draw 41 rfl) rfl rfl ?_
            refine wp_iload hX (dk DX2_draw 42 rfl) rfl ?_
            refine w_callV (As := [_]) lkX2_46 hX (dk DX2_draw 43 rfl) rfl rfl (by decide) hN (k_outOf (d + 1) sw f g t ht1) ?_
            show WP _ _ _ 82 [_, _, _, _, _, _, _, _, _, _, _, _] [_] _
            refine wp_istore hX (dk DX2_draw 44 rfl) rfl hN (Nat.le_of_ble_eq_true rfl) ?_
            show WP _ _ _ 84 [_, _, _, _, _, _, _, _, _, _, _, _] [] _
            refine wp_iinc hX (dk DX2_draw 45 rfl) rfl (i_inc _) rfl hN ?_
            show WP _ _ _ 87 [_, _, _, _, _, _, _, _, _, _, _, _] [] _
            refine wp_iinc hX (dk DX2_draw 46 rfl) rfl (nI_inc _) rfl hN ?_
            show WP _ _ _ 90 [_, _, _, _, _, _, _, _, _, _, _, _] [] _
            refine wp_goto (tgt := 27) hX (dk DX2_draw 47 rfl) (by decide) ?_
            -- to 27
            exact ihq (j + 1) _ _ _ _ (by omega) e2
      exact li 10 0 _ _ _ _ (by omega) hR1
  exact lo c 0 z 0 0 none none none (by omega) hR0
