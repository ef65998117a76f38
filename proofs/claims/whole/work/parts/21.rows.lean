/-! ROWS: what only reads -/
/-- is figure i in the set s -/
abbrev jb (s : Int32) (i : Nat) : Int32 := jbit s (nI i)
/-- the larger, the smaller, as Math has them -/
def imx (x y : Int32) : Int32 := if x < y then y else x
def imn (x y : Int32) : Int32 := if y < x then y else x
/-- the most of a row over a set -/
def jmx (r : Nat → Int32) (s : Int32) : Nat → Int32
  | 0 => 0
  | k + 1 => if jb s k = 0 then jmx r s k else imx (jmx r s k) (r k)
theorem k_longestOf (d : Nat) (sw : Bool) (f : Nat → Nat → Int32) (g : Nat → Nat → Int64) (n : Nat) (s : Int32) (hn : f 1 4 = nI n) (hn10 : n ≤ 10) : CT (d + 1) 0 0 iX2_longestOf [.ref 53, .int s] (S sw f g) (QR (some (.int (jmx (f 54) s n))) (S sw f g)) := by
  refine CT.of rfl (Nat.le_of_ble_eq_true rfl) (fun X hX hR hN _ => ?_)
  have hX : Good X RX2 cX2_longestOf (d + 1) 0 0 := hX
  have hN : x_nl X = 4 := hN
  show WP X 0 0 0 [_, _, _, _] [] _
  refine wp_iconst (v := 0) hX (dk DX2_longestOf 0 rfl) (by decide) ?_
  refine wp_istore_n hX (dk DX2_longestOf 1 rfl) rfl rfl hN (Nat.le_of_ble_eq_true rfl) ?_
  show WP _ _ _ 2 [_, _, _, _] [] _
  refine wp_iconst (v := 0) hX (dk DX2_longestOf 2 rfl) (by decide) ?_
  refine wp_istore_n hX (dk DX2_longestOf 3 rfl) rfl rfl hN (Nat.le_of_ble_eq_true rfl) ?_
  show WP _ _ _ 4 [_, _, _, _] [] _
  have lo : ∀ (m i : Nat), i + m = n → WP X 0 0 4 [some (.ref 53), some (.int s), some (.int (jmx (f 54) s i)), some (.int (nI i))] [] (S sw f g) := by
    intro m
    induction m with
    | zero =>
      intro i hi
      obtain rfl : i = n := by omega
      refine wp_iload_n hX (dk DX2_longestOf 4 rfl) rfl ?_
      refine wp_aload_n hX (dk DX2_longestOf 5 rfl) rfl ?_
      refine w_getr hX flX2_24 (dk DX2_longestOf 6 rfl) rfl rfl ?_
      refine w_callV (As := []) lkX2_32 hX (dk DX2_longestOf 7 rfl) rfl rfl (by simp [Value.category]) hN (k_came d sw f g) ?_
      show WP _ _ _ 12 [_, _, _, _] [_, _] _
      refine wp_icmp_ge (tgt := 40) hX (dk DX2_longestOf 8 rfl) (by decide) (fun _ => ?_) (fun h_ => absurd ((by rw [hn]; exact nI_le (by omega) (by omega))) h_)
      refine wp_iload_n hX (dk DX2_longestOf 22 rfl) rfl ?_
      exact wp_ireturn hX hR (dk DX2_longestOf 23 rfl) rfl (Nat.le_refl _) (Nat.le_refl _) (⟨rfl, rfl⟩)
    | succ m ih =>
      intro i hi
      refine wp_iload_n hX (dk DX2_longestOf 4 rfl) rfl ?_
      refine wp_aload_n hX (dk DX2_longestOf 5 rfl) rfl ?_
      refine w_getr hX flX2_24 (dk DX2_longestOf 6 rfl) rfl rfl ?_
      refine w_callV (As := []) lkX2_32 hX (dk DX2_longestOf 7 rfl) rfl rfl (by simp [Value.category]) hN (k_came d sw f g) ?_
      show WP _ _ _ 12 [_, _, _, _] [_, _] _
      refine wp_icmp_ge (tgt := 40) hX (dk DX2_longestOf 8 rfl) (by decide) (fun h_ => absurd h_ ((by rw [hn]; exact nI_ge (by omega) (by omega)))) (fun _ => ?_)
      refine wp_iload_n hX (dk DX2_longestOf 9 rfl) rfl ?_
      refine wp_iload_n hX (dk DX2_longestOf 10 rfl) rfl ?_
      refine w_callS (As := [_, _]) lkX2_42 hX (dk DX2_longestOf 11 rfl) rfl (by decide) (k_holds d s (nI i) _) ?_
      show WP _ _ _ 20 [_, _, _, _] [_] _
      refine wp_if_eq (tgt := 34) hX (dk DX2_longestOf 12 rfl) (by decide) (fun h => ?_) (fun h => ?_)
      · refine wp_iinc hX (dk DX2_longestOf 20 rfl) rfl (nI_inc _) rfl hN ?_
        show WP _ _ _ 37 [_, _, _, _] [] _
        refine wp_goto (tgt := 4) hX (dk DX2_longestOf 21 rfl) (by decide) ?_
        -- to 4
        have := ih (i + 1) (by omega)
        rw [jmx, if_pos h] at this
        exact this
      · refine wp_iload_n hX (dk DX2_longestOf 13 rfl) rfl ?_
        refine wp_aload_n hX (dk DX2_longestOf 14 rfl) rfl ?_
        refine w_getr hX flX2_9 (dk DX2_longestOf 15 rfl) rfl rfl ?_
        refine wp_iload_n hX (dk DX2_longestOf 16 rfl) rfl ?_
        refine w_iald (j := _) hX (dk DX2_longestOf 17 rfl) rfl rfl (show _ < 10 by omega) ?_
        refine w_max hX lkX2_52 (dk DX2_longestOf 18 rfl) (by decide) ?_
        refine wp_istore_n hX (dk DX2_longestOf 19 rfl) rfl rfl hN (Nat.le_of_ble_eq_true rfl) ?_
        show WP _ _ _ 34 [_, _, _, _] [] _
        refine wp_iinc hX (dk DX2_longestOf 20 rfl) rfl (nI_inc _) rfl hN ?_
        show WP _ _ _ 37 [_, _, _, _] [] _
        refine wp_goto (tgt := 4) hX (dk DX2_longestOf 21 rfl) (by decide) ?_
        -- to 4
        have := ih (i + 1) (by omega)
        rw [jmx, if_neg h] at this
        exact this
  exact lo n 0 (by omega)
/-- the first of a set and a length -/
def jfl (r : Nat → Int32) (s l : Int32) : Nat → Nat → Int32
  | 0, _ => -2
  | k + 1, i => if ¬ l ≤ 0 ∧ ¬ jb s i = 0 ∧ r i = l then nI i else jfl r s l k (i + 1)
theorem k_firstOfLength (d : Nat) (sw : Bool) (f : Nat → Nat → Int32) (g : Nat → Nat → Int64) (n : Nat) (s l : Int32) (hn : f 1 4 = nI n) (hn10 : n ≤ 10) : CT (d + 1) 0 0 iX2_firstOfLength [.ref 53, .int s, .int l] (S sw f g) (QR (some (.int (jfl (f 54) s l n 0))) (S sw f g)) := by
  refine CT.of rfl (Nat.le_of_ble_eq_true rfl) (fun X hX hR hN _ => ?_)
  have hX : Good X RX2 cX2_firstOfLength (d + 1) 0 0 := hX
  have hN : x_nl X = 4 := hN
  show WP X 0 0 0 [_, _, _, _] [] _
  refine wp_iconst (v := 0) hX (dk DX2_firstOfLength 0 rfl) (by decide) ?_
  refine wp_istore_n hX (dk DX2_firstOfLength 1 rfl) rfl rfl hN (Nat.le_of_ble_eq_true rfl) ?_
  show WP _ _ _ 2 [_, _, _, _] [] _
  have lo : ∀ (m i : Nat), i + m = n → jfl (f 54) s l n 0 = jfl (f 54) s l m i → WP X 0 0 2 [some (.ref 53), some (.int s), some (.int l), some (.int (nI i))] [] (S sw f g) := by
    intro m
    induction m with
    | zero =>
      intro i hi e
      refine wp_iload_n hX (dk DX2_firstOfLength 2 rfl) rfl ?_
      refine wp_aload_n hX (dk DX2_firstOfLength 3 rfl) rfl ?_
      refine w_getr hX flX2_24 (dk DX2_firstOfLength 4 rfl) rfl rfl ?_
      refine w_callV (As := []) lkX2_32 hX (dk DX2_firstOfLength 5 rfl) rfl rfl (by simp [Value.category]) hN (k_came d sw f g) ?_
      show WP _ _ _ 10 [_, _, _, _] [_, _] _
      refine wp_icmp_ge (tgt := 43) hX (dk DX2_firstOfLength 6 rfl) (by decide) (fun _ => ?_) (fun h_ => absurd ((by rw [hn]; exact nI_le (by omega) (by omega))) h_)
      refine wp_bipush (v := -2) hX (dk DX2_firstOfLength 23 rfl) (by decide) ?_
      exact wp_ireturn hX hR (dk DX2_firstOfLength 24 rfl) rfl (Nat.le_refl _) (Nat.le_refl _) (⟨by rw [e]; rfl, rfl⟩)
    | succ m ih =>
      intro i hi e
      rw [show jfl (f 54) s l (m + 1) i = if ¬ l ≤ 0 ∧ ¬ jb s i = 0 ∧ f 54 i = l then nI i else jfl (f 54) s l m (i + 1) from rfl] at e
      refine wp_iload_n hX (dk DX2_firstOfLength 2 rfl) rfl ?_
      refine wp_aload_n hX (dk DX2_firstOfLength 3 rfl) rfl ?_
      refine w_getr hX flX2_24 (dk DX2_firstOfLength 4 rfl) rfl rfl ?_
      refine w_callV (As := []) lkX2_32 hX (dk DX2_firstOfLength 5 rfl) rfl rfl (by simp [Value.category]) hN (k_came d sw f g) ?_
      show WP _ _ _ 10 [_, _, _, _] [_, _] _
      refine wp_icmp_ge (tgt := 43) hX (dk DX2_firstOfLength 6 rfl) (by decide) (fun h_ => absurd h_ ((by rw [hn]; exact nI_ge (by omega) (by omega)))) (fun _ => ?_)
      refine wp_iload_n hX (dk DX2_firstOfLength 7 rfl) rfl ?_
      refine wp_if_le (tgt := 37) hX (dk DX2_firstOfLength 8 rfl) (by decide) (fun h1 => ?_) (fun h1 => ?_)
      · refine wp_iinc hX (dk DX2_firstOfLength 21 rfl) rfl (nI_inc _) rfl hN ?_
        show WP _ _ _ 40 [_, _, _, _] [] _
        refine wp_goto (tgt := 2) hX (dk DX2_firstOfLength 22 rfl) (by decide) ?_
        -- to 2
        rw [if_neg (fun q => q.1 h1)] at e
        exact ih (i + 1) (by omega) e
      · refine wp_iload_n hX (dk DX2_firstOfLength 9 rfl) rfl ?_
        refine wp_iload_n hX (dk DX2_firstOfLength 10 rfl) rfl ?_
        refine w_callS (As := [_, _]) lkX2_42 hX (dk DX2_firstOfLength 11 rfl) rfl (by decide) (k_holds d s (nI i) _) ?_
        show WP _ _ _ 22 [_, _, _, _] [_] _
        refine wp_if_eq (tgt := 37) hX (dk DX2_firstOfLength 12 rfl) (by decide) (fun h2 => ?_) (fun h2 => ?_)
        · refine wp_iinc hX (dk DX2_firstOfLength 21 rfl) rfl (nI_inc _) rfl hN ?_
          show WP _ _ _ 40 [_, _, _, _] [] _
          refine wp_goto (tgt := 2) hX (dk DX2_firstOfLength 22 rfl) (by decide) ?_
          -- to 2
          rw [if_neg (fun q => q.2.1 h2)] at e
          exact ih (i + 1) (by omega) e
        · refine wp_aload_n hX (dk DX2_firstOfLength 13 rfl) rfl ?_
          refine w_getr hX flX2_9 (dk DX2_firstOfLength 14 rfl) rfl rfl ?_
          refine wp_iload_n hX (dk DX2_firstOfLength 15 rfl) rfl ?_
          refine w_iald (j := _) hX (dk DX2_firstOfLength 16 rfl) rfl rfl (show _ < 10 by omega) ?_
          refine wp_iload_n hX (dk DX2_firstOfLength 17 rfl) rfl ?_
          refine wp_icmp_ne (tgt := 37) hX (dk DX2_firstOfLength 18 rfl) (by decide) (fun h3 => ?_) (fun h3 => ?_)
          · refine wp_iinc hX (dk DX2_firstOfLength 21 rfl) rfl (nI_inc _) rfl hN ?_
            show WP _ _ _ 40 [_, _, _, _] [] _
            refine wp_goto (tgt := 2) hX (dk DX2_firstOfLength 22 rfl) (by decide) ?_
            -- to 2
            rw [if_neg (fun q => h3 q.2.2)] at e
            exact ih (i + 1) (by omega) e
          · refine wp_iload_n hX (dk DX2_firstOfLength 19 rfl) rfl ?_
            exact wp_ireturn hX hR (dk DX2_firstOfLength 20 rfl) rfl (Nat.le_refl _) (Nat.le_refl _) (⟨by rw [e, if_pos ⟨h1, h2, h3⟩], rfl⟩)
  exact lo n 0 (by omega) rfl
/-- the k-th of the longest row out of a set: fuel, place, set -/
def jil (r B : Nat → Int32) (n : Nat) (k : Int32) : Nat → Nat → Int32 → Int32
  | 0, _, _ => -2
  | m + 1, i, s => if jfl r s (jmx r s n) n 0 = -2 ∨ nI i = k then jfl r s (jmx r s n) n 0 else jil r B n k m (i + 1) (B (jfl r s (jmx r s n) n 0).toNatClampNeg)
theorem jfl_in {r : Nat → Int32} {s l : Int32} : ∀ (k i : Nat), jfl r s l k i = -2 ∨ ∃ j, i ≤ j ∧ j < i + k ∧ jfl r s l k i = nI j ∧ ¬ jb s j = 0 ∧ r j = l
  | 0, i => Or.inl rfl
  | k + 1, i => by
    rw [jfl]
    split
    · next h => exact Or.inr ⟨i, by omega, by omega, rfl, h.2.1, h.2.2⟩
    · rcases jfl_in (r := r) (s := s) (l := l) k (i + 1) with h | ⟨j, h1, h2, h3⟩
      · exact Or.inl h
      · exact Or.inr ⟨j, by omega, by omega, h3⟩
theorem k_inLongest (d : Nat) (sw : Bool) (f : Nat → Nat → Int32) (g : Nat → Nat → Int64) (n : Nat) (s k : Int32) (hn : f 1 4 = nI n) (hn10 : n ≤ 10) : CT (d + 2) 0 0 iX2_inLongest [.ref 53, .int s, .int k] (S sw f g) (QR (some (.int (jil (f 54) (f 4) n k 10 0 s))) (S sw f g)) := by
  refine CT.of rfl (Nat.le_of_ble_eq_true rfl) (fun X hX hR hN _ => ?_)
  have hX : Good X RX2 cX2_inLongest (d + 2) 0 0 := hX
  have hN : x_nl X = 6 := hN
  show WP X 0 0 0 [_, _, _, _, _, _] [] _
  refine wp_iload_n hX (dk DX2_inLongest 0 rfl) rfl ?_
  refine wp_istore_n hX (dk DX2_inLongest 1 rfl) rfl rfl hN (Nat.le_of_ble_eq_true rfl) ?_
  show WP _ _ _ 2 [_, _, _, _, _, _] [] _
  refine wp_iconst (v := 0) hX (dk DX2_inLongest 2 rfl) (by decide) ?_
  refine wp_istore hX (dk DX2_inLongest 3 rfl) rfl hN (Nat.le_of_ble_eq_true rfl) ?_
  show WP _ _ _ 5 [_, _, _, _, _, _] [] _
  have lo : ∀ (m i : Nat) (u : Int32) (z : Option Value), i + m = 10 → jil (f 54) (f 4) n k 10 0 s = jil (f 54) (f 4) n k m i u → WP X 0 0 5 [some (.ref 53), some (.int s), some (.int k), some (.int u), some (.int (nI i)), z] [] (S sw f g) := by
    intro m
    induction m with
    | zero =>
      intro i u z hi e
      refine wp_iload hX (dk DX2_inLongest 4 rfl) rfl ?_
      refine wp_bipush (v := 10) hX (dk DX2_inLongest 5 rfl) (by decide) ?_
      refine wp_icmp_ge (tgt := 56) hX (dk DX2_inLongest 6 rfl) (by decide) (fun _ => ?_) (fun h_ => absurd ((nI_le (a := 10) (by omega) (by omega))) h_)
      refine wp_bipush (v := -2) hX (dk DX2_inLongest 29 rfl) (by decide) ?_
      exact wp_ireturn hX hR (dk DX2_inLongest 30 rfl) rfl (Nat.le_refl _) (Nat.le_refl _) (⟨by rw [e]; rfl, rfl⟩)
    | succ m ih =>
      intro i u z hi e
      rw [show jil (f 54) (f 4) n k (m + 1) i u = if jfl (f 54) u (jmx (f 54) u n) n 0 = -2 ∨ nI i = k then jfl (f 54) u (jmx (f 54) u n) n 0 else jil (f 54) (f 4) n k m (i + 1) (f 4 (jfl (f 54) u (jmx (f 54) u n) n 0).toNatClampNeg) from rfl] at e
      refine wp_iload hX (dk DX2_inLongest 4 rfl) rfl ?_
      refine wp_bipush (v := 10) hX (dk DX2_inLongest 5 rfl) (by decide) ?_
      refine wp_icmp_ge (tgt := 56) hX (dk DX2_inLongest 6 rfl) (by decide) (fun h_ => absurd h_ ((nI_ge (b := 10) (by omega) (by omega)))) (fun _ => ?_)
      refine wp_aload_n hX (dk DX2_inLongest 7 rfl) rfl ?_
      refine wp_iload_n hX (dk DX2_inLongest 8 rfl) rfl ?_
      refine wp_aload_n hX (dk DX2_inLongest 9 rfl) rfl ?_
      refine wp_iload_n hX (dk DX2_inLongest 10 rfl) rfl ?_
      refine w_callV (As := [_]) lkX2_49 hX (dk DX2_inLongest 11 rfl) rfl rfl (by simp [Value.category]) hN (k_longestOf d sw f g n u hn hn10) ?_
      show WP _ _ _ 19 [_, _, _, _, _, _] [_, _, _] _
      refine w_callV (As := [_, _]) lkX2_58 hX (dk DX2_inLongest 12 rfl) rfl rfl (by decide) hN (k_firstOfLength d sw f g n u _ hn hn10) ?_
      show WP _ _ _ 22 [_, _, _, _, _, _] [_] _
      refine wp_istore hX (dk DX2_inLongest 13 rfl) rfl hN (Nat.le_of_ble_eq_true rfl) ?_
      show WP _ _ _ 24 [_, _, _, _, _, _] [] _
      refine wp_iload hX (dk DX2_inLongest 14 rfl) rfl ?_
      refine wp_bipush (v := -2) hX (dk DX2_inLongest 15 rfl) (by decide) ?_
      refine wp_icmp_eq (tgt := 37) hX (dk DX2_inLongest 16 rfl) (by decide) (fun h1 => ?_) (fun h1 => ?_)
      · refine wp_iload hX (dk DX2_inLongest 20 rfl) rfl ?_
        rw [if_pos (Or.inl h1)] at e
        exact wp_ireturn hX hR (dk DX2_inLongest 21 rfl) rfl (Nat.le_refl _) (Nat.le_refl _) (⟨by rw [e], rfl⟩)
      · refine wp_iload hX (dk DX2_inLongest 17 rfl) rfl ?_
        refine wp_iload_n hX (dk DX2_inLongest 18 rfl) rfl ?_
        refine wp_icmp_ne (tgt := 40) hX (dk DX2_inLongest 19 rfl) (by decide) (fun h2 => ?_) (fun h2 => ?_)
        · rw [if_neg (fun q => q.elim h1 h2)] at e
          obtain ⟨j, hj1, hj2, hj3, -⟩ := (jfl_in (r := f 54) (s := u) (l := jmx (f 54) u n) n 0).resolve_left h1
          rw [hj3] at e ⊢
          rw [nI_clamp (by omega)] at e
          refine wp_aload_n hX (dk DX2_inLongest 22 rfl) rfl ?_
          refine w_getr hX flX2_24 (dk DX2_inLongest 23 rfl) rfl rfl ?_
          refine wp_iload hX (dk DX2_inLongest 24 rfl) rfl ?_
          refine w_callV (As := [_]) lkX2_46 hX (dk DX2_inLongest 25 rfl) rfl rfl (by decide) hN (k_outOf (d + 1) sw f g j (by omega)) ?_
          show WP _ _ _ 49 [_, _, _, _, _, _] [_] _
          refine wp_istore_n hX (dk DX2_inLongest 26 rfl) rfl rfl hN (Nat.le_of_ble_eq_true rfl) ?_
          show WP _ _ _ 50 [_, _, _, _, _, _] [] _
          refine wp_iinc hX (dk DX2_inLongest 27 rfl) rfl (nI_inc _) rfl hN ?_
          show WP _ _ _ 53 [_, _, _, _, _, _] [] _
          refine wp_goto (tgt := 5) hX (dk DX2_inLongest 28 rfl) (by decide) ?_
          -- to 5
          exact ih (i + 1) _ _ (by omega) e
        · refine wp_iload hX (dk DX2_inLongest 20 rfl) rfl ?_
          rw [if_pos (Or.inr h2)] at e
          exact wp_ireturn hX hR (dk DX2_inLongest 21 rfl) rfl (Nat.le_refl _) (Nat.le_refl _) (⟨by rw [e], rfl⟩)
  exact lo 10 0 s none (by omega) rfl
/-- the first of a set -/
def jfw (s : Int32) : Nat → Nat → Int32
  | 0, _ => -2
  | k + 1, i => if jb s i = 0 then jfw s k (i + 1) else nI i
theorem k_firstWinning (d : Nat) (sw : Bool) (f : Nat → Nat → Int32) (g : Nat → Nat → Int64) (n : Nat) (s : Int32) (hn : f 1 4 = nI n) (hn10 : n ≤ 10) : CT (d + 1) 0 0 iX2_firstWinning [.ref 53, .int s] (S sw f g) (QR (some (.int (jfw (s &&& f 53 6) n 0))) (S sw f g)) := by
  refine CT.of rfl (Nat.le_of_ble_eq_true rfl) (fun X hX hR hN _ => ?_)
  have hX : Good X RX2 cX2_firstWinning (d + 1) 0 0 := hX
  have hN : x_nl X = 3 := hN
  show WP X 0 0 0 [_, _, _] [] _
  refine wp_iconst (v := 0) hX (dk DX2_firstWinning 0 rfl) (by decide) ?_
  refine wp_istore_n hX (dk DX2_firstWinning 1 rfl) rfl rfl hN (Nat.le_of_ble_eq_true rfl) ?_
  show WP _ _ _ 2 [_, _, _] [] _
  have lo : ∀ (m i : Nat), i + m = n → jfw (s &&& f 53 6) n 0 = jfw (s &&& f 53 6) m i → WP X 0 0 2 [some (.ref 53), some (.int s), some (.int (nI i))] [] (S sw f g) := by
    intro m
    induction m with
    | zero =>
      intro i hi e
      refine wp_iload_n hX (dk DX2_firstWinning 2 rfl) rfl ?_
      refine wp_aload_n hX (dk DX2_firstWinning 3 rfl) rfl ?_
      refine w_getr hX flX2_24 (dk DX2_firstWinning 4 rfl) rfl rfl ?_
      refine w_callV (As := []) lkX2_32 hX (dk DX2_firstWinning 5 rfl) rfl rfl (by simp [Value.category]) hN (k_came d sw f g) ?_
      show WP _ _ _ 10 [_, _, _] [_, _] _
      refine wp_icmp_ge (tgt := 34) hX (dk DX2_firstWinning 6 rfl) (by decide) (fun _ => ?_) (fun h_ => absurd ((by rw [hn]; exact nI_le (by omega) (by omega))) h_)
      refine wp_bipush (v := -2) hX (dk DX2_firstWinning 18 rfl) (by decide) ?_
      exact wp_ireturn hX hR (dk DX2_firstWinning 19 rfl) rfl (Nat.le_refl _) (Nat.le_refl _) (⟨by rw [e]; rfl, rfl⟩)
    | succ m ih =>
      intro i hi e
      rw [show jfw (s &&& f 53 6) (m + 1) i = if jb (s &&& f 53 6) i = 0 then jfw (s &&& f 53 6) m (i + 1) else nI i from rfl] at e
      refine wp_iload_n hX (dk DX2_firstWinning 2 rfl) rfl ?_
      refine wp_aload_n hX (dk DX2_firstWinning 3 rfl) rfl ?_
      refine w_getr hX flX2_24 (dk DX2_firstWinning 4 rfl) rfl rfl ?_
      refine w_callV (As := []) lkX2_32 hX (dk DX2_firstWinning 5 rfl) rfl rfl (by simp [Value.category]) hN (k_came d sw f g) ?_
      show WP _ _ _ 10 [_, _, _] [_, _] _
      refine wp_icmp_ge (tgt := 34) hX (dk DX2_firstWinning 6 rfl) (by decide) (fun h_ => absurd h_ ((by rw [hn]; exact nI_ge (by omega) (by omega)))) (fun _ => ?_)
      refine wp_iload_n hX (dk DX2_firstWinning 7 rfl) rfl ?_
      refine wp_aload_n hX (dk DX2_firstWinning 8 rfl) rfl ?_
      refine w_geti hX flX2_80 (dk DX2_firstWinning 9 rfl) (by decide) rfl ?_
      refine wp_iand hX (dk DX2_firstWinning 10 rfl) ?_
      refine wp_iload_n hX (dk DX2_firstWinning 11 rfl) rfl ?_
      refine w_callS (As := [_, _]) lkX2_42 hX (dk DX2_firstWinning 12 rfl) rfl (by decide) (k_holds d (s &&& f 53 6) (nI i) _) ?_
      show WP _ _ _ 23 [_, _, _] [_] _
      refine wp_if_eq (tgt := 28) hX (dk DX2_firstWinning 13 rfl) (by decide) (fun h => ?_) (fun h => ?_)
      · refine wp_iinc hX (dk DX2_firstWinning 16 rfl) rfl (nI_inc _) rfl hN ?_
        show WP _ _ _ 31 [_, _, _] [] _
        refine wp_goto (tgt := 2) hX (dk DX2_firstWinning 17 rfl) (by decide) ?_
        -- to 2
        rw [if_pos h] at e
        exact ih (i + 1) (by omega) e
      · refine wp_iload_n hX (dk DX2_firstWinning 14 rfl) rfl ?_
        rw [if_neg h] at e
        exact wp_ireturn hX hR (dk DX2_firstWinning 15 rfl) rfl (Nat.le_refl _) (Nat.le_refl _) (⟨by rw [e], rfl⟩)
  exact lo n 0 (by omega) rfl
/-- most, fewest over the cuts -/
def jcm (c : Nat → Int32) (s : Int32) : Nat → Int32
  | 0 => 0
  | k + 1 => if jb s k = 0 then jcm c s k else imx (jcm c s k) (1 + c k)
def jcf (c : Nat → Int32) (s : Int32) : Nat → Int32
  | 0 => 10
  | k + 1 => if jb s k = 0 then jcf c s k else imn (jcf c s k) (1 + c k)
def jcp (c : Nat → Int32) (s lo : Int32) (n : Nat) : Int32 := if s &&& lo = 0 then jcm c s n else jcf c (s &&& lo) n
theorem k_cutsPlayed (d : Nat) (sw : Bool) (f : Nat → Nat → Int32) (g : Nat → Nat → Int64) (n : Nat) (s : Int32) (hn : f 1 4 = nI n) (hn10 : n ≤ 10) : CT (d + 1) 0 0 iX2_cutsPlayed [.ref 53, .int s] (S sw f g) (QR (some (.int (jcp (f 57) s (f 53 6) n))) (S sw f g)) := by
  refine CT.of rfl (Nat.le_of_ble_eq_true rfl) (fun X hX hR hN _ => ?_)
  have hX : Good X RX2 cX2_cutsPlayed (d + 1) 0 0 := hX
  have hN : x_nl X = 6 := hN
  show WP X 0 0 0 [_, _, _, _, _, _] [] _
  have lo : ∀ (w : Int32), (if s &&& f 53 6 = 0 then (0 : Int32) else 1) = w → ∀ (m i : Nat), i + m = n → WP X 0 0 24 [some (.ref 53), some (.int s), some (.int w), some (.int (jcm (f 57) s i)), some (.int (jcf (f 57) (s &&& f 53 6) i)), some (.int (nI i))] [] (S sw f g) := by
    intro w hw m
    induction m with
    | zero =>
      intro i hi
      obtain rfl : i = n := by omega
      refine wp_iload hX (dk DX2_cutsPlayed 15 rfl) rfl ?_
      refine wp_aload_n hX (dk DX2_cutsPlayed 16 rfl) rfl ?_
      refine w_getr hX flX2_24 (dk DX2_cutsPlayed 17 rfl) rfl rfl ?_
      refine w_callV (As := []) lkX2_32 hX (dk DX2_cutsPlayed 18 rfl) rfl rfl (by simp [Value.category]) hN (k_came d sw f g) ?_
      show WP _ _ _ 33 [_, _, _, _, _, _] [_, _] _
      refine wp_icmp_ge (tgt := 95) hX (dk DX2_cutsPlayed 19 rfl) (by decide) (fun _ => ?_) (fun h_ => absurd ((by rw [hn]; exact nI_le (by omega) (by omega))) h_)
      refine wp_iload_n hX (dk DX2_cutsPlayed 51 rfl) rfl ?_
      by_cases c : s &&& f 53 6 = 0
      · rw [if_pos c] at hw
        subst hw
        refine wp_if_eq (tgt := 104) hX (dk DX2_cutsPlayed 52 rfl) (by decide) (fun _ => ?_) (fun h_ => absurd (rfl) h_)
        refine wp_iload_n hX (dk DX2_cutsPlayed 55 rfl) rfl ?_
        exact wp_ireturn hX hR (dk DX2_cutsPlayed 56 rfl) rfl (Nat.le_refl _) (Nat.le_refl _) (⟨by rw [jcp, if_pos c], rfl⟩)
      · rw [if_neg c] at hw
        subst hw
        refine wp_if_eq (tgt := 104) hX (dk DX2_cutsPlayed 52 rfl) (by decide) (fun h_ => absurd h_ ((by decide))) (fun _ => ?_)
        refine wp_iload hX (dk DX2_cutsPlayed 53 rfl) rfl ?_
        refine wp_goto (tgt := 105) hX (dk DX2_cutsPlayed 54 rfl) (by decide) ?_
        -- to 105
        exact wp_ireturn hX hR (dk DX2_cutsPlayed 56 rfl) rfl (Nat.le_refl _) (Nat.le_refl _) (⟨by rw [jcp, if_neg c], rfl⟩)
    | succ m ih =>
      intro i hi
      have ih := ih (i + 1) (by omega)
      rw [jcm, jcf] at ih
      -- the second half
      have two : ∀ z : Int32, (if jb s i = 0 then jcm (f 57) s i else imx (jcm (f 57) s i) (1 + f 57 i)) = z → WP X 0 0 59 [some (.ref 53), some (.int s), some (.int w), some (.int z), some (.int (jcf (f 57) (s &&& f 53 6) i)), some (.int (nI i))] [] (S sw f g) := by
        intro z hz
        rw [hz] at ih
        refine wp_iload_n hX (dk DX2_cutsPlayed 33 rfl) rfl ?_
        refine wp_aload_n hX (dk DX2_cutsPlayed 34 rfl) rfl ?_
        refine w_geti hX flX2_80 (dk DX2_cutsPlayed 35 rfl) (by decide) rfl ?_
        refine wp_iand hX (dk DX2_cutsPlayed 36 rfl) ?_
        refine wp_iload hX (dk DX2_cutsPlayed 37 rfl) rfl ?_
        refine w_callS (As := [_, _]) lkX2_42 hX (dk DX2_cutsPlayed 38 rfl) rfl (by decide) (k_holds d (s &&& f 53 6) (nI i) _) ?_
        show WP _ _ _ 70 [_, _, _, _, _, _] [_] _
        refine wp_if_eq (tgt := 89) hX (dk DX2_cutsPlayed 39 rfl) (by decide) (fun h => ?_) (fun h => ?_)
        · refine wp_iinc hX (dk DX2_cutsPlayed 49 rfl) rfl (nI_inc _) rfl hN ?_
          show WP _ _ _ 92 [_, _, _, _, _, _] [] _
          refine wp_goto (tgt := 24) hX (dk DX2_cutsPlayed 50 rfl) (by decide) ?_
          -- to 24
          rw [if_pos h] at ih
          exact ih
        · refine wp_iload hX (dk DX2_cutsPlayed 40 rfl) rfl ?_
          refine wp_iconst (v := 1) hX (dk DX2_cutsPlayed 41 rfl) (by decide) ?_
          refine wp_aload_n hX (dk DX2_cutsPlayed 42 rfl) rfl ?_
          refine w_getr hX flX2_21 (dk DX2_cutsPlayed 43 rfl) rfl rfl ?_
          refine wp_iload hX (dk DX2_cutsPlayed 44 rfl) rfl ?_
          refine w_iald (j := _) hX (dk DX2_cutsPlayed 45 rfl) rfl rfl (show _ < 10 by omega) ?_
          refine wp_iadd hX (dk DX2_cutsPlayed 46 rfl) ?_
          refine w_min hX lkX2_90 (dk DX2_cutsPlayed 47 rfl) (by decide) ?_
          refine wp_istore hX (dk DX2_cutsPlayed 48 rfl) rfl hN (Nat.le_of_ble_eq_true rfl) ?_
          show WP _ _ _ 89 [_, _, _, _, _, _] [] _
          refine wp_iinc hX (dk DX2_cutsPlayed 49 rfl) rfl (nI_inc _) rfl hN ?_
          show WP _ _ _ 92 [_, _, _, _, _, _] [] _
          refine wp_goto (tgt := 24) hX (dk DX2_cutsPlayed 50 rfl) (by decide) ?_
          -- to 24
          rw [if_neg h] at ih
          exact ih
      refine wp_iload hX (dk DX2_cutsPlayed 15 rfl) rfl ?_
      refine wp_aload_n hX (dk DX2_cutsPlayed 16 rfl) rfl ?_
      refine w_getr hX flX2_24 (dk DX2_cutsPlayed 17 rfl) rfl rfl ?_
      refine w_callV (As := []) lkX2_32 hX (dk DX2_cutsPlayed 18 rfl) rfl rfl (by simp [Value.category]) hN (k_came d sw f g) ?_
      show WP _ _ _ 33 [_, _, _, _, _, _] [_, _] _
      refine wp_icmp_ge (tgt := 95) hX (dk DX2_cutsPlayed 19 rfl) (by decide) (fun h_ => absurd h_ ((by rw [hn]; exact nI_ge (by omega) (by omega)))) (fun _ => ?_)
      refine wp_iload_n hX (dk DX2_cutsPlayed 20 rfl) rfl ?_
      refine wp_iload hX (dk DX2_cutsPlayed 21 rfl) rfl ?_
      refine w_callS (As := [_, _]) lkX2_42 hX (dk DX2_cutsPlayed 22 rfl) rfl (by decide) (k_holds d s (nI i) _) ?_
      show WP _ _ _ 42 [_, _, _, _, _, _] [_] _
      refine wp_if_eq (tgt := 59) hX (dk DX2_cutsPlayed 23 rfl) (by decide) (fun h => ?_) (fun h => ?_)
      · exact two _ (if_pos h)
      · refine wp_iload_n hX (dk DX2_cutsPlayed 24 rfl) rfl ?_
        refine wp_iconst (v := 1) hX (dk DX2_cutsPlayed 25 rfl) (by decide) ?_
        refine wp_aload_n hX (dk DX2_cutsPlayed 26 rfl) rfl ?_
        refine w_getr hX flX2_21 (dk DX2_cutsPlayed 27 rfl) rfl rfl ?_
        refine wp_iload hX (dk DX2_cutsPlayed 28 rfl) rfl ?_
        refine w_iald (j := _) hX (dk DX2_cutsPlayed 29 rfl) rfl rfl (show _ < 10 by omega) ?_
        refine wp_iadd hX (dk DX2_cutsPlayed 30 rfl) ?_
        refine w_max hX lkX2_52 (dk DX2_cutsPlayed 31 rfl) (by decide) ?_
        refine wp_istore_n hX (dk DX2_cutsPlayed 32 rfl) rfl rfl hN (Nat.le_of_ble_eq_true rfl) ?_
        show WP _ _ _ 59 [_, _, _, _, _, _] [] _
        exact two _ (if_neg h)
  refine wp_iload_n hX (dk DX2_cutsPlayed 0 rfl) rfl ?_
  refine wp_aload_n hX (dk DX2_cutsPlayed 1 rfl) rfl ?_
  refine w_geti hX flX2_80 (dk DX2_cutsPlayed 2 rfl) (by decide) rfl ?_
  refine wp_iand hX (dk DX2_cutsPlayed 3 rfl) ?_
  refine wp_if_eq (tgt := 13) hX (dk DX2_cutsPlayed 4 rfl) (by decide) (fun h => ?_) (fun h => ?_)
  · refine wp_iconst (v := 0) hX (dk DX2_cutsPlayed 7 rfl) (by decide) ?_
    refine wp_istore_n hX (dk DX2_cutsPlayed 8 rfl) rfl rfl hN (Nat.le_of_ble_eq_true rfl) ?_
    show WP _ _ _ 15 [_, _, _, _, _, _] [] _
    refine wp_iconst (v := 0) hX (dk DX2_cutsPlayed 9 rfl) (by decide) ?_
    refine wp_istore_n hX (dk DX2_cutsPlayed 10 rfl) rfl rfl hN (Nat.le_of_ble_eq_true rfl) ?_
    show WP _ _ _ 17 [_, _, _, _, _, _] [] _
    refine wp_bipush (v := 10) hX (dk DX2_cutsPlayed 11 rfl) (by decide) ?_
    refine wp_istore hX (dk DX2_cutsPlayed 12 rfl) rfl hN (Nat.le_of_ble_eq_true rfl) ?_
    show WP _ _ _ 21 [_, _, _, _, _, _] [] _
    refine wp_iconst (v := 0) hX (dk DX2_cutsPlayed 13 rfl) (by decide) ?_
    refine wp_istore hX (dk DX2_cutsPlayed 14 rfl) rfl hN (Nat.le_of_ble_eq_true rfl) ?_
    show WP _ _ _ 24 [_, _, _, _, _, _] [] _
    exact lo 0 (if_pos h) n 0 (by omega)
  · refine wp_iconst (v := 1) hX (dk DX2_cutsPlayed 5 rfl) (by decide) ?_
    refine wp_goto (tgt := 14) hX (dk DX2_cutsPlayed 6 rfl) (by decide) ?_
    -- to 14
    show WP _ _ _ 14 [_, _, _, _, _, _] [_] _
    refine wp_istore_n hX (dk DX2_cutsPlayed 8 rfl) rfl rfl hN (Nat.le_of_ble_eq_true rfl) ?_
    show WP _ _ _ 15 [_, _, _, _, _, _] [] _
    refine wp_iconst (v := 0) hX (dk DX2_cutsPlayed 9 rfl) (by decide) ?_
    refine wp_istore_n hX (dk DX2_cutsPlayed 10 rfl) rfl rfl hN (Nat.le_of_ble_eq_true rfl) ?_
    show WP _ _ _ 17 [_, _, _, _, _, _] [] _
    refine wp_bipush (v := 10) hX (dk DX2_cutsPlayed 11 rfl) (by decide) ?_
    refine wp_istore hX (dk DX2_cutsPlayed 12 rfl) rfl hN (Nat.le_of_ble_eq_true rfl) ?_
    show WP _ _ _ 21 [_, _, _, _, _, _] [] _
    refine wp_iconst (v := 0) hX (dk DX2_cutsPlayed 13 rfl) (by decide) ?_
    refine wp_istore hX (dk DX2_cutsPlayed 14 rfl) rfl hN (Nat.le_of_ble_eq_true rfl) ?_
    show WP _ _ _ 24 [_, _, _, _, _, _] [] _
    exact lo 1 (if_neg h) n 0 (by omega)
/-- the n-th of a set: fuel, figure, how many are ahead -/
def jnth (s q : Int32) : Nat → Nat → Int32 → Int32
  | 0, _, _ => 0
  | k + 1, i, a => if jb s i = 0 then jnth s q k (i + 1) a else if a = q then nI i else jnth s q k (i + 1) (a + 1)
theorem k_nth (d : Nat) (sw : Bool) (f : Nat → Nat → Int32) (g : Nat → Nat → Int64) (n : Nat) (s q : Int32) (hn : f 1 4 = nI n) (hn10 : n ≤ 10) : CT (d + 1) 0 0 iX2_nth [.ref 53, .int s, .int q] (S sw f g) (QR (some (.int (jnth s q n 0 0))) (S sw f g)) := by
  refine CT.of rfl (Nat.le_of_ble_eq_true rfl) (fun X hX hR hN _ => ?_)
  have hX : Good X RX2 cX2_nth (d + 1) 0 0 := hX
  have hN : x_nl X = 5 := hN
  show WP X 0 0 0 [_, _, _, _, _] [] _
  refine wp_iconst (v := 0) hX (dk DX2_nth 0 rfl) (by decide) ?_
  refine wp_istore_n hX (dk DX2_nth 1 rfl) rfl rfl hN (Nat.le_of_ble_eq_true rfl) ?_
  show WP _ _ _ 2 [_, _, _, _, _] [] _
  refine wp_iconst (v := 0) hX (dk DX2_nth 2 rfl) (by decide) ?_
  refine wp_istore hX (dk DX2_nth 3 rfl) rfl hN (Nat.le_of_ble_eq_true rfl) ?_
  show WP _ _ _ 5 [_, _, _, _, _] [] _
  have lo : ∀ (m i : Nat) (a : Int32), i + m = n → jnth s q n 0 0 = jnth s q m i a → WP X 0 0 5 [some (.ref 53), some (.int s), some (.int q), some (.int a), some (.int (nI i))] [] (S sw f g) := by
    intro m
    induction m with
    | zero =>
      intro i a hi e
      refine wp_iload hX (dk DX2_nth 4 rfl) rfl ?_
      refine wp_aload_n hX (dk DX2_nth 5 rfl) rfl ?_
      refine w_getr hX flX2_24 (dk DX2_nth 6 rfl) rfl rfl ?_
      refine w_callV (As := []) lkX2_32 hX (dk DX2_nth 7 rfl) rfl rfl (by simp [Value.category]) hN (k_came d sw f g) ?_
      show WP _ _ _ 14 [_, _, _, _, _] [_, _] _
      refine wp_icmp_ge (tgt := 43) hX (dk DX2_nth 8 rfl) (by decide) (fun _ => ?_) (fun h_ => absurd ((by rw [hn]; exact nI_le (by omega) (by omega))) h_)
      refine wp_iconst (v := 0) hX (dk DX2_nth 21 rfl) (by decide) ?_
      exact wp_ireturn hX hR (dk DX2_nth 22 rfl) rfl (Nat.le_refl _) (Nat.le_refl _) (⟨by rw [e]; rfl, rfl⟩)
    | succ m ih =>
      intro i a hi e
      rw [show jnth s q (m + 1) i a = if jb s i = 0 then jnth s q m (i + 1) a else if a = q then nI i else jnth s q m (i + 1) (a + 1) from rfl] at e
      refine wp_iload hX (dk DX2_nth 4 rfl) rfl ?_
      refine wp_aload_n hX (dk DX2_nth 5 rfl) rfl ?_
      refine w_getr hX flX2_24 (dk DX2_nth 6 rfl) rfl rfl ?_
      refine w_callV (As := []) lkX2_32 hX (dk DX2_nth 7 rfl) rfl rfl (by simp [Value.category]) hN (k_came d sw f g) ?_
      show WP _ _ _ 14 [_, _, _, _, _] [_, _] _
      refine wp_icmp_ge (tgt := 43) hX (dk DX2_nth 8 rfl) (by decide) (fun h_ => absurd h_ ((by rw [hn]; exact nI_ge (by omega) (by omega)))) (fun _ => ?_)
      refine wp_iload_n hX (dk DX2_nth 9 rfl) rfl ?_
      refine wp_iload hX (dk DX2_nth 10 rfl) rfl ?_
      refine w_callS (As := [_, _]) lkX2_42 hX (dk DX2_nth 11 rfl) rfl (by decide) (k_holds d s (nI i) _) ?_
      show WP _ _ _ 23 [_, _, _, _, _] [_] _
      refine wp_if_eq (tgt := 37) hX (dk DX2_nth 12 rfl) (by decide) (fun h => ?_) (fun h => ?_)
      · refine wp_iinc hX (dk DX2_nth 19 rfl) rfl (nI_inc _) rfl hN ?_
        show WP _ _ _ 40 [_, _, _, _, _] [] _
        refine wp_goto (tgt := 5) hX (dk DX2_nth 20 rfl) (by decide) ?_
        -- to 5
        rw [if_pos h] at e
        exact ih (i + 1) a (by omega) e
      · refine wp_iload_n hX (dk DX2_nth 13 rfl) rfl ?_
        refine wp_iload_n hX (dk DX2_nth 14 rfl) rfl ?_
        rw [if_neg h] at e
        refine wp_icmp_ne (tgt := 34) hX (dk DX2_nth 15 rfl) (by decide) (fun h2 => ?_) (fun h2 => ?_)
        · refine wp_iinc hX (dk DX2_nth 18 rfl) rfl (i_inc _) rfl hN ?_
          show WP _ _ _ 37 [_, _, _, _, _] [] _
          refine wp_iinc hX (dk DX2_nth 19 rfl) rfl (nI_inc _) rfl hN ?_
          show WP _ _ _ 40 [_, _, _, _, _] [] _
          refine wp_goto (tgt := 5) hX (dk DX2_nth 20 rfl) (by decide) ?_
          -- to 5
          rw [if_neg h2] at e
          exact ih (i + 1) _ (by omega) e
        · refine wp_iload hX (dk DX2_nth 16 rfl) rfl ?_
          rw [if_pos h2] at e
          exact wp_ireturn hX hR (dk DX2_nth 17 rfl) rfl (Nat.le_refl _) (Nat.le_refl _) (⟨by rw [e], rfl⟩)
  exact lo n 0 0 (by omega) rfl
/-- with which figure to go on: fuel, figure, what is best (figure, sum, steps) -/
def jrn (sm sp : Nat → Int32) (s : Int32) (p : Nat) : Nat → Nat → Int32 × Int32 × Int32 → Int32 × Int32 × Int32
  | 0, _, b => b
  | k + 1, i, b => jrn sm sp s p k (i + 1) (if ¬ jb s i = 0 ∧ (b.2.1 < sm (p * 10 + i) ∨ (sm (p * 10 + i) = b.2.1 ∧ sp (p * 10 + i) < b.2.2)) then (nI i, sm (p * 10 + i), sp (p * 10 + i)) else b)
theorem ix10 (a b : Nat) : nI a * 10 + nI b = nI (a * 10 + b) := by rw [show (10 : Int32) = nI 10 from rfl, pk_mul, nI_add]
theorem k_richestNext (d : Nat) (sw : Bool) (f : Nat → Nat → Int32) (g : Nat → Nat → Int64) (n p : Nat) (s : Int32) (hn : f 1 4 = nI n) (hn10 : n ≤ 10) (hp : p ≤ 10) : CT (d + 1) 0 0 iX2_richestNext [.ref 53, .int s, .int (nI p)] (S sw f g) (QR (some (.int (if p < 10 then (jrn (f 55) (f 56) s p n 0 (-2, 0, 0)).1 else -2))) (S sw f g)) := by
  refine CT.of rfl (Nat.le_of_ble_eq_true rfl) (fun X hX hR hN _ => ?_)
  have hX : Good X RX2 cX2_richestNext (d + 1) 0 0 := hX
  have hN : x_nl X = 8 := hN
  show WP X 0 0 0 [_, _, _, _, _, _, _, _] [] _
  refine wp_bipush (v := -2) hX (dk DX2_richestNext 0 rfl) (by decide) ?_
  refine wp_istore_n hX (dk DX2_richestNext 1 rfl) rfl rfl hN (Nat.le_of_ble_eq_true rfl) ?_
  show WP _ _ _ 3 [_, _, _, _, _, _, _, _] [] _
  refine wp_iconst (v := 0) hX (dk DX2_richestNext 2 rfl) (by decide) ?_
  refine wp_istore hX (dk DX2_richestNext 3 rfl) rfl hN (Nat.le_of_ble_eq_true rfl) ?_
  show WP _ _ _ 6 [_, _, _, _, _, _, _, _] [] _
  refine wp_iconst (v := 0) hX (dk DX2_richestNext 4 rfl) (by decide) ?_
  refine wp_istore hX (dk DX2_richestNext 5 rfl) rfl hN (Nat.le_of_ble_eq_true rfl) ?_
  show WP _ _ _ 9 [_, _, _, _, _, _, _, _] [] _
  refine wp_iconst (v := 0) hX (dk DX2_richestNext 6 rfl) (by decide) ?_
  refine wp_istore hX (dk DX2_richestNext 7 rfl) rfl hN (Nat.le_of_ble_eq_true rfl) ?_
  show WP _ _ _ 12 [_, _, _, _, _, _, _, _] [] _
  by_cases hp10 : p < 10
  · rw [if_pos hp10] at hR
    have lo : ∀ (m i : Nat) (b : Int32 × Int32 × Int32) (z : Option Value), i + m = n → jrn (f 55) (f 56) s p n 0 (-2, 0, 0) = jrn (f 55) (f 56) s p m i b → WP X 0 0 12 [some (.ref 53), some (.int s), some (.int (nI p)), some (.int b.1), some (.int b.2.1), some (.int b.2.2), some (.int (nI i)), z] [] (S sw f g) := by
      intro m
      induction m with
      | zero =>
        intro i b z hi e
        refine wp_iload hX (dk DX2_richestNext 8 rfl) rfl ?_
        refine wp_aload_n hX (dk DX2_richestNext 9 rfl) rfl ?_
        refine w_getr hX flX2_24 (dk DX2_richestNext 10 rfl) rfl rfl ?_
        refine w_callV (As := []) lkX2_32 hX (dk DX2_richestNext 11 rfl) rfl rfl (by simp [Value.category]) hN (k_came d sw f g) ?_
        show WP _ _ _ 21 [_, _, _, _, _, _, _, _] [_, _] _
        refine wp_icmp_ge (tgt := 111) hX (dk DX2_richestNext 12 rfl) (by decide) (fun _ => ?_) (fun h_ => absurd ((by rw [hn]; exact nI_le (by omega) (by omega))) h_)
        refine wp_iload_n hX (dk DX2_richestNext 58 rfl) rfl ?_
        exact wp_ireturn hX hR (dk DX2_richestNext 59 rfl) rfl (Nat.le_refl _) (Nat.le_refl _) (⟨by rw [e]; rfl, rfl⟩)
      | succ m ih =>
        intro i b z hi e
        rw [show jrn (f 55) (f 56) s p (m + 1) i b = jrn (f 55) (f 56) s p m (i + 1) (if ¬ jb s i = 0 ∧ (b.2.1 < f 55 (p * 10 + i) ∨ (f 55 (p * 10 + i) = b.2.1 ∧ f 56 (p * 10 + i) < b.2.2)) then (nI i, f 55 (p * 10 + i), f 56 (p * 10 + i)) else b) from rfl] at e
        refine wp_iload hX (dk DX2_richestNext 8 rfl) rfl ?_
        refine wp_aload_n hX (dk DX2_richestNext 9 rfl) rfl ?_
        refine w_getr hX flX2_24 (dk DX2_richestNext 10 rfl) rfl rfl ?_
        refine w_callV (As := []) lkX2_32 hX (dk DX2_richestNext 11 rfl) rfl rfl (by simp [Value.category]) hN (k_came d sw f g) ?_
        show WP _ _ _ 21 [_, _, _, _, _, _, _, _] [_, _] _
        refine wp_icmp_ge (tgt := 111) hX (dk DX2_richestNext 12 rfl) (by decide) (fun h_ => absurd h_ ((by rw [hn]; exact nI_ge (by omega) (by omega)))) (fun _ => ?_)
        refine wp_iload_n hX (dk DX2_richestNext 13 rfl) rfl ?_
        refine wp_bipush (v := 10) hX (dk DX2_richestNext 14 rfl) (by decide) ?_
        refine wp_icmp_ge (tgt := 111) hX (dk DX2_richestNext 15 rfl) (by decide) (fun h_ => absurd h_ ((nI_ge (b := 10) hp10 (by omega)))) (fun _ => ?_)
        refine wp_iload_n hX (dk DX2_richestNext 16 rfl) rfl ?_
        refine wp_bipush (v := 10) hX (dk DX2_richestNext 17 rfl) (by decide) ?_
        refine wp_imul hX (dk DX2_richestNext 18 rfl) ?_
        refine wp_iload hX (dk DX2_richestNext 19 rfl) rfl ?_
        refine wp_iadd hX (dk DX2_richestNext 20 rfl) ?_
        rw [ix10]
        refine wp_istore hX (dk DX2_richestNext 21 rfl) rfl hN (Nat.le_of_ble_eq_true rfl) ?_
        show WP _ _ _ 39 [_, _, _, _, _, _, _, _] [] _
        refine wp_iload_n hX (dk DX2_richestNext 22 rfl) rfl ?_
        refine wp_iload hX (dk DX2_richestNext 23 rfl) rfl ?_
        refine w_callS (As := [_, _]) lkX2_42 hX (dk DX2_richestNext 24 rfl) rfl (by decide) (k_holds d s (nI i) _) ?_
        show WP _ _ _ 45 [_, _, _, _, _, _, _, _] [_] _
        refine wp_if_eq (tgt := 105) hX (dk DX2_richestNext 25 rfl) (by decide) (fun h1 => ?_) (fun h1 => ?_)
        · refine wp_iinc hX (dk DX2_richestNext 56 rfl) rfl (nI_inc _) rfl hN ?_
          show WP _ _ _ 108 [_, _, _, _, _, _, _, _] [] _
          refine wp_goto (tgt := 12) hX (dk DX2_richestNext 57 rfl) (by decide) ?_
          -- to 12
          rw [if_neg (fun q => q.1 h1)] at e
          exact ih (i + 1) b _ (by omega) e
        · refine wp_aload_n hX (dk DX2_richestNext 26 rfl) rfl ?_
          refine w_getr hX flX2_15 (dk DX2_richestNext 27 rfl) rfl rfl ?_
          refine wp_iload hX (dk DX2_richestNext 28 rfl) rfl ?_
          refine w_iald (j := _) hX (dk DX2_richestNext 29 rfl) rfl rfl (show _ < 100 by omega) ?_
          refine wp_iload hX (dk DX2_richestNext 30 rfl) rfl ?_
          refine wp_icmp_gt (tgt := 84) hX (dk DX2_richestNext 31 rfl) (by decide) (fun h2 => ?_) (fun h2 => ?_)
          · refine wp_iload hX (dk DX2_richestNext 44 rfl) rfl ?_
            refine wp_istore_n hX (dk DX2_richestNext 45 rfl) rfl rfl hN (Nat.le_of_ble_eq_true rfl) ?_
            show WP _ _ _ 87 [_, _, _, _, _, _, _, _] [] _
            refine wp_aload_n hX (dk DX2_richestNext 46 rfl) rfl ?_
            refine w_getr hX flX2_15 (dk DX2_richestNext 47 rfl) rfl rfl ?_
            refine wp_iload hX (dk DX2_richestNext 48 rfl) rfl ?_
            refine w_iald (j := _) hX (dk DX2_richestNext 49 rfl) rfl rfl (show _ < 100 by omega) ?_
            refine wp_istore hX (dk DX2_richestNext 50 rfl) rfl hN (Nat.le_of_ble_eq_true rfl) ?_
            show WP _ _ _ 96 [_, _, _, _, _, _, _, _] [] _
            refine wp_aload_n hX (dk DX2_richestNext 51 rfl) rfl ?_
            refine w_getr hX flX2_18 (dk DX2_richestNext 52 rfl) rfl rfl ?_
            refine wp_iload hX (dk DX2_richestNext 53 rfl) rfl ?_
            refine w_iald (j := _) hX (dk DX2_richestNext 54 rfl) rfl rfl (show _ < 100 by omega) ?_
            refine wp_istore hX (dk DX2_richestNext 55 rfl) rfl hN (Nat.le_of_ble_eq_true rfl) ?_
            show WP _ _ _ 105 [_, _, _, _, _, _, _, _] [] _
            refine wp_iinc hX (dk DX2_richestNext 56 rfl) rfl (nI_inc _) rfl hN ?_
            show WP _ _ _ 108 [_, _, _, _, _, _, _, _] [] _
            refine wp_goto (tgt := 12) hX (dk DX2_richestNext 57 rfl) (by decide) ?_
            -- to 12
            rw [if_pos ⟨h1, Or.inl h2⟩] at e
            exact ih (i + 1) _ _ (by omega) e
          · refine wp_aload_n hX (dk DX2_richestNext 32 rfl) rfl ?_
            refine w_getr hX flX2_15 (dk DX2_richestNext 33 rfl) rfl rfl ?_
            refine wp_iload hX (dk DX2_richestNext 34 rfl) rfl ?_
            refine w_iald (j := _) hX (dk DX2_richestNext 35 rfl) rfl rfl (show _ < 100 by omega) ?_
            refine wp_iload hX (dk DX2_richestNext 36 rfl) rfl ?_
            refine wp_icmp_ne (tgt := 105) hX (dk DX2_richestNext 37 rfl) (by decide) (fun h3 => ?_) (fun h3 => ?_)
            · refine wp_iinc hX (dk DX2_richestNext 56 rfl) rfl (nI_inc _) rfl hN ?_
              show WP _ _ _ 108 [_, _, _, _, _, _, _, _] [] _
              refine wp_goto (tgt := 12) hX (dk DX2_richestNext 57 rfl) (by decide) ?_
              -- to 12
              rw [if_neg (fun q => q.2.elim h2 (fun q => h3 q.1))] at e
              exact ih (i + 1) b _ (by omega) e
            · refine wp_aload_n hX (dk DX2_richestNext 38 rfl) rfl ?_
              refine w_getr hX flX2_18 (dk DX2_richestNext 39 rfl) rfl rfl ?_
              refine wp_iload hX (dk DX2_richestNext 40 rfl) rfl ?_
              refine w_iald (j := _) hX (dk DX2_richestNext 41 rfl) rfl rfl (show _ < 100 by omega) ?_
              refine wp_iload hX (dk DX2_richestNext 42 rfl) rfl ?_
              refine wp_icmp_ge (tgt := 105) hX (dk DX2_richestNext 43 rfl) (by decide) (fun h4 => ?_) (fun h4 => ?_)
              · refine wp_iinc hX (dk DX2_richestNext 56 rfl) rfl (nI_inc _) rfl hN ?_
                show WP _ _ _ 108 [_, _, _, _, _, _, _, _] [] _
                refine wp_goto (tgt := 12) hX (dk DX2_richestNext 57 rfl) (by decide) ?_
                -- to 12
                rw [if_neg (fun q => q.2.elim h2 (fun q => Int32.not_lt.mpr h4 q.2))] at e
                exact ih (i + 1) b _ (by omega) e
              · refine wp_iload hX (dk DX2_richestNext 44 rfl) rfl ?_
                refine wp_istore_n hX (dk DX2_richestNext 45 rfl) rfl rfl hN (Nat.le_of_ble_eq_true rfl) ?_
                show WP _ _ _ 87 [_, _, _, _, _, _, _, _] [] _
                refine wp_aload_n hX (dk DX2_richestNext 46 rfl) rfl ?_
                refine w_getr hX flX2_15 (dk DX2_richestNext 47 rfl) rfl rfl ?_
                refine wp_iload hX (dk DX2_richestNext 48 rfl) rfl ?_
                refine w_iald (j := _) hX (dk DX2_richestNext 49 rfl) rfl rfl (show _ < 100 by omega) ?_
                refine wp_istore hX (dk DX2_richestNext 50 rfl) rfl hN (Nat.le_of_ble_eq_true rfl) ?_
                show WP _ _ _ 96 [_, _, _, _, _, _, _, _] [] _
                refine wp_aload_n hX (dk DX2_richestNext 51 rfl) rfl ?_
                refine w_getr hX flX2_18 (dk DX2_richestNext 52 rfl) rfl rfl ?_
                refine wp_iload hX (dk DX2_richestNext 53 rfl) rfl ?_
                refine w_iald (j := _) hX (dk DX2_richestNext 54 rfl) rfl rfl (show _ < 100 by omega) ?_
                refine wp_istore hX (dk DX2_richestNext 55 rfl) rfl hN (Nat.le_of_ble_eq_true rfl) ?_
                show WP _ _ _ 105 [_, _, _, _, _, _, _, _] [] _
                refine wp_iinc hX (dk DX2_richestNext 56 rfl) rfl (nI_inc _) rfl hN ?_
                show WP _ _ _ 108 [_, _, _, _, _, _, _, _] [] _
                refine wp_goto (tgt := 12) hX (dk DX2_richestNext 57 rfl) (by decide) ?_
                -- to 12
                rw [if_pos ⟨h1, Or.inr ⟨h3, Int32.not_le.mp h4⟩⟩] at e
                exact ih (i + 1) _ _ (by omega) e
    exact lo n 0 (-2, 0, 0) none (by omega) rfl
  · obtain rfl : p = 10 := by omega
    rw [if_neg hp10] at hR
    have out : WP X 0 0 111 [some (.ref 53), some (.int s), some (.int (nI 10)), some (.int (-2)), some (.int 0), some (.int 0), some (.int 0), none] [] (S sw f g) := by
      refine wp_iload_n hX (dk DX2_richestNext 58 rfl) rfl ?_
      exact wp_ireturn hX hR (dk DX2_richestNext 59 rfl) rfl (Nat.le_refl _) (Nat.le_refl _) (⟨rfl, rfl⟩)
    refine wp_iload hX (dk DX2_richestNext 8 rfl) rfl ?_
    refine wp_aload_n hX (dk DX2_richestNext 9 rfl) rfl ?_
    refine w_getr hX flX2_24 (dk DX2_richestNext 10 rfl) rfl rfl ?_
    refine w_callV (As := []) lkX2_32 hX (dk DX2_richestNext 11 rfl) rfl rfl (by simp [Value.category]) hN (k_came d sw f g) ?_
    show WP _ _ _ 21 [_, _, _, _, _, _, _, _] [_, _] _
    refine wp_icmp_ge (tgt := 111) hX (dk DX2_richestNext 12 rfl) (by decide) (fun h => ?_) (fun h => ?_)
    · exact out
    · refine wp_iload_n hX (dk DX2_richestNext 13 rfl) rfl ?_
      refine wp_bipush (v := 10) hX (dk DX2_richestNext 14 rfl) (by decide) ?_
      refine wp_icmp_ge (tgt := 111) hX (dk DX2_richestNext 15 rfl) (by decide) (fun _ => ?_) (fun h_ => absurd ((by decide)) h_)
      exact out
