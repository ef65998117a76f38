/-! THE CLASS'S CALLS: blocks, traits, tape, law, deeds -/
theorem t_block0 (d : Nat) (sw : Bool) (f : Nat → Nat → Int32) (g : Nat → Nat → Int64) (x : Int32) (h : ¬ shp x) : CT (d + 110) 0 0 iX10_block [.ref 0, .int x] (S sw f g) (rdC g f (-1)) := by
  refine CT.rdC ?_
  refine CT.of rfl (Nat.le_of_ble_eq_true rfl) (fun X hX hR hN _ => ?_)
  have hX : Good X RX10 cX10_block (d + 110) 0 0 := hX
  have hN : x_nl X = 2 := hN
  show WP X 0 0 0 [_, _] [] _
  refine wp_iload_n hX (dk DX10_block 0 rfl) rfl ?_
  refine w_callS (As := [_]) lkX10_83 hX (dk DX10_block 1 rfl) rfl (by decide) (k_isShape0 (d + 109) x _ h) ?_
  show WP _ _ _ 4 [_, _] [_] _
  refine wp_if_ne (tgt := 9) hX (dk DX10_block 2 rfl) (by decide) (fun h_ => absurd (rfl) h_) (fun _ => ?_)
  refine wp_iconst (v := -1) hX (dk DX10_block 3 rfl) (by decide) ?_
  exact wp_ireturn hX hR (dk DX10_block 4 rfl) rfl (Nat.le_refl _) (Nat.le_refl _) (⟨rfl, rfl⟩)
theorem t_blockF (d : Nat) (sw : Bool) (f : Nat → Nat → Int32) (g : Nat → Nat → Int64) (x : Int32) (h : shp x) (hm : f 61 6 = nI 6) : CT (d + 110) 0 0 iX10_block [.ref 0, .int x] (S sw f g) (rdC g f (-3)) := by
  refine CT.rdC ?_
  refine CT.of rfl (Nat.le_of_ble_eq_true rfl) (fun X hX hR hN _ => ?_)
  have hX : Good X RX10 cX10_block (d + 110) 0 0 := hX
  have hN : x_nl X = 2 := hN
  show WP X 0 0 0 [_, _] [] _
  refine wp_iload_n hX (dk DX10_block 0 rfl) rfl ?_
  refine w_callS (As := [_]) lkX10_83 hX (dk DX10_block 1 rfl) rfl (by decide) (k_isShape1 (d + 109) x _ h) ?_
  show WP _ _ _ 4 [_, _] [_] _
  refine wp_if_ne (tgt := 9) hX (dk DX10_block 2 rfl) (by decide) (fun _ => ?_) (fun h_ => absurd h_ (by decide))
  refine wp_aload_n hX (dk DX10_block 5 rfl) rfl ?_
  refine w_getr hX flX10_51 (dk DX10_block 6 rfl) rfl rfl ?_
  refine wp_iload_n hX (dk DX10_block 7 rfl) rfl ?_
  refine w_callV (As := [_]) lkX10_102 hX (dk DX10_block 8 rfl) rfl rfl (by decide) hN (k_yadd_full (d + 109) sw f g x hm) ?_
  show WP _ _ _ 17 [_, _] [_] _
  exact wp_ireturn hX hR (dk DX10_block 9 rfl) rfl (Nat.le_refl _) (Nat.le_refl _) (⟨rfl, rfl⟩)
theorem t_block1 (d : Nat) (sw : Bool) (f : Nat → Nat → Int32) (g : Nat → Nat → Int64) (m : Nat) (x : Int32) (h : shp x) (hm : f 61 6 = nI m) (hm6 : m < 6) : CT (d + 110) 0 0 iX10_block [.ref 0, .int x] (S sw f g) (QR (some (.int (nI m))) (S sw (u2 (u2 f 62 m x) 61 6 (nI (m + 1))) g)) := by
  refine CT.of rfl (Nat.le_of_ble_eq_true rfl) (fun X hX hR hN _ => ?_)
  have hX : Good X RX10 cX10_block (d + 110) 0 0 := hX
  have hN : x_nl X = 2 := hN
  show WP X 0 0 0 [_, _] [] _
  refine wp_iload_n hX (dk DX10_block 0 rfl) rfl ?_
  refine w_callS (As := [_]) lkX10_83 hX (dk DX10_block 1 rfl) rfl (by decide) (k_isShape1 (d + 109) x _ h) ?_
  show WP _ _ _ 4 [_, _] [_] _
  refine wp_if_ne (tgt := 9) hX (dk DX10_block 2 rfl) (by decide) (fun _ => ?_) (fun h_ => absurd h_ (by decide))
  refine wp_aload_n hX (dk DX10_block 5 rfl) rfl ?_
  refine w_getr hX flX10_51 (dk DX10_block 6 rfl) rfl rfl ?_
  refine wp_iload_n hX (dk DX10_block 7 rfl) rfl ?_
  refine w_callV (As := [_]) lkX10_102 hX (dk DX10_block 8 rfl) rfl rfl (by decide) hN (k_yadd (d + 109) sw f g m x hm6 hm) ?_
  show WP _ _ _ 17 [_, _] [_] _
  exact wp_ireturn hX hR (dk DX10_block 9 rfl) rfl (Nat.le_refl _) (Nat.le_refl _) (⟨rfl, rfl⟩)
/-- the most a trait can be -/
def mosN (w : Nat) : Nat := [999, 9, 99].getD w 0
theorem mosN_le : ∀ w, w < 3 → x_most w = nI (mosN w) ∧ mosN w < 1000 := by decide +kernel
/-- number, trait, value as they must be -/
def mdG (n : Nat) (x y v : Int32) : Prop := ∃ i w u, i < n ∧ w < 3 ∧ u ≤ mosN w ∧ x = nI i ∧ y = nI w ∧ v = nI u
theorem t_mend0 (d : Nat) (sw : Bool) (f : Nat → Nat → Int32) (g : Nat → Nat → Int64) (n : Nat) (x y v : Int32) (hn : f 1 4 = nI n) (hn10 : n ≤ 10) (h : ¬ mdG n x y v) : CT (d + 110) 0 0 iX10_mend [.ref 0, .int x, .int y, .int v] (S sw f g) (rdC g f (-1)) := by
  refine CT.rdC ?_
  refine CT.of rfl (Nat.le_of_ble_eq_true rfl) (fun X hX hR hN _ => ?_)
  have hX : Good X RX10 cX10_mend (d + 110) 0 0 := hX
  have hN : x_nl X = 5 := hN
  show WP X 0 0 0 [_, _, _, _, _] [] _
  by_cases c : ∃ w, w < 3 ∧ y = nI w
  · obtain ⟨w, hw, rfl⟩ := c
    obtain ⟨m1, m2⟩ := mosN_le w hw
    refine wp_aload_n hX (dk DX10_mend 0 rfl) rfl ?_
    refine w_getr hX flX10_10 (dk DX10_mend 1 rfl) rfl rfl ?_
    refine wp_iload_n hX (dk DX10_mend 2 rfl) rfl ?_
    refine w_callV (As := [_]) lkX10_104 hX (dk DX10_mend 3 rfl) rfl rfl (by decide) hN (k_has (d + 109) sw f g x) ?_
    show WP _ _ _ 8 [_, _, _, _, _] [_] _
    rw [hn]
    refine wp_if_eq (tgt := 33) hX (dk DX10_mend 4 rfl) (by decide) (fun h8 => ?_) (fun h8 => ?_)
    · refine wp_iconst (v := -1) hX (dk DX10_mend 17 rfl) (by decide) ?_
      exact wp_ireturn hX hR (dk DX10_mend 18 rfl) rfl (Nat.le_refl _) (Nat.le_refl _) (⟨rfl, rfl⟩)
    · refine wp_iload_n hX (dk DX10_mend 5 rfl) rfl ?_
      refine wp_if_lt (tgt := 33) hX (dk DX10_mend 6 rfl) (by decide) (fun h_ => absurd h_ (nI_pos (by omega))) (fun _ => ?_)
      refine wp_iload_n hX (dk DX10_mend 7 rfl) rfl ?_
      refine wp_iconst (v := 3) hX (dk DX10_mend 8 rfl) (by decide) ?_
      refine wp_icmp_ge (tgt := 33) hX (dk DX10_mend 9 rfl) (by decide) (fun h_ => absurd h_ (nI_ge (b := 3) (by omega) (by omega))) (fun _ => ?_)
      refine wp_iload_n hX (dk DX10_mend 10 rfl) rfl ?_
      refine wp_if_lt (tgt := 33) hX (dk DX10_mend 11 rfl) (by decide) (fun h21 => ?_) (fun h21 => ?_)
      · refine wp_iconst (v := -1) hX (dk DX10_mend 17 rfl) (by decide) ?_
        exact wp_ireturn hX hR (dk DX10_mend 18 rfl) rfl (Nat.le_refl _) (Nat.le_refl _) (⟨rfl, rfl⟩)
      · refine wp_iload_n hX (dk DX10_mend 12 rfl) rfl ?_
        refine wp_most hX fsX10_105 (dk DX10_mend 13 rfl) ?_
        refine wp_iload_n hX (dk DX10_mend 14 rfl) rfl ?_
        refine wp_t1 hX (dk DX10_mend 15 rfl) (nI_in (N := 3) hw (by omega)) ?_
        rw [nI_clamp (by omega), m1]
        refine wp_icmp_le (tgt := 35) hX (dk DX10_mend 16 rfl) (by decide) (fun h30 => ?_) (fun h30 => ?_)
        · refine absurd ?_ h
          obtain ⟨i, a1, a2⟩ := jin_ex (by omega) h8
          obtain ⟨u, b1, b2⟩ := rg_le2 (by omega) h21 h30
          exact ⟨i, w, u, a1, hw, b1, a2, rfl, b2⟩
        · refine wp_iconst (v := -1) hX (dk DX10_mend 17 rfl) (by decide) ?_
          exact wp_ireturn hX hR (dk DX10_mend 18 rfl) rfl (Nat.le_refl _) (Nat.le_refl _) (⟨rfl, rfl⟩)
  · refine wp_aload_n hX (dk DX10_mend 0 rfl) rfl ?_
    refine w_getr hX flX10_10 (dk DX10_mend 1 rfl) rfl rfl ?_
    refine wp_iload_n hX (dk DX10_mend 2 rfl) rfl ?_
    refine w_callV (As := [_]) lkX10_104 hX (dk DX10_mend 3 rfl) rfl rfl (by decide) hN (k_has (d + 109) sw f g x) ?_
    show WP _ _ _ 8 [_, _, _, _, _] [_] _
    rw [hn]
    refine wp_if_eq (tgt := 33) hX (dk DX10_mend 4 rfl) (by decide) (fun h8 => ?_) (fun h8 => ?_)
    · refine wp_iconst (v := -1) hX (dk DX10_mend 17 rfl) (by decide) ?_
      exact wp_ireturn hX hR (dk DX10_mend 18 rfl) rfl (Nat.le_refl _) (Nat.le_refl _) (⟨rfl, rfl⟩)
    · refine wp_iload_n hX (dk DX10_mend 5 rfl) rfl ?_
      refine wp_if_lt (tgt := 33) hX (dk DX10_mend 6 rfl) (by decide) (fun h12 => ?_) (fun h12 => ?_)
      · refine wp_iconst (v := -1) hX (dk DX10_mend 17 rfl) (by decide) ?_
        exact wp_ireturn hX hR (dk DX10_mend 18 rfl) rfl (Nat.le_refl _) (Nat.le_refl _) (⟨rfl, rfl⟩)
      · refine wp_iload_n hX (dk DX10_mend 7 rfl) rfl ?_
        refine wp_iconst (v := 3) hX (dk DX10_mend 8 rfl) (by decide) ?_
        refine wp_icmp_ge (tgt := 33) hX (dk DX10_mend 9 rfl) (by decide) (fun h17 => ?_) (fun h17 => ?_)
        · refine wp_iconst (v := -1) hX (dk DX10_mend 17 rfl) (by decide) ?_
          exact wp_ireturn hX hR (dk DX10_mend 18 rfl) rfl (Nat.le_refl _) (Nat.le_refl _) (⟨rfl, rfl⟩)
        · exact absurd (rg_lt (k := 3) (by decide) h12 h17) c
theorem t_mendS (d : Nat) (sw : Bool) (f : Nat → Nat → Int32) (g : Nat → Nat → Int64) (n i w u : Nat) (hn : f 1 4 = nI n) (hn10 : n ≤ 10) (hi : i < n) (hw : w < 3) (hu : u ≤ mosN w) (he : f 3 (i * 3 + w) = nI u) : CT (d + 110) 0 0 iX10_mend [.ref 0, .int (nI i), .int (nI w), .int (nI u)] (S sw f g) (rdC g f (nI u)) := by
  obtain ⟨m1, m2⟩ := mosN_le w hw
  refine CT.rdC ?_
  refine CT.of rfl (Nat.le_of_ble_eq_true rfl) (fun X hX hR hN _ => ?_)
  have hX : Good X RX10 cX10_mend (d + 110) 0 0 := hX
  have hN : x_nl X = 5 := hN
  show WP X 0 0 0 [_, _, _, _, _] [] _
  refine wp_aload_n hX (dk DX10_mend 0 rfl) rfl ?_
  refine w_getr hX flX10_10 (dk DX10_mend 1 rfl) rfl rfl ?_
  refine wp_iload_n hX (dk DX10_mend 2 rfl) rfl ?_
  refine w_callV (As := [_]) lkX10_104 hX (dk DX10_mend 3 rfl) rfl rfl (by decide) hN (k_has (d + 109) sw f g (nI i)) ?_
  show WP _ _ _ 8 [_, _, _, _, _] [_] _
  rw [hn, jin_1 (by omega) hi rfl]
  refine wp_if_eq (tgt := 33) hX (dk DX10_mend 4 rfl) (by decide) (fun h_ => absurd h_ (by decide)) (fun _ => ?_)
  refine wp_iload_n hX (dk DX10_mend 5 rfl) rfl ?_
  refine wp_if_lt (tgt := 33) hX (dk DX10_mend 6 rfl) (by decide) (fun h_ => absurd h_ (nI_pos (by omega))) (fun _ => ?_)
  refine wp_iload_n hX (dk DX10_mend 7 rfl) rfl ?_
  refine wp_iconst (v := 3) hX (dk DX10_mend 8 rfl) (by decide) ?_
  refine wp_icmp_ge (tgt := 33) hX (dk DX10_mend 9 rfl) (by decide) (fun h_ => absurd h_ (nI_ge (b := 3) (by omega) (by omega))) (fun _ => ?_)
  refine wp_iload_n hX (dk DX10_mend 10 rfl) rfl ?_
  refine wp_if_lt (tgt := 33) hX (dk DX10_mend 11 rfl) (by decide) (fun h_ => absurd h_ (nI_pos (by omega))) (fun _ => ?_)
  refine wp_iload_n hX (dk DX10_mend 12 rfl) rfl ?_
  refine wp_most hX fsX10_105 (dk DX10_mend 13 rfl) ?_
  refine wp_iload_n hX (dk DX10_mend 14 rfl) rfl ?_
  refine wp_t1 hX (dk DX10_mend 15 rfl) (nI_in (N := 3) hw (by omega)) ?_
  rw [nI_clamp (by omega), m1]
  refine wp_icmp_le (tgt := 35) hX (dk DX10_mend 16 rfl) (by decide) (fun _ => ?_) (fun h_ => absurd (nI_le hu (by omega)) h_)
  refine wp_aload_n hX (dk DX10_mend 19 rfl) rfl ?_
  refine w_getr hX flX10_10 (dk DX10_mend 20 rfl) rfl rfl ?_
  refine wp_iload_n hX (dk DX10_mend 21 rfl) rfl ?_
  refine wp_iload_n hX (dk DX10_mend 22 rfl) rfl ?_
  refine w_callV (As := [_, _]) lkX10_109 hX (dk DX10_mend 23 rfl) rfl rfl (by decide) hN (k_traitOf (d + 109) sw f g i w (by omega) hw) ?_
  show WP _ _ _ 44 [_, _, _, _, _] [_] _
  rw [he]
  refine wp_istore hX (dk DX10_mend 24 rfl) rfl hN (Nat.le_of_ble_eq_true rfl) ?_
  show WP _ _ _ 46 [_, _, _, _, _] [] _
  refine wp_iload hX (dk DX10_mend 25 rfl) rfl ?_
  refine wp_iload_n hX (dk DX10_mend 26 rfl) rfl ?_
  refine wp_icmp_eq (tgt := 74) hX (dk DX10_mend 27 rfl) (by decide) (fun _ => ?_) (fun h_ => absurd (rfl) h_)
  refine wp_iload hX (dk DX10_mend 41 rfl) rfl ?_
  exact wp_ireturn hX hR (dk DX10_mend 42 rfl) rfl (Nat.le_refl _) (Nat.le_refl _) (⟨rfl, rfl⟩)
theorem t_mend1 (d : Nat) (sw : Bool) (f : Nat → Nat → Int32) (g : Nat → Nat → Int64) (n i w u q : Nat) (hn : f 1 4 = nI n) (hn10 : n ≤ 10) (hi : i < n) (hw : w < 3) (hu : u ≤ mosN w) (he : ¬ f 3 (i * 3 + w) = nI u) (hq : f 68 1 = nI q) (hq40 : q < 40) : CT (d + 110) 0 0 iX10_mend [.ref 0, .int (nI i), .int (nI w), .int (nI u)] (S sw f g) (QR (some (.int (f 3 (i * 3 + w)))) (S sw (jchp (u2 f 3 (i * 3 + w) (nI u)) q (nI i) (nI w) (f 3 (i * 3 + w)) (nI u)) g)) := by
  obtain ⟨m1, m2⟩ := mosN_le w hw
  refine CT.of rfl (Nat.le_of_ble_eq_true rfl) (fun X hX hR hN _ => ?_)
  have hX : Good X RX10 cX10_mend (d + 110) 0 0 := hX
  have hN : x_nl X = 5 := hN
  show WP X 0 0 0 [_, _, _, _, _] [] _
  refine wp_aload_n hX (dk DX10_mend 0 rfl) rfl ?_
  refine w_getr hX flX10_10 (dk DX10_mend 1 rfl) rfl rfl ?_
  refine wp_iload_n hX (dk DX10_mend 2 rfl) rfl ?_
  refine w_callV (As := [_]) lkX10_104 hX (dk DX10_mend 3 rfl) rfl rfl (by decide) hN (k_has (d + 109) sw f g (nI i)) ?_
  show WP _ _ _ 8 [_, _, _, _, _] [_] _
  rw [hn, jin_1 (by omega) hi rfl]
  refine wp_if_eq (tgt := 33) hX (dk DX10_mend 4 rfl) (by decide) (fun h_ => absurd h_ (by decide)) (fun _ => ?_)
  refine wp_iload_n hX (dk DX10_mend 5 rfl) rfl ?_
  refine wp_if_lt (tgt := 33) hX (dk DX10_mend 6 rfl) (by decide) (fun h_ => absurd h_ (nI_pos (by omega))) (fun _ => ?_)
  refine wp_iload_n hX (dk DX10_mend 7 rfl) rfl ?_
  refine wp_iconst (v := 3) hX (dk DX10_mend 8 rfl) (by decide) ?_
  refine wp_icmp_ge (tgt := 33) hX (dk DX10_mend 9 rfl) (by decide) (fun h_ => absurd h_ (nI_ge (b := 3) (by omega) (by omega))) (fun _ => ?_)
  refine wp_iload_n hX (dk DX10_mend 10 rfl) rfl ?_
  refine wp_if_lt (tgt := 33) hX (dk DX10_mend 11 rfl) (by decide) (fun h_ => absurd h_ (nI_pos (by omega))) (fun _ => ?_)
  refine wp_iload_n hX (dk DX10_mend 12 rfl) rfl ?_
  refine wp_most hX fsX10_105 (dk DX10_mend 13 rfl) ?_
  refine wp_iload_n hX (dk DX10_mend 14 rfl) rfl ?_
  refine wp_t1 hX (dk DX10_mend 15 rfl) (nI_in (N := 3) hw (by omega)) ?_
  rw [nI_clamp (by omega), m1]
  refine wp_icmp_le (tgt := 35) hX (dk DX10_mend 16 rfl) (by decide) (fun _ => ?_) (fun h_ => absurd (nI_le hu (by omega)) h_)
  refine wp_aload_n hX (dk DX10_mend 19 rfl) rfl ?_
  refine w_getr hX flX10_10 (dk DX10_mend 20 rfl) rfl rfl ?_
  refine wp_iload_n hX (dk DX10_mend 21 rfl) rfl ?_
  refine wp_iload_n hX (dk DX10_mend 22 rfl) rfl ?_
  refine w_callV (As := [_, _]) lkX10_109 hX (dk DX10_mend 23 rfl) rfl rfl (by decide) hN (k_traitOf (d + 109) sw f g i w (by omega) hw) ?_
  show WP _ _ _ 44 [_, _, _, _, _] [_] _
  refine wp_istore hX (dk DX10_mend 24 rfl) rfl hN (Nat.le_of_ble_eq_true rfl) ?_
  show WP _ _ _ 46 [_, _, _, _, _] [] _
  refine wp_iload hX (dk DX10_mend 25 rfl) rfl ?_
  refine wp_iload_n hX (dk DX10_mend 26 rfl) rfl ?_
  refine wp_icmp_eq (tgt := 74) hX (dk DX10_mend 27 rfl) (by decide) (fun h_ => absurd h_ (he)) (fun _ => ?_)
  refine wp_aload_n hX (dk DX10_mend 28 rfl) rfl ?_
  refine w_getr hX flX10_10 (dk DX10_mend 29 rfl) rfl rfl ?_
  refine wp_iload_n hX (dk DX10_mend 30 rfl) rfl ?_
  refine wp_iload_n hX (dk DX10_mend 31 rfl) rfl ?_
  refine wp_iload_n hX (dk DX10_mend 32 rfl) rfl ?_
  refine w_callV (As := [_, _, _]) lkX10_112 hX (dk DX10_mend 33 rfl) rfl rfl (by decide) hN (k_setTrait (d + 109) sw f g i w _ (by omega) hw) ?_
  show WP _ _ _ 62 [_, _, _, _, _] [] _
  refine wp_aload_n hX (dk DX10_mend 34 rfl) rfl ?_
  refine w_getr hX flX10_58 (dk DX10_mend 35 rfl) rfl rfl ?_
  refine wp_iload_n hX (dk DX10_mend 36 rfl) rfl ?_
  refine wp_iload_n hX (dk DX10_mend 37 rfl) rfl ?_
  refine wp_iload hX (dk DX10_mend 38 rfl) rfl ?_
  refine wp_iload_n hX (dk DX10_mend 39 rfl) rfl ?_
  refine w_callV (As := [_, _, _, _]) lkX10_116 hX (dk DX10_mend 40 rfl) rfl rfl (by decide) hN (k_chadd0 (d + 108) sw _ g q _ _ _ _ hq40 (by rw [u2_ne _ _ _ (by decide)]; exact hq)) ?_
  show WP _ _ _ 74 [_, _, _, _, _] [] _
  refine wp_iload hX (dk DX10_mend 41 rfl) rfl ?_
  exact wp_ireturn hX hR (dk DX10_mend 42 rfl) rfl (Nat.le_refl _) (Nat.le_refl _) (⟨rfl, rfl⟩)
theorem t_mend40 (d : Nat) (sw : Bool) (f : Nat → Nat → Int32) (g : Nat → Nat → Int64) (n i w u : Nat) (hn : f 1 4 = nI n) (hn10 : n ≤ 10) (hi : i < n) (hw : w < 3) (hu : u ≤ mosN w) (he : ¬ f 3 (i * 3 + w) = nI u) (hq : f 68 1 = nI 40) : CT (d + 110) 0 0 iX10_mend [.ref 0, .int (nI i), .int (nI w), .int (nI u)] (S sw f g) (QR (some (.int (f 3 (i * 3 + w)))) (S sw (jchp (u2 (u1 (u2 f 3 (i * 3 + w) (nI u)) 69 (va_cpy (u2 f 3 (i * 3 + w) (nI u) 69) (u2 f 3 (i * 3 + w) (nI u) 69) 4 0 156)) 68 1 39) 39 (nI i) (nI w) (f 3 (i * 3 + w)) (nI u)) g)) := by
  obtain ⟨m1, m2⟩ := mosN_le w hw
  refine CT.of rfl (Nat.le_of_ble_eq_true rfl) (fun X hX hR hN _ => ?_)
  have hX : Good X RX10 cX10_mend (d + 110) 0 0 := hX
  have hN : x_nl X = 5 := hN
  show WP X 0 0 0 [_, _, _, _, _] [] _
  refine wp_aload_n hX (dk DX10_mend 0 rfl) rfl ?_
  refine w_getr hX flX10_10 (dk DX10_mend 1 rfl) rfl rfl ?_
  refine wp_iload_n hX (dk DX10_mend 2 rfl) rfl ?_
  refine w_callV (As := [_]) lkX10_104 hX (dk DX10_mend 3 rfl) rfl rfl (by decide) hN (k_has (d + 109) sw f g (nI i)) ?_
  show WP _ _ _ 8 [_, _, _, _, _] [_] _
  rw [hn, jin_1 (by omega) hi rfl]
  refine wp_if_eq (tgt := 33) hX (dk DX10_mend 4 rfl) (by decide) (fun h_ => absurd h_ (by decide)) (fun _ => ?_)
  refine wp_iload_n hX (dk DX10_mend 5 rfl) rfl ?_
  refine wp_if_lt (tgt := 33) hX (dk DX10_mend 6 rfl) (by decide) (fun h_ => absurd h_ (nI_pos (by omega))) (fun _ => ?_)
  refine wp_iload_n hX (dk DX10_mend 7 rfl) rfl ?_
  refine wp_iconst (v := 3) hX (dk DX10_mend 8 rfl) (by decide) ?_
  refine wp_icmp_ge (tgt := 33) hX (dk DX10_mend 9 rfl) (by decide) (fun h_ => absurd h_ (nI_ge (b := 3) (by omega) (by omega))) (fun _ => ?_)
  refine wp_iload_n hX (dk DX10_mend 10 rfl) rfl ?_
  refine wp_if_lt (tgt := 33) hX (dk DX10_mend 11 rfl) (by decide) (fun h_ => absurd h_ (nI_pos (by omega))) (fun _ => ?_)
  refine wp_iload_n hX (dk DX10_mend 12 rfl) rfl ?_
  refine wp_most hX fsX10_105 (dk DX10_mend 13 rfl) ?_
  refine wp_iload_n hX (dk DX10_mend 14 rfl) rfl ?_
  refine wp_t1 hX (dk DX10_mend 15 rfl) (nI_in (N := 3) hw (by omega)) ?_
  rw [nI_clamp (by omega), m1]
  refine wp_icmp_le (tgt := 35) hX (dk DX10_mend 16 rfl) (by decide) (fun _ => ?_) (fun h_ => absurd (nI_le hu (by omega)) h_)
  refine wp_aload_n hX (dk DX10_mend 19 rfl) rfl ?_
  refine w_getr hX flX10_10 (dk DX10_mend 20 rfl) rfl rfl ?_
  refine wp_iload_n hX (dk DX10_mend 21 rfl) rfl ?_
  refine wp_iload_n hX (dk DX10_mend 22 rfl) rfl ?_
  refine w_callV (As := [_, _]) lkX10_109 hX (dk DX10_mend 23 rfl) rfl rfl (by decide) hN (k_traitOf (d + 109) sw f g i w (by omega) hw) ?_
  show WP _ _ _ 44 [_, _, _, _, _] [_] _
  refine wp_istore hX (dk DX10_mend 24 rfl) rfl hN (Nat.le_of_ble_eq_true rfl) ?_
  show WP _ _ _ 46 [_, _, _, _, _] [] _
  refine wp_iload hX (dk DX10_mend 25 rfl) rfl ?_
  refine wp_iload_n hX (dk DX10_mend 26 rfl) rfl ?_
  refine wp_icmp_eq (tgt := 74) hX (dk DX10_mend 27 rfl) (by decide) (fun h_ => absurd h_ (he)) (fun _ => ?_)
  refine wp_aload_n hX (dk DX10_mend 28 rfl) rfl ?_
  refine w_getr hX flX10_10 (dk DX10_mend 29 rfl) rfl rfl ?_
  refine wp_iload_n hX (dk DX10_mend 30 rfl) rfl ?_
  refine wp_iload_n hX (dk DX10_mend 31 rfl) rfl ?_
  refine wp_iload_n hX (dk DX10_mend 32 rfl) rfl ?_
  refine w_callV (As := [_, _, _]) lkX10_112 hX (dk DX10_mend 33 rfl) rfl rfl (by decide) hN (k_setTrait (d + 109) sw f g i w _ (by omega) hw) ?_
  show WP _ _ _ 62 [_, _, _, _, _] [] _
  refine wp_aload_n hX (dk DX10_mend 34 rfl) rfl ?_
  refine w_getr hX flX10_58 (dk DX10_mend 35 rfl) rfl rfl ?_
  refine wp_iload_n hX (dk DX10_mend 36 rfl) rfl ?_
  refine wp_iload_n hX (dk DX10_mend 37 rfl) rfl ?_
  refine wp_iload hX (dk DX10_mend 38 rfl) rfl ?_
  refine wp_iload_n hX (dk DX10_mend 39 rfl) rfl ?_
  refine w_callV (As := [_, _, _, _]) lkX10_116 hX (dk DX10_mend 40 rfl) rfl rfl (by decide) hN (k_chadd1 (d + 108) sw _ g _ _ _ _ (by rw [u2_ne _ _ _ (by decide)]; exact hq)) ?_
  show WP _ _ _ 74 [_, _, _, _, _] [] _
  refine wp_iload hX (dk DX10_mend 41 rfl) rfl ?_
  exact wp_ireturn hX hR (dk DX10_mend 42 rfl) rfl (Nat.le_refl _) (Nat.le_refl _) (⟨rfl, rfl⟩)
/-- what of() asks: figure's trait or shape, block's rest or cuts, the year -/
def ofG (n m : Nat) (x y : Int32) : Prop := (∃ i w, i < n ∧ w < 4 ∧ x = nI i ∧ y = nI w) ∨ (∃ b w, b < m ∧ (w = 4 ∨ w = 5) ∧ x = nI b ∧ y = nI w) ∨ (x = 0 ∧ y = 6)
theorem t_of0 (d : Nat) (sw : Bool) (f : Nat → Nat → Int32) (g : Nat → Nat → Int64) (n m : Nat) (x y : Int32) (hn : f 1 4 = nI n) (hn10 : n ≤ 10) (hm : f 61 6 = nI m) (hm6 : m ≤ 6) (h : ¬ ofG n m x y) : CT (d + 110) 0 0 iX10_of [.ref 0, .int x, .int y] (S sw f g) (rdC g f (-1)) := by
  refine CT.rdC ?_
  refine CT.of rfl (Nat.le_of_ble_eq_true rfl) (fun X hX hR hN _ => ?_)
  have hX : Good X RX10 cX10_of (d + 110) 0 0 := hX
  have hN : x_nl X = 3 := hN
  show WP X 0 0 0 [_, _, _] [] _
  refine wp_iload_n hX (dk DX10_of 0 rfl) rfl ?_
  refine wp_if_lt (tgt := 30) hX (dk DX10_of 1 rfl) (by decide) (fun h1 => ?_) (fun h1 => ?_)
  · refine wp_iload_n hX (dk DX10_of 16 rfl) rfl ?_
    refine wp_iconst (v := 3) hX (dk DX10_of 17 rfl) (by decide) ?_
    refine wp_icmp_ne (tgt := 58) hX (dk DX10_of 18 rfl) (by decide) (fun h32 => ?_) (fun h32 => ?_)
    · refine wp_iload_n hX (dk DX10_of 30 rfl) rfl ?_
      refine wp_iconst (v := 4) hX (dk DX10_of 31 rfl) (by decide) ?_
      refine wp_icmp_ne (tgt := 83) hX (dk DX10_of 32 rfl) (by decide) (fun h60 => ?_) (fun h60 => ?_)
      · refine wp_iload_n hX (dk DX10_of 43 rfl) rfl ?_
        refine wp_iconst (v := 5) hX (dk DX10_of 44 rfl) (by decide) ?_
        refine wp_icmp_ne (tgt := 108) hX (dk DX10_of 45 rfl) (by decide) (fun h85 => ?_) (fun h85 => ?_)
        · refine wp_iload_n hX (dk DX10_of 56 rfl) rfl ?_
          refine wp_bipush (v := 6) hX (dk DX10_of 57 rfl) (by decide) ?_
          refine wp_icmp_ne (tgt := 129) hX (dk DX10_of 58 rfl) (by decide) (fun h111 => ?_) (fun h111 => ?_)
          · refine wp_iconst (v := -1) hX (dk DX10_of_1 6 rfl) (by decide) ?_
            exact wp_ireturn hX hR (dk DX10_of_1 7 rfl) rfl (Nat.le_refl _) (Nat.le_refl _) (⟨rfl, rfl⟩)
          · refine wp_iload_n hX (dk DX10_of 59 rfl) rfl ?_
            refine wp_if_ne (tgt := 129) hX (dk DX10_of_1 0 rfl) (by decide) (fun h115 => ?_) (fun h115 => ?_)
            · refine wp_iconst (v := -1) hX (dk DX10_of_1 6 rfl) (by decide) ?_
              exact wp_ireturn hX hR (dk DX10_of_1 7 rfl) rfl (Nat.le_refl _) (Nat.le_refl _) (⟨rfl, rfl⟩)
            · exact absurd (Or.inr (Or.inr ⟨h115, h111⟩)) h
        · refine wp_aload_n hX (dk DX10_of 46 rfl) rfl ?_
          refine w_getr hX flX10_51 (dk DX10_of 47 rfl) rfl rfl ?_
          refine wp_iload_n hX (dk DX10_of 48 rfl) rfl ?_
          refine w_callV (As := [_]) lkX10_127 hX (dk DX10_of 49 rfl) rfl rfl (by decide) hN (k_yhas (d + 109) sw f g x) ?_
          show WP _ _ _ 96 [_, _, _] [_] _
          rw [hm]
          refine wp_if_eq (tgt := 108) hX (dk DX10_of 50 rfl) (by decide) (fun h96 => ?_) (fun h96 => ?_)
          · refine wp_iload_n hX (dk DX10_of 56 rfl) rfl ?_
            refine wp_bipush (v := 6) hX (dk DX10_of 57 rfl) (by decide) ?_
            refine wp_icmp_ne (tgt := 129) hX (dk DX10_of 58 rfl) (by decide) (fun h111 => ?_) (fun h111 => ?_)
            · refine wp_iconst (v := -1) hX (dk DX10_of_1 6 rfl) (by decide) ?_
              exact wp_ireturn hX hR (dk DX10_of_1 7 rfl) rfl (Nat.le_refl _) (Nat.le_refl _) (⟨rfl, rfl⟩)
            · refine wp_iload_n hX (dk DX10_of 59 rfl) rfl ?_
              refine wp_if_ne (tgt := 129) hX (dk DX10_of_1 0 rfl) (by decide) (fun h115 => ?_) (fun h115 => ?_)
              · refine wp_iconst (v := -1) hX (dk DX10_of_1 6 rfl) (by decide) ?_
                exact wp_ireturn hX hR (dk DX10_of_1 7 rfl) rfl (Nat.le_refl _) (Nat.le_refl _) (⟨rfl, rfl⟩)
              · exact absurd (Or.inr (Or.inr ⟨h115, h111⟩)) h
          · refine absurd (Or.inr (Or.inl ?_)) h
            obtain ⟨i, a1, a2⟩ := jin_ex (by omega) h96
            exact ⟨i, 5, a1, Or.inr rfl, a2, h85⟩
      · refine wp_aload_n hX (dk DX10_of 33 rfl) rfl ?_
        refine w_getr hX flX10_51 (dk DX10_of 34 rfl) rfl rfl ?_
        refine wp_iload_n hX (dk DX10_of 35 rfl) rfl ?_
        refine w_callV (As := [_]) lkX10_127 hX (dk DX10_of 36 rfl) rfl rfl (by decide) hN (k_yhas (d + 109) sw f g x) ?_
        show WP _ _ _ 71 [_, _, _] [_] _
        rw [hm]
        refine wp_if_eq (tgt := 83) hX (dk DX10_of 37 rfl) (by decide) (fun h71 => ?_) (fun h71 => ?_)
        · refine wp_iload_n hX (dk DX10_of 43 rfl) rfl ?_
          refine wp_iconst (v := 5) hX (dk DX10_of 44 rfl) (by decide) ?_
          refine wp_icmp_ne (tgt := 108) hX (dk DX10_of 45 rfl) (by decide) (fun h85 => ?_) (fun h85 => ?_)
          · refine wp_iload_n hX (dk DX10_of 56 rfl) rfl ?_
            refine wp_bipush (v := 6) hX (dk DX10_of 57 rfl) (by decide) ?_
            refine wp_icmp_ne (tgt := 129) hX (dk DX10_of 58 rfl) (by decide) (fun h111 => ?_) (fun h111 => ?_)
            · refine wp_iconst (v := -1) hX (dk DX10_of_1 6 rfl) (by decide) ?_
              exact wp_ireturn hX hR (dk DX10_of_1 7 rfl) rfl (Nat.le_refl _) (Nat.le_refl _) (⟨rfl, rfl⟩)
            · refine wp_iload_n hX (dk DX10_of 59 rfl) rfl ?_
              refine wp_if_ne (tgt := 129) hX (dk DX10_of_1 0 rfl) (by decide) (fun h115 => ?_) (fun h115 => ?_)
              · refine wp_iconst (v := -1) hX (dk DX10_of_1 6 rfl) (by decide) ?_
                exact wp_ireturn hX hR (dk DX10_of_1 7 rfl) rfl (Nat.le_refl _) (Nat.le_refl _) (⟨rfl, rfl⟩)
              · exact absurd (Or.inr (Or.inr ⟨h115, h111⟩)) h
          · refine wp_aload_n hX (dk DX10_of 46 rfl) rfl ?_
            refine w_getr hX flX10_51 (dk DX10_of 47 rfl) rfl rfl ?_
            refine wp_iload_n hX (dk DX10_of 48 rfl) rfl ?_
            refine w_callV (As := [_]) lkX10_127 hX (dk DX10_of 49 rfl) rfl rfl (by decide) hN (k_yhas (d + 109) sw f g x) ?_
            show WP _ _ _ 96 [_, _, _] [_] _
            rw [hm]
            refine wp_if_eq (tgt := 108) hX (dk DX10_of 50 rfl) (by decide) (fun h96 => ?_) (fun h96 => ?_)
            · refine wp_iload_n hX (dk DX10_of 56 rfl) rfl ?_
              refine wp_bipush (v := 6) hX (dk DX10_of 57 rfl) (by decide) ?_
              refine wp_icmp_ne (tgt := 129) hX (dk DX10_of 58 rfl) (by decide) (fun h111 => ?_) (fun h111 => ?_)
              · refine wp_iconst (v := -1) hX (dk DX10_of_1 6 rfl) (by decide) ?_
                exact wp_ireturn hX hR (dk DX10_of_1 7 rfl) rfl (Nat.le_refl _) (Nat.le_refl _) (⟨rfl, rfl⟩)
              · refine wp_iload_n hX (dk DX10_of 59 rfl) rfl ?_
                refine wp_if_ne (tgt := 129) hX (dk DX10_of_1 0 rfl) (by decide) (fun h115 => ?_) (fun h115 => ?_)
                · refine wp_iconst (v := -1) hX (dk DX10_of_1 6 rfl) (by decide) ?_
                  exact wp_ireturn hX hR (dk DX10_of_1 7 rfl) rfl (Nat.le_refl _) (Nat.le_refl _) (⟨rfl, rfl⟩)
                · exact absurd (Or.inr (Or.inr ⟨h115, h111⟩)) h
            · refine absurd (Or.inr (Or.inl ?_)) h
              obtain ⟨i, a1, a2⟩ := jin_ex (by omega) h96
              exact ⟨i, 5, a1, Or.inr rfl, a2, h85⟩
        · refine absurd (Or.inr (Or.inl ?_)) h
          obtain ⟨i, a1, a2⟩ := jin_ex (by omega) h71
          exact ⟨i, 4, a1, Or.inl rfl, a2, h60⟩
    · refine wp_aload_n hX (dk DX10_of 19 rfl) rfl ?_
      refine w_getr hX flX10_10 (dk DX10_of 20 rfl) rfl rfl ?_
      refine wp_iload_n hX (dk DX10_of 21 rfl) rfl ?_
      refine w_callV (As := [_]) lkX10_104 hX (dk DX10_of 22 rfl) rfl rfl (by decide) hN (k_has (d + 109) sw f g x) ?_
      show WP _ _ _ 43 [_, _, _] [_] _
      rw [hn]
      refine wp_if_eq (tgt := 58) hX (dk DX10_of 23 rfl) (by decide) (fun h43 => ?_) (fun h43 => ?_)
      · refine wp_iload_n hX (dk DX10_of 30 rfl) rfl ?_
        refine wp_iconst (v := 4) hX (dk DX10_of 31 rfl) (by decide) ?_
        refine wp_icmp_ne (tgt := 83) hX (dk DX10_of 32 rfl) (by decide) (fun h60 => ?_) (fun h60 => ?_)
        · refine wp_iload_n hX (dk DX10_of 43 rfl) rfl ?_
          refine wp_iconst (v := 5) hX (dk DX10_of 44 rfl) (by decide) ?_
          refine wp_icmp_ne (tgt := 108) hX (dk DX10_of 45 rfl) (by decide) (fun h85 => ?_) (fun h85 => ?_)
          · refine wp_iload_n hX (dk DX10_of 56 rfl) rfl ?_
            refine wp_bipush (v := 6) hX (dk DX10_of 57 rfl) (by decide) ?_
            refine wp_icmp_ne (tgt := 129) hX (dk DX10_of 58 rfl) (by decide) (fun h111 => ?_) (fun h111 => ?_)
            · refine wp_iconst (v := -1) hX (dk DX10_of_1 6 rfl) (by decide) ?_
              exact wp_ireturn hX hR (dk DX10_of_1 7 rfl) rfl (Nat.le_refl _) (Nat.le_refl _) (⟨rfl, rfl⟩)
            · refine wp_iload_n hX (dk DX10_of 59 rfl) rfl ?_
              refine wp_if_ne (tgt := 129) hX (dk DX10_of_1 0 rfl) (by decide) (fun h115 => ?_) (fun h115 => ?_)
              · refine wp_iconst (v := -1) hX (dk DX10_of_1 6 rfl) (by decide) ?_
                exact wp_ireturn hX hR (dk DX10_of_1 7 rfl) rfl (Nat.le_refl _) (Nat.le_refl _) (⟨rfl, rfl⟩)
              · exact absurd (Or.inr (Or.inr ⟨h115, h111⟩)) h
          · refine wp_aload_n hX (dk DX10_of 46 rfl) rfl ?_
            refine w_getr hX flX10_51 (dk DX10_of 47 rfl) rfl rfl ?_
            refine wp_iload_n hX (dk DX10_of 48 rfl) rfl ?_
            refine w_callV (As := [_]) lkX10_127 hX (dk DX10_of 49 rfl) rfl rfl (by decide) hN (k_yhas (d + 109) sw f g x) ?_
            show WP _ _ _ 96 [_, _, _] [_] _
            rw [hm]
            refine wp_if_eq (tgt := 108) hX (dk DX10_of 50 rfl) (by decide) (fun h96 => ?_) (fun h96 => ?_)
            · refine wp_iload_n hX (dk DX10_of 56 rfl) rfl ?_
              refine wp_bipush (v := 6) hX (dk DX10_of 57 rfl) (by decide) ?_
              refine wp_icmp_ne (tgt := 129) hX (dk DX10_of 58 rfl) (by decide) (fun h111 => ?_) (fun h111 => ?_)
              · refine wp_iconst (v := -1) hX (dk DX10_of_1 6 rfl) (by decide) ?_
                exact wp_ireturn hX hR (dk DX10_of_1 7 rfl) rfl (Nat.le_refl _) (Nat.le_refl _) (⟨rfl, rfl⟩)
              · refine wp_iload_n hX (dk DX10_of 59 rfl) rfl ?_
                refine wp_if_ne (tgt := 129) hX (dk DX10_of_1 0 rfl) (by decide) (fun h115 => ?_) (fun h115 => ?_)
                · refine wp_iconst (v := -1) hX (dk DX10_of_1 6 rfl) (by decide) ?_
                  exact wp_ireturn hX hR (dk DX10_of_1 7 rfl) rfl (Nat.le_refl _) (Nat.le_refl _) (⟨rfl, rfl⟩)
                · exact absurd (Or.inr (Or.inr ⟨h115, h111⟩)) h
            · refine absurd (Or.inr (Or.inl ?_)) h
              obtain ⟨i, a1, a2⟩ := jin_ex (by omega) h96
              exact ⟨i, 5, a1, Or.inr rfl, a2, h85⟩
        · refine wp_aload_n hX (dk DX10_of 33 rfl) rfl ?_
          refine w_getr hX flX10_51 (dk DX10_of 34 rfl) rfl rfl ?_
          refine wp_iload_n hX (dk DX10_of 35 rfl) rfl ?_
          refine w_callV (As := [_]) lkX10_127 hX (dk DX10_of 36 rfl) rfl rfl (by decide) hN (k_yhas (d + 109) sw f g x) ?_
          show WP _ _ _ 71 [_, _, _] [_] _
          rw [hm]
          refine wp_if_eq (tgt := 83) hX (dk DX10_of 37 rfl) (by decide) (fun h71 => ?_) (fun h71 => ?_)
          · refine wp_iload_n hX (dk DX10_of 43 rfl) rfl ?_
            refine wp_iconst (v := 5) hX (dk DX10_of 44 rfl) (by decide) ?_
            refine wp_icmp_ne (tgt := 108) hX (dk DX10_of 45 rfl) (by decide) (fun h85 => ?_) (fun h85 => ?_)
            · refine wp_iload_n hX (dk DX10_of 56 rfl) rfl ?_
              refine wp_bipush (v := 6) hX (dk DX10_of 57 rfl) (by decide) ?_
              refine wp_icmp_ne (tgt := 129) hX (dk DX10_of 58 rfl) (by decide) (fun h111 => ?_) (fun h111 => ?_)
              · refine wp_iconst (v := -1) hX (dk DX10_of_1 6 rfl) (by decide) ?_
                exact wp_ireturn hX hR (dk DX10_of_1 7 rfl) rfl (Nat.le_refl _) (Nat.le_refl _) (⟨rfl, rfl⟩)
              · refine wp_iload_n hX (dk DX10_of 59 rfl) rfl ?_
                refine wp_if_ne (tgt := 129) hX (dk DX10_of_1 0 rfl) (by decide) (fun h115 => ?_) (fun h115 => ?_)
                · refine wp_iconst (v := -1) hX (dk DX10_of_1 6 rfl) (by decide) ?_
                  exact wp_ireturn hX hR (dk DX10_of_1 7 rfl) rfl (Nat.le_refl _) (Nat.le_refl _) (⟨rfl, rfl⟩)
                · exact absurd (Or.inr (Or.inr ⟨h115, h111⟩)) h
            · refine wp_aload_n hX (dk DX10_of 46 rfl) rfl ?_
              refine w_getr hX flX10_51 (dk DX10_of 47 rfl) rfl rfl ?_
              refine wp_iload_n hX (dk DX10_of 48 rfl) rfl ?_
              refine w_callV (As := [_]) lkX10_127 hX (dk DX10_of 49 rfl) rfl rfl (by decide) hN (k_yhas (d + 109) sw f g x) ?_
              show WP _ _ _ 96 [_, _, _] [_] _
              rw [hm]
              refine wp_if_eq (tgt := 108) hX (dk DX10_of 50 rfl) (by decide) (fun h96 => ?_) (fun h96 => ?_)
              · refine wp_iload_n hX (dk DX10_of 56 rfl) rfl ?_
                refine wp_bipush (v := 6) hX (dk DX10_of 57 rfl) (by decide) ?_
                refine wp_icmp_ne (tgt := 129) hX (dk DX10_of 58 rfl) (by decide) (fun h111 => ?_) (fun h111 => ?_)
                · refine wp_iconst (v := -1) hX (dk DX10_of_1 6 rfl) (by decide) ?_
                  exact wp_ireturn hX hR (dk DX10_of_1 7 rfl) rfl (Nat.le_refl _) (Nat.le_refl _) (⟨rfl, rfl⟩)
                · refine wp_iload_n hX (dk DX10_of 59 rfl) rfl ?_
                  refine wp_if_ne (tgt := 129) hX (dk DX10_of_1 0 rfl) (by decide) (fun h115 => ?_) (fun h115 => ?_)
                  · refine wp_iconst (v := -1) hX (dk DX10_of_1 6 rfl) (by decide) ?_
                    exact wp_ireturn hX hR (dk DX10_of_1 7 rfl) rfl (Nat.le_refl _) (Nat.le_refl _) (⟨rfl, rfl⟩)
                  · exact absurd (Or.inr (Or.inr ⟨h115, h111⟩)) h
              · refine absurd (Or.inr (Or.inl ?_)) h
                obtain ⟨i, a1, a2⟩ := jin_ex (by omega) h96
                exact ⟨i, 5, a1, Or.inr rfl, a2, h85⟩
          · refine absurd (Or.inr (Or.inl ?_)) h
            obtain ⟨i, a1, a2⟩ := jin_ex (by omega) h71
            exact ⟨i, 4, a1, Or.inl rfl, a2, h60⟩
      · refine absurd (Or.inl ?_) h
        obtain ⟨i, a1, a2⟩ := jin_ex (by omega) h43
        exact ⟨i, 3, a1, by omega, a2, h32⟩
  · refine wp_iload_n hX (dk DX10_of 2 rfl) rfl ?_
    refine wp_iconst (v := 3) hX (dk DX10_of 3 rfl) (by decide) ?_
    refine wp_icmp_ge (tgt := 30) hX (dk DX10_of 4 rfl) (by decide) (fun h6 => ?_) (fun h6 => ?_)
    · refine wp_iload_n hX (dk DX10_of 16 rfl) rfl ?_
      refine wp_iconst (v := 3) hX (dk DX10_of 17 rfl) (by decide) ?_
      refine wp_icmp_ne (tgt := 58) hX (dk DX10_of 18 rfl) (by decide) (fun h32 => ?_) (fun h32 => ?_)
      · refine wp_iload_n hX (dk DX10_of 30 rfl) rfl ?_
        refine wp_iconst (v := 4) hX (dk DX10_of 31 rfl) (by decide) ?_
        refine wp_icmp_ne (tgt := 83) hX (dk DX10_of 32 rfl) (by decide) (fun h60 => ?_) (fun h60 => ?_)
        · refine wp_iload_n hX (dk DX10_of 43 rfl) rfl ?_
          refine wp_iconst (v := 5) hX (dk DX10_of 44 rfl) (by decide) ?_
          refine wp_icmp_ne (tgt := 108) hX (dk DX10_of 45 rfl) (by decide) (fun h85 => ?_) (fun h85 => ?_)
          · refine wp_iload_n hX (dk DX10_of 56 rfl) rfl ?_
            refine wp_bipush (v := 6) hX (dk DX10_of 57 rfl) (by decide) ?_
            refine wp_icmp_ne (tgt := 129) hX (dk DX10_of 58 rfl) (by decide) (fun h111 => ?_) (fun h111 => ?_)
            · refine wp_iconst (v := -1) hX (dk DX10_of_1 6 rfl) (by decide) ?_
              exact wp_ireturn hX hR (dk DX10_of_1 7 rfl) rfl (Nat.le_refl _) (Nat.le_refl _) (⟨rfl, rfl⟩)
            · refine wp_iload_n hX (dk DX10_of 59 rfl) rfl ?_
              refine wp_if_ne (tgt := 129) hX (dk DX10_of_1 0 rfl) (by decide) (fun h115 => ?_) (fun h115 => ?_)
              · refine wp_iconst (v := -1) hX (dk DX10_of_1 6 rfl) (by decide) ?_
                exact wp_ireturn hX hR (dk DX10_of_1 7 rfl) rfl (Nat.le_refl _) (Nat.le_refl _) (⟨rfl, rfl⟩)
              · exact absurd (Or.inr (Or.inr ⟨h115, h111⟩)) h
          · refine wp_aload_n hX (dk DX10_of 46 rfl) rfl ?_
            refine w_getr hX flX10_51 (dk DX10_of 47 rfl) rfl rfl ?_
            refine wp_iload_n hX (dk DX10_of 48 rfl) rfl ?_
            refine w_callV (As := [_]) lkX10_127 hX (dk DX10_of 49 rfl) rfl rfl (by decide) hN (k_yhas (d + 109) sw f g x) ?_
            show WP _ _ _ 96 [_, _, _] [_] _
            rw [hm]
            refine wp_if_eq (tgt := 108) hX (dk DX10_of 50 rfl) (by decide) (fun h96 => ?_) (fun h96 => ?_)
            · refine wp_iload_n hX (dk DX10_of 56 rfl) rfl ?_
              refine wp_bipush (v := 6) hX (dk DX10_of 57 rfl) (by decide) ?_
              refine wp_icmp_ne (tgt := 129) hX (dk DX10_of 58 rfl) (by decide) (fun h111 => ?_) (fun h111 => ?_)
              · refine wp_iconst (v := -1) hX (dk DX10_of_1 6 rfl) (by decide) ?_
                exact wp_ireturn hX hR (dk DX10_of_1 7 rfl) rfl (Nat.le_refl _) (Nat.le_refl _) (⟨rfl, rfl⟩)
              · refine wp_iload_n hX (dk DX10_of 59 rfl) rfl ?_
                refine wp_if_ne (tgt := 129) hX (dk DX10_of_1 0 rfl) (by decide) (fun h115 => ?_) (fun h115 => ?_)
                · refine wp_iconst (v := -1) hX (dk DX10_of_1 6 rfl) (by decide) ?_
                  exact wp_ireturn hX hR (dk DX10_of_1 7 rfl) rfl (Nat.le_refl _) (Nat.le_refl _) (⟨rfl, rfl⟩)
                · exact absurd (Or.inr (Or.inr ⟨h115, h111⟩)) h
            · refine absurd (Or.inr (Or.inl ?_)) h
              obtain ⟨i, a1, a2⟩ := jin_ex (by omega) h96
              exact ⟨i, 5, a1, Or.inr rfl, a2, h85⟩
        · refine wp_aload_n hX (dk DX10_of 33 rfl) rfl ?_
          refine w_getr hX flX10_51 (dk DX10_of 34 rfl) rfl rfl ?_
          refine wp_iload_n hX (dk DX10_of 35 rfl) rfl ?_
          refine w_callV (As := [_]) lkX10_127 hX (dk DX10_of 36 rfl) rfl rfl (by decide) hN (k_yhas (d + 109) sw f g x) ?_
          show WP _ _ _ 71 [_, _, _] [_] _
          rw [hm]
          refine wp_if_eq (tgt := 83) hX (dk DX10_of 37 rfl) (by decide) (fun h71 => ?_) (fun h71 => ?_)
          · refine wp_iload_n hX (dk DX10_of 43 rfl) rfl ?_
            refine wp_iconst (v := 5) hX (dk DX10_of 44 rfl) (by decide) ?_
            refine wp_icmp_ne (tgt := 108) hX (dk DX10_of 45 rfl) (by decide) (fun h85 => ?_) (fun h85 => ?_)
            · refine wp_iload_n hX (dk DX10_of 56 rfl) rfl ?_
              refine wp_bipush (v := 6) hX (dk DX10_of 57 rfl) (by decide) ?_
              refine wp_icmp_ne (tgt := 129) hX (dk DX10_of 58 rfl) (by decide) (fun h111 => ?_) (fun h111 => ?_)
              · refine wp_iconst (v := -1) hX (dk DX10_of_1 6 rfl) (by decide) ?_
                exact wp_ireturn hX hR (dk DX10_of_1 7 rfl) rfl (Nat.le_refl _) (Nat.le_refl _) (⟨rfl, rfl⟩)
              · refine wp_iload_n hX (dk DX10_of 59 rfl) rfl ?_
                refine wp_if_ne (tgt := 129) hX (dk DX10_of_1 0 rfl) (by decide) (fun h115 => ?_) (fun h115 => ?_)
                · refine wp_iconst (v := -1) hX (dk DX10_of_1 6 rfl) (by decide) ?_
                  exact wp_ireturn hX hR (dk DX10_of_1 7 rfl) rfl (Nat.le_refl _) (Nat.le_refl _) (⟨rfl, rfl⟩)
                · exact absurd (Or.inr (Or.inr ⟨h115, h111⟩)) h
            · refine wp_aload_n hX (dk DX10_of 46 rfl) rfl ?_
              refine w_getr hX flX10_51 (dk DX10_of 47 rfl) rfl rfl ?_
              refine wp_iload_n hX (dk DX10_of 48 rfl) rfl ?_
              refine w_callV (As := [_]) lkX10_127 hX (dk DX10_of 49 rfl) rfl rfl (by decide) hN (k_yhas (d + 109) sw f g x) ?_
              show WP _ _ _ 96 [_, _, _] [_] _
              rw [hm]
              refine wp_if_eq (tgt := 108) hX (dk DX10_of 50 rfl) (by decide) (fun h96 => ?_) (fun h96 => ?_)
              · refine wp_iload_n hX (dk DX10_of 56 rfl) rfl ?_
                refine wp_bipush (v := 6) hX (dk DX10_of 57 rfl) (by decide) ?_
                refine wp_icmp_ne (tgt := 129) hX (dk DX10_of 58 rfl) (by decide) (fun h111 => ?_) (fun h111 => ?_)
                · refine wp_iconst (v := -1) hX (dk DX10_of_1 6 rfl) (by decide) ?_
                  exact wp_ireturn hX hR (dk DX10_of_1 7 rfl) rfl (Nat.le_refl _) (Nat.le_refl _) (⟨rfl, rfl⟩)
                · refine wp_iload_n hX (dk DX10_of 59 rfl) rfl ?_
                  refine wp_if_ne (tgt := 129) hX (dk DX10_of_1 0 rfl) (by decide) (fun h115 => ?_) (fun h115 => ?_)
                  · refine wp_iconst (v := -1) hX (dk DX10_of_1 6 rfl) (by decide) ?_
                    exact wp_ireturn hX hR (dk DX10_of_1 7 rfl) rfl (Nat.le_refl _) (Nat.le_refl _) (⟨rfl, rfl⟩)
                  · exact absurd (Or.inr (Or.inr ⟨h115, h111⟩)) h
              · refine absurd (Or.inr (Or.inl ?_)) h
                obtain ⟨i, a1, a2⟩ := jin_ex (by omega) h96
                exact ⟨i, 5, a1, Or.inr rfl, a2, h85⟩
          · refine absurd (Or.inr (Or.inl ?_)) h
            obtain ⟨i, a1, a2⟩ := jin_ex (by omega) h71
            exact ⟨i, 4, a1, Or.inl rfl, a2, h60⟩
      · refine wp_aload_n hX (dk DX10_of 19 rfl) rfl ?_
        refine w_getr hX flX10_10 (dk DX10_of 20 rfl) rfl rfl ?_
        refine wp_iload_n hX (dk DX10_of 21 rfl) rfl ?_
        refine w_callV (As := [_]) lkX10_104 hX (dk DX10_of 22 rfl) rfl rfl (by decide) hN (k_has (d + 109) sw f g x) ?_
        show WP _ _ _ 43 [_, _, _] [_] _
        rw [hn]
        refine wp_if_eq (tgt := 58) hX (dk DX10_of 23 rfl) (by decide) (fun h43 => ?_) (fun h43 => ?_)
        · refine wp_iload_n hX (dk DX10_of 30 rfl) rfl ?_
          refine wp_iconst (v := 4) hX (dk DX10_of 31 rfl) (by decide) ?_
          refine wp_icmp_ne (tgt := 83) hX (dk DX10_of 32 rfl) (by decide) (fun h60 => ?_) (fun h60 => ?_)
          · refine wp_iload_n hX (dk DX10_of 43 rfl) rfl ?_
            refine wp_iconst (v := 5) hX (dk DX10_of 44 rfl) (by decide) ?_
            refine wp_icmp_ne (tgt := 108) hX (dk DX10_of 45 rfl) (by decide) (fun h85 => ?_) (fun h85 => ?_)
            · refine wp_iload_n hX (dk DX10_of 56 rfl) rfl ?_
              refine wp_bipush (v := 6) hX (dk DX10_of 57 rfl) (by decide) ?_
              refine wp_icmp_ne (tgt := 129) hX (dk DX10_of 58 rfl) (by decide) (fun h111 => ?_) (fun h111 => ?_)
              · refine wp_iconst (v := -1) hX (dk DX10_of_1 6 rfl) (by decide) ?_
                exact wp_ireturn hX hR (dk DX10_of_1 7 rfl) rfl (Nat.le_refl _) (Nat.le_refl _) (⟨rfl, rfl⟩)
              · refine wp_iload_n hX (dk DX10_of 59 rfl) rfl ?_
                refine wp_if_ne (tgt := 129) hX (dk DX10_of_1 0 rfl) (by decide) (fun h115 => ?_) (fun h115 => ?_)
                · refine wp_iconst (v := -1) hX (dk DX10_of_1 6 rfl) (by decide) ?_
                  exact wp_ireturn hX hR (dk DX10_of_1 7 rfl) rfl (Nat.le_refl _) (Nat.le_refl _) (⟨rfl, rfl⟩)
                · exact absurd (Or.inr (Or.inr ⟨h115, h111⟩)) h
            · refine wp_aload_n hX (dk DX10_of 46 rfl) rfl ?_
              refine w_getr hX flX10_51 (dk DX10_of 47 rfl) rfl rfl ?_
              refine wp_iload_n hX (dk DX10_of 48 rfl) rfl ?_
              refine w_callV (As := [_]) lkX10_127 hX (dk DX10_of 49 rfl) rfl rfl (by decide) hN (k_yhas (d + 109) sw f g x) ?_
              show WP _ _ _ 96 [_, _, _] [_] _
              rw [hm]
              refine wp_if_eq (tgt := 108) hX (dk DX10_of 50 rfl) (by decide) (fun h96 => ?_) (fun h96 => ?_)
              · refine wp_iload_n hX (dk DX10_of 56 rfl) rfl ?_
                refine wp_bipush (v := 6) hX (dk DX10_of 57 rfl) (by decide) ?_
                refine wp_icmp_ne (tgt := 129) hX (dk DX10_of 58 rfl) (by decide) (fun h111 => ?_) (fun h111 => ?_)
                · refine wp_iconst (v := -1) hX (dk DX10_of_1 6 rfl) (by decide) ?_
                  exact wp_ireturn hX hR (dk DX10_of_1 7 rfl) rfl (Nat.le_refl _) (Nat.le_refl _) (⟨rfl, rfl⟩)
                · refine wp_iload_n hX (dk DX10_of 59 rfl) rfl ?_
                  refine wp_if_ne (tgt := 129) hX (dk DX10_of_1 0 rfl) (by decide) (fun h115 => ?_) (fun h115 => ?_)
                  · refine wp_iconst (v := -1) hX (dk DX10_of_1 6 rfl) (by decide) ?_
                    exact wp_ireturn hX hR (dk DX10_of_1 7 rfl) rfl (Nat.le_refl _) (Nat.le_refl _) (⟨rfl, rfl⟩)
                  · exact absurd (Or.inr (Or.inr ⟨h115, h111⟩)) h
              · refine absurd (Or.inr (Or.inl ?_)) h
                obtain ⟨i, a1, a2⟩ := jin_ex (by omega) h96
                exact ⟨i, 5, a1, Or.inr rfl, a2, h85⟩
          · refine wp_aload_n hX (dk DX10_of 33 rfl) rfl ?_
            refine w_getr hX flX10_51 (dk DX10_of 34 rfl) rfl rfl ?_
            refine wp_iload_n hX (dk DX10_of 35 rfl) rfl ?_
            refine w_callV (As := [_]) lkX10_127 hX (dk DX10_of 36 rfl) rfl rfl (by decide) hN (k_yhas (d + 109) sw f g x) ?_
            show WP _ _ _ 71 [_, _, _] [_] _
            rw [hm]
            refine wp_if_eq (tgt := 83) hX (dk DX10_of 37 rfl) (by decide) (fun h71 => ?_) (fun h71 => ?_)
            · refine wp_iload_n hX (dk DX10_of 43 rfl) rfl ?_
              refine wp_iconst (v := 5) hX (dk DX10_of 44 rfl) (by decide) ?_
              refine wp_icmp_ne (tgt := 108) hX (dk DX10_of 45 rfl) (by decide) (fun h85 => ?_) (fun h85 => ?_)
              · refine wp_iload_n hX (dk DX10_of 56 rfl) rfl ?_
                refine wp_bipush (v := 6) hX (dk DX10_of 57 rfl) (by decide) ?_
                refine wp_icmp_ne (tgt := 129) hX (dk DX10_of 58 rfl) (by decide) (fun h111 => ?_) (fun h111 => ?_)
                · refine wp_iconst (v := -1) hX (dk DX10_of_1 6 rfl) (by decide) ?_
                  exact wp_ireturn hX hR (dk DX10_of_1 7 rfl) rfl (Nat.le_refl _) (Nat.le_refl _) (⟨rfl, rfl⟩)
                · refine wp_iload_n hX (dk DX10_of 59 rfl) rfl ?_
                  refine wp_if_ne (tgt := 129) hX (dk DX10_of_1 0 rfl) (by decide) (fun h115 => ?_) (fun h115 => ?_)
                  · refine wp_iconst (v := -1) hX (dk DX10_of_1 6 rfl) (by decide) ?_
                    exact wp_ireturn hX hR (dk DX10_of_1 7 rfl) rfl (Nat.le_refl _) (Nat.le_refl _) (⟨rfl, rfl⟩)
                  · exact absurd (Or.inr (Or.inr ⟨h115, h111⟩)) h
              · refine wp_aload_n hX (dk DX10_of 46 rfl) rfl ?_
                refine w_getr hX flX10_51 (dk DX10_of 47 rfl) rfl rfl ?_
                refine wp_iload_n hX (dk DX10_of 48 rfl) rfl ?_
                refine w_callV (As := [_]) lkX10_127 hX (dk DX10_of 49 rfl) rfl rfl (by decide) hN (k_yhas (d + 109) sw f g x) ?_
                show WP _ _ _ 96 [_, _, _] [_] _
                rw [hm]
                refine wp_if_eq (tgt := 108) hX (dk DX10_of 50 rfl) (by decide) (fun h96 => ?_) (fun h96 => ?_)
                · refine wp_iload_n hX (dk DX10_of 56 rfl) rfl ?_
                  refine wp_bipush (v := 6) hX (dk DX10_of 57 rfl) (by decide) ?_
                  refine wp_icmp_ne (tgt := 129) hX (dk DX10_of 58 rfl) (by decide) (fun h111 => ?_) (fun h111 => ?_)
                  · refine wp_iconst (v := -1) hX (dk DX10_of_1 6 rfl) (by decide) ?_
                    exact wp_ireturn hX hR (dk DX10_of_1 7 rfl) rfl (Nat.le_refl _) (Nat.le_refl _) (⟨rfl, rfl⟩)
                  · refine wp_iload_n hX (dk DX10_of 59 rfl) rfl ?_
                    refine wp_if_ne (tgt := 129) hX (dk DX10_of_1 0 rfl) (by decide) (fun h115 => ?_) (fun h115 => ?_)
                    · refine wp_iconst (v := -1) hX (dk DX10_of_1 6 rfl) (by decide) ?_
                      exact wp_ireturn hX hR (dk DX10_of_1 7 rfl) rfl (Nat.le_refl _) (Nat.le_refl _) (⟨rfl, rfl⟩)
                    · exact absurd (Or.inr (Or.inr ⟨h115, h111⟩)) h
                · refine absurd (Or.inr (Or.inl ?_)) h
                  obtain ⟨i, a1, a2⟩ := jin_ex (by omega) h96
                  exact ⟨i, 5, a1, Or.inr rfl, a2, h85⟩
            · refine absurd (Or.inr (Or.inl ?_)) h
              obtain ⟨i, a1, a2⟩ := jin_ex (by omega) h71
              exact ⟨i, 4, a1, Or.inl rfl, a2, h60⟩
        · refine absurd (Or.inl ?_) h
          obtain ⟨i, a1, a2⟩ := jin_ex (by omega) h43
          exact ⟨i, 3, a1, by omega, a2, h32⟩
    · refine wp_aload_n hX (dk DX10_of 5 rfl) rfl ?_
      refine w_getr hX flX10_10 (dk DX10_of 6 rfl) rfl rfl ?_
      refine wp_iload_n hX (dk DX10_of 7 rfl) rfl ?_
      refine w_callV (As := [_]) lkX10_104 hX (dk DX10_of 8 rfl) rfl rfl (by decide) hN (k_has (d + 109) sw f g x) ?_
      show WP _ _ _ 17 [_, _, _] [_] _
      rw [hn]
      refine wp_if_eq (tgt := 30) hX (dk DX10_of 9 rfl) (by decide) (fun h17 => ?_) (fun h17 => ?_)
      · refine wp_iload_n hX (dk DX10_of 16 rfl) rfl ?_
        refine wp_iconst (v := 3) hX (dk DX10_of 17 rfl) (by decide) ?_
        refine wp_icmp_ne (tgt := 58) hX (dk DX10_of 18 rfl) (by decide) (fun h32 => ?_) (fun h32 => ?_)
        · refine wp_iload_n hX (dk DX10_of 30 rfl) rfl ?_
          refine wp_iconst (v := 4) hX (dk DX10_of 31 rfl) (by decide) ?_
          refine wp_icmp_ne (tgt := 83) hX (dk DX10_of 32 rfl) (by decide) (fun h60 => ?_) (fun h60 => ?_)
          · refine wp_iload_n hX (dk DX10_of 43 rfl) rfl ?_
            refine wp_iconst (v := 5) hX (dk DX10_of 44 rfl) (by decide) ?_
            refine wp_icmp_ne (tgt := 108) hX (dk DX10_of 45 rfl) (by decide) (fun h85 => ?_) (fun h85 => ?_)
            · refine wp_iload_n hX (dk DX10_of 56 rfl) rfl ?_
              refine wp_bipush (v := 6) hX (dk DX10_of 57 rfl) (by decide) ?_
              refine wp_icmp_ne (tgt := 129) hX (dk DX10_of 58 rfl) (by decide) (fun h111 => ?_) (fun h111 => ?_)
              · refine wp_iconst (v := -1) hX (dk DX10_of_1 6 rfl) (by decide) ?_
                exact wp_ireturn hX hR (dk DX10_of_1 7 rfl) rfl (Nat.le_refl _) (Nat.le_refl _) (⟨rfl, rfl⟩)
              · refine wp_iload_n hX (dk DX10_of 59 rfl) rfl ?_
                refine wp_if_ne (tgt := 129) hX (dk DX10_of_1 0 rfl) (by decide) (fun h115 => ?_) (fun h115 => ?_)
                · refine wp_iconst (v := -1) hX (dk DX10_of_1 6 rfl) (by decide) ?_
                  exact wp_ireturn hX hR (dk DX10_of_1 7 rfl) rfl (Nat.le_refl _) (Nat.le_refl _) (⟨rfl, rfl⟩)
                · exact absurd (Or.inr (Or.inr ⟨h115, h111⟩)) h
            · refine wp_aload_n hX (dk DX10_of 46 rfl) rfl ?_
              refine w_getr hX flX10_51 (dk DX10_of 47 rfl) rfl rfl ?_
              refine wp_iload_n hX (dk DX10_of 48 rfl) rfl ?_
              refine w_callV (As := [_]) lkX10_127 hX (dk DX10_of 49 rfl) rfl rfl (by decide) hN (k_yhas (d + 109) sw f g x) ?_
              show WP _ _ _ 96 [_, _, _] [_] _
              rw [hm]
              refine wp_if_eq (tgt := 108) hX (dk DX10_of 50 rfl) (by decide) (fun h96 => ?_) (fun h96 => ?_)
              · refine wp_iload_n hX (dk DX10_of 56 rfl) rfl ?_
                refine wp_bipush (v := 6) hX (dk DX10_of 57 rfl) (by decide) ?_
                refine wp_icmp_ne (tgt := 129) hX (dk DX10_of 58 rfl) (by decide) (fun h111 => ?_) (fun h111 => ?_)
                · refine wp_iconst (v := -1) hX (dk DX10_of_1 6 rfl) (by decide) ?_
                  exact wp_ireturn hX hR (dk DX10_of_1 7 rfl) rfl (Nat.le_refl _) (Nat.le_refl _) (⟨rfl, rfl⟩)
                · refine wp_iload_n hX (dk DX10_of 59 rfl) rfl ?_
                  refine wp_if_ne (tgt := 129) hX (dk DX10_of_1 0 rfl) (by decide) (fun h115 => ?_) (fun h115 => ?_)
                  · refine wp_iconst (v := -1) hX (dk DX10_of_1 6 rfl) (by decide) ?_
                    exact wp_ireturn hX hR (dk DX10_of_1 7 rfl) rfl (Nat.le_refl _) (Nat.le_refl _) (⟨rfl, rfl⟩)
                  · exact absurd (Or.inr (Or.inr ⟨h115, h111⟩)) h
              · refine absurd (Or.inr (Or.inl ?_)) h
                obtain ⟨i, a1, a2⟩ := jin_ex (by omega) h96
                exact ⟨i, 5, a1, Or.inr rfl, a2, h85⟩
          · refine wp_aload_n hX (dk DX10_of 33 rfl) rfl ?_
            refine w_getr hX flX10_51 (dk DX10_of 34 rfl) rfl rfl ?_
            refine wp_iload_n hX (dk DX10_of 35 rfl) rfl ?_
            refine w_callV (As := [_]) lkX10_127 hX (dk DX10_of 36 rfl) rfl rfl (by decide) hN (k_yhas (d + 109) sw f g x) ?_
            show WP _ _ _ 71 [_, _, _] [_] _
            rw [hm]
            refine wp_if_eq (tgt := 83) hX (dk DX10_of 37 rfl) (by decide) (fun h71 => ?_) (fun h71 => ?_)
            · refine wp_iload_n hX (dk DX10_of 43 rfl) rfl ?_
              refine wp_iconst (v := 5) hX (dk DX10_of 44 rfl) (by decide) ?_
              refine wp_icmp_ne (tgt := 108) hX (dk DX10_of 45 rfl) (by decide) (fun h85 => ?_) (fun h85 => ?_)
              · refine wp_iload_n hX (dk DX10_of 56 rfl) rfl ?_
                refine wp_bipush (v := 6) hX (dk DX10_of 57 rfl) (by decide) ?_
                refine wp_icmp_ne (tgt := 129) hX (dk DX10_of 58 rfl) (by decide) (fun h111 => ?_) (fun h111 => ?_)
                · refine wp_iconst (v := -1) hX (dk DX10_of_1 6 rfl) (by decide) ?_
                  exact wp_ireturn hX hR (dk DX10_of_1 7 rfl) rfl (Nat.le_refl _) (Nat.le_refl _) (⟨rfl, rfl⟩)
                · refine wp_iload_n hX (dk DX10_of 59 rfl) rfl ?_
                  refine wp_if_ne (tgt := 129) hX (dk DX10_of_1 0 rfl) (by decide) (fun h115 => ?_) (fun h115 => ?_)
                  · refine wp_iconst (v := -1) hX (dk DX10_of_1 6 rfl) (by decide) ?_
                    exact wp_ireturn hX hR (dk DX10_of_1 7 rfl) rfl (Nat.le_refl _) (Nat.le_refl _) (⟨rfl, rfl⟩)
                  · exact absurd (Or.inr (Or.inr ⟨h115, h111⟩)) h
              · refine wp_aload_n hX (dk DX10_of 46 rfl) rfl ?_
                refine w_getr hX flX10_51 (dk DX10_of 47 rfl) rfl rfl ?_
                refine wp_iload_n hX (dk DX10_of 48 rfl) rfl ?_
                refine w_callV (As := [_]) lkX10_127 hX (dk DX10_of 49 rfl) rfl rfl (by decide) hN (k_yhas (d + 109) sw f g x) ?_
                show WP _ _ _ 96 [_, _, _] [_] _
                rw [hm]
                refine wp_if_eq (tgt := 108) hX (dk DX10_of 50 rfl) (by decide) (fun h96 => ?_) (fun h96 => ?_)
                · refine wp_iload_n hX (dk DX10_of 56 rfl) rfl ?_
                  refine wp_bipush (v := 6) hX (dk DX10_of 57 rfl) (by decide) ?_
                  refine wp_icmp_ne (tgt := 129) hX (dk DX10_of 58 rfl) (by decide) (fun h111 => ?_) (fun h111 => ?_)
                  · refine wp_iconst (v := -1) hX (dk DX10_of_1 6 rfl) (by decide) ?_
                    exact wp_ireturn hX hR (dk DX10_of_1 7 rfl) rfl (Nat.le_refl _) (Nat.le_refl _) (⟨rfl, rfl⟩)
                  · refine wp_iload_n hX (dk DX10_of 59 rfl) rfl ?_
                    refine wp_if_ne (tgt := 129) hX (dk DX10_of_1 0 rfl) (by decide) (fun h115 => ?_) (fun h115 => ?_)
                    · refine wp_iconst (v := -1) hX (dk DX10_of_1 6 rfl) (by decide) ?_
                      exact wp_ireturn hX hR (dk DX10_of_1 7 rfl) rfl (Nat.le_refl _) (Nat.le_refl _) (⟨rfl, rfl⟩)
                    · exact absurd (Or.inr (Or.inr ⟨h115, h111⟩)) h
                · refine absurd (Or.inr (Or.inl ?_)) h
                  obtain ⟨i, a1, a2⟩ := jin_ex (by omega) h96
                  exact ⟨i, 5, a1, Or.inr rfl, a2, h85⟩
            · refine absurd (Or.inr (Or.inl ?_)) h
              obtain ⟨i, a1, a2⟩ := jin_ex (by omega) h71
              exact ⟨i, 4, a1, Or.inl rfl, a2, h60⟩
        · refine wp_aload_n hX (dk DX10_of 19 rfl) rfl ?_
          refine w_getr hX flX10_10 (dk DX10_of 20 rfl) rfl rfl ?_
          refine wp_iload_n hX (dk DX10_of 21 rfl) rfl ?_
          refine w_callV (As := [_]) lkX10_104 hX (dk DX10_of 22 rfl) rfl rfl (by decide) hN (k_has (d + 109) sw f g x) ?_
          show WP _ _ _ 43 [_, _, _] [_] _
          rw [hn]
          refine wp_if_eq (tgt := 58) hX (dk DX10_of 23 rfl) (by decide) (fun h43 => ?_) (fun h43 => ?_)
          · refine wp_iload_n hX (dk DX10_of 30 rfl) rfl ?_
            refine wp_iconst (v := 4) hX (dk DX10_of 31 rfl) (by decide) ?_
            refine wp_icmp_ne (tgt := 83) hX (dk DX10_of 32 rfl) (by decide) (fun h60 => ?_) (fun h60 => ?_)
            · refine wp_iload_n hX (dk DX10_of 43 rfl) rfl ?_
              refine wp_iconst (v := 5) hX (dk DX10_of 44 rfl) (by decide) ?_
              refine wp_icmp_ne (tgt := 108) hX (dk DX10_of 45 rfl) (by decide) (fun h85 => ?_) (fun h85 => ?_)
              · refine wp_iload_n hX (dk DX10_of 56 rfl) rfl ?_
                refine wp_bipush (v := 6) hX (dk DX10_of 57 rfl) (by decide) ?_
                refine wp_icmp_ne (tgt := 129) hX (dk DX10_of 58 rfl) (by decide) (fun h111 => ?_) (fun h111 => ?_)
                · refine wp_iconst (v := -1) hX (dk DX10_of_1 6 rfl) (by decide) ?_
                  exact wp_ireturn hX hR (dk DX10_of_1 7 rfl) rfl (Nat.le_refl _) (Nat.le_refl _) (⟨rfl, rfl⟩)
                · refine wp_iload_n hX (dk DX10_of 59 rfl) rfl ?_
                  refine wp_if_ne (tgt := 129) hX (dk DX10_of_1 0 rfl) (by decide) (fun h115 => ?_) (fun h115 => ?_)
                  · refine wp_iconst (v := -1) hX (dk DX10_of_1 6 rfl) (by decide) ?_
                    exact wp_ireturn hX hR (dk DX10_of_1 7 rfl) rfl (Nat.le_refl _) (Nat.le_refl _) (⟨rfl, rfl⟩)
                  · exact absurd (Or.inr (Or.inr ⟨h115, h111⟩)) h
              · refine wp_aload_n hX (dk DX10_of 46 rfl) rfl ?_
                refine w_getr hX flX10_51 (dk DX10_of 47 rfl) rfl rfl ?_
                refine wp_iload_n hX (dk DX10_of 48 rfl) rfl ?_
                refine w_callV (As := [_]) lkX10_127 hX (dk DX10_of 49 rfl) rfl rfl (by decide) hN (k_yhas (d + 109) sw f g x) ?_
                show WP _ _ _ 96 [_, _, _] [_] _
                rw [hm]
                refine wp_if_eq (tgt := 108) hX (dk DX10_of 50 rfl) (by decide) (fun h96 => ?_) (fun h96 => ?_)
                · refine wp_iload_n hX (dk DX10_of 56 rfl) rfl ?_
                  refine wp_bipush (v := 6) hX (dk DX10_of 57 rfl) (by decide) ?_
                  refine wp_icmp_ne (tgt := 129) hX (dk DX10_of 58 rfl) (by decide) (fun h111 => ?_) (fun h111 => ?_)
                  · refine wp_iconst (v := -1) hX (dk DX10_of_1 6 rfl) (by decide) ?_
                    exact wp_ireturn hX hR (dk DX10_of_1 7 rfl) rfl (Nat.le_refl _) (Nat.le_refl _) (⟨rfl, rfl⟩)
                  · refine wp_iload_n hX (dk DX10_of 59 rfl) rfl ?_
                    refine wp_if_ne (tgt := 129) hX (dk DX10_of_1 0 rfl) (by decide) (fun h115 => ?_) (fun h115 => ?_)
                    · refine wp_iconst (v := -1) hX (dk DX10_of_1 6 rfl) (by decide) ?_
                      exact wp_ireturn hX hR (dk DX10_of_1 7 rfl) rfl (Nat.le_refl _) (Nat.le_refl _) (⟨rfl, rfl⟩)
                    · exact absurd (Or.inr (Or.inr ⟨h115, h111⟩)) h
                · refine absurd (Or.inr (Or.inl ?_)) h
                  obtain ⟨i, a1, a2⟩ := jin_ex (by omega) h96
                  exact ⟨i, 5, a1, Or.inr rfl, a2, h85⟩
            · refine wp_aload_n hX (dk DX10_of 33 rfl) rfl ?_
              refine w_getr hX flX10_51 (dk DX10_of 34 rfl) rfl rfl ?_
              refine wp_iload_n hX (dk DX10_of 35 rfl) rfl ?_
              refine w_callV (As := [_]) lkX10_127 hX (dk DX10_of 36 rfl) rfl rfl (by decide) hN (k_yhas (d + 109) sw f g x) ?_
              show WP _ _ _ 71 [_, _, _] [_] _
              rw [hm]
              refine wp_if_eq (tgt := 83) hX (dk DX10_of 37 rfl) (by decide) (fun h71 => ?_) (fun h71 => ?_)
              · refine wp_iload_n hX (dk DX10_of 43 rfl) rfl ?_
                refine wp_iconst (v := 5) hX (dk DX10_of 44 rfl) (by decide) ?_
                refine wp_icmp_ne (tgt := 108) hX (dk DX10_of 45 rfl) (by decide) (fun h85 => ?_) (fun h85 => ?_)
                · refine wp_iload_n hX (dk DX10_of 56 rfl) rfl ?_
                  refine wp_bipush (v := 6) hX (dk DX10_of 57 rfl) (by decide) ?_
                  refine wp_icmp_ne (tgt := 129) hX (dk DX10_of 58 rfl) (by decide) (fun h111 => ?_) (fun h111 => ?_)
                  · refine wp_iconst (v := -1) hX (dk DX10_of_1 6 rfl) (by decide) ?_
                    exact wp_ireturn hX hR (dk DX10_of_1 7 rfl) rfl (Nat.le_refl _) (Nat.le_refl _) (⟨rfl, rfl⟩)
                  · refine wp_iload_n hX (dk DX10_of 59 rfl) rfl ?_
                    refine wp_if_ne (tgt := 129) hX (dk DX10_of_1 0 rfl) (by decide) (fun h115 => ?_) (fun h115 => ?_)
                    · refine wp_iconst (v := -1) hX (dk DX10_of_1 6 rfl) (by decide) ?_
                      exact wp_ireturn hX hR (dk DX10_of_1 7 rfl) rfl (Nat.le_refl _) (Nat.le_refl _) (⟨rfl, rfl⟩)
                    · exact absurd (Or.inr (Or.inr ⟨h115, h111⟩)) h
                · refine wp_aload_n hX (dk DX10_of 46 rfl) rfl ?_
                  refine w_getr hX flX10_51 (dk DX10_of 47 rfl) rfl rfl ?_
                  refine wp_iload_n hX (dk DX10_of 48 rfl) rfl ?_
                  refine w_callV (As := [_]) lkX10_127 hX (dk DX10_of 49 rfl) rfl rfl (by decide) hN (k_yhas (d + 109) sw f g x) ?_
                  show WP _ _ _ 96 [_, _, _] [_] _
                  rw [hm]
                  refine wp_if_eq (tgt := 108) hX (dk DX10_of 50 rfl) (by decide) (fun h96 => ?_) (fun h96 => ?_)
                  · refine wp_iload_n hX (dk DX10_of 56 rfl) rfl ?_
                    refine wp_bipush (v := 6) hX (dk DX10_of 57 rfl) (by decide) ?_
                    refine wp_icmp_ne (tgt := 129) hX (dk DX10_of 58 rfl) (by decide) (fun h111 => ?_) (fun h111 => ?_)
                    · refine wp_iconst (v := -1) hX (dk DX10_of_1 6 rfl) (by decide) ?_
                      exact wp_ireturn hX hR (dk DX10_of_1 7 rfl) rfl (Nat.le_refl _) (Nat.le_refl _) (⟨rfl, rfl⟩)
                    · refine wp_iload_n hX (dk DX10_of 59 rfl) rfl ?_
                      refine wp_if_ne (tgt := 129) hX (dk DX10_of_1 0 rfl) (by decide) (fun h115 => ?_) (fun h115 => ?_)
                      · refine wp_iconst (v := -1) hX (dk DX10_of_1 6 rfl) (by decide) ?_
                        exact wp_ireturn hX hR (dk DX10_of_1 7 rfl) rfl (Nat.le_refl _) (Nat.le_refl _) (⟨rfl, rfl⟩)
                      · exact absurd (Or.inr (Or.inr ⟨h115, h111⟩)) h
                  · refine absurd (Or.inr (Or.inl ?_)) h
                    obtain ⟨i, a1, a2⟩ := jin_ex (by omega) h96
                    exact ⟨i, 5, a1, Or.inr rfl, a2, h85⟩
              · refine absurd (Or.inr (Or.inl ?_)) h
                obtain ⟨i, a1, a2⟩ := jin_ex (by omega) h71
                exact ⟨i, 4, a1, Or.inl rfl, a2, h60⟩
          · refine absurd (Or.inl ?_) h
            obtain ⟨i, a1, a2⟩ := jin_ex (by omega) h43
            exact ⟨i, 3, a1, by omega, a2, h32⟩
      · refine absurd (Or.inl ?_) h
        obtain ⟨i, a1, a2⟩ := jin_ex (by omega) h17
        obtain ⟨w, b1, b2⟩ := rg_lt (k := 3) (by decide) h1 h6
        exact ⟨i, w, a1, by omega, a2, b2⟩
theorem t_ofT (d : Nat) (sw : Bool) (f : Nat → Nat → Int32) (g : Nat → Nat → Int64) (n i w : Nat) (hn : f 1 4 = nI n) (hn10 : n ≤ 10) (hi : i < n) (hw : w < 3) : CT (d + 110) 0 0 iX10_of [.ref 0, .int (nI i), .int (nI w)] (S sw f g) (rdC g f (f 3 (i * 3 + w))) := by
  refine CT.rdC ?_
  refine CT.of rfl (Nat.le_of_ble_eq_true rfl) (fun X hX hR hN _ => ?_)
  have hX : Good X RX10 cX10_of (d + 110) 0 0 := hX
  have hN : x_nl X = 3 := hN
  show WP X 0 0 0 [_, _, _] [] _
  refine wp_iload_n hX (dk DX10_of 0 rfl) rfl ?_
  refine wp_if_lt (tgt := 30) hX (dk DX10_of 1 rfl) (by decide) (fun h_ => absurd h_ (nI_pos (by omega))) (fun _ => ?_)
  refine wp_iload_n hX (dk DX10_of 2 rfl) rfl ?_
  refine wp_iconst (v := 3) hX (dk DX10_of 3 rfl) (by decide) ?_
  refine wp_icmp_ge (tgt := 30) hX (dk DX10_of 4 rfl) (by decide) (fun h_ => absurd h_ (nI_ge (b := 3) (by omega) (by omega))) (fun _ => ?_)
  refine wp_aload_n hX (dk DX10_of 5 rfl) rfl ?_
  refine w_getr hX flX10_10 (dk DX10_of 6 rfl) rfl rfl ?_
  refine wp_iload_n hX (dk DX10_of 7 rfl) rfl ?_
  refine w_callV (As := [_]) lkX10_104 hX (dk DX10_of 8 rfl) rfl rfl (by decide) hN (k_has (d + 109) sw f g (nI i)) ?_
  show WP _ _ _ 17 [_, _, _] [_] _
  rw [hn, jin_1 (by omega) hi rfl]
  refine wp_if_eq (tgt := 30) hX (dk DX10_of 9 rfl) (by decide) (fun h_ => absurd h_ (by decide)) (fun _ => ?_)
  refine wp_aload_n hX (dk DX10_of 10 rfl) rfl ?_
  refine w_getr hX flX10_10 (dk DX10_of 11 rfl) rfl rfl ?_
  refine wp_iload_n hX (dk DX10_of 12 rfl) rfl ?_
  refine wp_iload_n hX (dk DX10_of 13 rfl) rfl ?_
  refine w_callV (As := [_, _]) lkX10_109 hX (dk DX10_of 14 rfl) rfl rfl (by decide) hN (k_traitOf (d + 109) sw f g i w (by omega) hw) ?_
  show WP _ _ _ 29 [_, _, _] [_] _
  exact wp_ireturn hX hR (dk DX10_of 15 rfl) rfl (Nat.le_refl _) (Nat.le_refl _) (⟨rfl, rfl⟩)
theorem t_of3 (d : Nat) (sw : Bool) (f : Nat → Nat → Int32) (g : Nat → Nat → Int64) (n i : Nat) (sh : Nat → Int32) (hs : stF f n sh) (hi : i < n) : CT (d + 110) 0 0 iX10_of [.ref 0, .int (nI i), .int 3] (S sw f g) (rdC g f (sh i)) := by
  have hn10 := hs.2.1
  refine CT.rdC ?_
  refine CT.of rfl (Nat.le_of_ble_eq_true rfl) (fun X hX hR hN _ => ?_)
  have hX : Good X RX10 cX10_of (d + 110) 0 0 := hX
  have hN : x_nl X = 3 := hN
  show WP X 0 0 0 [_, _, _] [] _
  refine wp_iload_n hX (dk DX10_of 0 rfl) rfl ?_
  refine wp_if_lt (tgt := 30) hX (dk DX10_of 1 rfl) (by decide) (fun h_ => absurd h_ (by decide)) (fun _ => ?_)
  refine wp_iload_n hX (dk DX10_of 2 rfl) rfl ?_
  refine wp_iconst (v := 3) hX (dk DX10_of 3 rfl) (by decide) ?_
  refine wp_icmp_ge (tgt := 30) hX (dk DX10_of 4 rfl) (by decide) (fun _ => ?_) (fun h_ => absurd (by decide) h_)
  refine wp_iload_n hX (dk DX10_of 16 rfl) rfl ?_
  refine wp_iconst (v := 3) hX (dk DX10_of 17 rfl) (by decide) ?_
  refine wp_icmp_ne (tgt := 58) hX (dk DX10_of 18 rfl) (by decide) (fun h_ => absurd (rfl) h_) (fun _ => ?_)
  refine wp_aload_n hX (dk DX10_of 19 rfl) rfl ?_
  refine w_getr hX flX10_10 (dk DX10_of 20 rfl) rfl rfl ?_
  refine wp_iload_n hX (dk DX10_of 21 rfl) rfl ?_
  refine w_callV (As := [_]) lkX10_104 hX (dk DX10_of 22 rfl) rfl rfl (by decide) hN (k_has (d + 109) sw f g (nI i)) ?_
  show WP _ _ _ 43 [_, _, _] [_] _
  rw [hs.1, jin_1 (by omega) hi rfl]
  refine wp_if_eq (tgt := 58) hX (dk DX10_of 23 rfl) (by decide) (fun h_ => absurd h_ (by decide)) (fun _ => ?_)
  refine wp_aload_n hX (dk DX10_of 24 rfl) rfl ?_
  refine w_getr hX flX10_10 (dk DX10_of 25 rfl) rfl rfl ?_
  refine wp_iload_n hX (dk DX10_of 26 rfl) rfl ?_
  refine w_callV (As := [_]) lkX10_119 hX (dk DX10_of 27 rfl) rfl rfl (by decide) hN (k_formOf (d + 109) sw f g i (by omega)) ?_
  show WP _ _ _ 54 [_, _, _] [_] _
  refine w_geti hX flX10_123 (dk DX10_of 28 rfl) (by decide) (isF_st i (by omega)).1 ?_
  rw [(hs.2.2 i hi).1]
  exact wp_ireturn hX hR (dk DX10_of 29 rfl) rfl (Nat.le_refl _) (Nat.le_refl _) (⟨rfl, rfl⟩)
theorem t_of4 (d : Nat) (sw : Bool) (f : Nat → Nat → Int32) (g : Nat → Nat → Int64) (m b : Nat) (hm : f 61 6 = nI m) (hm6 : m ≤ 6) (hb : b < m) : CT (d + 110) 0 0 iX10_of [.ref 0, .int (nI b), .int 4] (S sw f g) (rdC g f (f 62 b)) := by
  refine CT.rdC ?_
  refine CT.of rfl (Nat.le_of_ble_eq_true rfl) (fun X hX hR hN _ => ?_)
  have hX : Good X RX10 cX10_of (d + 110) 0 0 := hX
  have hN : x_nl X = 3 := hN
  show WP X 0 0 0 [_, _, _] [] _
  refine wp_iload_n hX (dk DX10_of 0 rfl) rfl ?_
  refine wp_if_lt (tgt := 30) hX (dk DX10_of 1 rfl) (by decide) (fun h_ => absurd h_ (by decide)) (fun _ => ?_)
  refine wp_iload_n hX (dk DX10_of 2 rfl) rfl ?_
  refine wp_iconst (v := 3) hX (dk DX10_of 3 rfl) (by decide) ?_
  refine wp_icmp_ge (tgt := 30) hX (dk DX10_of 4 rfl) (by decide) (fun _ => ?_) (fun h_ => absurd (by decide) h_)
  refine wp_iload_n hX (dk DX10_of 16 rfl) rfl ?_
  refine wp_iconst (v := 3) hX (dk DX10_of 17 rfl) (by decide) ?_
  refine wp_icmp_ne (tgt := 58) hX (dk DX10_of 18 rfl) (by decide) (fun _ => ?_) (fun h_ => absurd h_ (by decide))
  refine wp_iload_n hX (dk DX10_of 30 rfl) rfl ?_
  refine wp_iconst (v := 4) hX (dk DX10_of 31 rfl) (by decide) ?_
  refine wp_icmp_ne (tgt := 83) hX (dk DX10_of 32 rfl) (by decide) (fun h_ => absurd (rfl) h_) (fun _ => ?_)
  refine wp_aload_n hX (dk DX10_of 33 rfl) rfl ?_
  refine w_getr hX flX10_51 (dk DX10_of 34 rfl) rfl rfl ?_
  refine wp_iload_n hX (dk DX10_of 35 rfl) rfl ?_
  refine w_callV (As := [_]) lkX10_127 hX (dk DX10_of 36 rfl) rfl rfl (by decide) hN (k_yhas (d + 109) sw f g (nI b)) ?_
  show WP _ _ _ 71 [_, _, _] [_] _
  rw [hm, jin_1 (by omega) hb rfl]
  refine wp_if_eq (tgt := 83) hX (dk DX10_of 37 rfl) (by decide) (fun h_ => absurd h_ (by decide)) (fun _ => ?_)
  refine wp_aload_n hX (dk DX10_of 38 rfl) rfl ?_
  refine w_getr hX flX10_51 (dk DX10_of 39 rfl) rfl rfl ?_
  refine wp_iload_n hX (dk DX10_of 40 rfl) rfl ?_
  refine w_callV (As := [_]) lkX10_128 hX (dk DX10_of 41 rfl) rfl rfl (by decide) hN (k_leftOf (d + 109) sw f g b (by omega)) ?_
  show WP _ _ _ 82 [_, _, _] [_] _
  exact wp_ireturn hX hR (dk DX10_of 42 rfl) rfl (Nat.le_refl _) (Nat.le_refl _) (⟨rfl, rfl⟩)
theorem t_of5 (d : Nat) (sw : Bool) (f : Nat → Nat → Int32) (g : Nat → Nat → Int64) (m b : Nat) (hm : f 61 6 = nI m) (hm6 : m ≤ 6) (hb : b < m) : CT (d + 110) 0 0 iX10_of [.ref 0, .int (nI b), .int 5] (S sw f g) (rdC g f (f 63 b)) := by
  refine CT.rdC ?_
  refine CT.of rfl (Nat.le_of_ble_eq_true rfl) (fun X hX hR hN _ => ?_)
  have hX : Good X RX10 cX10_of (d + 110) 0 0 := hX
  have hN : x_nl X = 3 := hN
  show WP X 0 0 0 [_, _, _] [] _
  refine wp_iload_n hX (dk DX10_of 0 rfl) rfl ?_
  refine wp_if_lt (tgt := 30) hX (dk DX10_of 1 rfl) (by decide) (fun h_ => absurd h_ (by decide)) (fun _ => ?_)
  refine wp_iload_n hX (dk DX10_of 2 rfl) rfl ?_
  refine wp_iconst (v := 3) hX (dk DX10_of 3 rfl) (by decide) ?_
  refine wp_icmp_ge (tgt := 30) hX (dk DX10_of 4 rfl) (by decide) (fun _ => ?_) (fun h_ => absurd (by decide) h_)
  refine wp_iload_n hX (dk DX10_of 16 rfl) rfl ?_
  refine wp_iconst (v := 3) hX (dk DX10_of 17 rfl) (by decide) ?_
  refine wp_icmp_ne (tgt := 58) hX (dk DX10_of 18 rfl) (by decide) (fun _ => ?_) (fun h_ => absurd h_ (by decide))
  refine wp_iload_n hX (dk DX10_of 30 rfl) rfl ?_
  refine wp_iconst (v := 4) hX (dk DX10_of 31 rfl) (by decide) ?_
  refine wp_icmp_ne (tgt := 83) hX (dk DX10_of 32 rfl) (by decide) (fun _ => ?_) (fun h_ => absurd h_ (by decide))
  refine wp_iload_n hX (dk DX10_of 43 rfl) rfl ?_
  refine wp_iconst (v := 5) hX (dk DX10_of 44 rfl) (by decide) ?_
  refine wp_icmp_ne (tgt := 108) hX (dk DX10_of 45 rfl) (by decide) (fun h_ => absurd (rfl) h_) (fun _ => ?_)
  refine wp_aload_n hX (dk DX10_of 46 rfl) rfl ?_
  refine w_getr hX flX10_51 (dk DX10_of 47 rfl) rfl rfl ?_
  refine wp_iload_n hX (dk DX10_of 48 rfl) rfl ?_
  refine w_callV (As := [_]) lkX10_127 hX (dk DX10_of 49 rfl) rfl rfl (by decide) hN (k_yhas (d + 109) sw f g (nI b)) ?_
  show WP _ _ _ 96 [_, _, _] [_] _
  rw [hm, jin_1 (by omega) hb rfl]
  refine wp_if_eq (tgt := 108) hX (dk DX10_of 50 rfl) (by decide) (fun h_ => absurd h_ (by decide)) (fun _ => ?_)
  refine wp_aload_n hX (dk DX10_of 51 rfl) rfl ?_
  refine w_getr hX flX10_51 (dk DX10_of 52 rfl) rfl rfl ?_
  refine wp_iload_n hX (dk DX10_of 53 rfl) rfl ?_
  refine w_callV (As := [_]) lkX10_131 hX (dk DX10_of 54 rfl) rfl rfl (by decide) hN (k_cutsOf (d + 109) sw f g b (by omega)) ?_
  show WP _ _ _ 107 [_, _, _] [_] _
  exact wp_ireturn hX hR (dk DX10_of 55 rfl) rfl (Nat.le_refl _) (Nat.le_refl _) (⟨rfl, rfl⟩)
theorem t_of6 (d : Nat) (sw : Bool) (f : Nat → Nat → Int32) (g : Nat → Nat → Int64) : CT (d + 110) 0 0 iX10_of [.ref 0, .int 0, .int 6] (S sw f g) (rdC g f (f 64 3)) := by
  refine CT.rdC ?_
  refine CT.of rfl (Nat.le_of_ble_eq_true rfl) (fun X hX hR hN _ => ?_)
  have hX : Good X RX10 cX10_of (d + 110) 0 0 := hX
  have hN : x_nl X = 3 := hN
  show WP X 0 0 0 [_, _, _] [] _
  refine wp_iload_n hX (dk DX10_of 0 rfl) rfl ?_
  refine wp_if_lt (tgt := 30) hX (dk DX10_of 1 rfl) (by decide) (fun h_ => absurd h_ (by decide)) (fun _ => ?_)
  refine wp_iload_n hX (dk DX10_of 2 rfl) rfl ?_
  refine wp_iconst (v := 3) hX (dk DX10_of 3 rfl) (by decide) ?_
  refine wp_icmp_ge (tgt := 30) hX (dk DX10_of 4 rfl) (by decide) (fun _ => ?_) (fun h_ => absurd (by decide) h_)
  refine wp_iload_n hX (dk DX10_of 16 rfl) rfl ?_
  refine wp_iconst (v := 3) hX (dk DX10_of 17 rfl) (by decide) ?_
  refine wp_icmp_ne (tgt := 58) hX (dk DX10_of 18 rfl) (by decide) (fun _ => ?_) (fun h_ => absurd h_ (by decide))
  refine wp_iload_n hX (dk DX10_of 30 rfl) rfl ?_
  refine wp_iconst (v := 4) hX (dk DX10_of 31 rfl) (by decide) ?_
  refine wp_icmp_ne (tgt := 83) hX (dk DX10_of 32 rfl) (by decide) (fun _ => ?_) (fun h_ => absurd h_ (by decide))
  refine wp_iload_n hX (dk DX10_of 43 rfl) rfl ?_
  refine wp_iconst (v := 5) hX (dk DX10_of 44 rfl) (by decide) ?_
  refine wp_icmp_ne (tgt := 108) hX (dk DX10_of 45 rfl) (by decide) (fun _ => ?_) (fun h_ => absurd h_ (by decide))
  refine wp_iload_n hX (dk DX10_of 56 rfl) rfl ?_
  refine wp_bipush (v := 6) hX (dk DX10_of 57 rfl) (by decide) ?_
  refine wp_icmp_ne (tgt := 129) hX (dk DX10_of 58 rfl) (by decide) (fun h_ => absurd (rfl) h_) (fun _ => ?_)
  refine wp_iload_n hX (dk DX10_of 59 rfl) rfl ?_
  refine wp_if_ne (tgt := 129) hX (dk DX10_of_1 0 rfl) (by decide) (fun h_ => absurd (rfl) h_) (fun _ => ?_)
  refine wp_aload_n hX (dk DX10_of_1 1 rfl) rfl ?_
  refine w_getr hX flX10_51 (dk DX10_of_1 2 rfl) rfl rfl ?_
  refine wp_iconst (v := 3) hX (dk DX10_of_1 3 rfl) (by decide) ?_
  refine w_callV (As := [_]) lkX10_134 hX (dk DX10_of_1 4 rfl) rfl rfl (by decide) hN (k_ledger (d + 109) sw f g 3 (by decide)) ?_
  show WP _ _ _ 126 [_, _, _] [_] _
  refine wp_goto (tgt := 130) hX (dk DX10_of_1 5 rfl) (by decide) ?_
  exact wp_ireturn hX hR (dk DX10_of_1 7 rfl) rfl (Nat.le_refl _) (Nat.le_refl _) (⟨rfl, rfl⟩)
theorem t_feed0 (d : Nat) (sw : Bool) (f : Nat → Nat → Int32) (g : Nat → Nat → Int64) (x : Int32) (h : ¬ ∃ v, v < 256 ∧ x = nI v) : CT (d + 110) 0 0 iX10_feed [.ref 0, .int x] (S sw f g) (rdC g f (-1)) := by
  refine CT.rdC ?_
  refine CT.of rfl (Nat.le_of_ble_eq_true rfl) (fun X hX hR hN _ => ?_)
  have hX : Good X RX10 cX10_feed (d + 110) 0 0 := hX
  have hN : x_nl X = 2 := hN
  show WP X 0 0 0 [_, _] [] _
  refine wp_iload_n hX (dk DX10_feed 0 rfl) rfl ?_
  refine wp_if_lt (tgt := 11) hX (dk DX10_feed 1 rfl) (by decide) (fun h1 => ?_) (fun h1 => ?_)
  · refine wp_iconst (v := -1) hX (dk DX10_feed 5 rfl) (by decide) ?_
    exact wp_ireturn hX hR (dk DX10_feed 6 rfl) rfl (Nat.le_refl _) (Nat.le_refl _) (⟨rfl, rfl⟩)
  · refine wp_iload_n hX (dk DX10_feed 2 rfl) rfl ?_
    refine wp_sipush (v := 255) hX (dk DX10_feed 3 rfl) (by decide) ?_
    refine wp_icmp_le (tgt := 13) hX (dk DX10_feed 4 rfl) (by decide) (fun h8 => ?_) (fun h8 => ?_)
    · exact absurd (by obtain ⟨v, h1, h2⟩ := rg_le2 (k := 255) (by decide) h1 h8; exact ⟨v, by omega, h2⟩) h
    · refine wp_iconst (v := -1) hX (dk DX10_feed 5 rfl) (by decide) ?_
      exact wp_ireturn hX hR (dk DX10_feed 6 rfl) rfl (Nat.le_refl _) (Nat.le_refl _) (⟨rfl, rfl⟩)
theorem t_feedF (d : Nat) (sw : Bool) (f : Nat → Nat → Int32) (g : Nat → Nat → Int64) (v : Nat) (hv : v < 256) (h : f 46 2 = nI 120) : CT (d + 110) 0 0 iX10_feed [.ref 0, .int (nI v)] (S sw f g) (rdC g f (-3)) := by
  refine CT.rdC ?_
  refine CT.of rfl (Nat.le_of_ble_eq_true rfl) (fun X hX hR hN _ => ?_)
  have hX : Good X RX10 cX10_feed (d + 110) 0 0 := hX
  have hN : x_nl X = 2 := hN
  show WP X 0 0 0 [_, _] [] _
  refine wp_iload_n hX (dk DX10_feed 0 rfl) rfl ?_
  refine wp_if_lt (tgt := 11) hX (dk DX10_feed 1 rfl) (by decide) (fun h_ => absurd h_ (nI_pos (by omega))) (fun _ => ?_)
  refine wp_iload_n hX (dk DX10_feed 2 rfl) rfl ?_
  refine wp_sipush (v := 255) hX (dk DX10_feed 3 rfl) (by decide) ?_
  refine wp_icmp_le (tgt := 13) hX (dk DX10_feed 4 rfl) (by decide) (fun _ => ?_) (fun h_ => absurd (nI_le (b := 255) (by omega) (by omega)) h_)
  refine wp_aload_n hX (dk DX10_feed 7 rfl) rfl ?_
  refine w_getr hX flX10_19 (dk DX10_feed 8 rfl) rfl rfl ?_
  refine wp_iload_n hX (dk DX10_feed 9 rfl) rfl ?_
  refine w_callV (As := [_]) lkX10_137 hX (dk DX10_feed 10 rfl) rfl rfl (by decide) hN (k_tadd_full (d + 109) sw f g _ h) ?_
  show WP _ _ _ 21 [_, _] [_] _
  exact wp_ireturn hX hR (dk DX10_feed 11 rfl) rfl (Nat.le_refl _) (Nat.le_refl _) (⟨rfl, rfl⟩)
theorem t_feed1 (d : Nat) (sw : Bool) (f : Nat → Nat → Int32) (g : Nat → Nat → Int64) (v n : Nat) (hv : v < 256) (hn : n < 120) (h : f 46 2 = nI n) : CT (d + 110) 0 0 iX10_feed [.ref 0, .int (nI v)] (S sw f g) (QR (some (.int (nI (n + 1)))) (S sw (u2 (u2 f 47 n (nI v)) 46 2 (nI (n + 1))) g)) := by
  refine CT.of rfl (Nat.le_of_ble_eq_true rfl) (fun X hX hR hN _ => ?_)
  have hX : Good X RX10 cX10_feed (d + 110) 0 0 := hX
  have hN : x_nl X = 2 := hN
  show WP X 0 0 0 [_, _] [] _
  refine wp_iload_n hX (dk DX10_feed 0 rfl) rfl ?_
  refine wp_if_lt (tgt := 11) hX (dk DX10_feed 1 rfl) (by decide) (fun h_ => absurd h_ (nI_pos (by omega))) (fun _ => ?_)
  refine wp_iload_n hX (dk DX10_feed 2 rfl) rfl ?_
  refine wp_sipush (v := 255) hX (dk DX10_feed 3 rfl) (by decide) ?_
  refine wp_icmp_le (tgt := 13) hX (dk DX10_feed 4 rfl) (by decide) (fun _ => ?_) (fun h_ => absurd (nI_le (b := 255) (by omega) (by omega)) h_)
  refine wp_aload_n hX (dk DX10_feed 7 rfl) rfl ?_
  refine w_getr hX flX10_19 (dk DX10_feed 8 rfl) rfl rfl ?_
  refine wp_iload_n hX (dk DX10_feed 9 rfl) rfl ?_
  refine w_callV (As := [_]) lkX10_137 hX (dk DX10_feed 10 rfl) rfl rfl (by decide) hN (k_tadd (d + 109) sw f g n _ hn h) ?_
  show WP _ _ _ 21 [_, _] [_] _
  exact wp_ireturn hX hR (dk DX10_feed 11 rfl) rfl (Nat.le_refl _) (Nat.le_refl _) (⟨rfl, rfl⟩)
theorem t_law (d : Nat) (sw : Bool) (f : Nat → Nat → Int32) (g : Nat → Nat → Int64) (T : Nat → Nat) (n a0 : Nat) (h : tpO f T n a0) : CT (d + 110) 0 0 iX10_law [.ref 0] (S sw f g) (QS (fun r _ f2 g2 => r = some (.int (if (pLs (pC T n) n 121 0 []).1 = [] then -100 - nI (pLs (pC T n) n 121 0 []).2 else 1)) ∧ g2 = g ∧ (∀ b, b ≠ 46 → b ≠ 48 → b ≠ 49 → b ≠ 50 → f2 b = f b) ∧ f2 46 2 = 0 ∧ (if (pLs (pC T n) n 121 0 []).1 = [] then f2 49 = f 49 ∧ f2 50 = f 50 else rlOk f2 (pLs (pC T n) n 121 0 []).1))) := by
  obtain ⟨R0, hR0⟩ : ∃ R0, R0 = pLs (pC T n) n 121 0 [] := ⟨_, rfl⟩
  have hb : R0.2 < 2 ^ 31 := by
    have key : ∀ (q a : Nat) (L : List (List Nat × List Nat)), a ≤ n → (pLs (pC T n) n q a L).2 ≤ n := by
      intro q
      induction q with
      | zero => intro a L ha; exact ha
      | succ q ih =>
        intro a L ha
        have := pLn_ok (pC_end T n) ha
        rw [pLs]
        split
        · split
          · exact Nat.le_refl _
          · split
            · next c1 c2 => exact ih _ _ (by omega)
            · exact this.2.1
        · exact this.2.1
    have := key 121 0 [] (Nat.zero_le _)
    have h2 := h.2.1
    rw [hR0]; omega
  rw [← hR0]
  refine CT.of rfl (Nat.le_of_ble_eq_true rfl) (fun X hX hR hN _ => ?_)
  have hX : Good X RX10 cX10_law (d + 110) 0 0 := hX
  have hN : x_nl X = 2 := hN
  show WP X 0 0 0 [_, _] [] _
  refine wp_aload_n hX (dk DX10_law 0 rfl) rfl ?_
  refine w_getr hX flX10_19 (dk DX10_law 1 rfl) rfl rfl ?_
  refine w_callVQ (As := []) lkX10_138 hX (dk DX10_law 2 rfl) rfl rfl (by decide) hN (k_readAll (d + 3) sw f g T n a0 h) (fun v_ sw_ f_ g_ hq_ => ?_)
  obtain ⟨rfl, rfl, rfl, e1, e2⟩ := hq_
  rw [← hR0] at e2 ⊢
  show WP _ _ _ 7 [_, _] [_] _
  refine wp_istore_n hX (dk DX10_law 3 rfl) rfl rfl hN (Nat.le_of_ble_eq_true rfl) ?_
  show WP _ _ _ 8 [_, _] [] _
  refine wp_aload_n hX (dk DX10_law 4 rfl) rfl ?_
  refine w_getr hX flX10_19 (dk DX10_law 5 rfl) rfl rfl ?_
  refine w_callV (As := []) lkX10_142 hX (dk DX10_law 6 rfl) rfl rfl (by decide) hN (k_tclear (d + 109) _ f_ _) ?_
  show WP _ _ _ 15 [_, _] [] _
  unfold pF
  by_cases c : R0.1 = []
  · rw [if_pos c]
    refine wp_iload_n hX (dk DX10_law 7 rfl) rfl ?_
    refine wp_bipush (v := -2) hX (dk DX10_law 8 rfl) (by decide) ?_
    refine wp_icmp_eq (tgt := 26) hX (dk DX10_law 9 rfl) (by decide) (fun h_ => absurd h_ (rE_ne R0.2 hb)) (fun _ => ?_)
    refine wp_bipush (v := -100) hX (dk DX10_law 10 rfl) (by decide) ?_
    refine wp_iload_n hX (dk DX10_law 11 rfl) rfl ?_
    refine wp_isub hX (dk DX10_law 12 rfl) ?_
    exact wp_ireturn hX hR (dk DX10_law 13 rfl) rfl (Nat.le_refl _) (Nat.le_refl _) (⟨_, _, _, rfl, by rw [if_pos c], rfl, fun b h1 h2 _ _ => by rw [u2_ne _ _ _ h1]; exact e1.1 b h1 h2, u2_at _ _ _ _, by rw [if_pos c, u2_ne _ _ _ (by decide), u2_ne _ _ _ (by decide)]; exact ⟨e1.1 49 (by decide) (by decide), e1.1 50 (by decide) (by decide)⟩⟩)
  · rw [if_neg c]
    obtain ⟨w1, w2⟩ := e2 c
    refine wp_iload_n hX (dk DX10_law 7 rfl) rfl ?_
    refine wp_bipush (v := -2) hX (dk DX10_law 8 rfl) (by decide) ?_
    refine wp_icmp_eq (tgt := 26) hX (dk DX10_law 9 rfl) (by decide) (fun _ => ?_) (fun h_ => absurd (rfl) h_)
    refine wp_aload_n hX (dk DX10_law 14 rfl) rfl ?_
    refine w_getr hX flX10_26 (dk DX10_law 15 rfl) rfl rfl ?_
    refine wp_aload_n hX (dk DX10_law 16 rfl) rfl ?_
    refine w_getr hX flX10_19 (dk DX10_law 17 rfl) rfl rfl ?_
    refine w_callVQ (As := [_]) lkX10_145 hX (dk DX10_law 18 rfl) rfl rfl (by decide) hN (k_rtake (d + 107) _ _ _ R0.1 ⟨by rw [u2_off _ _ _ (by decide)]; exact w1.1, w1.2.1, fun j q hj => by rw [u2_ne _ _ _ (by decide)]; exact w1.2.2 j q hj⟩ w2) (fun v_b sw_b f_b g_b hq_b => ?_)
    obtain ⟨rfl, rfl, rfl, g1, g2⟩ := hq_b
    show WP _ _ _ 37 [_, _] [] _
    refine wp_iconst (v := 1) hX (dk DX10_law 19 rfl) (by decide) ?_
    exact wp_ireturn hX hR (dk DX10_law 20 rfl) rfl (Nat.le_refl _) (Nat.le_refl _) (⟨_, _, _, rfl, by rw [if_neg c], rfl, fun b h1 h2 h3 h4 => by rw [g1 b h3 h4, u2_ne _ _ _ h1]; exact e1.1 b h1 h2, by rw [g1 46 (by decide) (by decide)]; exact u2_at _ _ _ _, by rw [if_neg c]; exact g2⟩)
theorem t_brings0 (d : Nat) (sw : Bool) (f : Nat → Nat → Int32) (g : Nat → Nat → Int64) (n : Nat) (x y q : Int32) (hn : f 1 4 = nI n) (hn10 : n ≤ 10) (h : ¬ ((∃ i, i < n ∧ x = nI i) ∧ (∃ z, z < 100 ∧ y = nI z) ∧ ∃ k, k < 100 ∧ q = nI k)) : CT (d + 110) 0 0 iX10_brings [.ref 0, .int x, .int y, .int q] (S sw f g) (rdC g f (-1)) := by
  refine CT.rdC ?_
  refine CT.of rfl (Nat.le_of_ble_eq_true rfl) (fun X hX hR hN _ => ?_)
  have hX : Good X RX10 cX10_brings (d + 110) 0 0 := hX
  have hN : x_nl X = 4 := hN
  show WP X 0 0 0 [_, _, _, _] [] _
  by_cases c : ∃ z, z < 100 ∧ y = nI z
  · obtain ⟨z, hz, rfl⟩ := c
    refine wp_aload_n hX (dk DX10_brings 0 rfl) rfl ?_
    refine w_getr hX flX10_10 (dk DX10_brings 1 rfl) rfl rfl ?_
    refine wp_iload_n hX (dk DX10_brings 2 rfl) rfl ?_
    refine w_callV (As := [_]) lkX10_104 hX (dk DX10_brings 3 rfl) rfl rfl (by decide) hN (k_has (d + 109) sw f g x) ?_
    show WP _ _ _ 8 [_, _, _, _] [_] _
    rw [hn]
    refine wp_if_eq (tgt := 28) hX (dk DX10_brings 4 rfl) (by decide) (fun h8 => ?_) (fun h8 => ?_)
    · refine wp_iconst (v := -1) hX (dk DX10_brings 13 rfl) (by decide) ?_
      exact wp_ireturn hX hR (dk DX10_brings 14 rfl) rfl (Nat.le_refl _) (Nat.le_refl _) (⟨rfl, rfl⟩)
    · refine wp_iload_n hX (dk DX10_brings 5 rfl) rfl ?_
      refine w_callS (As := [_]) lkX10_149 hX (dk DX10_brings 6 rfl) rfl (by decide) (k_isYear1 (d + 109) z _ hz) ?_
      show WP _ _ _ 15 [_, _, _, _] [_] _
      refine wp_if_eq (tgt := 28) hX (dk DX10_brings 7 rfl) (by decide) (fun h_ => absurd h_ (by decide)) (fun _ => ?_)
      refine wp_iload_n hX (dk DX10_brings 8 rfl) rfl ?_
      refine wp_if_lt (tgt := 28) hX (dk DX10_brings 9 rfl) (by decide) (fun h19 => ?_) (fun h19 => ?_)
      · refine wp_iconst (v := -1) hX (dk DX10_brings 13 rfl) (by decide) ?_
        exact wp_ireturn hX hR (dk DX10_brings 14 rfl) rfl (Nat.le_refl _) (Nat.le_refl _) (⟨rfl, rfl⟩)
      · refine wp_iload_n hX (dk DX10_brings 10 rfl) rfl ?_
        refine wp_bipush (v := 99) hX (dk DX10_brings 11 rfl) (by decide) ?_
        refine wp_icmp_le (tgt := 30) hX (dk DX10_brings 12 rfl) (by decide) (fun h25 => ?_) (fun h25 => ?_)
        · exact absurd ⟨jin_ex (by omega) h8, ⟨z, hz, rfl⟩, by rw [k99] at h25; obtain ⟨k, h1, h2⟩ := rg_le2 (by decide) h19 h25; exact ⟨k, by omega, h2⟩⟩ h
        · refine wp_iconst (v := -1) hX (dk DX10_brings 13 rfl) (by decide) ?_
          exact wp_ireturn hX hR (dk DX10_brings 14 rfl) rfl (Nat.le_refl _) (Nat.le_refl _) (⟨rfl, rfl⟩)
  · refine wp_aload_n hX (dk DX10_brings 0 rfl) rfl ?_
    refine w_getr hX flX10_10 (dk DX10_brings 1 rfl) rfl rfl ?_
    refine wp_iload_n hX (dk DX10_brings 2 rfl) rfl ?_
    refine w_callV (As := [_]) lkX10_104 hX (dk DX10_brings 3 rfl) rfl rfl (by decide) hN (k_has (d + 109) sw f g x) ?_
    show WP _ _ _ 8 [_, _, _, _] [_] _
    rw [hn]
    refine wp_if_eq (tgt := 28) hX (dk DX10_brings 4 rfl) (by decide) (fun h8 => ?_) (fun h8 => ?_)
    · refine wp_iconst (v := -1) hX (dk DX10_brings 13 rfl) (by decide) ?_
      exact wp_ireturn hX hR (dk DX10_brings 14 rfl) rfl (Nat.le_refl _) (Nat.le_refl _) (⟨rfl, rfl⟩)
    · refine wp_iload_n hX (dk DX10_brings 5 rfl) rfl ?_
      refine w_callS (As := [_]) lkX10_149 hX (dk DX10_brings 6 rfl) rfl (by decide) (k_isYear0 (d + 109) y _ c) ?_
      show WP _ _ _ 15 [_, _, _, _] [_] _
      refine wp_if_eq (tgt := 28) hX (dk DX10_brings 7 rfl) (by decide) (fun _ => ?_) (fun h_ => absurd (rfl) h_)
      refine wp_iconst (v := -1) hX (dk DX10_brings 13 rfl) (by decide) ?_
      exact wp_ireturn hX hR (dk DX10_brings 14 rfl) rfl (Nat.le_refl _) (Nat.le_refl _) (⟨rfl, rfl⟩)
theorem t_brings1 (d : Nat) (sw : Bool) (f : Nat → Nat → Int32) (g : Nat → Nat → Int64) (n i y k : Nat) (sh : Nat → Int32) (L : List (List Nat × List Nat)) (hs : stF f n sh) (hr : rlOk f L) (hi : i < n) (hy : y < 100) (hk : k < 100) : CT (d + 110) 0 0 iX10_brings [.ref 0, .int (nI i), .int (nI y), .int (nI k)] (S sw f g) (rdC g f (jbr L (f 3 (i * 3)) (f 3 (i * 3 + 1)) (f 3 (i * 3 + 2)) (sh i) (nI i) (nI y) (nI k))) := by
  have hn10 := hs.2.1
  refine CT.of rfl (Nat.le_of_ble_eq_true rfl) (fun X hX hR hN _ => ?_)
  have hX : Good X RX10 cX10_brings (d + 110) 0 0 := hX
  have hN : x_nl X = 4 := hN
  show WP X 0 0 0 [_, _, _, _] [] _
  refine wp_aload_n hX (dk DX10_brings 0 rfl) rfl ?_
  refine w_getr hX flX10_10 (dk DX10_brings 1 rfl) rfl rfl ?_
  refine wp_iload_n hX (dk DX10_brings 2 rfl) rfl ?_
  refine w_callV (As := [_]) lkX10_104 hX (dk DX10_brings 3 rfl) rfl rfl (by decide) hN (k_has (d + 109) sw f g (nI i)) ?_
  show WP _ _ _ 8 [_, _, _, _] [_] _
  rw [hs.1, jin_1 (by omega) hi rfl]
  refine wp_if_eq (tgt := 28) hX (dk DX10_brings 4 rfl) (by decide) (fun h_ => absurd h_ (by decide)) (fun _ => ?_)
  refine wp_iload_n hX (dk DX10_brings 5 rfl) rfl ?_
  refine w_callS (As := [_]) lkX10_149 hX (dk DX10_brings 6 rfl) rfl (by decide) (k_isYear1 (d + 109) y _ hy) ?_
  show WP _ _ _ 15 [_, _, _, _] [_] _
  refine wp_if_eq (tgt := 28) hX (dk DX10_brings 7 rfl) (by decide) (fun h_ => absurd h_ (by decide)) (fun _ => ?_)
  refine wp_iload_n hX (dk DX10_brings 8 rfl) rfl ?_
  refine wp_if_lt (tgt := 28) hX (dk DX10_brings 9 rfl) (by decide) (fun h_ => absurd h_ (nI_pos (by omega))) (fun _ => ?_)
  refine wp_iload_n hX (dk DX10_brings 10 rfl) rfl ?_
  refine wp_bipush (v := 99) hX (dk DX10_brings 11 rfl) (by decide) ?_
  refine wp_icmp_le (tgt := 30) hX (dk DX10_brings 12 rfl) (by decide) (fun _ => ?_) (fun h_ => absurd (by rw [k99]; exact nI_le (by omega) (by omega)) h_)
  refine wp_aload_n hX (dk DX10_brings 15 rfl) rfl ?_
  refine w_getr hX flX10_26 (dk DX10_brings 16 rfl) rfl rfl ?_
  refine wp_aload_n hX (dk DX10_brings 17 rfl) rfl ?_
  refine w_getr hX flX10_10 (dk DX10_brings 18 rfl) rfl rfl ?_
  refine wp_iload_n hX (dk DX10_brings 19 rfl) rfl ?_
  refine wp_iload_n hX (dk DX10_brings 20 rfl) rfl ?_
  refine wp_iload_n hX (dk DX10_brings 21 rfl) rfl ?_
  refine w_callVQ (As := [_, _, _, _]) lkX10_152 hX (dk DX10_brings 22 rfl) rfl rfl (by decide) hN (k_worthOf (d + 105) sw f g n i sh (nI y) (nI k) L hs hr hi) (fun v_ sw_ f_ g_ hq_ => ?_)
  obtain ⟨rfl, rfl, rfl, hf⟩ := hq_
  show WP _ _ _ 44 [_, _, _, _] [_] _
  exact wp_ireturn hX hR (dk DX10_brings 23 rfl) rfl (Nat.le_refl _) (Nat.le_refl _) (⟨_, _, _, rfl, rfl, rfl, hf.q⟩)
theorem t_cut0 (d : Nat) (sw : Bool) (f : Nat → Nat → Int32) (g : Nat → Nat → Int64) (n m : Nat) (x : Int32) (hn : f 1 4 = nI n) (hn10 : n ≤ 10) (hm : f 61 6 = nI m) (hm6 : m ≤ 6) (h : ¬ ∃ b i, b < m ∧ i < n ∧ i < 10 ∧ x = nI (10 * b + i)) : CT (d + 110) 0 0 iX10_cut [.ref 0, .int x] (S sw f g) (rdC g f (-1)) := by
  refine CT.rdC ?_
  refine CT.of rfl (Nat.le_of_ble_eq_true rfl) (fun X hX hR hN _ => ?_)
  have hX : Good X RX10 cX10_cut (d + 110) 0 0 := hX
  have hN : x_nl X = 7 := hN
  show WP X 0 0 0 [_, _, _, _, _, _, _] [] _
  refine wp_aload_n hX (dk DX10_cut 0 rfl) rfl ?_
  refine wp_iload_n hX (dk DX10_cut 1 rfl) rfl ?_
  refine w_callV (As := [_]) lkX10_168 hX (dk DX10_cut 2 rfl) rfl rfl (by decide) hN (k_isBF0 (d + 108) sw f g n m x hn hn10 hm hm6 h) ?_
  show WP _ _ _ 5 [_, _, _, _, _, _, _] [_] _
  refine wp_if_ne (tgt := 10) hX (dk DX10_cut 3 rfl) (by decide) (fun h_ => absurd (rfl) h_) (fun _ => ?_)
  refine wp_iconst (v := -1) hX (dk DX10_cut 4 rfl) (by decide) ?_
  exact wp_ireturn hX hR (dk DX10_cut 5 rfl) rfl (Nat.le_refl _) (Nat.le_refl _) (⟨rfl, rfl⟩)
theorem t_cutS (d : Nat) (sw : Bool) (f : Nat → Nat → Int32) (g : Nat → Nat → Int64) (n m b i : Nat) (sh : Nat → Int32) (hs : stF f n sh) (hm : f 61 6 = nI m) (hm6 : m ≤ 6) (hb : b < m) (hi : i < n) (h : jct (sh i) (f 62 b) = 0) : CT (d + 110) 0 0 iX10_cut [.ref 0, .int (nI (10 * b + i))] (S sw f g) (rdC g f (-5)) := by
  have hn10 := hs.2.1
  have hF := isF_st i (by omega)
  have hk := hs.2.2 i hi
  refine CT.rdC ?_
  refine CT.of rfl (Nat.le_of_ble_eq_true rfl) (fun X hX hR hN _ => ?_)
  have hX : Good X RX10 cX10_cut (d + 110) 0 0 := hX
  have hN : x_nl X = 7 := hN
  show WP X 0 0 0 [_, _, _, _, _, _, _] [] _
  refine wp_aload_n hX (dk DX10_cut 0 rfl) rfl ?_
  refine wp_iload_n hX (dk DX10_cut 1 rfl) rfl ?_
  refine w_callV (As := [_]) lkX10_168 hX (dk DX10_cut 2 rfl) rfl rfl (by decide) hN (k_isBF1 (d + 108) sw f g n m b i hs.1 hn10 hm hm6 hb hi) ?_
  show WP _ _ _ 5 [_, _, _, _, _, _, _] [_] _
  refine wp_if_ne (tgt := 10) hX (dk DX10_cut 3 rfl) (by decide) (fun _ => ?_) (fun h_ => absurd h_ (by decide))
  refine wp_iload_n hX (dk DX10_cut 6 rfl) rfl ?_
  refine wp_bipush (v := 10) hX (dk DX10_cut 7 rfl) (by decide) ?_
  refine wp_idiv hX (dk DX10_cut 8 rfl) (by decide) ?_
  rw [dv10 (by omega) (by omega)]
  refine wp_istore_n hX (dk DX10_cut 9 rfl) rfl rfl hN (Nat.le_of_ble_eq_true rfl) ?_
  show WP _ _ _ 15 [_, _, _, _, _, _, _] [] _
  refine wp_iload_n hX (dk DX10_cut 10 rfl) rfl ?_
  refine wp_bipush (v := 10) hX (dk DX10_cut 11 rfl) (by decide) ?_
  refine wp_irem hX (dk DX10_cut 12 rfl) (by decide) ?_
  rw [show nI (10 * b + i) - nI (10 * b + i) / 10 * 10 = nI i from rm10 (by omega) (by omega)]
  refine wp_istore_n hX (dk DX10_cut 13 rfl) rfl rfl hN (Nat.le_of_ble_eq_true rfl) ?_
  show WP _ _ _ 20 [_, _, _, _, _, _, _] [] _
  refine wp_aload_n hX (dk DX10_cut 14 rfl) rfl ?_
  refine w_getr hX flX10_10 (dk DX10_cut 15 rfl) rfl rfl ?_
  refine wp_iload_n hX (dk DX10_cut 16 rfl) rfl ?_
  refine w_callV (As := [_]) lkX10_119 hX (dk DX10_cut 17 rfl) rfl rfl (by decide) hN (k_formOf (d + 109) sw f g i (by omega)) ?_
  show WP _ _ _ 28 [_, _, _, _, _, _, _] [_] _
  refine wp_astore hX (dk DX10_cut 18 rfl) rfl hN (Nat.le_of_ble_eq_true rfl) ?_
  show WP _ _ _ 30 [_, _, _, _, _, _, _] [] _
  refine wp_aload_n hX (dk DX10_cut 19 rfl) rfl ?_
  refine w_getr hX flX10_51 (dk DX10_cut 20 rfl) rfl rfl ?_
  refine wp_iload_n hX (dk DX10_cut 21 rfl) rfl ?_
  refine w_callV (As := [_]) lkX10_128 hX (dk DX10_cut 22 rfl) rfl rfl (by decide) hN (k_leftOf (d + 109) sw f g b (by omega)) ?_
  show WP _ _ _ 38 [_, _, _, _, _, _, _] [_] _
  refine wp_istore hX (dk DX10_cut 23 rfl) rfl hN (Nat.le_of_ble_eq_true rfl) ?_
  show WP _ _ _ 40 [_, _, _, _, _, _, _] [] _
  refine wp_aload hX (dk DX10_cut 24 rfl) rfl ?_
  refine wp_iload hX (dk DX10_cut 25 rfl) rfl ?_
  refine w_callV (As := [_]) lkX10_180 hX (dk DX10_cut 26 rfl) hF.1 rfl (by decide) hN (k_can (d + 108) sw f g _ (sh i) _ hF hk) ?_
  show WP _ _ _ 47 [_, _, _, _, _, _, _] [_] _
  refine wp_if_ne (tgt := 53) hX (dk DX10_cut 27 rfl) (by decide) (fun h_ => absurd (h) h_) (fun _ => ?_)
  refine wp_bipush (v := -5) hX (dk DX10_cut 28 rfl) (by decide) ?_
  exact wp_ireturn hX hR (dk DX10_cut 29 rfl) rfl (Nat.le_refl _) (Nat.le_refl _) (⟨rfl, rfl⟩)
theorem t_cut1 (d : Nat) (sw : Bool) (f : Nat → Nat → Int32) (g : Nat → Nat → Int64) (n m b i : Nat) (sh : Nat → Int32) (L : List (List Nat × List Nat)) (hs : stF f n sh) (hr : rlOk f L) (hm : f 61 6 = nI m) (hm6 : m ≤ 6) (hb : b < m) (hi : i < n) (h : ¬ jct (sh i) (f 62 b) = 0) : CT (d + 110) 0 0 iX10_cut [.ref 0, .int (nI (10 * b + i))] (S sw f g) (QS (fun r _ f2 g2 => r = some (.int (jbr L (f 3 (i * 3)) (f 3 (i * 3 + 1)) (f 3 (i * 3 + 2)) (sh i) (nI i) (f 64 3) (f 63 b))) ∧ g2 = g ∧ ∃ f1, qC f f1 ∧ f2 = jyt f1 b (jP (sh i) (jfp (sh i) (f 62 b)).toNatClampNeg) (jbr L (f 3 (i * 3)) (f 3 (i * 3 + 1)) (f 3 (i * 3 + 2)) (sh i) (nI i) (f 64 3) (f 63 b)))) := by
  have hn10 := hs.2.1
  have hF := isF_st i (by omega)
  have hk := hs.2.2 i hi
  obtain ⟨j, hj, e⟩ : ∃ j, j < jn (sh i) ∧ jfp (sh i) (f 62 b) = nI j := by
    rcases jfp_in (sh i) (f 62 b) with e | e
    · exfalso
      apply h
      unfold jct jcan
      rw [if_neg (fun q => q.2 e)]
    · exact e
  have hj100 := jn_le (sh i)
  refine CT.of rfl (Nat.le_of_ble_eq_true rfl) (fun X hX hR hN _ => ?_)
  have hX : Good X RX10 cX10_cut (d + 110) 0 0 := hX
  have hN : x_nl X = 7 := hN
  show WP X 0 0 0 [_, _, _, _, _, _, _] [] _
  refine wp_aload_n hX (dk DX10_cut 0 rfl) rfl ?_
  refine wp_iload_n hX (dk DX10_cut 1 rfl) rfl ?_
  refine w_callV (As := [_]) lkX10_168 hX (dk DX10_cut 2 rfl) rfl rfl (by decide) hN (k_isBF1 (d + 108) sw f g n m b i hs.1 hn10 hm hm6 hb hi) ?_
  show WP _ _ _ 5 [_, _, _, _, _, _, _] [_] _
  refine wp_if_ne (tgt := 10) hX (dk DX10_cut 3 rfl) (by decide) (fun _ => ?_) (fun h_ => absurd h_ (by decide))
  refine wp_iload_n hX (dk DX10_cut 6 rfl) rfl ?_
  refine wp_bipush (v := 10) hX (dk DX10_cut 7 rfl) (by decide) ?_
  refine wp_idiv hX (dk DX10_cut 8 rfl) (by decide) ?_
  rw [dv10 (by omega) (by omega)]
  refine wp_istore_n hX (dk DX10_cut 9 rfl) rfl rfl hN (Nat.le_of_ble_eq_true rfl) ?_
  show WP _ _ _ 15 [_, _, _, _, _, _, _] [] _
  refine wp_iload_n hX (dk DX10_cut 10 rfl) rfl ?_
  refine wp_bipush (v := 10) hX (dk DX10_cut 11 rfl) (by decide) ?_
  refine wp_irem hX (dk DX10_cut 12 rfl) (by decide) ?_
  rw [show nI (10 * b + i) - nI (10 * b + i) / 10 * 10 = nI i from rm10 (by omega) (by omega)]
  refine wp_istore_n hX (dk DX10_cut 13 rfl) rfl rfl hN (Nat.le_of_ble_eq_true rfl) ?_
  show WP _ _ _ 20 [_, _, _, _, _, _, _] [] _
  refine wp_aload_n hX (dk DX10_cut 14 rfl) rfl ?_
  refine w_getr hX flX10_10 (dk DX10_cut 15 rfl) rfl rfl ?_
  refine wp_iload_n hX (dk DX10_cut 16 rfl) rfl ?_
  refine w_callV (As := [_]) lkX10_119 hX (dk DX10_cut 17 rfl) rfl rfl (by decide) hN (k_formOf (d + 109) sw f g i (by omega)) ?_
  show WP _ _ _ 28 [_, _, _, _, _, _, _] [_] _
  refine wp_astore hX (dk DX10_cut 18 rfl) rfl hN (Nat.le_of_ble_eq_true rfl) ?_
  show WP _ _ _ 30 [_, _, _, _, _, _, _] [] _
  refine wp_aload_n hX (dk DX10_cut 19 rfl) rfl ?_
  refine w_getr hX flX10_51 (dk DX10_cut 20 rfl) rfl rfl ?_
  refine wp_iload_n hX (dk DX10_cut 21 rfl) rfl ?_
  refine w_callV (As := [_]) lkX10_128 hX (dk DX10_cut 22 rfl) rfl rfl (by decide) hN (k_leftOf (d + 109) sw f g b (by omega)) ?_
  show WP _ _ _ 38 [_, _, _, _, _, _, _] [_] _
  refine wp_istore hX (dk DX10_cut 23 rfl) rfl hN (Nat.le_of_ble_eq_true rfl) ?_
  show WP _ _ _ 40 [_, _, _, _, _, _, _] [] _
  refine wp_aload hX (dk DX10_cut 24 rfl) rfl ?_
  refine wp_iload hX (dk DX10_cut 25 rfl) rfl ?_
  refine w_callV (As := [_]) lkX10_180 hX (dk DX10_cut 26 rfl) hF.1 rfl (by decide) hN (k_can (d + 108) sw f g _ (sh i) _ hF hk) ?_
  show WP _ _ _ 47 [_, _, _, _, _, _, _] [_] _
  refine wp_if_ne (tgt := 53) hX (dk DX10_cut 27 rfl) (by decide) (fun _ => ?_) (fun h_ => absurd h_ (h))
  refine wp_aload_n hX (dk DX10_cut 30 rfl) rfl ?_
  refine w_getr hX flX10_26 (dk DX10_cut 31 rfl) rfl rfl ?_
  refine wp_aload_n hX (dk DX10_cut 32 rfl) rfl ?_
  refine w_getr hX flX10_10 (dk DX10_cut 33 rfl) rfl rfl ?_
  refine wp_iload_n hX (dk DX10_cut 34 rfl) rfl ?_
  refine wp_aload_n hX (dk DX10_cut 35 rfl) rfl ?_
  refine w_getr hX flX10_51 (dk DX10_cut 36 rfl) rfl rfl ?_
  refine wp_iconst (v := 3) hX (dk DX10_cut 37 rfl) (by decide) ?_
  refine w_callV (As := [_]) lkX10_134 hX (dk DX10_cut 38 rfl) rfl rfl (by simp [Value.category]) hN (k_ledger (d + 109) sw f g 3 (by decide)) ?_
  show WP _ _ _ 70 [_, _, _, _, _, _, _] [_, _, _, _] _
  refine wp_aload_n hX (dk DX10_cut 39 rfl) rfl ?_
  refine w_getr hX flX10_51 (dk DX10_cut 40 rfl) rfl rfl ?_
  refine wp_iload_n hX (dk DX10_cut 41 rfl) rfl ?_
  refine w_callV (As := [_]) lkX10_131 hX (dk DX10_cut 42 rfl) rfl rfl (by simp [Value.category]) hN (k_cutsOf (d + 109) sw f g b (by omega)) ?_
  show WP _ _ _ 78 [_, _, _, _, _, _, _] [_, _, _, _, _] _
  refine w_callVQ (As := [_, _, _, _]) lkX10_152 hX (dk DX10_cut 43 rfl) rfl rfl (by decide) hN (k_worthOf (d + 105) sw f g n i sh _ _ L hs hr hi) (fun v_ sw_ f_ g_ hq_ => ?_)
  obtain ⟨rfl, rfl, rfl, hf⟩ := hq_
  have hk2 := (hs.rw hf).2.2 i hi
  show WP _ _ _ 81 [_, _, _, _, _, _, _] [_] _
  refine wp_istore hX (dk DX10_cut 44 rfl) rfl hN (Nat.le_of_ble_eq_true rfl) ?_
  show WP _ _ _ 83 [_, _, _, _, _, _, _] [] _
  refine wp_aload_n hX (dk DX10_cut 45 rfl) rfl ?_
  refine w_getr hX flX10_51 (dk DX10_cut 46 rfl) rfl rfl ?_
  refine wp_iload_n hX (dk DX10_cut 47 rfl) rfl ?_
  refine wp_aload hX (dk DX10_cut 48 rfl) rfl ?_
  refine wp_aload hX (dk DX10_cut 49 rfl) rfl ?_
  refine wp_iload hX (dk DX10_cut 50 rfl) rfl ?_
  refine w_callV (As := [_]) lkX10_174 hX (dk DX10_cut 51 rfl) hF.1 rfl (by simp [Value.category]) hN (k_first (d + 109) _ f_ _ _ (sh i) _ hF hk2) ?_
  show WP _ _ _ 97 [_, _, _, _, _, _, _] [_, _, _, _] _
  rw [e]
  refine w_callV (As := [_]) lkX10_275 hX (dk DX10_cut 52 rfl) hF.1 rfl (by simp [Value.category]) hN (k_shapeAt (d + 109) _ f_ _ _ (jn (sh i)) j hF hk2.n (jn_le _) hj) ?_
  show WP _ _ _ 100 [_, _, _, _, _, _, _] [_, _, _] _
  rw [(hk2.P hj).1]
  refine wp_iload hX (dk DX10_cut 53 rfl) rfl ?_
  refine w_callV (As := [_, _, _]) lkX10_278 hX (dk DX10_cut 54 rfl) rfl rfl (by decide) hN (k_ytake (d + 108) _ f_ _ b _ _ (by omega)) ?_
  show WP _ _ _ 105 [_, _, _, _, _, _, _] [] _
  refine wp_iload hX (dk DX10_cut 55 rfl) rfl ?_
  exact wp_ireturn hX hR (dk DX10_cut 56 rfl) rfl (Nat.le_refl _) (Nat.le_refl _) (⟨_, _, _, rfl, rfl, rfl, f_, hf.q, by rw [e, nI_clamp (by omega)]⟩)
