/-! REFERENCE: when -/
theorem imx_pos (x : Int32) : ¬ imx 0 x < 0 := by
  unfold imx
  split
  · next h =>
    intro q
    rw [Int32.lt_iff_toInt_lt] at h q
    omega
  · decide
theorem jbr_pos (L : List (List Nat × List Nat)) (w fd wa s k y m : Int32) : ¬ jbr L w fd wa s k y m < 0 := by
  unfold jbr jlw
  split <;> exact imx_pos _
/-- what figure i brings in year y, first -/
def mwv (f : Nat → Nat → Int32) (L : List (List Nat × List Nat)) (sh : Nat → Int32) (i y : Nat) : Int32 := jbr L (f 83 i) (f 84 i) (f 85 i) (sh i) (nI i) (nI y) 0
theorem k_mb97 (d : Nat) (sw : Bool) (f f2 : Nat → Nat → Int32) (g : Nat → Nat → Int64) (n i : Nat) (sh : Nat → Int32) (L : List (List Nat × List Nat)) (y m : Int32) (hF : mFg f n sh) (hi : i < n) (hm : mlOk f L) (hw : ∀ l ∈ L, jwl l) (h : ∀ b, b < 97 → f2 b = f b) : CT (d + 2) 0 0 iX11_bringsIn [.ref 81, .int (nI i), .int y, .int m] (S sw f2 g) (QS (fun r sw2 f3 g2 => r = some (.int (jbr L (f 83 i) (f 84 i) (f 85 i) (sh i) (nI i) y m)) ∧ sw2 = sw ∧ g2 = g ∧ ∀ b, b ≠ 97 → b ≠ 98 → f3 b = f2 b)) := by
  have := k_mbrings d sw f2 g n i sh L y m ⟨by rw [h 81 (by decide)]; exact hF.1, hF.2.1, fun j hj => by rw [h 82 (by decide)]; exact hF.2.2 j hj⟩ hi (hm.cg (by rw [h 81 (by decide)]) (by rw [h 81 (by decide)]) (fun b _ h2 => h b (by omega))) hw
  rw [h 83 (by decide), h 84 (by decide), h 85 (by decide)] at this
  exact this
theorem kx_gt1 {x : Int32} (h : ¬ x < 0) : ((0 : Int32), (-1 : Int32)).2 < x := by
  show (-1 : Int32) < x
  have h1 := Int32.not_lt.mp h
  rw [Int32.lt_iff_toInt_lt]
  rw [Int32.le_iff_toInt_le] at h1
  have e0 : (0 : Int32).toInt = 0 := rfl
  have e1 : (-1 : Int32).toInt = -1 := rfl
  omega
theorem u_when0 (d : Nat) (sw : Bool) (f : Nat → Nat → Int32) (g : Nat → Nat → Int64) (n : Nat) (x y : Int32) (hn : f 81 0 = nI n) (hn10 : n ≤ 10) (h : ¬ ((∃ i, i < n ∧ x = nI i) ∧ ∃ w, w < 2 ∧ y = nI w)) : CT (d + 110) 0 0 iX11_when [.ref 81, .int x, .int y] (S sw f g) (rdM g f (-1)) := by
  refine CT.rdM ?_
  refine CT.of rfl (Nat.le_of_ble_eq_true rfl) (fun X hX hR hN _ => ?_)
  have hX : Good X RX11 cX11_when (d + 110) 0 0 := hX
  have hN : x_nl X = 5 := hN
  show WP X 0 0 0 [_, _, _, _, _] [] _
  by_cases c1 : ∃ i, i < n ∧ x = nI i
  · obtain ⟨i, hi, rfl⟩ := c1
    refine wp_aload_n hX (dk DX11_when 0 rfl) rfl ?_
    refine wp_iload_n hX (dk DX11_when 1 rfl) rfl ?_
    refine w_callV (As := [_]) lkX11_127 hX (dk DX11_when 2 rfl) rfl rfl (by decide) hN (k_mF1 (d + 108) sw f g n i hn hn10 hi) ?_
    show WP _ _ _ 5 [_, _, _, _, _] [_] _
    refine wp_if_eq (tgt := 17) hX (dk DX11_when 3 rfl) (by decide) (fun h_ => absurd h_ (by decide)) (fun _ => ?_)
    refine wp_iload_n hX (dk DX11_when 4 rfl) rfl ?_
    refine wp_iconst (v := 0) hX (dk DX11_when 5 rfl) (by decide) ?_
    refine wp_iconst (v := 1) hX (dk DX11_when 6 rfl) (by decide) ?_
    refine w_callS (As := [_, _, _]) lkX11_116 hX (dk DX11_when 7 rfl) rfl (by decide) (k_wi0 (d + 109) 1 y 1 _ rfl (by decide) (fun ⟨w, h1, h2⟩ => h ⟨⟨i, hi, rfl⟩, w, by omega, h2⟩)) ?_
    show WP _ _ _ 14 [_, _, _, _, _] [_] _
    refine wp_if_ne (tgt := 19) hX (dk DX11_when 8 rfl) (by decide) (fun h_ => absurd (rfl) h_) (fun _ => ?_)
    refine wp_iconst (v := -1) hX (dk DX11_when 9 rfl) (by decide) ?_
    exact wp_ireturn hX hR (dk DX11_when 10 rfl) rfl (Nat.le_refl _) (Nat.le_refl _) (⟨rfl, rfl⟩)
  · refine wp_aload_n hX (dk DX11_when 0 rfl) rfl ?_
    refine wp_iload_n hX (dk DX11_when 1 rfl) rfl ?_
    refine w_callV (As := [_]) lkX11_127 hX (dk DX11_when 2 rfl) rfl rfl (by decide) hN (k_mF0 (d + 108) sw f g n x hn hn10 c1) ?_
    show WP _ _ _ 5 [_, _, _, _, _] [_] _
    refine wp_if_eq (tgt := 17) hX (dk DX11_when 3 rfl) (by decide) (fun _ => ?_) (fun h_ => absurd (rfl) h_)
    refine wp_iconst (v := -1) hX (dk DX11_when 9 rfl) (by decide) ?_
    exact wp_ireturn hX hR (dk DX11_when 10 rfl) rfl (Nat.le_refl _) (Nat.le_refl _) (⟨rfl, rfl⟩)
theorem u_when1 (d : Nat) (sw : Bool) (f : Nat → Nat → Int32) (g : Nat → Nat → Int64) (n i w : Nat) (sh : Nat → Int32) (L : List (List Nat × List Nat)) (hF : mFg f n sh) (hm : mlOk f L) (hw : ∀ l ∈ L, jwl l) (hi : i < n) (hw2 : w < 2) : CT (d + 110) 0 0 iX11_when [.ref 81, .int (nI i), .int (nI w)] (S sw f g) (rdM g f (if w = 0 then (wnF (mwv f L sh i) 100).1 else (wnF (mwv f L sh i) 100).2)) := by
  obtain ⟨v, hv⟩ : ∃ v, v = mwv f L sh i := ⟨_, rfl⟩
  rw [← hv]
  have hb : ∀ (y : Nat) (f2 : Nat → Nat → Int32), (∀ b, b < 97 → f2 b = f b) → CT (d + 109) 0 0 iX11_bringsIn [.ref 81, .int (nI i), .int (nI y), .int 0] (S sw f2 g) (QS (fun r sw2 f3 g2 => r = some (.int (v y)) ∧ sw2 = sw ∧ g2 = g ∧ ∀ b, b ≠ 97 → b ≠ 98 → f3 b = f2 b)) := by
    intro y f2 h
    rw [hv]
    exact k_mb97 (d + 107) sw f f2 g n i sh L (nI y) 0 hF hi hm hw h
  refine CT.of rfl (Nat.le_of_ble_eq_true rfl) (fun X hX hR hN _ => ?_)
  have hX : Good X RX11 cX11_when (d + 110) 0 0 := hX
  have hN : x_nl X = 5 := hN
  show WP X 0 0 0 [_, _, _, _, _] [] _
  have lo : ∀ (q y Y : Nat) (f2 : Nat → Nat → Int32), y + q = 100 → Y < 100 → wnF v y = (nI Y, v Y) → (∀ b, b ≠ 97 → b ≠ 98 → f2 b = f b) → WP X 0 0 24 [some (.ref 81), some (.int (nI i)), some (.int (nI w)), some (.int (nI Y)), some (.int (nI y))] [] (S sw f2 g) := by
    intro q
    induction q with
    | zero =>
      intro y Y f2 hq hY hw3 hf
      obtain rfl : y = 100 := by omega
      rw [hw3] at hR
      have hw4 : w = 0 ∨ w = 1 := by omega
      rcases hw4 with rfl | rfl
      · refine wp_iload hX (dk DX11_when 15 rfl) rfl ?_
        refine wp_bipush (v := 100) hX (dk DX11_when 16 rfl) (by decide) ?_
        refine wp_icmp_ge (tgt := 58) hX (dk DX11_when 17 rfl) (by decide) (fun _ => ?_) (fun h_ => absurd (by decide) h_)
        refine wp_iload_n hX (dk DX11_when 33 rfl) rfl ?_
        refine wp_if_ne (tgt := 66) hX (dk DX11_when 34 rfl) (by decide) (fun h_ => absurd (rfl) h_) (fun _ => ?_)
        refine wp_iload_n hX (dk DX11_when 35 rfl) rfl ?_
        refine wp_goto (tgt := 73) hX (dk DX11_when 36 rfl) (by decide) ?_
        exact wp_ireturn hX hR (dk DX11_when 42 rfl) rfl (Nat.le_refl _) (Nat.le_refl _) (⟨_, _, _, rfl, rfl, rfl, ⟨fun b h1 h2 h3 => hf b (by omega) (by omega), fun i _ => by rw [hf 81 (by decide) (by decide)]⟩⟩)
      · refine wp_iload hX (dk DX11_when 15 rfl) rfl ?_
        refine wp_bipush (v := 100) hX (dk DX11_when 16 rfl) (by decide) ?_
        refine wp_icmp_ge (tgt := 58) hX (dk DX11_when 17 rfl) (by decide) (fun _ => ?_) (fun h_ => absurd (by decide) h_)
        refine wp_iload_n hX (dk DX11_when 33 rfl) rfl ?_
        refine wp_if_ne (tgt := 66) hX (dk DX11_when 34 rfl) (by decide) (fun _ => ?_) (fun h_ => absurd h_ (by decide))
        refine wp_aload_n hX (dk DX11_when 37 rfl) rfl ?_
        refine wp_iload_n hX (dk DX11_when 38 rfl) rfl ?_
        refine wp_iload_n hX (dk DX11_when 39 rfl) rfl ?_
        refine wp_iconst (v := 0) hX (dk DX11_when 40 rfl) (by decide) ?_
        refine w_callVQ (As := [_, _, _]) lkX11_275 hX (dk DX11_when 41 rfl) rfl rfl (by decide) hN (hb Y f2 (fun b h => hf b (by omega) (by omega))) (fun v_ sw_ f_ g_ hq_ => ?_)
        obtain ⟨rfl, rfl, rfl, e1⟩ := hq_
        show WP _ _ _ 73 [_, _, _, _, _] [_] _
        exact wp_ireturn hX hR (dk DX11_when 42 rfl) rfl (Nat.le_refl _) (Nat.le_refl _) (⟨_, _, _, rfl, rfl, rfl, ⟨fun b h1 h2 h3 => by rw [e1 b (by omega) (by omega)]; exact hf b (by omega) (by omega), fun i _ => by rw [e1 81 (by decide) (by decide), hf 81 (by decide) (by decide)]⟩⟩)
    | succ q ih =>
      intro y Y f2 hq hY hw3 hf
      refine wp_iload hX (dk DX11_when 15 rfl) rfl ?_
      refine wp_bipush (v := 100) hX (dk DX11_when 16 rfl) (by decide) ?_
      refine wp_icmp_ge (tgt := 58) hX (dk DX11_when 17 rfl) (by decide) (fun h_ => absurd h_ (nI_ge (b := 100) (by omega) (by omega))) (fun _ => ?_)
      refine wp_aload_n hX (dk DX11_when 18 rfl) rfl ?_
      refine wp_iload_n hX (dk DX11_when 19 rfl) rfl ?_
      refine wp_iload hX (dk DX11_when 20 rfl) rfl ?_
      refine wp_iconst (v := 0) hX (dk DX11_when 21 rfl) (by decide) ?_
      refine w_callVQ (As := [_, _, _]) lkX11_275 hX (dk DX11_when 22 rfl) rfl rfl (by decide) hN (hb y f2 (fun b h => hf b (by omega) (by omega))) (fun v_a sw_a f_a g_a hq_a => ?_)
      obtain ⟨rfl, rfl, rfl, e1⟩ := hq_a
      show WP _ _ _ 39 [_, _, _, _, _] [_] _
      refine wp_aload_n hX (dk DX11_when 23 rfl) rfl ?_
      refine wp_iload_n hX (dk DX11_when 24 rfl) rfl ?_
      refine wp_iload_n hX (dk DX11_when 25 rfl) rfl ?_
      refine wp_iconst (v := 0) hX (dk DX11_when 26 rfl) (by decide) ?_
      refine w_callVQ (As := [_, _, _]) lkX11_275 hX (dk DX11_when 27 rfl) rfl rfl (by simp [Value.category]) hN (hb Y f_a (fun b h => by rw [e1 b (by omega) (by omega)]; exact hf b (by omega) (by omega))) (fun v_b sw_b f_b g_b hq_b => ?_)
      obtain ⟨rfl, rfl, rfl, e2⟩ := hq_b
      show WP _ _ _ 46 [_, _, _, _, _] [_, _] _
      refine wp_icmp_le (tgt := 52) hX (dk DX11_when 28 rfl) (by decide) (fun h46 => ?_) (fun h46 => ?_)
      · refine wp_iinc hX (dk DX11_when 31 rfl) rfl (nI_inc _) rfl hN ?_
        show WP _ _ _ 55 [_, _, _, _, _] [] _
        refine wp_goto (tgt := 24) hX (dk DX11_when 32 rfl) (by decide) ?_
        have hf3 : ∀ b, b ≠ 97 → b ≠ 98 → f_b b = f b := fun b h1 h2 => by rw [e2 b h1 h2, e1 b h1 h2, hf b h1 h2]
        first | exact ih (y + 1) y f_b (by omega) (by omega) (by rw [wnF, hw3, if_pos (Int32.not_le.mp h46)]) hf3 | exact ih (y + 1) Y f_b (by omega) hY (by rw [wnF, hw3, if_neg (Int32.not_lt.mpr h46)]) hf3
      · refine wp_iload hX (dk DX11_when 29 rfl) rfl ?_
        refine wp_istore_n hX (dk DX11_when 30 rfl) rfl rfl hN (Nat.le_of_ble_eq_true rfl) ?_
        show WP _ _ _ 52 [_, _, _, _, _] [] _
        refine wp_iinc hX (dk DX11_when 31 rfl) rfl (nI_inc _) rfl hN ?_
        show WP _ _ _ 55 [_, _, _, _, _] [] _
        refine wp_goto (tgt := 24) hX (dk DX11_when 32 rfl) (by decide) ?_
        have hf3 : ∀ b, b ≠ 97 → b ≠ 98 → f_b b = f b := fun b h1 h2 => by rw [e2 b h1 h2, e1 b h1 h2, hf b h1 h2]
        first | exact ih (y + 1) y f_b (by omega) (by omega) (by rw [wnF, hw3, if_pos (Int32.not_le.mp h46)]) hf3 | exact ih (y + 1) Y f_b (by omega) hY (by rw [wnF, hw3, if_neg (Int32.not_lt.mpr h46)]) hf3
  refine wp_aload_n hX (dk DX11_when 0 rfl) rfl ?_
  refine wp_iload_n hX (dk DX11_when 1 rfl) rfl ?_
  refine w_callV (As := [_]) lkX11_127 hX (dk DX11_when 2 rfl) rfl rfl (by decide) hN (k_mF1 (d + 108) sw f g n i hF.1 hF.2.1 hi) ?_
  show WP _ _ _ 5 [_, _, _, _, _] [_] _
  refine wp_if_eq (tgt := 17) hX (dk DX11_when 3 rfl) (by decide) (fun h_ => absurd h_ (by decide)) (fun _ => ?_)
  refine wp_iload_n hX (dk DX11_when 4 rfl) rfl ?_
  refine wp_iconst (v := 0) hX (dk DX11_when 5 rfl) (by decide) ?_
  refine wp_iconst (v := 1) hX (dk DX11_when 6 rfl) (by decide) ?_
  refine w_callS (As := [_, _, _]) lkX11_116 hX (dk DX11_when 7 rfl) rfl (by decide) (k_wi1 (d + 109) w 1 1 _ rfl (by decide) (by omega)) ?_
  show WP _ _ _ 14 [_, _, _, _, _] [_] _
  refine wp_if_ne (tgt := 19) hX (dk DX11_when 8 rfl) (by decide) (fun _ => ?_) (fun h_ => absurd h_ (by decide))
  refine wp_iconst (v := 0) hX (dk DX11_when 11 rfl) (by decide) ?_
  refine wp_istore_n hX (dk DX11_when 12 rfl) rfl rfl hN (Nat.le_of_ble_eq_true rfl) ?_
  show WP _ _ _ 21 [_, _, _, _, _] [] _
  refine wp_iconst (v := 1) hX (dk DX11_when 13 rfl) (by decide) ?_
  refine wp_istore hX (dk DX11_when 14 rfl) rfl hN (Nat.le_of_ble_eq_true rfl) ?_
  show WP _ _ _ 24 [_, _, _, _, _] [] _
  exact lo 99 1 0 f (by decide) (by decide) (by rw [wnF, wnF, if_pos (by rw [hv]; exact kx_gt1 (jbr_pos _ _ _ _ _ _ _ _))]) (fun _ _ _ => rfl)
