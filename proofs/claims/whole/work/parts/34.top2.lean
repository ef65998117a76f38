/-! THE CLASS'S CALLS: helps, shapes -/
theorem rdC.ct {d : Nat} {i : mI} {av : List Value} {M : mM} {g : Nat → Nat → Int64} {f : Nat → Nat → Int32} {v w : Int32} (h : CT d 0 0 i av M (rdC g f v)) (e : v = w) : CT d 0 0 i av M (rdC g f w) := by rw [← e]; exact h
theorem nIz {w : Nat} (h : w < 2 ^ 31) : (nI w = 0) = (w = 0) := propext (nI_eq (b := 0) h (by decide))
theorem nIo {w : Nat} (h : w < 2 ^ 31) : (nI w = 1) = (w = 1) := propext (nI_eq (b := 1) h (by decide))
theorem nI2 {w : Nat} (h : w < 2 ^ 31) : (nI w = 2) = (w = 2) := propext (nI_eq (b := 2) h (by decide))
theorem dv10 {b i : Nat} (hb : b < 1000) (hi : i < 10) : nI (10 * b + i) / 10 = nI b := by
  rw [show (10 : Int32) = nI 10 from rfl, pk_div (by omega) (by decide) (by decide)]
  congr 1
  omega
theorem rm10 {b i : Nat} (hb : b < 1000) (hi : i < 10) : nI (10 * b + i) - nI (10 * b + i) / 10 * 10 = nI i := by
  rw [show (10 : Int32) = nI 10 from rfl, pk_rem (by omega) (by decide) (by decide)]
  congr 1
  omega
theorem bf_ex {x : Int32} {m n : Nat} (hm : m < 1000) (hn : n < 2 ^ 31) (h : ¬ x < 0) (h1 : ¬ jin (x / 10) (nI m) = 0) (h2 : ¬ jin (x - x / 10 * 10) (nI n) = 0) : ∃ b i, b < m ∧ i < n ∧ i < 10 ∧ x = nI (10 * b + i) := by
  obtain ⟨j, hj, rfl⟩ := nI_of h
  obtain ⟨b, hb, e1⟩ := jin_ex (by omega) h1
  obtain ⟨i, hi, e2⟩ := jin_ex hn h2
  rw [show (10 : Int32) = nI 10 from rfl, pk_div hj (by decide) (by decide)] at e1
  rw [show (10 : Int32) = nI 10 from rfl, pk_rem hj (by decide) (by decide)] at e2
  have g1 := (nI_eq (by omega) (by omega)).mp e1
  have g2 := (nI_eq (by omega) (by omega)).mp e2
  exact ⟨b, i, hb, hi, by omega, congrArg nI (by omega)⟩
theorem k_isBF1 (d : Nat) (sw : Bool) (f : Nat → Nat → Int32) (g : Nat → Nat → Int64) (n m b i : Nat) (hn : f 1 4 = nI n) (hn10 : n ≤ 10) (hm : f 61 6 = nI m) (hm6 : m ≤ 6) (hb : b < m) (hi : i < n) : CT (d + 1) 0 0 iX10_isBlockAndFigure [.ref 0, .int (nI (10 * b + i))] (S sw f g) (QR (some (.int 1)) (S sw f g)) := by
  refine CT.of rfl (Nat.le_of_ble_eq_true rfl) (fun X hX hR hN _ => ?_)
  have hX : Good X RX10 cX10_isBlockAndFigure (d + 1) 0 0 := hX
  have hN : x_nl X = 2 := hN
  show WP X 0 0 0 [_, _] [] _
  refine wp_iload_n hX (dk DX10_isBlockAndFigure 0 rfl) rfl ?_
  refine wp_if_lt (tgt := 36) hX (dk DX10_isBlockAndFigure 1 rfl) (by decide) (fun h_ => absurd h_ (nI_pos (by omega))) (fun _ => ?_)
  refine wp_aload_n hX (dk DX10_isBlockAndFigure 2 rfl) rfl ?_
  refine w_getr hX flX10_51 (dk DX10_isBlockAndFigure 3 rfl) rfl rfl ?_
  refine wp_iload_n hX (dk DX10_isBlockAndFigure 4 rfl) rfl ?_
  refine wp_bipush (v := 10) hX (dk DX10_isBlockAndFigure 5 rfl) (by decide) ?_
  refine wp_idiv hX (dk DX10_isBlockAndFigure 6 rfl) (by decide) ?_
  rw [dv10 (by omega) (by omega)]
  refine w_callV (As := [_]) lkX10_127 hX (dk DX10_isBlockAndFigure 7 rfl) rfl rfl (by decide) hN (k_yhas d sw f g (nI b)) ?_
  show WP _ _ _ 15 [_, _] [_] _
  rw [hm, jin_1 (by omega) hb rfl]
  refine wp_if_eq (tgt := 36) hX (dk DX10_isBlockAndFigure 8 rfl) (by decide) (fun h_ => absurd h_ (by decide)) (fun _ => ?_)
  refine wp_aload_n hX (dk DX10_isBlockAndFigure 9 rfl) rfl ?_
  refine w_getr hX flX10_10 (dk DX10_isBlockAndFigure 10 rfl) rfl rfl ?_
  refine wp_iload_n hX (dk DX10_isBlockAndFigure 11 rfl) rfl ?_
  refine wp_bipush (v := 10) hX (dk DX10_isBlockAndFigure 12 rfl) (by decide) ?_
  refine wp_irem hX (dk DX10_isBlockAndFigure 13 rfl) (by decide) ?_
  rw [rm10 (by omega) (by omega)]
  refine w_callV (As := [_]) lkX10_104 hX (dk DX10_isBlockAndFigure 14 rfl) rfl rfl (by decide) hN (k_has d sw f g (nI i)) ?_
  show WP _ _ _ 29 [_, _] [_] _
  rw [hn, jin_1 (by omega) hi rfl]
  refine wp_if_eq (tgt := 36) hX (dk DX10_isBlockAndFigure 15 rfl) (by decide) (fun h_ => absurd h_ (by decide)) (fun _ => ?_)
  refine wp_iconst (v := 1) hX (dk DX10_isBlockAndFigure 16 rfl) (by decide) ?_
  refine wp_goto (tgt := 37) hX (dk DX10_isBlockAndFigure 17 rfl) (by decide) ?_
  exact wp_ireturn hX hR (dk DX10_isBlockAndFigure 19 rfl) rfl (Nat.le_refl _) (Nat.le_refl _) (⟨rfl, rfl⟩)
theorem k_isBF0 (d : Nat) (sw : Bool) (f : Nat → Nat → Int32) (g : Nat → Nat → Int64) (n m : Nat) (x : Int32) (hn : f 1 4 = nI n) (hn10 : n ≤ 10) (hm : f 61 6 = nI m) (hm6 : m ≤ 6) (h : ¬ ∃ b i, b < m ∧ i < n ∧ i < 10 ∧ x = nI (10 * b + i)) : CT (d + 1) 0 0 iX10_isBlockAndFigure [.ref 0, .int x] (S sw f g) (QR (some (.int 0)) (S sw f g)) := by
  refine CT.of rfl (Nat.le_of_ble_eq_true rfl) (fun X hX hR hN _ => ?_)
  have hX : Good X RX10 cX10_isBlockAndFigure (d + 1) 0 0 := hX
  have hN : x_nl X = 2 := hN
  show WP X 0 0 0 [_, _] [] _
  refine wp_iload_n hX (dk DX10_isBlockAndFigure 0 rfl) rfl ?_
  refine wp_if_lt (tgt := 36) hX (dk DX10_isBlockAndFigure 1 rfl) (by decide) (fun h1 => ?_) (fun h1 => ?_)
  · refine wp_iconst (v := 0) hX (dk DX10_isBlockAndFigure 18 rfl) (by decide) ?_
    exact wp_ireturn hX hR (dk DX10_isBlockAndFigure 19 rfl) rfl (Nat.le_refl _) (Nat.le_refl _) (⟨rfl, rfl⟩)
  · refine wp_aload_n hX (dk DX10_isBlockAndFigure 2 rfl) rfl ?_
    refine w_getr hX flX10_51 (dk DX10_isBlockAndFigure 3 rfl) rfl rfl ?_
    refine wp_iload_n hX (dk DX10_isBlockAndFigure 4 rfl) rfl ?_
    refine wp_bipush (v := 10) hX (dk DX10_isBlockAndFigure 5 rfl) (by decide) ?_
    refine wp_idiv hX (dk DX10_isBlockAndFigure 6 rfl) (by decide) ?_
    refine w_callV (As := [_]) lkX10_127 hX (dk DX10_isBlockAndFigure 7 rfl) rfl rfl (by decide) hN (k_yhas d sw f g _) ?_
    show WP _ _ _ 15 [_, _] [_] _
    rw [hm]
    refine wp_if_eq (tgt := 36) hX (dk DX10_isBlockAndFigure 8 rfl) (by decide) (fun h15 => ?_) (fun h15 => ?_)
    · refine wp_iconst (v := 0) hX (dk DX10_isBlockAndFigure 18 rfl) (by decide) ?_
      exact wp_ireturn hX hR (dk DX10_isBlockAndFigure 19 rfl) rfl (Nat.le_refl _) (Nat.le_refl _) (⟨rfl, rfl⟩)
    · refine wp_aload_n hX (dk DX10_isBlockAndFigure 9 rfl) rfl ?_
      refine w_getr hX flX10_10 (dk DX10_isBlockAndFigure 10 rfl) rfl rfl ?_
      refine wp_iload_n hX (dk DX10_isBlockAndFigure 11 rfl) rfl ?_
      refine wp_bipush (v := 10) hX (dk DX10_isBlockAndFigure 12 rfl) (by decide) ?_
      refine wp_irem hX (dk DX10_isBlockAndFigure 13 rfl) (by decide) ?_
      refine w_callV (As := [_]) lkX10_104 hX (dk DX10_isBlockAndFigure 14 rfl) rfl rfl (by decide) hN (k_has d sw f g _) ?_
      show WP _ _ _ 29 [_, _] [_] _
      rw [hn]
      refine wp_if_eq (tgt := 36) hX (dk DX10_isBlockAndFigure 15 rfl) (by decide) (fun h29 => ?_) (fun h29 => ?_)
      · refine wp_iconst (v := 0) hX (dk DX10_isBlockAndFigure 18 rfl) (by decide) ?_
        exact wp_ireturn hX hR (dk DX10_isBlockAndFigure 19 rfl) rfl (Nat.le_refl _) (Nat.le_refl _) (⟨rfl, rfl⟩)
      · exact absurd (bf_ex (by omega) (by omega) h1 h15 h29) h
theorem k_is21 (d : Nat) (sw : Bool) (f : Nat → Nat → Int32) (g : Nat → Nat → Int64) (n a b : Nat) (hn : f 1 4 = nI n) (hn10 : n ≤ 10) (ha : a < n) (hb : b < n) (hab : a ≠ b) : CT (d + 1) 0 0 iX10_isTwoFigures [.ref 0, .int (nI (10 * a + b))] (S sw f g) (QR (some (.int 1)) (S sw f g)) := by
  refine CT.of rfl (Nat.le_of_ble_eq_true rfl) (fun X hX hR hN _ => ?_)
  have hX : Good X RX10 cX10_isTwoFigures (d + 1) 0 0 := hX
  have hN : x_nl X = 2 := hN
  show WP X 0 0 0 [_, _] [] _
  refine wp_iload_n hX (dk DX10_isTwoFigures 0 rfl) rfl ?_
  refine wp_if_lt (tgt := 47) hX (dk DX10_isTwoFigures 1 rfl) (by decide) (fun h_ => absurd h_ (nI_pos (by omega))) (fun _ => ?_)
  refine wp_aload_n hX (dk DX10_isTwoFigures 2 rfl) rfl ?_
  refine w_getr hX flX10_10 (dk DX10_isTwoFigures 3 rfl) rfl rfl ?_
  refine wp_iload_n hX (dk DX10_isTwoFigures 4 rfl) rfl ?_
  refine wp_bipush (v := 10) hX (dk DX10_isTwoFigures 5 rfl) (by decide) ?_
  refine wp_idiv hX (dk DX10_isTwoFigures 6 rfl) (by decide) ?_
  rw [dv10 (by omega) (by omega)]
  refine w_callV (As := [_]) lkX10_104 hX (dk DX10_isTwoFigures 7 rfl) rfl rfl (by decide) hN (k_has d sw f g (nI a)) ?_
  show WP _ _ _ 15 [_, _] [_] _
  rw [hn, jin_1 (by omega) ha rfl]
  refine wp_if_eq (tgt := 47) hX (dk DX10_isTwoFigures 8 rfl) (by decide) (fun h_ => absurd h_ (by decide)) (fun _ => ?_)
  refine wp_aload_n hX (dk DX10_isTwoFigures 9 rfl) rfl ?_
  refine w_getr hX flX10_10 (dk DX10_isTwoFigures 10 rfl) rfl rfl ?_
  refine wp_iload_n hX (dk DX10_isTwoFigures 11 rfl) rfl ?_
  refine wp_bipush (v := 10) hX (dk DX10_isTwoFigures 12 rfl) (by decide) ?_
  refine wp_irem hX (dk DX10_isTwoFigures 13 rfl) (by decide) ?_
  rw [rm10 (by omega) (by omega)]
  refine w_callV (As := [_]) lkX10_104 hX (dk DX10_isTwoFigures 14 rfl) rfl rfl (by decide) hN (k_has d sw f g (nI b)) ?_
  show WP _ _ _ 29 [_, _] [_] _
  rw [hn, jin_1 (by omega) hb rfl]
  refine wp_if_eq (tgt := 47) hX (dk DX10_isTwoFigures 15 rfl) (by decide) (fun h_ => absurd h_ (by decide)) (fun _ => ?_)
  refine wp_iload_n hX (dk DX10_isTwoFigures 16 rfl) rfl ?_
  refine wp_bipush (v := 10) hX (dk DX10_isTwoFigures 17 rfl) (by decide) ?_
  refine wp_idiv hX (dk DX10_isTwoFigures 18 rfl) (by decide) ?_
  refine wp_iload_n hX (dk DX10_isTwoFigures 19 rfl) rfl ?_
  refine wp_bipush (v := 10) hX (dk DX10_isTwoFigures 20 rfl) (by decide) ?_
  refine wp_irem hX (dk DX10_isTwoFigures 21 rfl) (by decide) ?_
  rw [dv10 (by omega) (by omega), show nI (10 * a + b) - nI a * 10 = nI b by have := rm10 (b := a) (i := b) (by omega) (by omega); rw [dv10 (by omega) (by omega)] at this; exact this]
  refine wp_icmp_eq (tgt := 47) hX (dk DX10_isTwoFigures 22 rfl) (by decide) (fun h_ => absurd h_ (fun q => hab ((nI_eq (by omega) (by omega)).mp q))) (fun _ => ?_)
  refine wp_iconst (v := 1) hX (dk DX10_isTwoFigures 23 rfl) (by decide) ?_
  refine wp_goto (tgt := 48) hX (dk DX10_isTwoFigures 24 rfl) (by decide) ?_
  exact wp_ireturn hX hR (dk DX10_isTwoFigures 26 rfl) rfl (Nat.le_refl _) (Nat.le_refl _) (⟨rfl, rfl⟩)
/-- two figures, unlike ones -/
def two (n : Nat) (x : Int32) : Prop := ∃ a b, a < n ∧ b < n ∧ a ≠ b ∧ a < 10 ∧ b < 10 ∧ x = nI (10 * a + b)
theorem two_ex {x : Int32} {n : Nat} (hn : n ≤ 10) (h : ¬ x < 0) (h1 : ¬ jin (x / 10) (nI n) = 0) (h2 : ¬ jin (x - x / 10 * 10) (nI n) = 0) (h3 : ¬ x / 10 = x - x / 10 * 10) : two n x := by
  obtain ⟨a, b, ha, hb, hb10, rfl⟩ := bf_ex (by omega) (by omega) h h1 h2
  refine ⟨a, b, ha, hb, fun q => h3 ?_, by omega, hb10, rfl⟩
  rw [rm10 (by omega) hb10, dv10 (by omega) hb10, q]
theorem k_is20 (d : Nat) (sw : Bool) (f : Nat → Nat → Int32) (g : Nat → Nat → Int64) (n : Nat) (x : Int32) (hn : f 1 4 = nI n) (hn10 : n ≤ 10) (h : ¬ two n x) : CT (d + 1) 0 0 iX10_isTwoFigures [.ref 0, .int x] (S sw f g) (QR (some (.int 0)) (S sw f g)) := by
  refine CT.of rfl (Nat.le_of_ble_eq_true rfl) (fun X hX hR hN _ => ?_)
  have hX : Good X RX10 cX10_isTwoFigures (d + 1) 0 0 := hX
  have hN : x_nl X = 2 := hN
  show WP X 0 0 0 [_, _] [] _
  refine wp_iload_n hX (dk DX10_isTwoFigures 0 rfl) rfl ?_
  refine wp_if_lt (tgt := 47) hX (dk DX10_isTwoFigures 1 rfl) (by decide) (fun h1 => ?_) (fun h1 => ?_)
  · refine wp_iconst (v := 0) hX (dk DX10_isTwoFigures 25 rfl) (by decide) ?_
    exact wp_ireturn hX hR (dk DX10_isTwoFigures 26 rfl) rfl (Nat.le_refl _) (Nat.le_refl _) (⟨rfl, rfl⟩)
  · refine wp_aload_n hX (dk DX10_isTwoFigures 2 rfl) rfl ?_
    refine w_getr hX flX10_10 (dk DX10_isTwoFigures 3 rfl) rfl rfl ?_
    refine wp_iload_n hX (dk DX10_isTwoFigures 4 rfl) rfl ?_
    refine wp_bipush (v := 10) hX (dk DX10_isTwoFigures 5 rfl) (by decide) ?_
    refine wp_idiv hX (dk DX10_isTwoFigures 6 rfl) (by decide) ?_
    refine w_callV (As := [_]) lkX10_104 hX (dk DX10_isTwoFigures 7 rfl) rfl rfl (by decide) hN (k_has d sw f g _) ?_
    show WP _ _ _ 15 [_, _] [_] _
    rw [hn]
    refine wp_if_eq (tgt := 47) hX (dk DX10_isTwoFigures 8 rfl) (by decide) (fun h15 => ?_) (fun h15 => ?_)
    · refine wp_iconst (v := 0) hX (dk DX10_isTwoFigures 25 rfl) (by decide) ?_
      exact wp_ireturn hX hR (dk DX10_isTwoFigures 26 rfl) rfl (Nat.le_refl _) (Nat.le_refl _) (⟨rfl, rfl⟩)
    · refine wp_aload_n hX (dk DX10_isTwoFigures 9 rfl) rfl ?_
      refine w_getr hX flX10_10 (dk DX10_isTwoFigures 10 rfl) rfl rfl ?_
      refine wp_iload_n hX (dk DX10_isTwoFigures 11 rfl) rfl ?_
      refine wp_bipush (v := 10) hX (dk DX10_isTwoFigures 12 rfl) (by decide) ?_
      refine wp_irem hX (dk DX10_isTwoFigures 13 rfl) (by decide) ?_
      refine w_callV (As := [_]) lkX10_104 hX (dk DX10_isTwoFigures 14 rfl) rfl rfl (by decide) hN (k_has d sw f g _) ?_
      show WP _ _ _ 29 [_, _] [_] _
      rw [hn]
      refine wp_if_eq (tgt := 47) hX (dk DX10_isTwoFigures 15 rfl) (by decide) (fun h29 => ?_) (fun h29 => ?_)
      · refine wp_iconst (v := 0) hX (dk DX10_isTwoFigures 25 rfl) (by decide) ?_
        exact wp_ireturn hX hR (dk DX10_isTwoFigures 26 rfl) rfl (Nat.le_refl _) (Nat.le_refl _) (⟨rfl, rfl⟩)
      · refine wp_iload_n hX (dk DX10_isTwoFigures 16 rfl) rfl ?_
        refine wp_bipush (v := 10) hX (dk DX10_isTwoFigures 17 rfl) (by decide) ?_
        refine wp_idiv hX (dk DX10_isTwoFigures 18 rfl) (by decide) ?_
        refine wp_iload_n hX (dk DX10_isTwoFigures 19 rfl) rfl ?_
        refine wp_bipush (v := 10) hX (dk DX10_isTwoFigures 20 rfl) (by decide) ?_
        refine wp_irem hX (dk DX10_isTwoFigures 21 rfl) (by decide) ?_
        refine wp_icmp_eq (tgt := 47) hX (dk DX10_isTwoFigures 22 rfl) (by decide) (fun h40 => ?_) (fun h40 => ?_)
        · refine wp_iconst (v := 0) hX (dk DX10_isTwoFigures 25 rfl) (by decide) ?_
          exact wp_ireturn hX hR (dk DX10_isTwoFigures 26 rfl) rfl (Nat.le_refl _) (Nat.le_refl _) (⟨rfl, rfl⟩)
        · exact absurd (two_ex hn10 h1 h15 h29 h40) h
/-- the set of those that can be cut out of block b -/
def jfo (sh : Nat → Int32) (n : Nat) (x : Int32) : Int32 := jbs (fun i => jct (sh i) x) n
theorem k_firstOut (d : Nat) (sw : Bool) (f : Nat → Nat → Int32) (g : Nat → Nat → Int64) (n b : Nat) (sh : Nat → Int32) (hs : stF f n sh) (hb : b < 6) : CT (d + 3) 0 0 iX10_firstOutOf [.ref 0, .int (nI b)] (S sw f g) (QR (some (.int (jfo sh n (f 62 b)))) (S sw f g)) := by
  refine CT.of rfl (Nat.le_of_ble_eq_true rfl) (fun X hX hR hN _ => ?_)
  have hX : Good X RX10 cX10_firstOutOf (d + 3) 0 0 := hX
  have hN : x_nl X = 2 := hN
  show WP X 0 0 0 [_, _] [] _
  refine wp_aload_n hX (dk DX10_firstOutOf 0 rfl) rfl ?_
  refine w_getr hX flX10_10 (dk DX10_firstOutOf 1 rfl) rfl rfl ?_
  refine wp_aload_n hX (dk DX10_firstOutOf 2 rfl) rfl ?_
  refine w_getr hX flX10_51 (dk DX10_firstOutOf 3 rfl) rfl rfl ?_
  refine wp_iload_n hX (dk DX10_firstOutOf 4 rfl) rfl ?_
  refine w_callV (As := [_]) lkX10_128 hX (dk DX10_firstOutOf 5 rfl) rfl rfl (by simp [Value.category]) hN (k_leftOf (d + 2) sw f g b hb) ?_
  show WP _ _ _ 12 [_, _] [_, _] _
  refine w_callV (As := [_]) lkX10_248 hX (dk DX10_firstOutOf 6 rfl) rfl rfl (by decide) hN (k_cuttableOf d sw f g n sh _ hs) ?_
  show WP _ _ _ 15 [_, _] [_] _
  exact wp_ireturn hX hR (dk DX10_firstOutOf 7 rfl) rfl (Nat.le_refl _) (Nat.le_refl _) (⟨rfl, rfl⟩)
/-- of which a shape can be a part -/
def jpo (sh : Nat → Int32) (n : Nat) (x : Int32) : Int32 := jbs (fun i => if jfp x (sh i) = -2 then 0 else 1) n
theorem k_partOf (d : Nat) (sw : Bool) (f : Nat → Nat → Int32) (g : Nat → Nat → Int64) (n : Nat) (sh : Nat → Int32) (x : Int32) (hs : stF f n sh) : CT (d + 3) 0 0 iX10_partOf [.ref 0, .int x] (S sw f g) (rdC g f (jpo sh n x)) := by
  have hn10 := hs.2.1
  refine CT.of rfl (Nat.le_of_ble_eq_true rfl) (fun X hX hR hN _ => ?_)
  have hX : Good X RX10 cX10_partOf (d + 3) 0 0 := hX
  have hN : x_nl X = 4 := hN
  show WP X 0 0 0 [_, _, _, _] [] _
  refine wp_aload_n hX (dk DX10_partOf 0 rfl) rfl ?_
  refine w_getr hX flX10_79 (dk DX10_partOf 1 rfl) rfl rfl ?_
  refine wp_iload_n hX (dk DX10_partOf 2 rfl) rfl ?_
  refine w_callVQ (As := [_]) lkX10_362 hX (dk DX10_partOf 3 rfl) rfl rfl (by decide) hN (k_take d sw f g 77 x isF_gu) (fun v_ sw_ f_ g_ hq_ => ?_)
  obtain ⟨rfl, rfl, rfl, hf, hok⟩ := hq_
  show WP _ _ _ 8 [_, _, _, _] [] _
  refine wp_iconst (v := 0) hX (dk DX10_partOf 4 rfl) (by decide) ?_
  refine wp_istore_n hX (dk DX10_partOf 5 rfl) rfl rfl hN (Nat.le_of_ble_eq_true rfl) ?_
  show WP _ _ _ 10 [_, _, _, _] [] _
  refine wp_iconst (v := 0) hX (dk DX10_partOf 6 rfl) (by decide) ?_
  refine wp_istore_n hX (dk DX10_partOf 7 rfl) rfl rfl hN (Nat.le_of_ble_eq_true rfl) ?_
  show WP _ _ _ 12 [_, _, _, _] [] _
  have e : ∀ b, b < 77 → f_ b = f b := fun b hb => hf b (by omega) (by omega) (by omega) (by omega)
  have hn : f_ 1 4 = nI n := by rw [e 1 (by decide)]; exact hs.1
  have lo : ∀ (m i : Nat), i + m = n → WP X 0 0 12 [some (.ref 0), some (.int x), some (.int (jpo sh i x)), some (.int (nI i))] [] (S sw_ f_ g_) := by
    intro m
    induction m with
    | zero =>
      intro i hi
      obtain rfl : i = n := by omega
      refine wp_iload_n hX (dk DX10_partOf 8 rfl) rfl ?_
      refine wp_aload_n hX (dk DX10_partOf 9 rfl) rfl ?_
      refine w_getr hX flX10_10 (dk DX10_partOf 10 rfl) rfl rfl ?_
      refine w_callV (As := []) lkX10_229 hX (dk DX10_partOf 11 rfl) rfl rfl (by simp [Value.category]) hN (k_came (d + 2) _ f_ _) ?_
      show WP _ _ _ 20 [_, _, _, _] [_, _] _
      refine wp_icmp_ge (tgt := 58) hX (dk DX10_partOf 12 rfl) (by decide) (fun _ => ?_) (fun h_ => absurd (by rw [hn]; exact nI_le (by omega) (by omega)) h_)
      refine wp_iload_n hX (dk DX10_partOf 31 rfl) rfl ?_
      exact wp_ireturn hX hR (dk DX10_partOf 32 rfl) rfl (Nat.le_refl _) (Nat.le_refl _) (⟨_, _, _, rfl, rfl, rfl, fun b h1 h2 h3 => hf b (by omega) (by omega) (by omega) (by omega), fun i _ => by rw [e 49 (by decide)]⟩)
    | succ m ih =>
      intro i hi
      refine wp_iload_n hX (dk DX10_partOf 8 rfl) rfl ?_
      refine wp_aload_n hX (dk DX10_partOf 9 rfl) rfl ?_
      refine w_getr hX flX10_10 (dk DX10_partOf 10 rfl) rfl rfl ?_
      refine w_callV (As := []) lkX10_229 hX (dk DX10_partOf 11 rfl) rfl rfl (by simp [Value.category]) hN (k_came (d + 2) _ f_ _) ?_
      show WP _ _ _ 20 [_, _, _, _] [_, _] _
      refine wp_icmp_ge (tgt := 58) hX (dk DX10_partOf 12 rfl) (by decide) (fun h_ => absurd h_ (by rw [hn]; exact nI_ge (by omega) (by omega))) (fun _ => ?_)
      refine wp_aload_n hX (dk DX10_partOf 13 rfl) rfl ?_
      refine w_getr hX flX10_79 (dk DX10_partOf 14 rfl) rfl rfl ?_
      refine wp_aload_n hX (dk DX10_partOf 15 rfl) rfl ?_
      refine w_getr hX flX10_10 (dk DX10_partOf 16 rfl) rfl rfl ?_
      refine wp_iload_n hX (dk DX10_partOf 17 rfl) rfl ?_
      refine w_callV (As := [_]) lkX10_119 hX (dk DX10_partOf 18 rfl) rfl rfl (by simp [Value.category]) hN (k_formOf (d + 2) _ f_ _ i (by omega)) ?_
      show WP _ _ _ 35 [_, _, _, _] [_, _] _
      refine w_geti hX flX10_123 (dk DX10_partOf 19 rfl) (by decide) (isF_st i (by omega)).1 ?_
      rw [e _ (by omega), (hs.2.2 i (by omega)).1]
      refine w_callV (As := [_]) lkX10_174 hX (dk DX10_partOf 20 rfl) rfl rfl (by decide) hN (k_first (d + 2) _ f_ _ 77 x (sh i) isF_gu hok) ?_
      show WP _ _ _ 41 [_, _, _, _] [_] _
      refine wp_bipush (v := -2) hX (dk DX10_partOf 21 rfl) (by decide) ?_
      refine wp_icmp_eq (tgt := 52) hX (dk DX10_partOf 22 rfl) (by decide) (fun h43 => ?_) (fun h43 => ?_)
      · refine wp_iinc hX (dk DX10_partOf 29 rfl) rfl (nI_inc _) rfl hN ?_
        show WP _ _ _ 55 [_, _, _, _] [] _
        refine wp_goto (tgt := 12) hX (dk DX10_partOf 30 rfl) (by decide) ?_
        have := ih (i + 1) (by omega)
        unfold jpo at this
        rw [jbs] at this
        first | rw [if_pos (by rw [if_pos h43])] at this; exact this | rw [if_neg (by rw [if_neg h43]; decide)] at this; exact this
      · refine wp_iload_n hX (dk DX10_partOf 23 rfl) rfl ?_
        refine wp_iconst (v := 1) hX (dk DX10_partOf 24 rfl) (by decide) ?_
        refine wp_iload_n hX (dk DX10_partOf 25 rfl) rfl ?_
        refine wp_ishl hX (dk DX10_partOf 26 rfl) ?_
        refine wp_ior hX (dk DX10_partOf 27 rfl) ?_
        refine wp_istore_n hX (dk DX10_partOf 28 rfl) rfl rfl hN (Nat.le_of_ble_eq_true rfl) ?_
        show WP _ _ _ 52 [_, _, _, _] [] _
        refine wp_iinc hX (dk DX10_partOf 29 rfl) rfl (nI_inc _) rfl hN ?_
        show WP _ _ _ 55 [_, _, _, _] [] _
        refine wp_goto (tgt := 12) hX (dk DX10_partOf 30 rfl) (by decide) ?_
        have := ih (i + 1) (by omega)
        unfold jpo at this
        rw [jbs] at this
        first | rw [if_pos (by rw [if_pos h43])] at this; exact this | rw [if_neg (by rw [if_neg h43]; decide)] at this; exact this
  exact lo n 0 (by omega)
theorem t_size0 (d : Nat) (sw : Bool) (f : Nat → Nat → Int32) (g : Nat → Nat → Int64) (n : Nat) (x y : Int32) (hn : f 1 4 = nI n) (hn10 : n ≤ 10) (h : ¬ ((∃ i, i < n ∧ x = nI i) ∧ ∃ w, w < 3 ∧ y = nI w)) : CT (d + 110) 0 0 iX10_size [.ref 0, .int x, .int y] (S sw f g) (rdC g f (-1)) := by
  refine CT.rdC ?_
  refine CT.of rfl (Nat.le_of_ble_eq_true rfl) (fun X hX hR hN _ => ?_)
  have hX : Good X RX10 cX10_size (d + 110) 0 0 := hX
  have hN : x_nl X = 4 := hN
  show WP X 0 0 0 [_, _, _, _] [] _
  refine wp_aload_n hX (dk DX10_size 0 rfl) rfl ?_
  refine w_getr hX flX10_10 (dk DX10_size 1 rfl) rfl rfl ?_
  refine wp_iload_n hX (dk DX10_size 2 rfl) rfl ?_
  refine w_callV (As := [_]) lkX10_104 hX (dk DX10_size 3 rfl) rfl rfl (by decide) hN (k_has (d + 109) sw f g x) ?_
  show WP _ _ _ 8 [_, _, _, _] [_] _
  rw [hn]
  refine wp_if_eq (tgt := 20) hX (dk DX10_size 4 rfl) (by decide) (fun h8 => ?_) (fun h8 => ?_)
  · refine wp_iconst (v := -1) hX (dk DX10_size 10 rfl) (by decide) ?_
    exact wp_ireturn hX hR (dk DX10_size 11 rfl) rfl (Nat.le_refl _) (Nat.le_refl _) (⟨rfl, rfl⟩)
  · refine wp_iload_n hX (dk DX10_size 5 rfl) rfl ?_
    refine wp_if_lt (tgt := 20) hX (dk DX10_size 6 rfl) (by decide) (fun h12 => ?_) (fun h12 => ?_)
    · refine wp_iconst (v := -1) hX (dk DX10_size 10 rfl) (by decide) ?_
      exact wp_ireturn hX hR (dk DX10_size 11 rfl) rfl (Nat.le_refl _) (Nat.le_refl _) (⟨rfl, rfl⟩)
    · refine wp_iload_n hX (dk DX10_size 7 rfl) rfl ?_
      refine wp_iconst (v := 2) hX (dk DX10_size 8 rfl) (by decide) ?_
      refine wp_icmp_le (tgt := 22) hX (dk DX10_size 9 rfl) (by decide) (fun h17 => ?_) (fun h17 => ?_)
      · exact absurd ⟨jin_ex (by omega) h8, by obtain ⟨w, h1, h2⟩ := rg_le2 (k := 2) (by decide) h12 h17; exact ⟨w, by omega, h2⟩⟩ h
      · refine wp_iconst (v := -1) hX (dk DX10_size 10 rfl) (by decide) ?_
        exact wp_ireturn hX hR (dk DX10_size 11 rfl) rfl (Nat.le_refl _) (Nat.le_refl _) (⟨rfl, rfl⟩)
theorem t_size1 (d : Nat) (sw : Bool) (f : Nat → Nat → Int32) (g : Nat → Nat → Int64) (n i w : Nat) (sh : Nat → Int32) (hs : stF f n sh) (hi : i < n) (hw : w < 3) : CT (d + 110) 0 0 iX10_size [.ref 0, .int (nI i), .int (nI w)] (S sw f g) (rdC g f (if w = 0 then jpc (sh i) else if w = 1 then jwide (jturn (sh i) 0) 4 else jtall (jturn (sh i) 0) 4)) := by
  have hn10 := hs.2.1
  have hF := isF_st i (by omega)
  have hk := hs.2.2 i hi
  refine CT.rdC ?_
  refine CT.of rfl (Nat.le_of_ble_eq_true rfl) (fun X hX hR hN _ => ?_)
  have hX : Good X RX10 cX10_size (d + 110) 0 0 := hX
  have hN : x_nl X = 4 := hN
  show WP X 0 0 0 [_, _, _, _] [] _
  refine wp_aload_n hX (dk DX10_size 0 rfl) rfl ?_
  refine w_getr hX flX10_10 (dk DX10_size 1 rfl) rfl rfl ?_
  refine wp_iload_n hX (dk DX10_size 2 rfl) rfl ?_
  refine w_callV (As := [_]) lkX10_104 hX (dk DX10_size 3 rfl) rfl rfl (by decide) hN (k_has (d + 109) sw f g (nI i)) ?_
  show WP _ _ _ 8 [_, _, _, _] [_] _
  rw [hs.1, jin_1 (by omega) hi rfl]
  refine wp_if_eq (tgt := 20) hX (dk DX10_size 4 rfl) (by decide) (fun h_ => absurd h_ (by decide)) (fun _ => ?_)
  refine wp_iload_n hX (dk DX10_size 5 rfl) rfl ?_
  refine wp_if_lt (tgt := 20) hX (dk DX10_size 6 rfl) (by decide) (fun h_ => absurd h_ (nI_pos (by omega))) (fun _ => ?_)
  refine wp_iload_n hX (dk DX10_size 7 rfl) rfl ?_
  refine wp_iconst (v := 2) hX (dk DX10_size 8 rfl) (by decide) ?_
  refine wp_icmp_le (tgt := 22) hX (dk DX10_size 9 rfl) (by decide) (fun _ => ?_) (fun h_ => absurd (nI_le (b := 2) (by omega) (by omega)) h_)
  refine wp_aload_n hX (dk DX10_size 12 rfl) rfl ?_
  refine w_getr hX flX10_10 (dk DX10_size 13 rfl) rfl rfl ?_
  refine wp_iload_n hX (dk DX10_size 14 rfl) rfl ?_
  refine w_callV (As := [_]) lkX10_119 hX (dk DX10_size 15 rfl) rfl rfl (by decide) hN (k_formOf (d + 109) sw f g i (by omega)) ?_
  show WP _ _ _ 30 [_, _, _, _] [_] _
  refine wp_astore_n hX (dk DX10_size 16 rfl) rfl rfl hN (Nat.le_of_ble_eq_true rfl) ?_
  show WP _ _ _ 31 [_, _, _, _] [] _
  refine wp_iload_n hX (dk DX10_size 17 rfl) rfl ?_
  refine wp_if_ne (tgt := 40) hX (dk DX10_size 18 rfl) (by decide) (fun h32 => ?_) (fun h32 => ?_)
  · refine wp_iload_n hX (dk DX10_size 22 rfl) rfl ?_
    refine wp_iconst (v := 1) hX (dk DX10_size 23 rfl) (by decide) ?_
    refine wp_icmp_ne (tgt := 57) hX (dk DX10_size 24 rfl) (by decide) (fun h42 => ?_) (fun h42 => ?_)
    · refine wp_aload_n hX (dk DX10_size 31 rfl) rfl ?_
      refine w_getr hX flX10_159 (dk DX10_size 32 rfl) hF.1 (hF.2.1 sw).1 ?_
      refine wp_iconst (v := 0) hX (dk DX10_size 33 rfl) (by decide) ?_
      refine w_iald (j := 0) hX (dk DX10_size 34 rfl) hF.2.2.1 rfl (by rw [hF.2.2.2.2.2.1]; decide) ?_
      rw [hk.2.2.1 0 (by decide)]
      refine w_callS (As := [_]) lkX10_165 hX (dk DX10_size 35 rfl) rfl (by decide) (k_tall (d + 109) _ _) ?_
      show WP _ _ _ 66 [_, _, _, _] [_] _
      exact wp_ireturn hX hR (dk DX10_size 36 rfl) rfl (Nat.le_refl _) (Nat.le_refl _) (⟨by simp only [nIz (show w < 2 ^ 31 by omega), nIo (show w < 2 ^ 31 by omega)] at h32 h42; simp [h32, h42], rfl⟩)
    · refine wp_aload_n hX (dk DX10_size 25 rfl) rfl ?_
      refine w_getr hX flX10_159 (dk DX10_size 26 rfl) hF.1 (hF.2.1 sw).1 ?_
      refine wp_iconst (v := 0) hX (dk DX10_size 27 rfl) (by decide) ?_
      refine w_iald (j := 0) hX (dk DX10_size 28 rfl) hF.2.2.1 rfl (by rw [hF.2.2.2.2.2.1]; decide) ?_
      rw [hk.2.2.1 0 (by decide)]
      refine w_callS (As := [_]) lkX10_162 hX (dk DX10_size 29 rfl) rfl (by decide) (k_wide (d + 109) _ _) ?_
      show WP _ _ _ 54 [_, _, _, _] [_] _
      refine wp_goto (tgt := 66) hX (dk DX10_size 30 rfl) (by decide) ?_
      exact wp_ireturn hX hR (dk DX10_size 36 rfl) rfl (Nat.le_refl _) (Nat.le_refl _) (⟨by simp only [nIz (show w < 2 ^ 31 by omega), nIo (show w < 2 ^ 31 by omega)] at h32 h42; simp [h32, h42], rfl⟩)
  · refine wp_aload_n hX (dk DX10_size 19 rfl) rfl ?_
    refine w_geti hX flX10_156 (dk DX10_size 20 rfl) (by decide) hF.1 ?_
    rw [hk.2.1]
    exact wp_ireturn hX hR (dk DX10_size 21 rfl) rfl (Nat.le_refl _) (Nat.le_refl _) (⟨by simp only [nIz (show w < 2 ^ 31 by omega), nIo (show w < 2 ^ 31 by omega)] at h32; simp [h32], rfl⟩)
theorem t_turned0 (d : Nat) (sw : Bool) (f : Nat → Nat → Int32) (g : Nat → Nat → Int64) (n : Nat) (x y : Int32) (hn : f 1 4 = nI n) (hn10 : n ≤ 10) (h : ¬ ((∃ i, i < n ∧ x = nI i) ∧ ∃ w, w < 4 ∧ y = nI w)) : CT (d + 110) 0 0 iX10_turned [.ref 0, .int x, .int y] (S sw f g) (rdC g f (-1)) := by
  refine CT.rdC ?_
  refine CT.of rfl (Nat.le_of_ble_eq_true rfl) (fun X hX hR hN _ => ?_)
  have hX : Good X RX10 cX10_turned (d + 110) 0 0 := hX
  have hN : x_nl X = 3 := hN
  show WP X 0 0 0 [_, _, _] [] _
  refine wp_aload_n hX (dk DX10_turned 0 rfl) rfl ?_
  refine w_getr hX flX10_10 (dk DX10_turned 1 rfl) rfl rfl ?_
  refine wp_iload_n hX (dk DX10_turned 2 rfl) rfl ?_
  refine w_callV (As := [_]) lkX10_104 hX (dk DX10_turned 3 rfl) rfl rfl (by decide) hN (k_has (d + 109) sw f g x) ?_
  show WP _ _ _ 8 [_, _, _] [_] _
  rw [hn]
  refine wp_if_eq (tgt := 36) hX (dk DX10_turned 4 rfl) (by decide) (fun h8 => ?_) (fun h8 => ?_)
  · refine wp_iconst (v := -1) hX (dk DX10_turned 18 rfl) (by decide) ?_
    exact wp_ireturn hX hR (dk DX10_turned 19 rfl) rfl (Nat.le_refl _) (Nat.le_refl _) (⟨rfl, rfl⟩)
  · refine wp_iload_n hX (dk DX10_turned 5 rfl) rfl ?_
    refine wp_if_lt (tgt := 36) hX (dk DX10_turned 6 rfl) (by decide) (fun h12 => ?_) (fun h12 => ?_)
    · refine wp_iconst (v := -1) hX (dk DX10_turned 18 rfl) (by decide) ?_
      exact wp_ireturn hX hR (dk DX10_turned 19 rfl) rfl (Nat.le_refl _) (Nat.le_refl _) (⟨rfl, rfl⟩)
    · refine wp_iload_n hX (dk DX10_turned 7 rfl) rfl ?_
      refine wp_iconst (v := 4) hX (dk DX10_turned 8 rfl) (by decide) ?_
      refine wp_icmp_ge (tgt := 36) hX (dk DX10_turned 9 rfl) (by decide) (fun h17 => ?_) (fun h17 => ?_)
      · refine wp_iconst (v := -1) hX (dk DX10_turned 18 rfl) (by decide) ?_
        exact wp_ireturn hX hR (dk DX10_turned 19 rfl) rfl (Nat.le_refl _) (Nat.le_refl _) (⟨rfl, rfl⟩)
      · exact absurd ⟨jin_ex (by omega) h8, rg_lt (k := 4) (by decide) h12 h17⟩ h
theorem t_turned1 (d : Nat) (sw : Bool) (f : Nat → Nat → Int32) (g : Nat → Nat → Int64) (n i w : Nat) (sh : Nat → Int32) (hs : stF f n sh) (hi : i < n) (hw : w < 4) : CT (d + 110) 0 0 iX10_turned [.ref 0, .int (nI i), .int (nI w)] (S sw f g) (rdC g f (jturn (sh i) w)) := by
  have hn10 := hs.2.1
  have hF := isF_st i (by omega)
  have hk := hs.2.2 i hi
  refine CT.rdC ?_
  refine CT.of rfl (Nat.le_of_ble_eq_true rfl) (fun X hX hR hN _ => ?_)
  have hX : Good X RX10 cX10_turned (d + 110) 0 0 := hX
  have hN : x_nl X = 3 := hN
  show WP X 0 0 0 [_, _, _] [] _
  refine wp_aload_n hX (dk DX10_turned 0 rfl) rfl ?_
  refine w_getr hX flX10_10 (dk DX10_turned 1 rfl) rfl rfl ?_
  refine wp_iload_n hX (dk DX10_turned 2 rfl) rfl ?_
  refine w_callV (As := [_]) lkX10_104 hX (dk DX10_turned 3 rfl) rfl rfl (by decide) hN (k_has (d + 109) sw f g (nI i)) ?_
  show WP _ _ _ 8 [_, _, _] [_] _
  rw [hs.1, jin_1 (by omega) hi rfl]
  refine wp_if_eq (tgt := 36) hX (dk DX10_turned 4 rfl) (by decide) (fun h_ => absurd h_ (by decide)) (fun _ => ?_)
  refine wp_iload_n hX (dk DX10_turned 5 rfl) rfl ?_
  refine wp_if_lt (tgt := 36) hX (dk DX10_turned 6 rfl) (by decide) (fun h_ => absurd h_ (nI_pos (by omega))) (fun _ => ?_)
  refine wp_iload_n hX (dk DX10_turned 7 rfl) rfl ?_
  refine wp_iconst (v := 4) hX (dk DX10_turned 8 rfl) (by decide) ?_
  refine wp_icmp_ge (tgt := 36) hX (dk DX10_turned 9 rfl) (by decide) (fun h_ => absurd h_ (nI_ge (b := 4) (by omega) (by omega))) (fun _ => ?_)
  refine wp_aload_n hX (dk DX10_turned 10 rfl) rfl ?_
  refine w_getr hX flX10_10 (dk DX10_turned 11 rfl) rfl rfl ?_
  refine wp_iload_n hX (dk DX10_turned 12 rfl) rfl ?_
  refine w_callV (As := [_]) lkX10_119 hX (dk DX10_turned 13 rfl) rfl rfl (by decide) hN (k_formOf (d + 109) sw f g i (by omega)) ?_
  show WP _ _ _ 28 [_, _, _] [_] _
  refine w_getr hX flX10_159 (dk DX10_turned 14 rfl) hF.1 (hF.2.1 sw).1 ?_
  refine wp_iload_n hX (dk DX10_turned 15 rfl) rfl ?_
  refine w_iald (j := _) hX (dk DX10_turned 16 rfl) hF.2.2.1 rfl (by rw [hF.2.2.2.2.2.1]; exact hw) ?_
  rw [hk.2.2.1 w hw]
  refine wp_goto (tgt := 37) hX (dk DX10_turned 17 rfl) (by decide) ?_
  exact wp_ireturn hX hR (dk DX10_turned 19 rfl) rfl (Nat.le_refl _) (Nat.le_refl _) (⟨rfl, rfl⟩)
/-- how many ways, the first, what is lost -/
def jwy (s x : Int32) (w : Nat) : Int32 := if w = 0 then jcnt (jP s) x (jn s) else if w = 1 then (if jfp s x = -2 then -2 else jW s (jfp s x).toNatClampNeg) else (if jct s x = 0 then -2 else jpc x - jpc s)
theorem jfirst_in {p : Nat → Int32} {x : Int32} : ∀ (k j : Nat), jfirst p x k j = -2 ∨ ∃ i, j ≤ i ∧ i < j + k ∧ jfirst p x k j = nI i ∧ p i &&& (x ^^^ (-1)) = 0 ∧ ∀ l, j ≤ l → l < i → ¬ p l &&& (x ^^^ (-1)) = 0
  | 0, j => Or.inl rfl
  | k + 1, j => by
    rw [jfirst]
    split
    · next c => exact Or.inr ⟨j, by omega, by omega, rfl, c, fun l h1 h2 => absurd h2 (by omega)⟩
    · next c =>
      rcases jfirst_in (p := p) (x := x) k (j + 1) with h | ⟨i, h1, h2, h3, h4, h5⟩
      · exact Or.inl h
      · refine Or.inr ⟨i, by omega, by omega, h3, h4, fun l g1 g2 => ?_⟩
        by_cases e : l = j
        · rw [e]; exact c
        · exact h5 l (by omega) g2
theorem jfp_in (s x : Int32) : jfp s x = -2 ∨ ∃ i, i < jn s ∧ jfp s x = nI i := by
  rcases jfirst_in (p := jP s) (x := x) (jn s) 0 with h | ⟨i, h1, h2, h3, _⟩
  · exact Or.inl h
  · exact Or.inr ⟨i, by omega, h3⟩
theorem t_ways0 (d : Nat) (sw : Bool) (f : Nat → Nat → Int32) (g : Nat → Nat → Int64) (n m : Nat) (x y : Int32) (hn : f 1 4 = nI n) (hn10 : n ≤ 10) (hm : f 61 6 = nI m) (hm6 : m ≤ 6) (h : ¬ ((∃ b i, b < m ∧ i < n ∧ i < 10 ∧ x = nI (10 * b + i)) ∧ ∃ w, w < 3 ∧ y = nI w)) : CT (d + 110) 0 0 iX10_ways [.ref 0, .int x, .int y] (S sw f g) (rdC g f (-1)) := by
  refine CT.rdC ?_
  refine CT.of rfl (Nat.le_of_ble_eq_true rfl) (fun X hX hR hN _ => ?_)
  have hX : Good X RX10 cX10_ways (d + 110) 0 0 := hX
  have hN : x_nl X = 6 := hN
  show WP X 0 0 0 [_, _, _, _, _, _] [] _
  by_cases c : ∃ b i, b < m ∧ i < n ∧ i < 10 ∧ x = nI (10 * b + i)
  · obtain ⟨b, i, hb, hi, hi10, rfl⟩ := c
    refine wp_aload_n hX (dk DX10_ways 0 rfl) rfl ?_
    refine wp_iload_n hX (dk DX10_ways 1 rfl) rfl ?_
    refine w_callV (As := [_]) lkX10_168 hX (dk DX10_ways 2 rfl) rfl rfl (by decide) hN (k_isBF1 (d + 108) sw f g n m b i hn hn10 hm hm6 hb hi) ?_
    show WP _ _ _ 5 [_, _, _, _, _, _] [_] _
    refine wp_if_eq (tgt := 17) hX (dk DX10_ways 3 rfl) (by decide) (fun h5 => ?_) (fun h5 => ?_)
    · refine wp_iconst (v := -1) hX (dk DX10_ways 9 rfl) (by decide) ?_
      exact wp_ireturn hX hR (dk DX10_ways 10 rfl) rfl (Nat.le_refl _) (Nat.le_refl _) (⟨rfl, rfl⟩)
    · refine wp_iload_n hX (dk DX10_ways 4 rfl) rfl ?_
      refine wp_if_lt (tgt := 17) hX (dk DX10_ways 5 rfl) (by decide) (fun h9 => ?_) (fun h9 => ?_)
      · refine wp_iconst (v := -1) hX (dk DX10_ways 9 rfl) (by decide) ?_
        exact wp_ireturn hX hR (dk DX10_ways 10 rfl) rfl (Nat.le_refl _) (Nat.le_refl _) (⟨rfl, rfl⟩)
      · refine wp_iload_n hX (dk DX10_ways 6 rfl) rfl ?_
        refine wp_iconst (v := 2) hX (dk DX10_ways 7 rfl) (by decide) ?_
        refine wp_icmp_le (tgt := 19) hX (dk DX10_ways 8 rfl) (by decide) (fun h14 => ?_) (fun h14 => ?_)
        · exact absurd ⟨⟨b, i, hb, hi, hi10, rfl⟩, by obtain ⟨w, h1, h2⟩ := rg_le2 (k := 2) (by decide) h9 h14; exact ⟨w, by omega, h2⟩⟩ h
        · refine wp_iconst (v := -1) hX (dk DX10_ways 9 rfl) (by decide) ?_
          exact wp_ireturn hX hR (dk DX10_ways 10 rfl) rfl (Nat.le_refl _) (Nat.le_refl _) (⟨rfl, rfl⟩)
  · refine wp_aload_n hX (dk DX10_ways 0 rfl) rfl ?_
    refine wp_iload_n hX (dk DX10_ways 1 rfl) rfl ?_
    refine w_callV (As := [_]) lkX10_168 hX (dk DX10_ways 2 rfl) rfl rfl (by decide) hN (k_isBF0 (d + 108) sw f g n m x hn hn10 hm hm6 c) ?_
    show WP _ _ _ 5 [_, _, _, _, _, _] [_] _
    refine wp_if_eq (tgt := 17) hX (dk DX10_ways 3 rfl) (by decide) (fun _ => ?_) (fun h_ => absurd (rfl) h_)
    refine wp_iconst (v := -1) hX (dk DX10_ways 9 rfl) (by decide) ?_
    exact wp_ireturn hX hR (dk DX10_ways 10 rfl) rfl (Nat.le_refl _) (Nat.le_refl _) (⟨rfl, rfl⟩)
theorem t_ways1 (d : Nat) (sw : Bool) (f : Nat → Nat → Int32) (g : Nat → Nat → Int64) (n m b i w : Nat) (sh : Nat → Int32) (hs : stF f n sh) (hm : f 61 6 = nI m) (hm6 : m ≤ 6) (hb : b < m) (hi : i < n) (hw : w < 3) : CT (d + 110) 0 0 iX10_ways [.ref 0, .int (nI (10 * b + i)), .int (nI w)] (S sw f g) (rdC g f (jwy (sh i) (f 62 b) w)) := by
  have hn10 := hs.2.1
  have hF := isF_st i (by omega)
  have hk := hs.2.2 i hi
  have hw3 : w = 0 ∨ w = 1 ∨ w = 2 := by omega
  refine CT.rdC ?_
  refine CT.of rfl (Nat.le_of_ble_eq_true rfl) (fun X hX hR hN _ => ?_)
  have hX : Good X RX10 cX10_ways (d + 110) 0 0 := hX
  have hN : x_nl X = 6 := hN
  show WP X 0 0 0 [_, _, _, _, _, _] [] _
  refine wp_aload_n hX (dk DX10_ways 0 rfl) rfl ?_
  refine wp_iload_n hX (dk DX10_ways 1 rfl) rfl ?_
  refine w_callV (As := [_]) lkX10_168 hX (dk DX10_ways 2 rfl) rfl rfl (by decide) hN (k_isBF1 (d + 108) sw f g n m b i hs.1 hn10 hm hm6 hb hi) ?_
  show WP _ _ _ 5 [_, _, _, _, _, _] [_] _
  refine wp_if_eq (tgt := 17) hX (dk DX10_ways 3 rfl) (by decide) (fun h_ => absurd h_ (by decide)) (fun _ => ?_)
  refine wp_iload_n hX (dk DX10_ways 4 rfl) rfl ?_
  refine wp_if_lt (tgt := 17) hX (dk DX10_ways 5 rfl) (by decide) (fun h_ => absurd h_ (nI_pos (by omega))) (fun _ => ?_)
  refine wp_iload_n hX (dk DX10_ways 6 rfl) rfl ?_
  refine wp_iconst (v := 2) hX (dk DX10_ways 7 rfl) (by decide) ?_
  refine wp_icmp_le (tgt := 19) hX (dk DX10_ways 8 rfl) (by decide) (fun _ => ?_) (fun h_ => absurd (nI_le (b := 2) (by omega) (by omega)) h_)
  refine wp_aload_n hX (dk DX10_ways 11 rfl) rfl ?_
  refine w_getr hX flX10_51 (dk DX10_ways 12 rfl) rfl rfl ?_
  refine wp_iload_n hX (dk DX10_ways 13 rfl) rfl ?_
  refine wp_bipush (v := 10) hX (dk DX10_ways 14 rfl) (by decide) ?_
  refine wp_idiv hX (dk DX10_ways 15 rfl) (by decide) ?_
  rw [dv10 (by omega) (by omega)]
  refine w_callV (As := [_]) lkX10_128 hX (dk DX10_ways 16 rfl) rfl rfl (by decide) hN (k_leftOf (d + 109) sw f g b (by omega)) ?_
  show WP _ _ _ 30 [_, _, _, _, _, _] [_] _
  refine wp_istore_n hX (dk DX10_ways 17 rfl) rfl rfl hN (Nat.le_of_ble_eq_true rfl) ?_
  show WP _ _ _ 31 [_, _, _, _, _, _] [] _
  refine wp_aload_n hX (dk DX10_ways 18 rfl) rfl ?_
  refine w_getr hX flX10_10 (dk DX10_ways 19 rfl) rfl rfl ?_
  refine wp_iload_n hX (dk DX10_ways 20 rfl) rfl ?_
  refine wp_bipush (v := 10) hX (dk DX10_ways 21 rfl) (by decide) ?_
  refine wp_irem hX (dk DX10_ways 22 rfl) (by decide) ?_
  rw [rm10 (by omega) (by omega)]
  refine w_callV (As := [_]) lkX10_119 hX (dk DX10_ways 23 rfl) rfl rfl (by decide) hN (k_formOf (d + 109) sw f g i (by omega)) ?_
  show WP _ _ _ 42 [_, _, _, _, _, _] [_] _
  refine wp_astore hX (dk DX10_ways 24 rfl) rfl hN (Nat.le_of_ble_eq_true rfl) ?_
  show WP _ _ _ 44 [_, _, _, _, _, _] [] _
  rcases hw3 with rfl | rfl | rfl
  · refine wp_iload_n hX (dk DX10_ways 25 rfl) rfl ?_
    refine wp_if_ne (tgt := 55) hX (dk DX10_ways 26 rfl) (by decide) (fun h_ => absurd (rfl) h_) (fun _ => ?_)
    refine wp_aload hX (dk DX10_ways 27 rfl) rfl ?_
    refine wp_iload_n hX (dk DX10_ways 28 rfl) rfl ?_
    refine w_callV (As := [_]) lkX10_171 hX (dk DX10_ways 29 rfl) hF.1 rfl (by decide) hN (k_count (d + 109) sw f g _ (sh i) (f 62 b) hF hk) ?_
    show WP _ _ _ 54 [_, _, _, _, _, _] [_] _
    exact wp_ireturn hX hR (dk DX10_ways 30 rfl) rfl (Nat.le_refl _) (Nat.le_refl _) (⟨rfl, rfl⟩)
  · rcases jfp_in (sh i) (f 62 b) with e | ⟨j, hj, e⟩
    · refine wp_iload_n hX (dk DX10_ways 25 rfl) rfl ?_
      refine wp_if_ne (tgt := 55) hX (dk DX10_ways 26 rfl) (by decide) (fun _ => ?_) (fun h_ => absurd h_ (by decide))
      refine wp_iload_n hX (dk DX10_ways 31 rfl) rfl ?_
      refine wp_iconst (v := 1) hX (dk DX10_ways 32 rfl) (by decide) ?_
      refine wp_icmp_ne (tgt := 88) hX (dk DX10_ways 33 rfl) (by decide) (fun h_ => absurd (rfl) h_) (fun _ => ?_)
      refine wp_aload hX (dk DX10_ways 34 rfl) rfl ?_
      refine wp_iload_n hX (dk DX10_ways 35 rfl) rfl ?_
      refine w_callV (As := [_]) lkX10_174 hX (dk DX10_ways 36 rfl) hF.1 rfl (by decide) hN (k_first (d + 109) sw f g _ (sh i) (f 62 b) hF hk) ?_
      show WP _ _ _ 66 [_, _, _, _, _, _] [_] _
      rw [e]
      refine wp_istore hX (dk DX10_ways 37 rfl) rfl hN (Nat.le_of_ble_eq_true rfl) ?_
      show WP _ _ _ 68 [_, _, _, _, _, _] [] _
      refine wp_iload hX (dk DX10_ways 38 rfl) rfl ?_
      refine wp_bipush (v := -2) hX (dk DX10_ways 39 rfl) (by decide) ?_
      refine wp_icmp_ne (tgt := 80) hX (dk DX10_ways 40 rfl) (by decide) (fun h_ => absurd (rfl) h_) (fun _ => ?_)
      refine wp_bipush (v := -2) hX (dk DX10_ways 41 rfl) (by decide) ?_
      refine wp_goto (tgt := 87) hX (dk DX10_ways 42 rfl) (by decide) ?_
      exact wp_ireturn hX hR (dk DX10_ways 46 rfl) rfl (Nat.le_refl _) (Nat.le_refl _) (⟨by simp [jwy, e], rfl⟩)
    · refine wp_iload_n hX (dk DX10_ways 25 rfl) rfl ?_
      refine wp_if_ne (tgt := 55) hX (dk DX10_ways 26 rfl) (by decide) (fun _ => ?_) (fun h_ => absurd h_ (by decide))
      refine wp_iload_n hX (dk DX10_ways 31 rfl) rfl ?_
      refine wp_iconst (v := 1) hX (dk DX10_ways 32 rfl) (by decide) ?_
      refine wp_icmp_ne (tgt := 88) hX (dk DX10_ways 33 rfl) (by decide) (fun h_ => absurd (rfl) h_) (fun _ => ?_)
      refine wp_aload hX (dk DX10_ways 34 rfl) rfl ?_
      refine wp_iload_n hX (dk DX10_ways 35 rfl) rfl ?_
      refine w_callV (As := [_]) lkX10_174 hX (dk DX10_ways 36 rfl) hF.1 rfl (by decide) hN (k_first (d + 109) sw f g _ (sh i) (f 62 b) hF hk) ?_
      show WP _ _ _ 66 [_, _, _, _, _, _] [_] _
      rw [e]
      refine wp_istore hX (dk DX10_ways 37 rfl) rfl hN (Nat.le_of_ble_eq_true rfl) ?_
      show WP _ _ _ 68 [_, _, _, _, _, _] [] _
      refine wp_iload hX (dk DX10_ways 38 rfl) rfl ?_
      refine wp_bipush (v := -2) hX (dk DX10_ways 39 rfl) (by decide) ?_
      refine wp_icmp_ne (tgt := 80) hX (dk DX10_ways 40 rfl) (by decide) (fun _ => ?_) (fun h_ => absurd h_ (rE_ne j (by have := jn_le (sh i); omega)))
      refine wp_aload hX (dk DX10_ways 43 rfl) rfl ?_
      refine wp_iload hX (dk DX10_ways 44 rfl) rfl ?_
      refine w_callV (As := [_]) lkX10_177 hX (dk DX10_ways 45 rfl) hF.1 rfl (by decide) hN (k_wayAt (d + 109) sw f g _ (jn (sh i)) j hF hk.n (jn_le _) hj) ?_
      show WP _ _ _ 87 [_, _, _, _, _, _] [_] _
      rw [(hk.P hj).2]
      exact wp_ireturn hX hR (dk DX10_ways 46 rfl) rfl (Nat.le_refl _) (Nat.le_refl _) (⟨by rw [jwy, if_neg (by decide), if_pos rfl, e, if_neg (rE_ne j (by have := jn_le (sh i); omega)), nI_clamp (by have := jn_le (sh i); omega)], rfl⟩)
  · refine wp_iload_n hX (dk DX10_ways 25 rfl) rfl ?_
    refine wp_if_ne (tgt := 55) hX (dk DX10_ways 26 rfl) (by decide) (fun _ => ?_) (fun h_ => absurd h_ (by decide))
    refine wp_iload_n hX (dk DX10_ways 31 rfl) rfl ?_
    refine wp_iconst (v := 1) hX (dk DX10_ways 32 rfl) (by decide) ?_
    refine wp_icmp_ne (tgt := 88) hX (dk DX10_ways 33 rfl) (by decide) (fun _ => ?_) (fun h_ => absurd h_ (by decide))
    refine wp_aload hX (dk DX10_ways 47 rfl) rfl ?_
    refine wp_iload_n hX (dk DX10_ways 48 rfl) rfl ?_
    refine w_callV (As := [_]) lkX10_180 hX (dk DX10_ways 49 rfl) hF.1 rfl (by decide) hN (k_can (d + 108) sw f g _ (sh i) (f 62 b) hF hk) ?_
    show WP _ _ _ 94 [_, _, _, _, _, _] [_] _
    refine wp_if_eq (tgt := 110) hX (dk DX10_ways 50 rfl) (by decide) (fun h94 => ?_) (fun h94 => ?_)
    · refine wp_bipush (v := -2) hX (dk DX10_ways 57 rfl) (by decide) ?_
      exact wp_ireturn hX hR (dk DX10_ways 58 rfl) rfl (Nat.le_refl _) (Nat.le_refl _) (⟨by simp [jwy, h94], rfl⟩)
    · refine wp_iload_n hX (dk DX10_ways 51 rfl) rfl ?_
      refine w_callS (As := [_]) lkX10_183 hX (dk DX10_ways 52 rfl) rfl (by decide) (k_bitCount (d + 109) _ _) ?_
      show WP _ _ _ 101 [_, _, _, _, _, _] [_] _
      refine wp_aload hX (dk DX10_ways 53 rfl) rfl ?_
      refine w_geti hX flX10_156 (dk DX10_ways 54 rfl) (by decide) hF.1 ?_
      rw [hk.2.1]
      refine wp_isub hX (dk DX10_ways 55 rfl) ?_
      refine wp_goto (tgt := 112) hX (dk DX10_ways 56 rfl) (by decide) ?_
      exact wp_ireturn hX hR (dk DX10_ways 58 rfl) rfl (Nat.le_refl _) (Nat.le_refl _) (⟨by simp [jwy, h94], rfl⟩)
theorem t_inside0 (d : Nat) (sw : Bool) (f : Nat → Nat → Int32) (g : Nat → Nat → Int64) (n : Nat) (x : Int32) (hn : f 1 4 = nI n) (hn10 : n ≤ 10) (h : ¬ two n x) : CT (d + 110) 0 0 iX10_inside [.ref 0, .int x] (S sw f g) (rdC g f (-1)) := by
  refine CT.rdC ?_
  refine CT.of rfl (Nat.le_of_ble_eq_true rfl) (fun X hX hR hN _ => ?_)
  have hX : Good X RX10 cX10_inside (d + 110) 0 0 := hX
  have hN : x_nl X = 2 := hN
  show WP X 0 0 0 [_, _] [] _
  refine wp_aload_n hX (dk DX10_inside 0 rfl) rfl ?_
  refine wp_iload_n hX (dk DX10_inside 1 rfl) rfl ?_
  refine w_callV (As := [_]) lkX10_188 hX (dk DX10_inside 2 rfl) rfl rfl (by decide) hN (k_is20 (d + 108) sw f g n x hn hn10 h) ?_
  show WP _ _ _ 5 [_, _] [_] _
  refine wp_if_ne (tgt := 10) hX (dk DX10_inside 3 rfl) (by decide) (fun h_ => absurd (rfl) h_) (fun _ => ?_)
  refine wp_iconst (v := -1) hX (dk DX10_inside 4 rfl) (by decide) ?_
  exact wp_ireturn hX hR (dk DX10_inside 5 rfl) rfl (Nat.le_refl _) (Nat.le_refl _) (⟨rfl, rfl⟩)
theorem t_inside1 (d : Nat) (sw : Bool) (f : Nat → Nat → Int32) (g : Nat → Nat → Int64) (n a b : Nat) (hn : f 1 4 = nI n) (hn10 : n ≤ 10) (ha : a < n) (hb : b < n) (hab : a ≠ b) : CT (d + 110) 0 0 iX10_inside [.ref 0, .int (nI (10 * a + b))] (S sw f g) (rdC g f (if jb (f 4 b) a = 0 then 0 else 1)) := by
  refine CT.rdC ?_
  refine CT.of rfl (Nat.le_of_ble_eq_true rfl) (fun X hX hR hN _ => ?_)
  have hX : Good X RX10 cX10_inside (d + 110) 0 0 := hX
  have hN : x_nl X = 2 := hN
  show WP X 0 0 0 [_, _] [] _
  refine wp_aload_n hX (dk DX10_inside 0 rfl) rfl ?_
  refine wp_iload_n hX (dk DX10_inside 1 rfl) rfl ?_
  refine w_callV (As := [_]) lkX10_188 hX (dk DX10_inside 2 rfl) rfl rfl (by decide) hN (k_is21 (d + 108) sw f g n a b hn hn10 ha hb hab) ?_
  show WP _ _ _ 5 [_, _] [_] _
  refine wp_if_ne (tgt := 10) hX (dk DX10_inside 3 rfl) (by decide) (fun _ => ?_) (fun h_ => absurd h_ (by decide))
  refine wp_aload_n hX (dk DX10_inside 6 rfl) rfl ?_
  refine w_getr hX flX10_10 (dk DX10_inside 7 rfl) rfl rfl ?_
  refine wp_iload_n hX (dk DX10_inside 8 rfl) rfl ?_
  refine wp_bipush (v := 10) hX (dk DX10_inside 9 rfl) (by decide) ?_
  refine wp_irem hX (dk DX10_inside 10 rfl) (by decide) ?_
  rw [rm10 (by omega) (by omega)]
  refine w_callV (As := [_]) lkX10_191 hX (dk DX10_inside 11 rfl) rfl rfl (by decide) hN (k_outOf (d + 109) sw f g b (by omega)) ?_
  show WP _ _ _ 21 [_, _] [_] _
  refine wp_iload_n hX (dk DX10_inside 12 rfl) rfl ?_
  refine wp_bipush (v := 10) hX (dk DX10_inside 13 rfl) (by decide) ?_
  refine wp_idiv hX (dk DX10_inside 14 rfl) (by decide) ?_
  rw [dv10 (by omega) (by omega)]
  refine w_callS (As := [_, _]) lkX10_194 hX (dk DX10_inside 15 rfl) rfl (by decide) (k_holds (d + 109) _ (nI a) _) ?_
  show WP _ _ _ 28 [_, _] [_] _
  refine wp_if_eq (tgt := 35) hX (dk DX10_inside 16 rfl) (by decide) (fun h28 => ?_) (fun h28 => ?_)
  · refine wp_iconst (v := 0) hX (dk DX10_inside 19 rfl) (by decide) ?_
    exact wp_ireturn hX hR (dk DX10_inside 20 rfl) rfl (Nat.le_refl _) (Nat.le_refl _) (⟨by first | rw [if_pos h28] | rw [if_neg h28], rfl⟩)
  · refine wp_iconst (v := 1) hX (dk DX10_inside 17 rfl) (by decide) ?_
    refine wp_goto (tgt := 36) hX (dk DX10_inside 18 rfl) (by decide) ?_
    exact wp_ireturn hX hR (dk DX10_inside 20 rfl) rfl (Nat.le_refl _) (Nat.le_refl _) (⟨by first | rw [if_pos h28] | rw [if_neg h28], rfl⟩)
theorem t_around0 (d : Nat) (sw : Bool) (f : Nat → Nat → Int32) (g : Nat → Nat → Int64) (n : Nat) (x y : Int32) (hn : f 1 4 = nI n) (hn10 : n ≤ 10) (h : ¬ ((∃ i, i < n ∧ x = nI i) ∧ ∃ w, w < 2 ∧ y = nI w)) : CT (d + 110) 0 0 iX10_around [.ref 0, .int x, .int y] (S sw f g) (rdC g f (-1)) := by
  refine CT.rdC ?_
  refine CT.of rfl (Nat.le_of_ble_eq_true rfl) (fun X hX hR hN _ => ?_)
  have hX : Good X RX10 cX10_around (d + 110) 0 0 := hX
  have hN : x_nl X = 3 := hN
  show WP X 0 0 0 [_, _, _] [] _
  refine wp_aload_n hX (dk DX10_around 0 rfl) rfl ?_
  refine w_getr hX flX10_10 (dk DX10_around 1 rfl) rfl rfl ?_
  refine wp_iload_n hX (dk DX10_around 2 rfl) rfl ?_
  refine w_callV (As := [_]) lkX10_104 hX (dk DX10_around 3 rfl) rfl rfl (by decide) hN (k_has (d + 109) sw f g x) ?_
  show WP _ _ _ 8 [_, _, _] [_] _
  rw [hn]
  refine wp_if_eq (tgt := 20) hX (dk DX10_around 4 rfl) (by decide) (fun h8 => ?_) (fun h8 => ?_)
  · refine wp_iconst (v := -1) hX (dk DX10_around 10 rfl) (by decide) ?_
    exact wp_ireturn hX hR (dk DX10_around 11 rfl) rfl (Nat.le_refl _) (Nat.le_refl _) (⟨rfl, rfl⟩)
  · refine wp_iload_n hX (dk DX10_around 5 rfl) rfl ?_
    refine wp_if_lt (tgt := 20) hX (dk DX10_around 6 rfl) (by decide) (fun h12 => ?_) (fun h12 => ?_)
    · refine wp_iconst (v := -1) hX (dk DX10_around 10 rfl) (by decide) ?_
      exact wp_ireturn hX hR (dk DX10_around 11 rfl) rfl (Nat.le_refl _) (Nat.le_refl _) (⟨rfl, rfl⟩)
    · refine wp_iload_n hX (dk DX10_around 7 rfl) rfl ?_
      refine wp_iconst (v := 1) hX (dk DX10_around 8 rfl) (by decide) ?_
      refine wp_icmp_le (tgt := 22) hX (dk DX10_around 9 rfl) (by decide) (fun h17 => ?_) (fun h17 => ?_)
      · exact absurd ⟨jin_ex (by omega) h8, by obtain ⟨w, h1, h2⟩ := rg_le2 (k := 1) (by decide) h12 h17; exact ⟨w, by omega, h2⟩⟩ h
      · refine wp_iconst (v := -1) hX (dk DX10_around 10 rfl) (by decide) ?_
        exact wp_ireturn hX hR (dk DX10_around 11 rfl) rfl (Nat.le_refl _) (Nat.le_refl _) (⟨rfl, rfl⟩)
theorem t_around1 (d : Nat) (sw : Bool) (f : Nat → Nat → Int32) (g : Nat → Nat → Int64) (n i w : Nat) (hn : f 1 4 = nI n) (hn10 : n ≤ 10) (hi : i < n) (hw : w < 2) : CT (d + 110) 0 0 iX10_around [.ref 0, .int (nI i), .int (nI w)] (S sw f g) (rdC g f (if w = 0 then jbs (fun k => jbit (f 4 k) (nI i)) n else f 4 i)) := by
  refine CT.rdC ?_
  refine CT.of rfl (Nat.le_of_ble_eq_true rfl) (fun X hX hR hN _ => ?_)
  have hX : Good X RX10 cX10_around (d + 110) 0 0 := hX
  have hN : x_nl X = 3 := hN
  show WP X 0 0 0 [_, _, _] [] _
  refine wp_aload_n hX (dk DX10_around 0 rfl) rfl ?_
  refine w_getr hX flX10_10 (dk DX10_around 1 rfl) rfl rfl ?_
  refine wp_iload_n hX (dk DX10_around 2 rfl) rfl ?_
  refine w_callV (As := [_]) lkX10_104 hX (dk DX10_around 3 rfl) rfl rfl (by decide) hN (k_has (d + 109) sw f g (nI i)) ?_
  show WP _ _ _ 8 [_, _, _] [_] _
  rw [hn, jin_1 (by omega) hi rfl]
  refine wp_if_eq (tgt := 20) hX (dk DX10_around 4 rfl) (by decide) (fun h_ => absurd h_ (by decide)) (fun _ => ?_)
  refine wp_iload_n hX (dk DX10_around 5 rfl) rfl ?_
  refine wp_if_lt (tgt := 20) hX (dk DX10_around 6 rfl) (by decide) (fun h_ => absurd h_ (nI_pos (by omega))) (fun _ => ?_)
  refine wp_iload_n hX (dk DX10_around 7 rfl) rfl ?_
  refine wp_iconst (v := 1) hX (dk DX10_around 8 rfl) (by decide) ?_
  refine wp_icmp_le (tgt := 22) hX (dk DX10_around 9 rfl) (by decide) (fun _ => ?_) (fun h_ => absurd (nI_le (b := 1) (by omega) (by omega)) h_)
  refine wp_iload_n hX (dk DX10_around 12 rfl) rfl ?_
  refine wp_if_ne (tgt := 37) hX (dk DX10_around 13 rfl) (by decide) (fun h23 => ?_) (fun h23 => ?_)
  · refine wp_aload_n hX (dk DX10_around 19 rfl) rfl ?_
    refine w_getr hX flX10_10 (dk DX10_around 20 rfl) rfl rfl ?_
    refine wp_iload_n hX (dk DX10_around 21 rfl) rfl ?_
    refine w_callV (As := [_]) lkX10_191 hX (dk DX10_around 22 rfl) rfl rfl (by decide) hN (k_outOf (d + 109) sw f g i (by omega)) ?_
    show WP _ _ _ 45 [_, _, _] [_] _
    exact wp_ireturn hX hR (dk DX10_around 23 rfl) rfl (Nat.le_refl _) (Nat.le_refl _) (⟨by simp only [nIz (show w < 2 ^ 31 by omega)] at h23; simp [h23], rfl⟩)
  · refine wp_aload_n hX (dk DX10_around 14 rfl) rfl ?_
    refine w_getr hX flX10_10 (dk DX10_around 15 rfl) rfl rfl ?_
    refine wp_iload_n hX (dk DX10_around 16 rfl) rfl ?_
    refine w_callV (As := [_]) lkX10_198 hX (dk DX10_around 17 rfl) rfl rfl (by decide) hN (k_above (d + 108) sw f g n (nI i) hn hn10) ?_
    show WP _ _ _ 34 [_, _, _] [_] _
    refine wp_goto (tgt := 45) hX (dk DX10_around 18 rfl) (by decide) ?_
    exact wp_ireturn hX hR (dk DX10_around 23 rfl) rfl (Nat.le_refl _) (Nat.le_refl _) (⟨by simp only [nIz (show w < 2 ^ 31 by omega)] at h23; simp [h23], rfl⟩)
/-- what all of a set have in common, those below k asked -/
def jcom (B : Nat → Int32) (a s : Int32) : Nat → Int32
  | 0 => a
  | k + 1 => if jb s k = 0 then jcom B a s k else jcom B a s k &&& B k
theorem t_common0 (d : Nat) (sw : Bool) (f : Nat → Nat → Int32) (g : Nat → Nat → Int64) (n : Nat) (x : Int32) (hn : f 1 4 = nI n) (hn10 : n ≤ 10) (h : ¬ (¬ x < 0 ∧ x &&& (jall (nI n) ^^^ (-1)) = 0)) : CT (d + 110) 0 0 iX10_common [.ref 0, .int x] (S sw f g) (rdC g f (-1)) := by
  refine CT.rdC ?_
  refine CT.of rfl (Nat.le_of_ble_eq_true rfl) (fun X hX hR hN _ => ?_)
  have hX : Good X RX10 cX10_common (d + 110) 0 0 := hX
  have hN : x_nl X = 4 := hN
  show WP X 0 0 0 [_, _, _, _] [] _
  refine wp_iload_n hX (dk DX10_common 0 rfl) rfl ?_
  refine wp_if_lt (tgt := 18) hX (dk DX10_common 1 rfl) (by decide) (fun h1 => ?_) (fun h1 => ?_)
  · refine wp_iconst (v := -1) hX (dk DX10_common 10 rfl) (by decide) ?_
    exact wp_ireturn hX hR (dk DX10_common 11 rfl) rfl (Nat.le_refl _) (Nat.le_refl _) (⟨rfl, rfl⟩)
  · refine wp_iload_n hX (dk DX10_common 2 rfl) rfl ?_
    refine wp_aload_n hX (dk DX10_common 3 rfl) rfl ?_
    refine w_getr hX flX10_10 (dk DX10_common 4 rfl) rfl rfl ?_
    refine w_callV (As := []) lkX10_201 hX (dk DX10_common 5 rfl) rfl rfl (by simp [Value.category]) hN (k_all (d + 109) sw f g) ?_
    show WP _ _ _ 12 [_, _, _, _] [_, _] _
    rw [hn]
    refine wp_iconst (v := -1) hX (dk DX10_common 6 rfl) (by decide) ?_
    refine wp_ixor hX (dk DX10_common 7 rfl) ?_
    refine wp_iand hX (dk DX10_common 8 rfl) ?_
    refine wp_if_eq (tgt := 20) hX (dk DX10_common 9 rfl) (by decide) (fun h15 => ?_) (fun h15 => ?_)
    · exact absurd ⟨h1, h15⟩ h
    · refine wp_iconst (v := -1) hX (dk DX10_common 10 rfl) (by decide) ?_
      exact wp_ireturn hX hR (dk DX10_common 11 rfl) rfl (Nat.le_refl _) (Nat.le_refl _) (⟨rfl, rfl⟩)
theorem t_common1 (d : Nat) (sw : Bool) (f : Nat → Nat → Int32) (g : Nat → Nat → Int64) (n : Nat) (x : Int32) (hn : f 1 4 = nI n) (hn10 : n ≤ 10) (h : ¬ x < 0 ∧ x &&& (jall (nI n) ^^^ (-1)) = 0) : CT (d + 110) 0 0 iX10_common [.ref 0, .int x] (S sw f g) (rdC g f (jcom (f 4) (jall (nI n)) x 10)) := by
  refine CT.rdC ?_
  refine CT.of rfl (Nat.le_of_ble_eq_true rfl) (fun X hX hR hN _ => ?_)
  have hX : Good X RX10 cX10_common (d + 110) 0 0 := hX
  have hN : x_nl X = 4 := hN
  show WP X 0 0 0 [_, _, _, _] [] _
  have lo : ∀ (m i : Nat), i + m = 10 → WP X 0 0 30 [some (.ref 0), some (.int x), some (.int (jcom (f 4) (jall (nI n)) x i)), some (.int (nI i))] [] (S sw f g) := by
    intro m
    induction m with
    | zero =>
      intro i hi
      obtain rfl : i = 10 := by omega
      refine wp_iload_n hX (dk DX10_common 18 rfl) rfl ?_
      refine wp_bipush (v := 10) hX (dk DX10_common 19 rfl) (by decide) ?_
      refine wp_icmp_ge (tgt := 61) hX (dk DX10_common 20 rfl) (by decide) (fun _ => ?_) (fun h_ => absurd (by decide) h_)
      refine wp_iload_n hX (dk DX10_common 34 rfl) rfl ?_
      exact wp_ireturn hX hR (dk DX10_common 35 rfl) rfl (Nat.le_refl _) (Nat.le_refl _) (⟨rfl, rfl⟩)
    | succ m ih =>
      intro i hi
      refine wp_iload_n hX (dk DX10_common 18 rfl) rfl ?_
      refine wp_bipush (v := 10) hX (dk DX10_common 19 rfl) (by decide) ?_
      refine wp_icmp_ge (tgt := 61) hX (dk DX10_common 20 rfl) (by decide) (fun h_ => absurd h_ (nI_ge (b := 10) (by omega) (by omega))) (fun _ => ?_)
      refine wp_iload_n hX (dk DX10_common 21 rfl) rfl ?_
      refine wp_iload_n hX (dk DX10_common 22 rfl) rfl ?_
      refine w_callS (As := [_, _]) lkX10_194 hX (dk DX10_common 23 rfl) rfl (by decide) (k_holds (d + 109) x (nI i) _) ?_
      show WP _ _ _ 41 [_, _, _, _] [_] _
      refine wp_if_eq (tgt := 55) hX (dk DX10_common 24 rfl) (by decide) (fun h41 => ?_) (fun h41 => ?_)
      · refine wp_iinc hX (dk DX10_common 32 rfl) rfl (nI_inc _) rfl hN ?_
        show WP _ _ _ 58 [_, _, _, _] [] _
        refine wp_goto (tgt := 30) hX (dk DX10_common 33 rfl) (by decide) ?_
        have := ih (i + 1) (by omega)
        rw [jcom] at this
        first | rw [if_pos h41] at this; exact this | rw [if_neg h41] at this; exact this
      · refine wp_iload_n hX (dk DX10_common 25 rfl) rfl ?_
        refine wp_aload_n hX (dk DX10_common 26 rfl) rfl ?_
        refine w_getr hX flX10_10 (dk DX10_common 27 rfl) rfl rfl ?_
        refine wp_iload_n hX (dk DX10_common 28 rfl) rfl ?_
        refine w_callV (As := [_]) lkX10_191 hX (dk DX10_common 29 rfl) rfl rfl (by simp [Value.category]) hN (k_outOf (d + 109) sw f g i (by omega)) ?_
        show WP _ _ _ 53 [_, _, _, _] [_, _] _
        refine wp_iand hX (dk DX10_common 30 rfl) ?_
        refine wp_istore_n hX (dk DX10_common 31 rfl) rfl rfl hN (Nat.le_of_ble_eq_true rfl) ?_
        show WP _ _ _ 55 [_, _, _, _] [] _
        refine wp_iinc hX (dk DX10_common 32 rfl) rfl (nI_inc _) rfl hN ?_
        show WP _ _ _ 58 [_, _, _, _] [] _
        refine wp_goto (tgt := 30) hX (dk DX10_common 33 rfl) (by decide) ?_
        have := ih (i + 1) (by omega)
        rw [jcom] at this
        first | rw [if_pos h41] at this; exact this | rw [if_neg h41] at this; exact this
  refine wp_iload_n hX (dk DX10_common 0 rfl) rfl ?_
  refine wp_if_lt (tgt := 18) hX (dk DX10_common 1 rfl) (by decide) (fun h_ => absurd h_ (h.1)) (fun _ => ?_)
  refine wp_iload_n hX (dk DX10_common 2 rfl) rfl ?_
  refine wp_aload_n hX (dk DX10_common 3 rfl) rfl ?_
  refine w_getr hX flX10_10 (dk DX10_common 4 rfl) rfl rfl ?_
  refine w_callV (As := []) lkX10_201 hX (dk DX10_common 5 rfl) rfl rfl (by simp [Value.category]) hN (k_all (d + 109) sw f g) ?_
  show WP _ _ _ 12 [_, _, _, _] [_, _] _
  rw [hn]
  refine wp_iconst (v := -1) hX (dk DX10_common 6 rfl) (by decide) ?_
  refine wp_ixor hX (dk DX10_common 7 rfl) ?_
  refine wp_iand hX (dk DX10_common 8 rfl) ?_
  refine wp_if_eq (tgt := 20) hX (dk DX10_common 9 rfl) (by decide) (fun _ => ?_) (fun h_ => absurd (h.2) h_)
  refine wp_aload_n hX (dk DX10_common 12 rfl) rfl ?_
  refine w_getr hX flX10_10 (dk DX10_common 13 rfl) rfl rfl ?_
  refine w_callV (As := []) lkX10_201 hX (dk DX10_common 14 rfl) rfl rfl (by decide) hN (k_all (d + 109) sw f g) ?_
  show WP _ _ _ 27 [_, _, _, _] [_] _
  rw [hn]
  refine wp_istore_n hX (dk DX10_common 15 rfl) rfl rfl hN (Nat.le_of_ble_eq_true rfl) ?_
  show WP _ _ _ 28 [_, _, _, _] [] _
  refine wp_iconst (v := 0) hX (dk DX10_common 16 rfl) (by decide) ?_
  refine wp_istore_n hX (dk DX10_common 17 rfl) rfl rfl hN (Nat.le_of_ble_eq_true rfl) ?_
  show WP _ _ _ 30 [_, _, _, _] [] _
  exact lo 10 0 (by omega)
