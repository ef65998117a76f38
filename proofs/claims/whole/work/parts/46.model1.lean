/-! THE REFERENCE: ranges, shapes -/
theorem k_within (d : Nat) (x lo hi : Int32) (M : mM) : CT d 0 0 iX11_within [.int x, .int lo, .int hi] M (QR (some (.int (if ¬ x < lo ∧ ¬ hi < x then 1 else 0))) M) := by
  refine CT.of rfl (Nat.le_of_ble_eq_true rfl) (fun X hX hR hN _ => ?_)
  have hX : Good X RX11 cX11_within d 0 0 := hX
  have hN : x_nl X = 3 := hN
  show WP X 0 0 0 [_, _, _] [] _
  refine wp_iload_n hX (dk DX11_within 0 rfl) rfl ?_
  refine wp_iload_n hX (dk DX11_within 1 rfl) rfl ?_
  refine wp_icmp_lt (tgt := 14) hX (dk DX11_within 2 rfl) (by decide) (fun h2 => ?_) (fun h2 => ?_)
  · refine wp_iconst (v := 0) hX (dk DX11_within 8 rfl) (by decide) ?_
    exact wp_ireturn hX hR (dk DX11_within 9 rfl) rfl (Nat.le_refl _) (Nat.le_refl _) (⟨by simp only [h2, not_true, not_false_iff, and_true, true_and, and_false, false_and, if_true, if_false], rfl⟩)
  · refine wp_iload_n hX (dk DX11_within 3 rfl) rfl ?_
    refine wp_iload_n hX (dk DX11_within 4 rfl) rfl ?_
    refine wp_icmp_gt (tgt := 14) hX (dk DX11_within 5 rfl) (by decide) (fun h7 => ?_) (fun h7 => ?_)
    · refine wp_iconst (v := 0) hX (dk DX11_within 8 rfl) (by decide) ?_
      exact wp_ireturn hX hR (dk DX11_within 9 rfl) rfl (Nat.le_refl _) (Nat.le_refl _) (⟨by simp only [h2, h7, not_true, not_false_iff, and_true, true_and, and_false, false_and, if_true, if_false], rfl⟩)
    · refine wp_iconst (v := 1) hX (dk DX11_within 6 rfl) (by decide) ?_
      refine wp_goto (tgt := 15) hX (dk DX11_within 7 rfl) (by decide) ?_
      exact wp_ireturn hX hR (dk DX11_within 9 rfl) rfl (Nat.le_refl _) (Nat.le_refl _) (⟨by simp only [h2, h7, not_true, not_false_iff, and_true, true_and, and_false, false_and, if_true, if_false], rfl⟩)
theorem rg_pred {x : Int32} {n : Nat} (hn : n < 2 ^ 31) (h : ¬ x < 0) (h2 : ¬ nI n - 1 < x) : ∃ i, i < n ∧ x = nI i := by
  obtain ⟨j, hj, rfl⟩ := nI_of h
  match n, hn, h2 with
  | 0, _, h2 => exact absurd (show nI 0 - 1 < nI j from Int32.lt_of_lt_of_le (show nI 0 - 1 < 0 by decide) (nI_pos' hj)) h2
  | n + 1, hn, h2 =>
    rw [nI_pred] at h2
    exact ⟨j, Nat.lt_of_not_le (fun c => h2 (nI_lt c hj)), rfl⟩
theorem wi_1 {n i : Nat} (hn : n < 2 ^ 31) (hi : i < n) : (if ¬ nI i < 0 ∧ ¬ nI n - 1 < nI i then (1 : Int32) else 0) = 1 := by
  match n, hn, hi with
  | n + 1, hn, hi =>
    rw [nI_pred, if_pos ⟨nI_pos (by omega), nI_nlt (by omega) (by omega)⟩]
theorem wi_0 {n : Nat} {x : Int32} (hn : n < 2 ^ 31) (h : ¬ ∃ i, i < n ∧ x = nI i) : (if ¬ x < 0 ∧ ¬ nI n - 1 < x then (1 : Int32) else 0) = 0 := if_neg (fun q => h (rg_pred hn q.1 q.2))
/-- 0 to k -/
theorem wk_1 {k i : Nat} (hk : k < 2 ^ 31) (hi : i ≤ k) : (if ¬ nI i < 0 ∧ ¬ nI k < nI i then (1 : Int32) else 0) = 1 := if_pos ⟨nI_pos (by omega), nI_nlt (by omega) (by omega)⟩
theorem wk_0 {k : Nat} {x : Int32} (hk : k < 2 ^ 31) (h : ¬ ∃ i, i ≤ k ∧ x = nI i) : (if ¬ x < 0 ∧ ¬ nI k < x then (1 : Int32) else 0) = 0 := if_neg (fun q => h (rg_le hk q.1 q.2))
theorem k_mF1 (d : Nat) (sw : Bool) (f : Nat → Nat → Int32) (g : Nat → Nat → Int64) (n i : Nat) (hn : f 81 0 = nI n) (hn10 : n ≤ 10) (hi : i < n) : CT (d + 1) 0 0 iX11_isFigure [.ref 81, .int (nI i)] (S sw f g) (QR (some (.int 1)) (S sw f g)) := by
  refine CT.of rfl (Nat.le_of_ble_eq_true rfl) (fun X hX hR hN _ => ?_)
  have hX : Good X RX11 cX11_isFigure (d + 1) 0 0 := hX
  have hN : x_nl X = 2 := hN
  show WP X 0 0 0 [_, _] [] _
  refine wp_iload_n hX (dk DX11_isFigure 0 rfl) rfl ?_
  refine wp_iconst (v := 0) hX (dk DX11_isFigure 1 rfl) (by decide) ?_
  refine wp_aload_n hX (dk DX11_isFigure 2 rfl) rfl ?_
  refine w_geti hX flX11_112 (dk DX11_isFigure 3 rfl) (by decide) rfl ?_
  refine wp_iconst (v := 1) hX (dk DX11_isFigure 4 rfl) (by decide) ?_
  refine wp_isub hX (dk DX11_isFigure 5 rfl) ?_
  refine w_callS (As := [_, _, _]) lkX11_116 hX (dk DX11_isFigure 6 rfl) rfl (by decide) (k_within d _ _ _ _) ?_
  show WP _ _ _ 11 [_, _] [_] _
  rw [hn, wi_1 (by omega) hi]
  exact wp_ireturn hX hR (dk DX11_isFigure 7 rfl) rfl (Nat.le_refl _) (Nat.le_refl _) (⟨rfl, rfl⟩)
theorem k_mF0 (d : Nat) (sw : Bool) (f : Nat → Nat → Int32) (g : Nat → Nat → Int64) (n : Nat) (x : Int32) (hn : f 81 0 = nI n) (hn10 : n ≤ 10) (h : ¬ ∃ i, i < n ∧ x = nI i) : CT (d + 1) 0 0 iX11_isFigure [.ref 81, .int x] (S sw f g) (QR (some (.int 0)) (S sw f g)) := by
  refine CT.of rfl (Nat.le_of_ble_eq_true rfl) (fun X hX hR hN _ => ?_)
  have hX : Good X RX11 cX11_isFigure (d + 1) 0 0 := hX
  have hN : x_nl X = 2 := hN
  show WP X 0 0 0 [_, _] [] _
  refine wp_iload_n hX (dk DX11_isFigure 0 rfl) rfl ?_
  refine wp_iconst (v := 0) hX (dk DX11_isFigure 1 rfl) (by decide) ?_
  refine wp_aload_n hX (dk DX11_isFigure 2 rfl) rfl ?_
  refine w_geti hX flX11_112 (dk DX11_isFigure 3 rfl) (by decide) rfl ?_
  refine wp_iconst (v := 1) hX (dk DX11_isFigure 4 rfl) (by decide) ?_
  refine wp_isub hX (dk DX11_isFigure 5 rfl) ?_
  refine w_callS (As := [_, _, _]) lkX11_116 hX (dk DX11_isFigure 6 rfl) rfl (by decide) (k_within d _ _ _ _) ?_
  show WP _ _ _ 11 [_, _] [_] _
  rw [hn, wi_0 (by omega) h]
  exact wp_ireturn hX hR (dk DX11_isFigure 7 rfl) rfl (Nat.le_refl _) (Nat.le_refl _) (⟨rfl, rfl⟩)
theorem k_mB1 (d : Nat) (sw : Bool) (f : Nat → Nat → Int32) (g : Nat → Nat → Int64) (n i : Nat) (hn : f 81 5 = nI n) (hn6 : n ≤ 6) (hi : i < n) : CT (d + 1) 0 0 iX11_isBlock [.ref 81, .int (nI i)] (S sw f g) (QR (some (.int 1)) (S sw f g)) := by
  refine CT.of rfl (Nat.le_of_ble_eq_true rfl) (fun X hX hR hN _ => ?_)
  have hX : Good X RX11 cX11_isBlock (d + 1) 0 0 := hX
  have hN : x_nl X = 2 := hN
  show WP X 0 0 0 [_, _] [] _
  refine wp_iload_n hX (dk DX11_isBlock 0 rfl) rfl ?_
  refine wp_iconst (v := 0) hX (dk DX11_isBlock 1 rfl) (by decide) ?_
  refine wp_aload_n hX (dk DX11_isBlock 2 rfl) rfl ?_
  refine w_geti hX flX11_120 (dk DX11_isBlock 3 rfl) (by decide) rfl ?_
  refine wp_iconst (v := 1) hX (dk DX11_isBlock 4 rfl) (by decide) ?_
  refine wp_isub hX (dk DX11_isBlock 5 rfl) ?_
  refine w_callS (As := [_, _, _]) lkX11_116 hX (dk DX11_isBlock 6 rfl) rfl (by decide) (k_within d _ _ _ _) ?_
  show WP _ _ _ 11 [_, _] [_] _
  rw [hn, wi_1 (by omega) hi]
  exact wp_ireturn hX hR (dk DX11_isBlock 7 rfl) rfl (Nat.le_refl _) (Nat.le_refl _) (⟨rfl, rfl⟩)
theorem k_mB0 (d : Nat) (sw : Bool) (f : Nat → Nat → Int32) (g : Nat → Nat → Int64) (n : Nat) (x : Int32) (hn : f 81 5 = nI n) (hn6 : n ≤ 6) (h : ¬ ∃ i, i < n ∧ x = nI i) : CT (d + 1) 0 0 iX11_isBlock [.ref 81, .int x] (S sw f g) (QR (some (.int 0)) (S sw f g)) := by
  refine CT.of rfl (Nat.le_of_ble_eq_true rfl) (fun X hX hR hN _ => ?_)
  have hX : Good X RX11 cX11_isBlock (d + 1) 0 0 := hX
  have hN : x_nl X = 2 := hN
  show WP X 0 0 0 [_, _] [] _
  refine wp_iload_n hX (dk DX11_isBlock 0 rfl) rfl ?_
  refine wp_iconst (v := 0) hX (dk DX11_isBlock 1 rfl) (by decide) ?_
  refine wp_aload_n hX (dk DX11_isBlock 2 rfl) rfl ?_
  refine w_geti hX flX11_120 (dk DX11_isBlock 3 rfl) (by decide) rfl ?_
  refine wp_iconst (v := 1) hX (dk DX11_isBlock 4 rfl) (by decide) ?_
  refine wp_isub hX (dk DX11_isBlock 5 rfl) ?_
  refine w_callS (As := [_, _, _]) lkX11_116 hX (dk DX11_isBlock 6 rfl) rfl (by decide) (k_within d _ _ _ _) ?_
  show WP _ _ _ 11 [_, _] [_] _
  rw [hn, wi_0 (by omega) h]
  exact wp_ireturn hX hR (dk DX11_isBlock 7 rfl) rfl (Nat.le_refl _) (Nat.le_refl _) (⟨rfl, rfl⟩)
theorem bf_ex2 {x : Int32} {P Q : Nat → Prop} (h : ¬ x < 0) (h1 : ∃ b, b < 1000 ∧ P b ∧ x / 10 = nI b) (h2 : ∃ i, i < 1000 ∧ Q i ∧ x - x / 10 * 10 = nI i) : ∃ b i, P b ∧ Q i ∧ i < 10 ∧ x = nI (10 * b + i) := by
  obtain ⟨j, hj, rfl⟩ := nI_of h
  obtain ⟨b, b1, b2, e1⟩ := h1
  obtain ⟨i, i1, i2, e2⟩ := h2
  rw [show (10 : Int32) = nI 10 from rfl, pk_div hj (by decide) (by decide)] at e1
  rw [show (10 : Int32) = nI 10 from rfl, pk_rem hj (by decide) (by decide)] at e2
  have g1 := (nI_eq (by omega) (by omega)).mp e1
  have g2 := (nI_eq (by omega) (by omega)).mp e2
  exact ⟨b, i, b2, i2, by omega, congrArg nI (by omega)⟩
theorem k_mI1 (d : Nat) (sw : Bool) (f : Nat → Nat → Int32) (g : Nat → Nat → Int64) (n m b i : Nat) (hn : f 81 0 = nI n) (hn10 : n ≤ 10) (hm : f 81 5 = nI m) (hm6 : m ≤ 6) (hb : b < m) (hi : i < n) : CT (d + 2) 0 0 iX11_isIn [.ref 81, .int (nI (10 * b + i))] (S sw f g) (QR (some (.int 1)) (S sw f g)) := by
  refine CT.of rfl (Nat.le_of_ble_eq_true rfl) (fun X hX hR hN _ => ?_)
  have hX : Good X RX11 cX11_isIn (d + 2) 0 0 := hX
  have hN : x_nl X = 2 := hN
  show WP X 0 0 0 [_, _] [] _
  refine wp_iload_n hX (dk DX11_isIn 0 rfl) rfl ?_
  refine wp_if_lt (tgt := 30) hX (dk DX11_isIn 1 rfl) (by decide) (fun h_ => absurd h_ (nI_pos (by omega))) (fun _ => ?_)
  refine wp_aload_n hX (dk DX11_isIn 2 rfl) rfl ?_
  refine wp_iload_n hX (dk DX11_isIn 3 rfl) rfl ?_
  refine wp_bipush (v := 10) hX (dk DX11_isIn 4 rfl) (by decide) ?_
  refine wp_idiv hX (dk DX11_isIn 5 rfl) (by decide) ?_
  rw [dv10 (by omega) (by omega)]
  refine w_callV (As := [_]) lkX11_123 hX (dk DX11_isIn 6 rfl) rfl rfl (by decide) hN (k_mB1 d sw f g m b hm hm6 hb) ?_
  show WP _ _ _ 12 [_, _] [_] _
  refine wp_if_eq (tgt := 30) hX (dk DX11_isIn 7 rfl) (by decide) (fun h_ => absurd h_ (by decide)) (fun _ => ?_)
  refine wp_aload_n hX (dk DX11_isIn 8 rfl) rfl ?_
  refine wp_iload_n hX (dk DX11_isIn 9 rfl) rfl ?_
  refine wp_bipush (v := 10) hX (dk DX11_isIn 10 rfl) (by decide) ?_
  refine wp_irem hX (dk DX11_isIn 11 rfl) (by decide) ?_
  rw [show nI (10 * b + i) - nI (10 * b + i) / 10 * 10 = nI i from rm10 (by omega) (by omega)]
  refine w_callV (As := [_]) lkX11_127 hX (dk DX11_isIn 12 rfl) rfl rfl (by decide) hN (k_mF1 d sw f g n i hn hn10 hi) ?_
  show WP _ _ _ 23 [_, _] [_] _
  refine wp_if_eq (tgt := 30) hX (dk DX11_isIn 13 rfl) (by decide) (fun h_ => absurd h_ (by decide)) (fun _ => ?_)
  refine wp_iconst (v := 1) hX (dk DX11_isIn 14 rfl) (by decide) ?_
  refine wp_goto (tgt := 31) hX (dk DX11_isIn 15 rfl) (by decide) ?_
  exact wp_ireturn hX hR (dk DX11_isIn 17 rfl) rfl (Nat.le_refl _) (Nat.le_refl _) (⟨rfl, rfl⟩)
theorem k_mI0 (d : Nat) (sw : Bool) (f : Nat → Nat → Int32) (g : Nat → Nat → Int64) (n m : Nat) (x : Int32) (hn : f 81 0 = nI n) (hn10 : n ≤ 10) (hm : f 81 5 = nI m) (hm6 : m ≤ 6) (h : ¬ ∃ b i, b < m ∧ i < n ∧ i < 10 ∧ x = nI (10 * b + i)) : CT (d + 2) 0 0 iX11_isIn [.ref 81, .int x] (S sw f g) (QR (some (.int 0)) (S sw f g)) := by
  refine CT.of rfl (Nat.le_of_ble_eq_true rfl) (fun X hX hR hN _ => ?_)
  have hX : Good X RX11 cX11_isIn (d + 2) 0 0 := hX
  have hN : x_nl X = 2 := hN
  show WP X 0 0 0 [_, _] [] _
  by_cases c1 : ∃ b, b < m ∧ x / 10 = nI b
  · obtain ⟨b, hb, e1⟩ := c1
    by_cases c2 : ∃ i, i < n ∧ x - x / 10 * 10 = nI i
    · obtain ⟨i, hi, e2⟩ := c2
      refine wp_iload_n hX (dk DX11_isIn 0 rfl) rfl ?_
      refine wp_if_lt (tgt := 30) hX (dk DX11_isIn 1 rfl) (by decide) (fun h1 => ?_) (fun h1 => ?_)
      · refine wp_iconst (v := 0) hX (dk DX11_isIn 16 rfl) (by decide) ?_
        exact wp_ireturn hX hR (dk DX11_isIn 17 rfl) rfl (Nat.le_refl _) (Nat.le_refl _) (⟨rfl, rfl⟩)
      · exact absurd (bf_ex2 (P := fun b => b < m) (Q := fun i => i < n) h1 ⟨b, by omega, hb, e1⟩ ⟨i, by omega, hi, e2⟩) h
    · refine wp_iload_n hX (dk DX11_isIn 0 rfl) rfl ?_
      refine wp_if_lt (tgt := 30) hX (dk DX11_isIn 1 rfl) (by decide) (fun h1 => ?_) (fun h1 => ?_)
      · refine wp_iconst (v := 0) hX (dk DX11_isIn 16 rfl) (by decide) ?_
        exact wp_ireturn hX hR (dk DX11_isIn 17 rfl) rfl (Nat.le_refl _) (Nat.le_refl _) (⟨rfl, rfl⟩)
      · refine wp_aload_n hX (dk DX11_isIn 2 rfl) rfl ?_
        refine wp_iload_n hX (dk DX11_isIn 3 rfl) rfl ?_
        refine wp_bipush (v := 10) hX (dk DX11_isIn 4 rfl) (by decide) ?_
        refine wp_idiv hX (dk DX11_isIn 5 rfl) (by decide) ?_
        rw [e1]
        refine w_callV (As := [_]) lkX11_123 hX (dk DX11_isIn 6 rfl) rfl rfl (by decide) hN (k_mB1 d sw f g m b hm hm6 hb) ?_
        show WP _ _ _ 12 [_, _] [_] _
        refine wp_if_eq (tgt := 30) hX (dk DX11_isIn 7 rfl) (by decide) (fun h_ => absurd h_ (by decide)) (fun _ => ?_)
        refine wp_aload_n hX (dk DX11_isIn 8 rfl) rfl ?_
        refine wp_iload_n hX (dk DX11_isIn 9 rfl) rfl ?_
        refine wp_bipush (v := 10) hX (dk DX11_isIn 10 rfl) (by decide) ?_
        refine wp_irem hX (dk DX11_isIn 11 rfl) (by decide) ?_
        refine w_callV (As := [_]) lkX11_127 hX (dk DX11_isIn 12 rfl) rfl rfl (by decide) hN (k_mF0 d sw f g n _ hn hn10 c2) ?_
        show WP _ _ _ 23 [_, _] [_] _
        refine wp_if_eq (tgt := 30) hX (dk DX11_isIn 13 rfl) (by decide) (fun _ => ?_) (fun h_ => absurd (rfl) h_)
        refine wp_iconst (v := 0) hX (dk DX11_isIn 16 rfl) (by decide) ?_
        exact wp_ireturn hX hR (dk DX11_isIn 17 rfl) rfl (Nat.le_refl _) (Nat.le_refl _) (⟨rfl, rfl⟩)
  · refine wp_iload_n hX (dk DX11_isIn 0 rfl) rfl ?_
    refine wp_if_lt (tgt := 30) hX (dk DX11_isIn 1 rfl) (by decide) (fun h1 => ?_) (fun h1 => ?_)
    · refine wp_iconst (v := 0) hX (dk DX11_isIn 16 rfl) (by decide) ?_
      exact wp_ireturn hX hR (dk DX11_isIn 17 rfl) rfl (Nat.le_refl _) (Nat.le_refl _) (⟨rfl, rfl⟩)
    · refine wp_aload_n hX (dk DX11_isIn 2 rfl) rfl ?_
      refine wp_iload_n hX (dk DX11_isIn 3 rfl) rfl ?_
      refine wp_bipush (v := 10) hX (dk DX11_isIn 4 rfl) (by decide) ?_
      refine wp_idiv hX (dk DX11_isIn 5 rfl) (by decide) ?_
      refine w_callV (As := [_]) lkX11_123 hX (dk DX11_isIn 6 rfl) rfl rfl (by decide) hN (k_mB0 d sw f g m _ hm hm6 c1) ?_
      show WP _ _ _ 12 [_, _] [_] _
      refine wp_if_eq (tgt := 30) hX (dk DX11_isIn 7 rfl) (by decide) (fun _ => ?_) (fun h_ => absurd (rfl) h_)
      refine wp_iconst (v := 0) hX (dk DX11_isIn 16 rfl) (by decide) ?_
      exact wp_ireturn hX hR (dk DX11_isIn 17 rfl) rfl (Nat.le_refl _) (Nat.le_refl _) (⟨rfl, rfl⟩)
theorem k_mT1 (d : Nat) (sw : Bool) (f : Nat → Nat → Int32) (g : Nat → Nat → Int64) (n a b : Nat) (hn : f 81 0 = nI n) (hn10 : n ≤ 10) (ha : a < n) (hb : b < n) (hab : a ≠ b) : CT (d + 2) 0 0 iX11_areTwo [.ref 81, .int (nI (10 * a + b))] (S sw f g) (QR (some (.int 1)) (S sw f g)) := by
  have er : nI (10 * a + b) - nI (10 * a + b) / 10 * 10 = nI b := rm10 (by omega) (by omega)
  refine CT.of rfl (Nat.le_of_ble_eq_true rfl) (fun X hX hR hN _ => ?_)
  have hX : Good X RX11 cX11_areTwo (d + 2) 0 0 := hX
  have hN : x_nl X = 2 := hN
  show WP X 0 0 0 [_, _] [] _
  refine wp_iload_n hX (dk DX11_areTwo 0 rfl) rfl ?_
  refine wp_if_lt (tgt := 41) hX (dk DX11_areTwo 1 rfl) (by decide) (fun h_ => absurd h_ (nI_pos (by omega))) (fun _ => ?_)
  refine wp_aload_n hX (dk DX11_areTwo 2 rfl) rfl ?_
  refine wp_iload_n hX (dk DX11_areTwo 3 rfl) rfl ?_
  refine wp_bipush (v := 10) hX (dk DX11_areTwo 4 rfl) (by decide) ?_
  refine wp_idiv hX (dk DX11_areTwo 5 rfl) (by decide) ?_
  rw [dv10 (by omega) (by omega)]
  refine w_callV (As := [_]) lkX11_127 hX (dk DX11_areTwo 6 rfl) rfl rfl (by decide) hN (k_mF1 d sw f g n a hn hn10 ha) ?_
  show WP _ _ _ 12 [_, _] [_] _
  refine wp_if_eq (tgt := 41) hX (dk DX11_areTwo 7 rfl) (by decide) (fun h_ => absurd h_ (by decide)) (fun _ => ?_)
  refine wp_aload_n hX (dk DX11_areTwo 8 rfl) rfl ?_
  refine wp_iload_n hX (dk DX11_areTwo 9 rfl) rfl ?_
  refine wp_bipush (v := 10) hX (dk DX11_areTwo 10 rfl) (by decide) ?_
  refine wp_irem hX (dk DX11_areTwo 11 rfl) (by decide) ?_
  rw [er]
  refine w_callV (As := [_]) lkX11_127 hX (dk DX11_areTwo 12 rfl) rfl rfl (by decide) hN (k_mF1 d sw f g n b hn hn10 hb) ?_
  show WP _ _ _ 23 [_, _] [_] _
  refine wp_if_eq (tgt := 41) hX (dk DX11_areTwo 13 rfl) (by decide) (fun h_ => absurd h_ (by decide)) (fun _ => ?_)
  refine wp_iload_n hX (dk DX11_areTwo 14 rfl) rfl ?_
  refine wp_bipush (v := 10) hX (dk DX11_areTwo 15 rfl) (by decide) ?_
  refine wp_idiv hX (dk DX11_areTwo 16 rfl) (by decide) ?_
  refine wp_iload_n hX (dk DX11_areTwo 17 rfl) rfl ?_
  refine wp_bipush (v := 10) hX (dk DX11_areTwo 18 rfl) (by decide) ?_
  refine wp_irem hX (dk DX11_areTwo 19 rfl) (by decide) ?_
  rw [er, dv10 (by omega) (by omega)]
  refine wp_icmp_eq (tgt := 41) hX (dk DX11_areTwo 20 rfl) (by decide) (fun h_ => absurd h_ (fun q => hab ((nI_eq (by omega) (by omega)).mp q))) (fun _ => ?_)
  refine wp_iconst (v := 1) hX (dk DX11_areTwo 21 rfl) (by decide) ?_
  refine wp_goto (tgt := 42) hX (dk DX11_areTwo 22 rfl) (by decide) ?_
  exact wp_ireturn hX hR (dk DX11_areTwo 24 rfl) rfl (Nat.le_refl _) (Nat.le_refl _) (⟨rfl, rfl⟩)
theorem k_mT0 (d : Nat) (sw : Bool) (f : Nat → Nat → Int32) (g : Nat → Nat → Int64) (n : Nat) (x : Int32) (hn : f 81 0 = nI n) (hn10 : n ≤ 10) (h : ¬ two n x) : CT (d + 2) 0 0 iX11_areTwo [.ref 81, .int x] (S sw f g) (QR (some (.int 0)) (S sw f g)) := by
  refine CT.of rfl (Nat.le_of_ble_eq_true rfl) (fun X hX hR hN _ => ?_)
  have hX : Good X RX11 cX11_areTwo (d + 2) 0 0 := hX
  have hN : x_nl X = 2 := hN
  show WP X 0 0 0 [_, _] [] _
  by_cases c1 : ∃ b, b < n ∧ x / 10 = nI b
  · obtain ⟨b, hb, e1⟩ := c1
    by_cases c2 : ∃ i, i < n ∧ x - x / 10 * 10 = nI i
    · obtain ⟨i, hi, e2⟩ := c2
      refine wp_iload_n hX (dk DX11_areTwo 0 rfl) rfl ?_
      refine wp_if_lt (tgt := 41) hX (dk DX11_areTwo 1 rfl) (by decide) (fun h1 => ?_) (fun h1 => ?_)
      · refine wp_iconst (v := 0) hX (dk DX11_areTwo 23 rfl) (by decide) ?_
        exact wp_ireturn hX hR (dk DX11_areTwo 24 rfl) rfl (Nat.le_refl _) (Nat.le_refl _) (⟨rfl, rfl⟩)
      · refine wp_aload_n hX (dk DX11_areTwo 2 rfl) rfl ?_
        refine wp_iload_n hX (dk DX11_areTwo 3 rfl) rfl ?_
        refine wp_bipush (v := 10) hX (dk DX11_areTwo 4 rfl) (by decide) ?_
        refine wp_idiv hX (dk DX11_areTwo 5 rfl) (by decide) ?_
        rw [e1]
        refine w_callV (As := [_]) lkX11_127 hX (dk DX11_areTwo 6 rfl) rfl rfl (by decide) hN (k_mF1 d sw f g n b hn hn10 hb) ?_
        show WP _ _ _ 12 [_, _] [_] _
        refine wp_if_eq (tgt := 41) hX (dk DX11_areTwo 7 rfl) (by decide) (fun h_ => absurd h_ (by decide)) (fun _ => ?_)
        refine wp_aload_n hX (dk DX11_areTwo 8 rfl) rfl ?_
        refine wp_iload_n hX (dk DX11_areTwo 9 rfl) rfl ?_
        refine wp_bipush (v := 10) hX (dk DX11_areTwo 10 rfl) (by decide) ?_
        refine wp_irem hX (dk DX11_areTwo 11 rfl) (by decide) ?_
        rw [show x - x / 10 * 10 = nI i from e2]
        refine w_callV (As := [_]) lkX11_127 hX (dk DX11_areTwo 12 rfl) rfl rfl (by decide) hN (k_mF1 d sw f g n i hn hn10 hi) ?_
        show WP _ _ _ 23 [_, _] [_] _
        refine wp_if_eq (tgt := 41) hX (dk DX11_areTwo 13 rfl) (by decide) (fun h_ => absurd h_ (by decide)) (fun _ => ?_)
        refine wp_iload_n hX (dk DX11_areTwo 14 rfl) rfl ?_
        refine wp_bipush (v := 10) hX (dk DX11_areTwo 15 rfl) (by decide) ?_
        refine wp_idiv hX (dk DX11_areTwo 16 rfl) (by decide) ?_
        refine wp_iload_n hX (dk DX11_areTwo 17 rfl) rfl ?_
        refine wp_bipush (v := 10) hX (dk DX11_areTwo 18 rfl) (by decide) ?_
        refine wp_irem hX (dk DX11_areTwo 19 rfl) (by decide) ?_
        refine wp_icmp_eq (tgt := 41) hX (dk DX11_areTwo 20 rfl) (by decide) (fun h34 => ?_) (fun h34 => ?_)
        · refine wp_iconst (v := 0) hX (dk DX11_areTwo 23 rfl) (by decide) ?_
          exact wp_ireturn hX hR (dk DX11_areTwo 24 rfl) rfl (Nat.le_refl _) (Nat.le_refl _) (⟨rfl, rfl⟩)
        · exact absurd (two_ex hn10 h1 (by rw [e1, jin_1 (by omega) hb rfl]; decide) (by rw [e2, jin_1 (by omega) hi rfl]; decide) h34) h
    · refine wp_iload_n hX (dk DX11_areTwo 0 rfl) rfl ?_
      refine wp_if_lt (tgt := 41) hX (dk DX11_areTwo 1 rfl) (by decide) (fun h1 => ?_) (fun h1 => ?_)
      · refine wp_iconst (v := 0) hX (dk DX11_areTwo 23 rfl) (by decide) ?_
        exact wp_ireturn hX hR (dk DX11_areTwo 24 rfl) rfl (Nat.le_refl _) (Nat.le_refl _) (⟨rfl, rfl⟩)
      · refine wp_aload_n hX (dk DX11_areTwo 2 rfl) rfl ?_
        refine wp_iload_n hX (dk DX11_areTwo 3 rfl) rfl ?_
        refine wp_bipush (v := 10) hX (dk DX11_areTwo 4 rfl) (by decide) ?_
        refine wp_idiv hX (dk DX11_areTwo 5 rfl) (by decide) ?_
        rw [e1]
        refine w_callV (As := [_]) lkX11_127 hX (dk DX11_areTwo 6 rfl) rfl rfl (by decide) hN (k_mF1 d sw f g n b hn hn10 hb) ?_
        show WP _ _ _ 12 [_, _] [_] _
        refine wp_if_eq (tgt := 41) hX (dk DX11_areTwo 7 rfl) (by decide) (fun h_ => absurd h_ (by decide)) (fun _ => ?_)
        refine wp_aload_n hX (dk DX11_areTwo 8 rfl) rfl ?_
        refine wp_iload_n hX (dk DX11_areTwo 9 rfl) rfl ?_
        refine wp_bipush (v := 10) hX (dk DX11_areTwo 10 rfl) (by decide) ?_
        refine wp_irem hX (dk DX11_areTwo 11 rfl) (by decide) ?_
        refine w_callV (As := [_]) lkX11_127 hX (dk DX11_areTwo 12 rfl) rfl rfl (by decide) hN (k_mF0 d sw f g n _ hn hn10 c2) ?_
        show WP _ _ _ 23 [_, _] [_] _
        refine wp_if_eq (tgt := 41) hX (dk DX11_areTwo 13 rfl) (by decide) (fun _ => ?_) (fun h_ => absurd (rfl) h_)
        refine wp_iconst (v := 0) hX (dk DX11_areTwo 23 rfl) (by decide) ?_
        exact wp_ireturn hX hR (dk DX11_areTwo 24 rfl) rfl (Nat.le_refl _) (Nat.le_refl _) (⟨rfl, rfl⟩)
  · refine wp_iload_n hX (dk DX11_areTwo 0 rfl) rfl ?_
    refine wp_if_lt (tgt := 41) hX (dk DX11_areTwo 1 rfl) (by decide) (fun h1 => ?_) (fun h1 => ?_)
    · refine wp_iconst (v := 0) hX (dk DX11_areTwo 23 rfl) (by decide) ?_
      exact wp_ireturn hX hR (dk DX11_areTwo 24 rfl) rfl (Nat.le_refl _) (Nat.le_refl _) (⟨rfl, rfl⟩)
    · refine wp_aload_n hX (dk DX11_areTwo 2 rfl) rfl ?_
      refine wp_iload_n hX (dk DX11_areTwo 3 rfl) rfl ?_
      refine wp_bipush (v := 10) hX (dk DX11_areTwo 4 rfl) (by decide) ?_
      refine wp_idiv hX (dk DX11_areTwo 5 rfl) (by decide) ?_
      refine w_callV (As := [_]) lkX11_127 hX (dk DX11_areTwo 6 rfl) rfl rfl (by decide) hN (k_mF0 d sw f g n _ hn hn10 c1) ?_
      show WP _ _ _ 12 [_, _] [_] _
      refine wp_if_eq (tgt := 41) hX (dk DX11_areTwo 7 rfl) (by decide) (fun _ => ?_) (fun h_ => absurd (rfl) h_)
      refine wp_iconst (v := 0) hX (dk DX11_areTwo 23 rfl) (by decide) ?_
      exact wp_ireturn hX hR (dk DX11_areTwo 24 rfl) rfl (Nat.le_refl _) (Nat.le_refl _) (⟨rfl, rfl⟩)
theorem k_mS1 (d : Nat) (sw : Bool) (f : Nat → Nat → Int32) (g : Nat → Nat → Int64) (x : Int32) (h : shp x) : CT (d + 1) 0 0 iX11_isShape [.int x] (S sw f g) (QR (some (.int 1)) (S sw f g)) := by
  obtain ⟨v, v0, v1, rfl⟩ := h
  refine CT.of rfl (Nat.le_of_ble_eq_true rfl) (fun X hX hR hN _ => ?_)
  have hX : Good X RX11 cX11_isShape (d + 1) 0 0 := hX
  have hN : x_nl X = 1 := hN
  show WP X 0 0 0 [_] [] _
  refine wp_iload_n hX (dk DX11_isShape 0 rfl) rfl ?_
  refine wp_iconst (v := 1) hX (dk DX11_isShape 1 rfl) (by decide) ?_
  refine wp_ldc hX (dk DX11_isShape 2 rfl) kcX11_130 ?_
  refine w_callS (As := [_, _, _]) lkX11_116 hX (dk DX11_isShape 3 rfl) rfl (by decide) (k_within d _ _ _ _) ?_
  show WP _ _ _ 7 [_] [_] _
  rw [k33, if_pos ⟨nI_nlt (b := 1) (by omega) (by omega), nI_nlt (by omega) (by omega)⟩]
  exact wp_ireturn hX hR (dk DX11_isShape 4 rfl) rfl (Nat.le_refl _) (Nat.le_refl _) (⟨rfl, rfl⟩)
theorem k_mS0 (d : Nat) (sw : Bool) (f : Nat → Nat → Int32) (g : Nat → Nat → Int64) (x : Int32) (h : ¬ shp x) : CT (d + 1) 0 0 iX11_isShape [.int x] (S sw f g) (QR (some (.int 0)) (S sw f g)) := by
  have key : ¬ (¬ x < 1 ∧ ¬ 33554431 < x) := fun q => h (shp_of (fun e => q.1 (Int32.lt_of_le_of_lt e (by decide))) q.2)
  refine CT.of rfl (Nat.le_of_ble_eq_true rfl) (fun X hX hR hN _ => ?_)
  have hX : Good X RX11 cX11_isShape (d + 1) 0 0 := hX
  have hN : x_nl X = 1 := hN
  show WP X 0 0 0 [_] [] _
  refine wp_iload_n hX (dk DX11_isShape 0 rfl) rfl ?_
  refine wp_iconst (v := 1) hX (dk DX11_isShape 1 rfl) (by decide) ?_
  refine wp_ldc hX (dk DX11_isShape 2 rfl) kcX11_130 ?_
  refine w_callS (As := [_, _, _]) lkX11_116 hX (dk DX11_isShape 3 rfl) rfl (by decide) (k_within d _ _ _ _) ?_
  show WP _ _ _ 7 [_] [_] _
  rw [if_neg key]
  exact wp_ireturn hX hR (dk DX11_isShape 4 rfl) rfl (Nat.le_refl _) (Nat.le_refl _) (⟨rfl, rfl⟩)
theorem k_mY1 (d : Nat) (sw : Bool) (f : Nat → Nat → Int32) (g : Nat → Nat → Int64) (y : Nat) (h : y < 100) : CT (d + 1) 0 0 iX11_isYear [.int (nI y)] (S sw f g) (QR (some (.int 1)) (S sw f g)) := by
  refine CT.of rfl (Nat.le_of_ble_eq_true rfl) (fun X hX hR hN _ => ?_)
  have hX : Good X RX11 cX11_isYear (d + 1) 0 0 := hX
  have hN : x_nl X = 1 := hN
  show WP X 0 0 0 [_] [] _
  refine wp_iload_n hX (dk DX11_isYear 0 rfl) rfl ?_
  refine wp_iconst (v := 0) hX (dk DX11_isYear 1 rfl) (by decide) ?_
  refine wp_bipush (v := 99) hX (dk DX11_isYear 2 rfl) (by decide) ?_
  refine w_callS (As := [_, _, _]) lkX11_116 hX (dk DX11_isYear 3 rfl) rfl (by decide) (k_within d _ _ _ _) ?_
  show WP _ _ _ 7 [_] [_] _
  rw [k99, wk_1 (by omega) (by omega)]
  exact wp_ireturn hX hR (dk DX11_isYear 4 rfl) rfl (Nat.le_refl _) (Nat.le_refl _) (⟨rfl, rfl⟩)
theorem k_mY0 (d : Nat) (sw : Bool) (f : Nat → Nat → Int32) (g : Nat → Nat → Int64) (x : Int32) (h : ¬ ∃ y, y < 100 ∧ x = nI y) : CT (d + 1) 0 0 iX11_isYear [.int x] (S sw f g) (QR (some (.int 0)) (S sw f g)) := by
  refine CT.of rfl (Nat.le_of_ble_eq_true rfl) (fun X hX hR hN _ => ?_)
  have hX : Good X RX11 cX11_isYear (d + 1) 0 0 := hX
  have hN : x_nl X = 1 := hN
  show WP X 0 0 0 [_] [] _
  refine wp_iload_n hX (dk DX11_isYear 0 rfl) rfl ?_
  refine wp_iconst (v := 0) hX (dk DX11_isYear 1 rfl) (by decide) ?_
  refine wp_bipush (v := 99) hX (dk DX11_isYear 2 rfl) (by decide) ?_
  refine w_callS (As := [_, _, _]) lkX11_116 hX (dk DX11_isYear 3 rfl) rfl (by decide) (k_within d _ _ _ _) ?_
  show WP _ _ _ 7 [_] [_] _
  rw [k99, wk_0 (by omega) (fun ⟨y, h1, h2⟩ => h ⟨y, by omega, h2⟩)]
  exact wp_ireturn hX hR (dk DX11_isYear 4 rfl) rfl (Nat.le_refl _) (Nat.le_refl _) (⟨rfl, rfl⟩)
theorem k_mH1 (d : Nat) (sw : Bool) (f : Nat → Nat → Int32) (g : Nat → Nat → Int64) (y : Nat) (h : y < 6) : CT (d + 1) 0 0 iX11_isShelf [.int (nI y)] (S sw f g) (QR (some (.int 1)) (S sw f g)) := by
  refine CT.of rfl (Nat.le_of_ble_eq_true rfl) (fun X hX hR hN _ => ?_)
  have hX : Good X RX11 cX11_isShelf (d + 1) 0 0 := hX
  have hN : x_nl X = 1 := hN
  show WP X 0 0 0 [_] [] _
  refine wp_iload_n hX (dk DX11_isShelf 0 rfl) rfl ?_
  refine wp_iconst (v := 0) hX (dk DX11_isShelf 1 rfl) (by decide) ?_
  refine wp_iconst (v := 5) hX (dk DX11_isShelf 2 rfl) (by decide) ?_
  refine w_callS (As := [_, _, _]) lkX11_116 hX (dk DX11_isShelf 3 rfl) rfl (by decide) (k_within d _ _ _ _) ?_
  show WP _ _ _ 6 [_] [_] _
  rw [show (5 : Int32) = nI 5 from rfl, wk_1 (by omega) (by omega)]
  exact wp_ireturn hX hR (dk DX11_isShelf 4 rfl) rfl (Nat.le_refl _) (Nat.le_refl _) (⟨rfl, rfl⟩)
theorem k_mH0 (d : Nat) (sw : Bool) (f : Nat → Nat → Int32) (g : Nat → Nat → Int64) (x : Int32) (h : ¬ ∃ y, y < 6 ∧ x = nI y) : CT (d + 1) 0 0 iX11_isShelf [.int x] (S sw f g) (QR (some (.int 0)) (S sw f g)) := by
  refine CT.of rfl (Nat.le_of_ble_eq_true rfl) (fun X hX hR hN _ => ?_)
  have hX : Good X RX11 cX11_isShelf (d + 1) 0 0 := hX
  have hN : x_nl X = 1 := hN
  show WP X 0 0 0 [_] [] _
  refine wp_iload_n hX (dk DX11_isShelf 0 rfl) rfl ?_
  refine wp_iconst (v := 0) hX (dk DX11_isShelf 1 rfl) (by decide) ?_
  refine wp_iconst (v := 5) hX (dk DX11_isShelf 2 rfl) (by decide) ?_
  refine w_callS (As := [_, _, _]) lkX11_116 hX (dk DX11_isShelf 3 rfl) rfl (by decide) (k_within d _ _ _ _) ?_
  show WP _ _ _ 6 [_] [_] _
  rw [show (5 : Int32) = nI 5 from rfl, wk_0 (by omega) (fun ⟨y, h1, h2⟩ => h ⟨y, by omega, h2⟩)]
  exact wp_ireturn hX hR (dk DX11_isShelf 4 rfl) rfl (Nat.le_refl _) (Nat.le_refl _) (⟨rfl, rfl⟩)
theorem k_mhas (d : Nat) (s i : Int32) (M : mM) : CT d 0 0 iX11_has [.int s, .int i] M (QR (some (.int (jbit s i))) M) := by
  refine CT.of rfl (Nat.le_of_ble_eq_true rfl) (fun X hX hR hN _ => ?_)
  have hX : Good X RX11 cX11_has d 0 0 := hX
  have hN : x_nl X = 2 := hN
  show WP X 0 0 0 [_, _] [] _
  refine wp_iload_n hX (dk DX11_has 0 rfl) rfl ?_
  refine wp_iload_n hX (dk DX11_has 1 rfl) rfl ?_
  refine wp_ishr hX (dk DX11_has 2 rfl) ?_
  refine wp_iconst (v := 1) hX (dk DX11_has 3 rfl) (by decide) ?_
  refine wp_iand hX (dk DX11_has 4 rfl) ?_
  refine wp_iconst (v := 1) hX (dk DX11_has 5 rfl) (by decide) ?_
  refine wp_icmp_ne (tgt := 13) hX (dk DX11_has 6 rfl) (by decide) (fun h6 => ?_) (fun h6 => ?_)
  · refine wp_iconst (v := 0) hX (dk DX11_has 9 rfl) (by decide) ?_
    exact wp_ireturn hX hR (dk DX11_has 10 rfl) rfl (Nat.le_refl _) (Nat.le_refl _) (⟨by unfold jbit; simp [h6], rfl⟩)
  · refine wp_iconst (v := 1) hX (dk DX11_has 7 rfl) (by decide) ?_
    refine wp_goto (tgt := 14) hX (dk DX11_has 8 rfl) (by decide) ?_
    exact wp_ireturn hX hR (dk DX11_has 10 rfl) rfl (Nat.le_refl _) (Nat.le_refl _) (⟨by unfold jbit; simp [h6], rfl⟩)
theorem k_mcells (d : Nat) (sw : Bool) (f : Nat → Nat → Int32) (g : Nat → Nat → Int64) (x : Int32) : CT (d + 1) 0 0 iX11_cells [.int x] (S sw f g) (QR (some (.int (jpc x))) (S sw f g)) := by
  refine CT.of rfl (Nat.le_of_ble_eq_true rfl) (fun X hX hR hN _ => ?_)
  have hX : Good X RX11 cX11_cells (d + 1) 0 0 := hX
  have hN : x_nl X = 1 := hN
  show WP X 0 0 0 [_] [] _
  refine wp_iload_n hX (dk DX11_cells 0 rfl) rfl ?_
  refine w_callS (As := [_]) lkX11_131 hX (dk DX11_cells 1 rfl) rfl (by decide) (k_bitCount d x _) ?_
  show WP _ _ _ 4 [_] [_] _
  exact wp_ireturn hX hR (dk DX11_cells 2 rfl) rfl (Nat.le_refl _) (Nat.le_refl _) (⟨rfl, rfl⟩)
theorem k_pushed (d : Nat) (sw : Bool) (f : Nat → Nat → Int32) (g : Nat → Nat → Int64) (s : Int32) (h : Sq s) (hn : Ne s) : CT d 0 0 iX11_pushed [.int s] (S sw f g) (QR (some (.int (jcor s))) (S sw f g)) := by
  obtain ⟨x, hx, hxb⟩ := jup_row h hn
  obtain ⟨y, hy, hy25, hyb⟩ := jlf_col (jup_spec 4 s h).choose_spec.2.1 ⟨x, hxb⟩
  refine CT.of rfl (Nat.le_of_ble_eq_true rfl) (fun X hX hR hN _ => ?_)
  have hX : Good X RX11 cX11_pushed d 0 0 := hX
  have hN : x_nl X = 2 := hN
  show WP X 0 0 0 [_, _] [] _
  have l2 : ∀ (k : Nat) (u : Int32), (∃ i, i % 5 = 0 ∧ i < 25 ∧ bt (jlf k u) i = true) → jlf k u = jcor s → WP X 0 0 16 [some (.int s), some (.int u)] [] (S sw f g) := by
    intro k
    induction k with
    | zero =>
      intro u ⟨i, i1, i2, i3⟩ e
      refine wp_iload_n hX (dk DX11_pushed 11 rfl) rfl ?_
      refine wp_ldc hX (dk DX11_pushed 12 rfl) kcX11_137 ?_
      refine wp_iand hX (dk DX11_pushed 13 rfl) ?_
      refine wp_if_ne (tgt := 30) hX (dk DX11_pushed 14 rfl) (by decide) (fun _ => ?_) (fun h_ => absurd h_ (fun q => by have := col_0.mp q i i1 i2; rw [show jlf 0 u = u from rfl, this] at i3; cases i3))
      refine wp_iload_n hX (dk DX11_pushed 20 rfl) rfl ?_
      exact wp_ireturn hX hR (dk DX11_pushed 21 rfl) rfl (Nat.le_refl _) (Nat.le_refl _) (⟨by rw [← e]; rfl, rfl⟩)
    | succ k ih =>
      intro u hu e
      rw [jlf] at hu e
      by_cases c : u &&& 1082401 = 0
      · rw [if_pos c] at hu e
        refine wp_iload_n hX (dk DX11_pushed 11 rfl) rfl ?_
        refine wp_ldc hX (dk DX11_pushed 12 rfl) kcX11_137 ?_
        refine wp_iand hX (dk DX11_pushed 13 rfl) ?_
        refine wp_if_ne (tgt := 30) hX (dk DX11_pushed 14 rfl) (by decide) (fun h_ => absurd (c) h_) (fun _ => ?_)
        refine wp_iload_n hX (dk DX11_pushed 15 rfl) rfl ?_
        refine wp_iconst (v := 1) hX (dk DX11_pushed 16 rfl) (by decide) ?_
        refine wp_ishr hX (dk DX11_pushed 17 rfl) ?_
        refine wp_istore_n hX (dk DX11_pushed 18 rfl) rfl rfl hN (Nat.le_of_ble_eq_true rfl) ?_
        show WP _ _ _ 27 [_, _] [] _
        refine wp_goto (tgt := 16) hX (dk DX11_pushed 19 rfl) (by decide) ?_
        exact ih _ hu e
      · rw [if_neg c] at hu e
        refine wp_iload_n hX (dk DX11_pushed 11 rfl) rfl ?_
        refine wp_ldc hX (dk DX11_pushed 12 rfl) kcX11_137 ?_
        refine wp_iand hX (dk DX11_pushed 13 rfl) ?_
        refine wp_if_ne (tgt := 30) hX (dk DX11_pushed 14 rfl) (by decide) (fun _ => ?_) (fun h_ => absurd h_ (c))
        refine wp_iload_n hX (dk DX11_pushed 20 rfl) rfl ?_
        exact wp_ireturn hX hR (dk DX11_pushed 21 rfl) rfl (Nat.le_refl _) (Nat.le_refl _) (⟨by rw [← e], rfl⟩)
  have l1 : ∀ (k : Nat) (u : Int32), (∃ i, i < 5 ∧ bt (jup k u) i = true) → jup k u = jup 4 s → WP X 0 0 2 [some (.int s), some (.int u)] [] (S sw f g) := by
    intro k
    induction k with
    | zero =>
      intro u ⟨i, i1, i2⟩ e
      refine wp_iload_n hX (dk DX11_pushed 2 rfl) rfl ?_
      refine wp_bipush (v := 31) hX (dk DX11_pushed 3 rfl) (by decide) ?_
      refine wp_iand hX (dk DX11_pushed 4 rfl) ?_
      refine wp_if_ne (tgt := 16) hX (dk DX11_pushed 5 rfl) (by decide) (fun _ => ?_) (fun h_ => absurd h_ (fun q => by have := row_0.mp q i i1; rw [show jup 0 u = u from rfl, this] at i2; cases i2))
      rw [show u = jup 4 s from e]
      exact l2 4 _ ⟨y, hy, hy25, hyb⟩ rfl
    | succ k ih =>
      intro u hu e
      rw [jup] at hu e
      by_cases c : u &&& 31 = 0
      · rw [if_pos c] at hu e
        refine wp_iload_n hX (dk DX11_pushed 2 rfl) rfl ?_
        refine wp_bipush (v := 31) hX (dk DX11_pushed 3 rfl) (by decide) ?_
        refine wp_iand hX (dk DX11_pushed 4 rfl) ?_
        refine wp_if_ne (tgt := 16) hX (dk DX11_pushed 5 rfl) (by decide) (fun h_ => absurd (c) h_) (fun _ => ?_)
        refine wp_iload_n hX (dk DX11_pushed 6 rfl) rfl ?_
        refine wp_iconst (v := 5) hX (dk DX11_pushed 7 rfl) (by decide) ?_
        refine wp_ishr hX (dk DX11_pushed 8 rfl) ?_
        refine wp_istore_n hX (dk DX11_pushed 9 rfl) rfl rfl hN (Nat.le_of_ble_eq_true rfl) ?_
        show WP _ _ _ 13 [_, _] [] _
        refine wp_goto (tgt := 2) hX (dk DX11_pushed 10 rfl) (by decide) ?_
        exact ih _ hu e
      · rw [if_neg c] at hu e
        refine wp_iload_n hX (dk DX11_pushed 2 rfl) rfl ?_
        refine wp_bipush (v := 31) hX (dk DX11_pushed 3 rfl) (by decide) ?_
        refine wp_iand hX (dk DX11_pushed 4 rfl) ?_
        refine wp_if_ne (tgt := 16) hX (dk DX11_pushed 5 rfl) (by decide) (fun _ => ?_) (fun h_ => absurd h_ (c))
        rw [e]
        exact l2 4 _ ⟨y, hy, hy25, hyb⟩ rfl
  refine wp_iload_n hX (dk DX11_pushed 0 rfl) rfl ?_
  refine wp_istore_n hX (dk DX11_pushed 1 rfl) rfl rfl hN (Nat.le_of_ble_eq_true rfl) ?_
  show WP _ _ _ 2 [_, _] [] _
  exact l1 4 s ⟨x, hx, hxb⟩ rfl
theorem k_mturn (d : Nat) (sw : Bool) (f : Nat → Nat → Int32) (g : Nat → Nat → Int64) (s : Int32) : CT (d + 1) 0 0 iX11_turnedOnce [.int s] (S sw f g) (QR (some (.int (jto s 5))) (S sw f g)) := by
  refine CT.of rfl (Nat.le_of_ble_eq_true rfl) (fun X hX hR hN _ => ?_)
  have hX : Good X RX11 cX11_turnedOnce (d + 1) 0 0 := hX
  have hN : x_nl X = 4 := hN
  show WP X 0 0 0 [_, _, _, _] [] _
  have lo : ∀ (m y : Nat) (z : Option Value), y + m = 5 → WP X 0 0 4 [some (.int s), some (.int (jto s y)), some (.int (nI y)), z] [] (S sw f g) := by
    intro m
    induction m with
    | zero =>
      intro y z hy
      obtain rfl : y = 5 := by omega
      refine wp_iload_n hX (dk DX11_turnedOnce 4 rfl) rfl ?_
      refine wp_iconst (v := 5) hX (dk DX11_turnedOnce 5 rfl) (by decide) ?_
      refine wp_icmp_ge (tgt := 52) hX (dk DX11_turnedOnce 6 rfl) (by decide) (fun _ => ?_) (fun h_ => absurd (by decide) h_)
      refine wp_iload_n hX (dk DX11_turnedOnce 36 rfl) rfl ?_
      exact wp_ireturn hX hR (dk DX11_turnedOnce 37 rfl) rfl (Nat.le_refl _) (Nat.le_refl _) (⟨rfl, rfl⟩)
    | succ m ih =>
      intro y z hy
      have li : ∀ (q x : Nat), x + q = 5 → WP X 0 0 11 [some (.int s), some (.int (jti s y (jto s y) x)), some (.int (nI y)), some (.int (nI x))] [] (S sw f g) := by
        intro q
        induction q with
        | zero =>
          intro x hx
          obtain rfl : x = 5 := by omega
          refine wp_iload_n hX (dk DX11_turnedOnce 9 rfl) rfl ?_
          refine wp_iconst (v := 5) hX (dk DX11_turnedOnce 10 rfl) (by decide) ?_
          refine wp_icmp_ge (tgt := 46) hX (dk DX11_turnedOnce 11 rfl) (by decide) (fun _ => ?_) (fun h_ => absurd (by decide) h_)
          refine wp_iinc hX (dk DX11_turnedOnce 34 rfl) rfl (nI_inc _) rfl hN ?_
          show WP _ _ _ 49 [_, _, _, _] [] _
          refine wp_goto (tgt := 4) hX (dk DX11_turnedOnce 35 rfl) (by decide) ?_
          exact ih (y + 1) _ (by omega)
        | succ q ihq =>
          intro x hx
          have e : (5 : Int32) * nI x + 4 - nI y = 5 * nI x + 5 - 1 - nI y := by
            rw [show (5 : Int32) * nI x + 5 - 1 = 5 * nI x + 4 by rw [show (5 : Int32) = nI 5 from rfl, show (1 : Int32) = nI 1 from rfl, show (4 : Int32) = nI 4 from rfl, pk_mul, nI_add, pk_sub (by omega), nI_add]; congr 1]
          refine wp_iload_n hX (dk DX11_turnedOnce 9 rfl) rfl ?_
          refine wp_iconst (v := 5) hX (dk DX11_turnedOnce 10 rfl) (by decide) ?_
          refine wp_icmp_ge (tgt := 46) hX (dk DX11_turnedOnce 11 rfl) (by decide) (fun h_ => absurd h_ (nI_ge (b := 5) (by omega) (by omega))) (fun _ => ?_)
          refine wp_iload_n hX (dk DX11_turnedOnce 12 rfl) rfl ?_
          refine wp_iconst (v := 5) hX (dk DX11_turnedOnce 13 rfl) (by decide) ?_
          refine wp_iload_n hX (dk DX11_turnedOnce 14 rfl) rfl ?_
          refine wp_imul hX (dk DX11_turnedOnce 15 rfl) ?_
          refine wp_iload_n hX (dk DX11_turnedOnce 16 rfl) rfl ?_
          refine wp_iadd hX (dk DX11_turnedOnce 17 rfl) ?_
          refine w_callS (As := [_, _]) lkX11_138 hX (dk DX11_turnedOnce 18 rfl) rfl (by decide) (k_mhas d s _ _) ?_
          show WP _ _ _ 25 [_, _, _, _] [_] _
          refine wp_if_eq (tgt := 40) hX (dk DX11_turnedOnce 19 rfl) (by decide) (fun h25 => ?_) (fun h25 => ?_)
          · refine wp_iinc hX (dk DX11_turnedOnce 32 rfl) rfl (nI_inc _) rfl hN ?_
            show WP _ _ _ 43 [_, _, _, _] [] _
            refine wp_goto (tgt := 11) hX (dk DX11_turnedOnce 33 rfl) (by decide) ?_
            have := ihq (x + 1) (by omega)
            rw [jti] at this
            by_cases c : (s >>> ((5 * nI y + nI x) &&& 31)) &&& 1 = 1
            · rw [if_pos c] at this; first | exact this | exact absurd h25 (by unfold jbit; rw [if_pos c]; decide)
            · rw [if_neg c] at this; first | exact this | exact absurd (show jbit s (5 * nI y + nI x) = 0 by unfold jbit; rw [if_neg c]) h25
          · refine wp_iload_n hX (dk DX11_turnedOnce 20 rfl) rfl ?_
            refine wp_iconst (v := 1) hX (dk DX11_turnedOnce 21 rfl) (by decide) ?_
            refine wp_iconst (v := 5) hX (dk DX11_turnedOnce 22 rfl) (by decide) ?_
            refine wp_iload_n hX (dk DX11_turnedOnce 23 rfl) rfl ?_
            refine wp_imul hX (dk DX11_turnedOnce 24 rfl) ?_
            refine wp_iconst (v := 4) hX (dk DX11_turnedOnce 25 rfl) (by decide) ?_
            refine wp_iadd hX (dk DX11_turnedOnce 26 rfl) ?_
            refine wp_iload_n hX (dk DX11_turnedOnce 27 rfl) rfl ?_
            refine wp_isub hX (dk DX11_turnedOnce 28 rfl) ?_
            rw [e]
            refine wp_ishl hX (dk DX11_turnedOnce 29 rfl) ?_
            refine wp_ior hX (dk DX11_turnedOnce 30 rfl) ?_
            refine wp_istore_n hX (dk DX11_turnedOnce 31 rfl) rfl rfl hN (Nat.le_of_ble_eq_true rfl) ?_
            show WP _ _ _ 40 [_, _, _, _] [] _
            refine wp_iinc hX (dk DX11_turnedOnce 32 rfl) rfl (nI_inc _) rfl hN ?_
            show WP _ _ _ 43 [_, _, _, _] [] _
            refine wp_goto (tgt := 11) hX (dk DX11_turnedOnce 33 rfl) (by decide) ?_
            have := ihq (x + 1) (by omega)
            rw [jti] at this
            by_cases c : (s >>> ((5 * nI y + nI x) &&& 31)) &&& 1 = 1
            · rw [if_pos c] at this; first | exact this | exact absurd h25 (by unfold jbit; rw [if_pos c]; decide)
            · rw [if_neg c] at this; first | exact this | exact absurd (show jbit s (5 * nI y + nI x) = 0 by unfold jbit; rw [if_neg c]) h25
      refine wp_iload_n hX (dk DX11_turnedOnce 4 rfl) rfl ?_
      refine wp_iconst (v := 5) hX (dk DX11_turnedOnce 5 rfl) (by decide) ?_
      refine wp_icmp_ge (tgt := 52) hX (dk DX11_turnedOnce 6 rfl) (by decide) (fun h_ => absurd h_ (nI_ge (b := 5) (by omega) (by omega))) (fun _ => ?_)
      refine wp_iconst (v := 0) hX (dk DX11_turnedOnce 7 rfl) (by decide) ?_
      refine wp_istore_n hX (dk DX11_turnedOnce 8 rfl) rfl rfl hN (Nat.le_of_ble_eq_true rfl) ?_
      show WP _ _ _ 11 [_, _, _, _] [] _
      exact li 5 0 (by omega)
  refine wp_iconst (v := 0) hX (dk DX11_turnedOnce 0 rfl) (by decide) ?_
  refine wp_istore_n hX (dk DX11_turnedOnce 1 rfl) rfl rfl hN (Nat.le_of_ble_eq_true rfl) ?_
  show WP _ _ _ 2 [_, _, _, _] [] _
  refine wp_iconst (v := 0) hX (dk DX11_turnedOnce 2 rfl) (by decide) ?_
  refine wp_istore_n hX (dk DX11_turnedOnce 3 rfl) rfl rfl hN (Nat.le_of_ble_eq_true rfl) ?_
  show WP _ _ _ 4 [_, _, _, _] [] _
  exact lo 5 0 none (by omega)
theorem k_turnedBy (d : Nat) (sw : Bool) (f : Nat → Nat → Int32) (g : Nat → Nat → Int64) (s : Int32) (t : Nat) (h : Sq s) (hn : Ne s) (ht : t < 100) : CT (d + 2) 0 0 iX11_turnedBy [.int s, .int (nI t)] (S sw f g) (QR (some (.int (jturn s t))) (S sw f g)) := by
  refine CT.of rfl (Nat.le_of_ble_eq_true rfl) (fun X hX hR hN _ => ?_)
  have hX : Good X RX11 cX11_turnedBy (d + 2) 0 0 := hX
  have hN : x_nl X = 4 := hN
  show WP X 0 0 0 [_, _, _, _] [] _
  have lo : ∀ (m i : Nat), i + m = t → WP X 0 0 4 [some (.int s), some (.int (nI t)), some (.int (jrot s i)), some (.int (nI i))] [] (S sw f g) := by
    intro m
    induction m with
    | zero =>
      intro i hi
      obtain rfl : i = t := by omega
      refine wp_iload_n hX (dk DX11_turnedBy 4 rfl) rfl ?_
      refine wp_iload_n hX (dk DX11_turnedBy 5 rfl) rfl ?_
      refine wp_icmp_ge (tgt := 20) hX (dk DX11_turnedBy 6 rfl) (by decide) (fun _ => ?_) (fun h_ => absurd (nI_le (by omega) (by omega)) h_)
      refine wp_iload_n hX (dk DX11_turnedBy 12 rfl) rfl ?_
      refine w_callS (As := [_]) lkX11_145 hX (dk DX11_turnedBy 13 rfl) rfl (by decide) (k_pushed (d + 1) sw f g _ (jrot_SN h hn i).1 (jrot_SN h hn i).2) ?_
      show WP _ _ _ 24 [_, _, _, _] [_] _
      exact wp_ireturn hX hR (dk DX11_turnedBy 14 rfl) rfl (Nat.le_refl _) (Nat.le_refl _) (⟨rfl, rfl⟩)
    | succ m ih =>
      intro i hi
      refine wp_iload_n hX (dk DX11_turnedBy 4 rfl) rfl ?_
      refine wp_iload_n hX (dk DX11_turnedBy 5 rfl) rfl ?_
      refine wp_icmp_ge (tgt := 20) hX (dk DX11_turnedBy 6 rfl) (by decide) (fun h_ => absurd h_ (nI_ge (by omega) (by omega))) (fun _ => ?_)
      refine wp_iload_n hX (dk DX11_turnedBy 7 rfl) rfl ?_
      refine w_callS (As := [_]) lkX11_142 hX (dk DX11_turnedBy 8 rfl) rfl (by decide) (k_mturn d sw f g _) ?_
      show WP _ _ _ 13 [_, _, _, _] [_] _
      refine wp_istore_n hX (dk DX11_turnedBy 9 rfl) rfl rfl hN (Nat.le_of_ble_eq_true rfl) ?_
      show WP _ _ _ 14 [_, _, _, _] [] _
      refine wp_iinc hX (dk DX11_turnedBy 10 rfl) rfl (nI_inc _) rfl hN ?_
      show WP _ _ _ 17 [_, _, _, _] [] _
      refine wp_goto (tgt := 4) hX (dk DX11_turnedBy 11 rfl) (by decide) ?_
      exact ih (i + 1) (by omega)
  refine wp_iload_n hX (dk DX11_turnedBy 0 rfl) rfl ?_
  refine wp_istore_n hX (dk DX11_turnedBy 1 rfl) rfl rfl hN (Nat.le_of_ble_eq_true rfl) ?_
  show WP _ _ _ 2 [_, _, _, _] [] _
  refine wp_iconst (v := 0) hX (dk DX11_turnedBy 2 rfl) (by decide) ?_
  refine wp_istore_n hX (dk DX11_turnedBy 3 rfl) rfl rfl hN (Nat.le_of_ble_eq_true rfl) ?_
  show WP _ _ _ 4 [_, _, _, _] [] _
  exact lo t 0 (by omega)
