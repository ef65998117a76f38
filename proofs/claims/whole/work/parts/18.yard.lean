/-! YARD -/
theorem k_blocks (d : Nat) (sw : Bool) (f : Nat → Nat → Int32) (g : Nat → Nat → Int64) : CT d 0 0 iX9_blocks [.ref 61] (S sw f g) (QR (some (.int (f 61 6))) (S sw f g)) := by
  refine CT.of rfl (Nat.le_of_ble_eq_true rfl) (fun X hX hR hN _ => ?_)
  have hX : Good X RX9 cX9_blocks d 0 0 := hX
  have hN : x_nl X = 1 := hN
  show WP X 0 0 0 [_] [] _
  refine wp_aload_n hX (dk DX9_blocks 0 rfl) rfl ?_
  refine w_geti hX flX9_30 (dk DX9_blocks 1 rfl) (by decide) rfl ?_
  exact wp_ireturn hX hR (dk DX9_blocks 2 rfl) rfl (Nat.le_refl _) (Nat.le_refl _) (⟨rfl, rfl⟩)
theorem k_yhas (d : Nat) (sw : Bool) (f : Nat → Nat → Int32) (g : Nat → Nat → Int64) (x : Int32) : CT d 0 0 iX9_has [.ref 61, .int x] (S sw f g) (QR (some (.int (jin x (f 61 6)))) (S sw f g)) := by
  refine CT.of rfl (Nat.le_of_ble_eq_true rfl) (fun X hX hR hN _ => ?_)
  have hX : Good X RX9 cX9_has d 0 0 := hX
  have hN : x_nl X = 2 := hN
  show WP X 0 0 0 [_, _] [] _
  refine wp_iload_n hX (dk DX9_has 0 rfl) rfl ?_
  refine wp_if_lt (tgt := 16) hX (dk DX9_has 1 rfl) (by decide) (fun h => ?_) (fun h => ?_)
  · refine wp_iconst (v := 0) hX (dk DX9_has 8 rfl) (by decide) ?_
    exact wp_ireturn hX hR (dk DX9_has 9 rfl) rfl (Nat.le_refl _) (Nat.le_refl _) (⟨by rw [jin, if_neg (fun q => q.1 h)], rfl⟩)
  · refine wp_iload_n hX (dk DX9_has 2 rfl) rfl ?_
    refine wp_aload_n hX (dk DX9_has 3 rfl) rfl ?_
    refine w_geti hX flX9_30 (dk DX9_has 4 rfl) (by decide) rfl ?_
    refine wp_icmp_ge (tgt := 16) hX (dk DX9_has 5 rfl) (by decide) (fun h2 => ?_) (fun h2 => ?_)
    · refine wp_iconst (v := 0) hX (dk DX9_has 8 rfl) (by decide) ?_
      exact wp_ireturn hX hR (dk DX9_has 9 rfl) rfl (Nat.le_refl _) (Nat.le_refl _) (⟨by rw [jin, if_neg (fun q => Int32.not_lt.mpr h2 q.2)], rfl⟩)
    · refine wp_iconst (v := 1) hX (dk DX9_has 6 rfl) (by decide) ?_
      refine wp_goto (tgt := 17) hX (dk DX9_has 7 rfl) (by decide) ?_
      -- to 17
      exact wp_ireturn hX hR (dk DX9_has 9 rfl) rfl (Nat.le_refl _) (Nat.le_refl _) (⟨by rw [jin, if_pos ⟨h, Int32.not_le.mp h2⟩], rfl⟩)
theorem k_yadd_full (d : Nat) (sw : Bool) (f : Nat → Nat → Int32) (g : Nat → Nat → Int64) (x : Int32) (h : f 61 6 = nI 6) : CT d 0 0 iX9_add [.ref 61, .int x] (S sw f g) (QR (some (.int (-3))) (S sw f g)) := by
  refine CT.of rfl (Nat.le_of_ble_eq_true rfl) (fun X hX hR hN _ => ?_)
  have hX : Good X RX9 cX9_add d 0 0 := hX
  have hN : x_nl X = 2 := hN
  show WP X 0 0 0 [_, _] [] _
  refine wp_aload_n hX (dk DX9_add 0 rfl) rfl ?_
  refine w_geti hX flX9_30 (dk DX9_add 1 rfl) (by decide) rfl ?_
  refine wp_bipush (v := 6) hX (dk DX9_add 2 rfl) (by decide) ?_
  rw [h]
  refine wp_icmp_lt (tgt := 12) hX (dk DX9_add 3 rfl) (by decide) (fun h_ => absurd h_ ((by decide))) (fun _ => ?_)
  refine wp_bipush (v := -3) hX (dk DX9_add 4 rfl) (by decide) ?_
  exact wp_ireturn hX hR (dk DX9_add 5 rfl) rfl (Nat.le_refl _) (Nat.le_refl _) (⟨rfl, rfl⟩)
theorem k_yadd (d : Nat) (sw : Bool) (f : Nat → Nat → Int32) (g : Nat → Nat → Int64) (n : Nat) (x : Int32) (hn : n < 6) (h : f 61 6 = nI n) : CT d 0 0 iX9_add [.ref 61, .int x] (S sw f g) (QR (some (.int (nI n))) (S sw (u2 (u2 f 62 n x) 61 6 (nI (n + 1))) g)) := by
  refine CT.of rfl (Nat.le_of_ble_eq_true rfl) (fun X hX hR hN _ => ?_)
  have hX : Good X RX9 cX9_add d 0 0 := hX
  have hN : x_nl X = 2 := hN
  show WP X 0 0 0 [_, _] [] _
  refine wp_aload_n hX (dk DX9_add 0 rfl) rfl ?_
  refine w_geti hX flX9_30 (dk DX9_add 1 rfl) (by decide) rfl ?_
  refine wp_bipush (v := 6) hX (dk DX9_add 2 rfl) (by decide) ?_
  rw [h]
  refine wp_icmp_lt (tgt := 12) hX (dk DX9_add 3 rfl) (by decide) (fun _ => ?_) (fun h_ => absurd ((nI_lt (b := 6) hn (by omega))) h_)
  refine wp_aload_n hX (dk DX9_add 6 rfl) rfl ?_
  refine w_getr hX flX9_11 (dk DX9_add 7 rfl) rfl rfl ?_
  refine wp_aload_n hX (dk DX9_add 8 rfl) rfl ?_
  refine w_geti hX flX9_30 (dk DX9_add 9 rfl) (by decide) rfl ?_
  rw [h]
  refine wp_iload_n hX (dk DX9_add 10 rfl) rfl ?_
  refine w_iast (j := _) hX (dk DX9_add 11 rfl) rfl rfl (show _ < 6 by omega) ?_
  refine wp_aload_n hX (dk DX9_add 12 rfl) rfl ?_
  refine wp_dup hX (dk DX9_add 13 rfl) rfl ?_
  refine w_geti hX flX9_30 (dk DX9_add 14 rfl) (by decide) rfl ?_
  rw [show u2 f 62 n x 61 6 = nI n by rw [u2_ne _ _ _ (by omega)]; exact h]
  refine wp_iconst (v := 1) hX (dk DX9_add 15 rfl) (by decide) ?_
  refine wp_iadd hX (dk DX9_add 16 rfl) ?_
  rw [nI_1]
  refine w_puti hX fpX9_30 (dk DX9_add 17 rfl) rfl ?_
  refine wp_aload_n hX (dk DX9_add 18 rfl) rfl ?_
  refine w_geti hX flX9_30 (dk DX9_add 19 rfl) (by decide) rfl ?_
  rw [u2_at]
  refine wp_iconst (v := 1) hX (dk DX9_add 20 rfl) (by decide) ?_
  refine wp_isub hX (dk DX9_add 21 rfl) ?_
  rw [nI_pred]
  exact wp_ireturn hX hR (dk DX9_add 22 rfl) rfl (Nat.le_refl _) (Nat.le_refl _) (⟨rfl, rfl⟩)
theorem k_leftOf (d : Nat) (sw : Bool) (f : Nat → Nat → Int32) (g : Nat → Nat → Int64) (b : Nat) (hb : b < 6) : CT d 0 0 iX9_leftOf [.ref 61, .int (nI b)] (S sw f g) (QR (some (.int (f 62 b))) (S sw f g)) := by
  refine CT.of rfl (Nat.le_of_ble_eq_true rfl) (fun X hX hR hN _ => ?_)
  have hX : Good X RX9 cX9_leftOf d 0 0 := hX
  have hN : x_nl X = 2 := hN
  show WP X 0 0 0 [_, _] [] _
  refine wp_aload_n hX (dk DX9_leftOf 0 rfl) rfl ?_
  refine w_getr hX flX9_11 (dk DX9_leftOf 1 rfl) rfl rfl ?_
  refine wp_iload_n hX (dk DX9_leftOf 2 rfl) rfl ?_
  refine w_iald (j := _) hX (dk DX9_leftOf 3 rfl) rfl rfl (show _ < 6 by omega) ?_
  exact wp_ireturn hX hR (dk DX9_leftOf 4 rfl) rfl (Nat.le_refl _) (Nat.le_refl _) (⟨rfl, rfl⟩)
theorem k_cutsOf (d : Nat) (sw : Bool) (f : Nat → Nat → Int32) (g : Nat → Nat → Int64) (b : Nat) (hb : b < 6) : CT d 0 0 iX9_cutsOf [.ref 61, .int (nI b)] (S sw f g) (QR (some (.int (f 63 b))) (S sw f g)) := by
  refine CT.of rfl (Nat.le_of_ble_eq_true rfl) (fun X hX hR hN _ => ?_)
  have hX : Good X RX9 cX9_cutsOf d 0 0 := hX
  have hN : x_nl X = 2 := hN
  show WP X 0 0 0 [_, _] [] _
  refine wp_aload_n hX (dk DX9_cutsOf 0 rfl) rfl ?_
  refine w_getr hX flX9_15 (dk DX9_cutsOf 1 rfl) rfl rfl ?_
  refine wp_iload_n hX (dk DX9_cutsOf 2 rfl) rfl ?_
  refine w_iald (j := _) hX (dk DX9_cutsOf 3 rfl) rfl rfl (show _ < 6 by omega) ?_
  exact wp_ireturn hX hR (dk DX9_cutsOf 4 rfl) rfl (Nat.le_refl _) (Nat.le_refl _) (⟨rfl, rfl⟩)
theorem k_ledger (d : Nat) (sw : Bool) (f : Nat → Nat → Int32) (g : Nat → Nat → Int64) (b : Nat) (hb : b < 4) : CT d 0 0 iX9_ledger [.ref 61, .int (nI b)] (S sw f g) (QR (some (.int (f 64 b))) (S sw f g)) := by
  refine CT.of rfl (Nat.le_of_ble_eq_true rfl) (fun X hX hR hN _ => ?_)
  have hX : Good X RX9 cX9_ledger d 0 0 := hX
  have hN : x_nl X = 2 := hN
  show WP X 0 0 0 [_, _] [] _
  refine wp_aload_n hX (dk DX9_ledger 0 rfl) rfl ?_
  refine w_getr hX flX9_18 (dk DX9_ledger 1 rfl) rfl rfl ?_
  refine wp_iload_n hX (dk DX9_ledger 2 rfl) rfl ?_
  refine w_iald (j := _) hX (dk DX9_ledger 3 rfl) rfl rfl (show _ < 4 by omega) ?_
  exact wp_ireturn hX hR (dk DX9_ledger 4 rfl) rfl (Nat.le_refl _) (Nat.le_refl _) (⟨rfl, rfl⟩)
/-- what a cut does to the yard -/
def jyt (f : Nat → Nat → Int32) (b : Nat) (s br : Int32) : Nat → Nat → Int32 :=
  let f1 := u2 f 64 0 (f 64 0 + 1)
  let f2 := u2 f1 64 1 (f1 64 1 + (jpc (f1 62 b) - jpc s))
  let f3 := u2 f2 64 2 (f2 64 2 + br)
  let f4 := u2 f3 62 b s
  u2 f4 63 b (f4 63 b + 1)
theorem k_ytake (d : Nat) (sw : Bool) (f : Nat → Nat → Int32) (g : Nat → Nat → Int64) (b : Nat) (s br : Int32) (hb : b < 6) : CT (d + 1) 0 0 iX9_take [.ref 61, .int (nI b), .int s, .int br] (S sw f g) (QR none (S sw (jyt f b s br) g)) := by
  refine CT.of rfl (Nat.le_of_ble_eq_true rfl) (fun X hX hR hN _ => ?_)
  have hX : Good X RX9 cX9_take (d + 1) 0 0 := hX
  have hN : x_nl X = 4 := hN
  show WP X 0 0 0 [_, _, _, _] [] _
  refine wp_aload_n hX (dk DX9_take 0 rfl) rfl ?_
  refine w_getr hX flX9_18 (dk DX9_take 1 rfl) rfl rfl ?_
  refine wp_iconst (v := 0) hX (dk DX9_take 2 rfl) (by decide) ?_
  refine wp_dup2 hX (dk DX9_take 3 rfl) rfl rfl ?_
  refine w_iald (j := 0) hX (dk DX9_take 4 rfl) rfl rfl (by decide) ?_
  refine wp_iconst (v := 1) hX (dk DX9_take 5 rfl) (by decide) ?_
  refine wp_iadd hX (dk DX9_take 6 rfl) ?_
  refine w_iast (j := 0) hX (dk DX9_take 7 rfl) rfl rfl (by decide) ?_
  refine wp_aload_n hX (dk DX9_take 8 rfl) rfl ?_
  refine w_getr hX flX9_18 (dk DX9_take 9 rfl) rfl rfl ?_
  refine wp_iconst (v := 1) hX (dk DX9_take 10 rfl) (by decide) ?_
  refine wp_dup2 hX (dk DX9_take 11 rfl) rfl rfl ?_
  refine w_iald (j := 1) hX (dk DX9_take 12 rfl) rfl rfl (by decide) ?_
  refine wp_aload_n hX (dk DX9_take 13 rfl) rfl ?_
  refine w_getr hX flX9_11 (dk DX9_take 14 rfl) rfl rfl ?_
  refine wp_iload_n hX (dk DX9_take 15 rfl) rfl ?_
  refine w_iald (j := _) hX (dk DX9_take 16 rfl) rfl rfl (show _ < 6 by omega) ?_
  refine w_callS (As := [_]) lkX9_34 hX (dk DX9_take 17 rfl) rfl (by simp [Value.category]) (k_bitCount d _ _) ?_
  show WP _ _ _ 26 [_, _, _, _] [_, _, _, _] _
  refine wp_iload_n hX (dk DX9_take 18 rfl) rfl ?_
  refine w_callS (As := [_]) lkX9_34 hX (dk DX9_take 19 rfl) rfl (by simp [Value.category]) (k_bitCount d s _) ?_
  show WP _ _ _ 30 [_, _, _, _] [_, _, _, _, _] _
  refine wp_isub hX (dk DX9_take 20 rfl) ?_
  refine wp_iadd hX (dk DX9_take 21 rfl) ?_
  refine w_iast (j := 1) hX (dk DX9_take 22 rfl) rfl rfl (by decide) ?_
  refine wp_aload_n hX (dk DX9_take 23 rfl) rfl ?_
  refine w_getr hX flX9_18 (dk DX9_take 24 rfl) rfl rfl ?_
  refine wp_iconst (v := 2) hX (dk DX9_take 25 rfl) (by decide) ?_
  refine wp_dup2 hX (dk DX9_take 26 rfl) rfl rfl ?_
  refine w_iald (j := 2) hX (dk DX9_take 27 rfl) rfl rfl (by decide) ?_
  refine wp_iload_n hX (dk DX9_take 28 rfl) rfl ?_
  refine wp_iadd hX (dk DX9_take 29 rfl) ?_
  refine w_iast (j := 2) hX (dk DX9_take 30 rfl) rfl rfl (by decide) ?_
  refine wp_aload_n hX (dk DX9_take 31 rfl) rfl ?_
  refine w_getr hX flX9_11 (dk DX9_take 32 rfl) rfl rfl ?_
  refine wp_iload_n hX (dk DX9_take 33 rfl) rfl ?_
  refine wp_iload_n hX (dk DX9_take 34 rfl) rfl ?_
  refine w_iast (j := _) hX (dk DX9_take 35 rfl) rfl rfl (show _ < 6 by omega) ?_
  refine wp_aload_n hX (dk DX9_take 36 rfl) rfl ?_
  refine w_getr hX flX9_15 (dk DX9_take 37 rfl) rfl rfl ?_
  refine wp_iload_n hX (dk DX9_take 38 rfl) rfl ?_
  refine wp_dup2 hX (dk DX9_take 39 rfl) rfl rfl ?_
  refine w_iald (j := _) hX (dk DX9_take 40 rfl) rfl rfl (show _ < 6 by omega) ?_
  refine wp_iconst (v := 1) hX (dk DX9_take 41 rfl) (by decide) ?_
  refine wp_iadd hX (dk DX9_take 42 rfl) ?_
  refine w_iast (j := _) hX (dk DX9_take 43 rfl) rfl rfl (show _ < 6 by omega) ?_
  exact wp_return hX hR (dk DX9_take 44 rfl) (Nat.le_refl _) (Nat.le_refl _) (⟨rfl, rfl⟩)
theorem k_letPass (d : Nat) (sw : Bool) (f : Nat → Nat → Int32) (g : Nat → Nat → Int64) (n : Int32) : CT d 0 0 iX9_letPass [.ref 61, .int n] (S sw f g) (QR (some (.int (if f 64 3 + n ≤ 99 then f 64 3 + n else -5))) (S sw (if f 64 3 + n ≤ 99 then u2 f 64 3 (f 64 3 + n) else f) g)) := by
  refine CT.of rfl (Nat.le_of_ble_eq_true rfl) (fun X hX hR hN _ => ?_)
  have hX : Good X RX9 cX9_letPass d 0 0 := hX
  have hN : x_nl X = 2 := hN
  show WP X 0 0 0 [_, _] [] _
  refine wp_aload_n hX (dk DX9_letPass 0 rfl) rfl ?_
  refine w_getr hX flX9_18 (dk DX9_letPass 1 rfl) rfl rfl ?_
  refine wp_iconst (v := 3) hX (dk DX9_letPass 2 rfl) (by decide) ?_
  refine w_iald (j := 3) hX (dk DX9_letPass 3 rfl) rfl rfl (by decide) ?_
  refine wp_iload_n hX (dk DX9_letPass 4 rfl) rfl ?_
  refine wp_iadd hX (dk DX9_letPass 5 rfl) ?_
  refine wp_bipush (v := 99) hX (dk DX9_letPass 6 rfl) (by decide) ?_
  refine wp_icmp_le (tgt := 16) hX (dk DX9_letPass 7 rfl) (by decide) (fun h => ?_) (fun h => ?_)
  · refine wp_aload_n hX (dk DX9_letPass 10 rfl) rfl ?_
    refine w_getr hX flX9_18 (dk DX9_letPass 11 rfl) rfl rfl ?_
    refine wp_iconst (v := 3) hX (dk DX9_letPass 12 rfl) (by decide) ?_
    refine wp_dup2 hX (dk DX9_letPass 13 rfl) rfl rfl ?_
    refine w_iald (j := 3) hX (dk DX9_letPass 14 rfl) rfl rfl (by decide) ?_
    refine wp_iload_n hX (dk DX9_letPass 15 rfl) rfl ?_
    refine wp_iadd hX (dk DX9_letPass 16 rfl) ?_
    refine w_iast (j := 3) hX (dk DX9_letPass 17 rfl) rfl rfl (by decide) ?_
    refine wp_aload_n hX (dk DX9_letPass 18 rfl) rfl ?_
    refine w_getr hX flX9_18 (dk DX9_letPass 19 rfl) rfl rfl ?_
    refine wp_iconst (v := 3) hX (dk DX9_letPass 20 rfl) (by decide) ?_
    refine w_iald (j := 3) hX (dk DX9_letPass 21 rfl) rfl rfl (by decide) ?_
    rw [u2_at]
    exact wp_ireturn hX hR (dk DX9_letPass 22 rfl) rfl (Nat.le_refl _) (Nat.le_refl _) (⟨by rw [if_pos h], by rw [if_pos h]⟩)
  · refine wp_bipush (v := -5) hX (dk DX9_letPass 8 rfl) (by decide) ?_
    exact wp_ireturn hX hR (dk DX9_letPass 9 rfl) rfl (Nat.le_refl _) (Nat.le_refl _) (⟨by rw [if_neg h], by rw [if_neg h]⟩)
/-- what the image takes -/
def jyst (f : Nat → Nat → Int32) (n : Nat) : Nat → Nat → Int32 :=
  let f1 := u1 f 65 (va_cpy (f 62) (f 65) 0 0 n)
  let f2 := u1 f1 66 (va_cpy (f1 63) (f1 66) 0 0 n)
  let f3 := u1 f2 67 (va_cpy (f2 64) (f2 67) 0 0 4)
  u2 (u2 f3 61 7 (f3 61 6)) 61 8 1
theorem k_store (d : Nat) (sw : Bool) (f : Nat → Nat → Int32) (g : Nat → Nat → Int64) (n : Nat) (hn : n ≤ 6) (h : f 61 6 = nI n) : CT (d + 1) 0 0 iX9_store [.ref 61] (S sw f g) (QR none (S sw (jyst f n) g)) := by
  refine CT.of rfl (Nat.le_of_ble_eq_true rfl) (fun X hX hR hN _ => ?_)
  have hX : Good X RX9 cX9_store (d + 1) 0 0 := hX
  have hN : x_nl X = 1 := hN
  show WP X 0 0 0 [_] [] _
  refine wp_aload_n hX (dk DX9_store 0 rfl) rfl ?_
  refine w_getr hX flX9_11 (dk DX9_store 1 rfl) rfl rfl ?_
  refine wp_iconst (v := 0) hX (dk DX9_store 2 rfl) (by decide) ?_
  refine wp_aload_n hX (dk DX9_store 3 rfl) rfl ?_
  refine w_getr hX flX9_21 (dk DX9_store 4 rfl) rfl rfl ?_
  refine wp_iconst (v := 0) hX (dk DX9_store 5 rfl) (by decide) ?_
  refine wp_aload_n hX (dk DX9_store 6 rfl) rfl ?_
  refine w_geti hX flX9_30 (dk DX9_store 7 rfl) (by decide) rfl ?_
  rw [h]
  refine w_copyi (sp := 0) (dp := 0) (n := n) hX lkX9_40 (dk DX9_store 8 rfl) (by decide) rfl rfl rfl rfl rfl (show 0 + n ≤ 6 by omega) (show 0 + n ≤ 6 by omega) ?_
  refine wp_aload_n hX (dk DX9_store 9 rfl) rfl ?_
  refine w_getr hX flX9_15 (dk DX9_store 10 rfl) rfl rfl ?_
  refine wp_iconst (v := 0) hX (dk DX9_store 11 rfl) (by decide) ?_
  refine wp_aload_n hX (dk DX9_store 12 rfl) rfl ?_
  refine w_getr hX flX9_24 (dk DX9_store 13 rfl) rfl rfl ?_
  refine wp_iconst (v := 0) hX (dk DX9_store 14 rfl) (by decide) ?_
  refine wp_aload_n hX (dk DX9_store 15 rfl) rfl ?_
  refine w_geti hX flX9_30 (dk DX9_store 16 rfl) (by decide) rfl ?_
  rw [show u1 f 65 (va_cpy (f 62) (f 65) 0 0 n) 61 6 = nI n from h]
  refine w_copyi (sp := 0) (dp := 0) (n := n) hX lkX9_40 (dk DX9_store 17 rfl) (by decide) rfl rfl rfl rfl rfl (show 0 + n ≤ 6 by omega) (show 0 + n ≤ 6 by omega) ?_
  refine wp_aload_n hX (dk DX9_store 18 rfl) rfl ?_
  refine w_getr hX flX9_18 (dk DX9_store 19 rfl) rfl rfl ?_
  refine wp_iconst (v := 0) hX (dk DX9_store 20 rfl) (by decide) ?_
  refine wp_aload_n hX (dk DX9_store 21 rfl) rfl ?_
  refine w_getr hX flX9_27 (dk DX9_store 22 rfl) rfl rfl ?_
  refine wp_iconst (v := 0) hX (dk DX9_store 23 rfl) (by decide) ?_
  refine wp_iconst (v := 4) hX (dk DX9_store 24 rfl) (by decide) ?_
  refine w_copyi (sp := 0) (dp := 0) (n := 4) hX lkX9_40 (dk DX9_store 25 rfl) (by decide) rfl rfl rfl rfl rfl (by decide) (by decide) ?_
  refine wp_aload_n hX (dk DX9_store 26 rfl) rfl ?_
  refine wp_aload_n hX (dk DX9_store 27 rfl) rfl ?_
  refine w_geti hX flX9_30 (dk DX9_store 28 rfl) (by decide) rfl ?_
  refine w_puti hX fpX9_46 (dk DX9_store 29 rfl) rfl ?_
  refine wp_aload_n hX (dk DX9_store 30 rfl) rfl ?_
  refine wp_iconst (v := 1) hX (dk DX9_store 31 rfl) (by decide) ?_
  refine w_putz hX fpX9_49 (dk DX9_store 32 rfl) (by decide) rfl ?_
  exact wp_return hX hR (dk DX9_store 33 rfl) (Nat.le_refl _) (Nat.le_refl _) (⟨rfl, rfl⟩)
def jyre (f : Nat → Nat → Int32) (n : Nat) : Nat → Nat → Int32 :=
  let f1 := u1 f 62 (va_cpy (f 65) (f 62) 0 0 n)
  let f2 := u1 f1 63 (va_cpy (f1 66) (f1 63) 0 0 n)
  u1 f2 64 (va_cpy (f2 67) (f2 64) 0 0 4)
theorem k_restore0 (d : Nat) (sw : Bool) (f : Nat → Nat → Int32) (g : Nat → Nat → Int64) (h : f 61 8 = 0) : CT (d + 1) 0 0 iX9_restore [.ref 61] (S sw f g) (QR (some (.int 0)) (S sw f g)) := by
  refine CT.of rfl (Nat.le_of_ble_eq_true rfl) (fun X hX hR hN _ => ?_)
  have hX : Good X RX9 cX9_restore (d + 1) 0 0 := hX
  have hN : x_nl X = 1 := hN
  show WP X 0 0 0 [_] [] _
  refine wp_aload_n hX (dk DX9_restore 0 rfl) rfl ?_
  refine w_geti hX flX9_49 (dk DX9_restore 1 rfl) (by decide) rfl ?_
  refine wp_if_ne (tgt := 9) hX (dk DX9_restore 2 rfl) (by decide) (fun h_ => absurd (h) h_) (fun _ => ?_)
  refine wp_iconst (v := 0) hX (dk DX9_restore 3 rfl) (by decide) ?_
  exact wp_ireturn hX hR (dk DX9_restore 4 rfl) rfl (Nat.le_refl _) (Nat.le_refl _) (⟨rfl, rfl⟩)
theorem k_restore (d : Nat) (sw : Bool) (f : Nat → Nat → Int32) (g : Nat → Nat → Int64) (n : Nat) (hn : n ≤ 6) (h : ¬ f 61 8 = 0) (h7 : f 61 7 = nI n) : CT (d + 1) 0 0 iX9_restore [.ref 61] (S sw f g) (QR (some (.int 1)) (S sw (jyre f n) g)) := by
  refine CT.of rfl (Nat.le_of_ble_eq_true rfl) (fun X hX hR hN _ => ?_)
  have hX : Good X RX9 cX9_restore (d + 1) 0 0 := hX
  have hN : x_nl X = 1 := hN
  show WP X 0 0 0 [_] [] _
  refine wp_aload_n hX (dk DX9_restore 0 rfl) rfl ?_
  refine w_geti hX flX9_49 (dk DX9_restore 1 rfl) (by decide) rfl ?_
  refine wp_if_ne (tgt := 9) hX (dk DX9_restore 2 rfl) (by decide) (fun _ => ?_) (fun h_ => absurd h_ (h))
  refine wp_aload_n hX (dk DX9_restore 5 rfl) rfl ?_
  refine w_getr hX flX9_21 (dk DX9_restore 6 rfl) rfl rfl ?_
  refine wp_iconst (v := 0) hX (dk DX9_restore 7 rfl) (by decide) ?_
  refine wp_aload_n hX (dk DX9_restore 8 rfl) rfl ?_
  refine w_getr hX flX9_11 (dk DX9_restore 9 rfl) rfl rfl ?_
  refine wp_iconst (v := 0) hX (dk DX9_restore 10 rfl) (by decide) ?_
  refine wp_aload_n hX (dk DX9_restore 11 rfl) rfl ?_
  refine w_geti hX flX9_46 (dk DX9_restore 12 rfl) (by decide) rfl ?_
  rw [h7]
  refine w_copyi (sp := 0) (dp := 0) (n := n) hX lkX9_40 (dk DX9_restore 13 rfl) (by decide) rfl rfl rfl rfl rfl (show 0 + n ≤ 6 by omega) (show 0 + n ≤ 6 by omega) ?_
  refine wp_aload_n hX (dk DX9_restore 14 rfl) rfl ?_
  refine w_getr hX flX9_24 (dk DX9_restore 15 rfl) rfl rfl ?_
  refine wp_iconst (v := 0) hX (dk DX9_restore 16 rfl) (by decide) ?_
  refine wp_aload_n hX (dk DX9_restore 17 rfl) rfl ?_
  refine w_getr hX flX9_15 (dk DX9_restore 18 rfl) rfl rfl ?_
  refine wp_iconst (v := 0) hX (dk DX9_restore 19 rfl) (by decide) ?_
  refine wp_aload_n hX (dk DX9_restore 20 rfl) rfl ?_
  refine w_geti hX flX9_46 (dk DX9_restore 21 rfl) (by decide) rfl ?_
  rw [show u1 f 62 (va_cpy (f 65) (f 62) 0 0 n) 61 7 = nI n from h7]
  refine w_copyi (sp := 0) (dp := 0) (n := n) hX lkX9_40 (dk DX9_restore 22 rfl) (by decide) rfl rfl rfl rfl rfl (show 0 + n ≤ 6 by omega) (show 0 + n ≤ 6 by omega) ?_
  refine wp_aload_n hX (dk DX9_restore 23 rfl) rfl ?_
  refine w_getr hX flX9_27 (dk DX9_restore 24 rfl) rfl rfl ?_
  refine wp_iconst (v := 0) hX (dk DX9_restore 25 rfl) (by decide) ?_
  refine wp_aload_n hX (dk DX9_restore 26 rfl) rfl ?_
  refine w_getr hX flX9_18 (dk DX9_restore 27 rfl) rfl rfl ?_
  refine wp_iconst (v := 0) hX (dk DX9_restore 28 rfl) (by decide) ?_
  refine wp_iconst (v := 4) hX (dk DX9_restore 29 rfl) (by decide) ?_
  refine w_copyi (sp := 0) (dp := 0) (n := 4) hX lkX9_40 (dk DX9_restore 30 rfl) (by decide) rfl rfl rfl rfl rfl (by decide) (by decide) ?_
  refine wp_iconst (v := 1) hX (dk DX9_restore 31 rfl) (by decide) ?_
  exact wp_ireturn hX hR (dk DX9_restore 32 rfl) rfl (Nat.le_refl _) (Nat.le_refl _) (⟨rfl, rfl⟩)
