/-! STRINGS: indexOf of a constant of six -/
/-- at which place of the string i the byte v stands -/
def jix (i v : Nat) : Int32 := match ((x_sb.getD i []).findIdx? (fun q => q == nI v)) with | some j => nI j | none => -1
theorem jix_by : ∀ i, i < 6 → ∀ v, v < 256 → ∀ j, j < x_sl.getD i 0 → ((x_sb.getD i []).getD j 0 = (nI v).toInt8.toInt32 ↔ (x_sb.getD i []).getD j 0 = nI v) := by decide +kernel
theorem jix_at : ∀ i, i < 6 → ∀ v, v < 256 → ∀ j, j < x_sl.getD i 0 → ((x_sb.getD i []).getD j 0 = nI v ∧ (∀ k, k < j → ¬ (x_sb.getD i []).getD k 0 = nI v)) → jix i v = nI j := by decide +kernel
theorem jix_no : ∀ i, i < 6 → ∀ v, v < 256 → (∀ k, k < x_sl.getD i 0 → ¬ (x_sb.getD i []).getD k 0 = nI v) → jix i v = -1 := by decide +kernel
theorem x_sl_sh : ∀ i, i < 6 → Int32.ofNat (x_sl.getD i 0) >>> ((0 : Int32) &&& 31) = nI (x_sl.getD i 0) := by decide
theorem all_succ {P : Nat → Prop} {j : Nat} (h : ∀ k, k < j → P k) (hj : P j) : ∀ k, k < j + 1 → P k := by
  intro k hk
  by_cases c : k = j
  · rw [c]; exact hj
  · exact h k (by omega)
theorem x_sl_le : ∀ i, i < 6 → 1 ≤ x_sl.getD i 0 ∧ x_sl.getD i 0 ≤ 6 := by decide
theorem k_coder (d : Nat) (sw : Bool) (f : Nat → Nat → Int32) (g : Nat → Nat → Int64) (i : Nat) (hi : i < 6) : CT d 0 0 iJ0_coder_7d493 [.ref (1010 + i)] (S sw f g) (QR (some (.int 0)) (S sw f g)) := by
  refine CT.of rfl (Nat.le_of_ble_eq_true rfl) (fun X hX hR hN _ => ?_)
  have hX : Good X RJ0 cJ0_coder_7d493 d 0 0 := hX
  have hN : x_nl X = 1 := hN
  show WP X 0 0 0 [_] [] _
  refine wp_compact hX fsJ0_38 (dk DJ0_coder_7d493 0 rfl) ?_
  refine wp_if_eq (tgt := 13) hX (dk DJ0_coder_7d493 1 rfl) (by decide) (fun h_ => absurd h_ (by decide)) (fun _ => ?_)
  refine wp_aload_n hX (dk DJ0_coder_7d493 2 rfl) rfl ?_
  refine wp_coder hX (by omega) fsJ0_15 (dk DJ0_coder_7d493 3 rfl) ?_
  refine wp_goto (tgt := 14) hX (dk DJ0_coder_7d493 4 rfl) (by decide) ?_
  exact wp_ireturn hX hR (dk DJ0_coder_7d493 6 rfl) rfl (Nat.le_refl _) (Nat.le_refl _) (⟨rfl, rfl⟩)
theorem k_isLatin1 (d : Nat) (sw : Bool) (f : Nat → Nat → Int32) (g : Nat → Nat → Int64) (i : Nat) (hi : i < 6) : CT d 0 0 iJ0_isLatin1_aae02 [.ref (1010 + i)] (S sw f g) (QR (some (.int 1)) (S sw f g)) := by
  refine CT.of rfl (Nat.le_of_ble_eq_true rfl) (fun X hX hR hN _ => ?_)
  have hX : Good X RJ0 cJ0_isLatin1_aae02 d 0 0 := hX
  have hN : x_nl X = 1 := hN
  show WP X 0 0 0 [_] [] _
  refine wp_compact hX fsJ0_38 (dk DJ0_isLatin1_aae02 0 rfl) ?_
  refine wp_if_eq (tgt := 17) hX (dk DJ0_isLatin1_aae02 1 rfl) (by decide) (fun h_ => absurd h_ (by decide)) (fun _ => ?_)
  refine wp_aload_n hX (dk DJ0_isLatin1_aae02 2 rfl) rfl ?_
  refine wp_coder hX (by omega) fsJ0_15 (dk DJ0_isLatin1_aae02 3 rfl) ?_
  refine wp_if_ne (tgt := 17) hX (dk DJ0_isLatin1_aae02 4 rfl) (by decide) (fun h_ => absurd (rfl) h_) (fun _ => ?_)
  refine wp_iconst (v := 1) hX (dk DJ0_isLatin1_aae02 5 rfl) (by decide) ?_
  refine wp_goto (tgt := 18) hX (dk DJ0_isLatin1_aae02 6 rfl) (by decide) ?_
  exact wp_ireturn hX hR (dk DJ0_isLatin1_aae02 8 rfl) rfl (Nat.le_refl _) (Nat.le_refl _) (⟨rfl, rfl⟩)
theorem k_slength (d : Nat) (sw : Bool) (f : Nat → Nat → Int32) (g : Nat → Nat → Int64) (i : Nat) (hi : i < 6) : CT (d + 1) 0 0 iJ0_length_8abf5 [.ref (1010 + i)] (S sw f g) (QR (some (.int (nI (x_sl.getD i 0)))) (S sw f g)) := by
  refine CT.of rfl (Nat.le_of_ble_eq_true rfl) (fun X hX hR hN _ => ?_)
  have hX : Good X RJ0 cJ0_length_8abf5 (d + 1) 0 0 := hX
  have hN : x_nl X = 1 := hN
  show WP X 0 0 0 [_] [] _
  refine wp_aload_n hX (dk DJ0_length_8abf5 0 rfl) rfl ?_
  refine wp_value hX (by omega) fsJ0_9 (dk DJ0_length_8abf5 1 rfl) ?_
  refine wp_slen hX hi (dk DJ0_length_8abf5 2 rfl) ?_
  refine wp_aload_n hX (dk DJ0_length_8abf5 3 rfl) rfl ?_
  refine w_callT (As := []) lkJ0_335 hX (by omega) (dk DJ0_length_8abf5 4 rfl) rfl (by simp [Value.category]) (k_coder d sw f g i hi) ?_
  show WP _ _ _ 9 [_] [_, _] _
  refine wp_ishr hX (dk DJ0_length_8abf5 5 rfl) ?_
  exact wp_ireturn hX hR (dk DJ0_length_8abf5 6 rfl) rfl (Nat.le_refl _) (Nat.le_refl _) (⟨by rw [x_sl_sh i hi], rfl⟩)
theorem k_canEncode (d : Nat) (sw : Bool) (f : Nat → Nat → Int32) (g : Nat → Nat → Int64) (v : Nat) (hv : v < 256) : CT d 0 0 iJ1_canEncode_9a6ad [.int (nI v)] (S sw f g) (QR (some (.int 1)) (S sw f g)) := by
  refine CT.of rfl (Nat.le_of_ble_eq_true rfl) (fun X hX hR hN _ => ?_)
  have hX : Good X RJ1 cJ1_canEncode_9a6ad d 0 0 := hX
  have hN : x_nl X = 1 := hN
  show WP X 0 0 0 [_] [] _
  refine wp_iload_n hX (dk DJ1_canEncode_9a6ad 0 rfl) rfl ?_
  refine wp_if_lt (tgt := 15) hX (dk DJ1_canEncode_9a6ad 1 rfl) (by decide) (fun h_ => absurd h_ (nI_pos (by omega))) (fun _ => ?_)
  refine wp_iload_n hX (dk DJ1_canEncode_9a6ad 2 rfl) rfl ?_
  refine wp_sipush (v := 255) hX (dk DJ1_canEncode_9a6ad 3 rfl) (by decide) ?_
  refine wp_icmp_gt (tgt := 15) hX (dk DJ1_canEncode_9a6ad 4 rfl) (by decide) (fun h_ => absurd h_ (Int32.not_lt.mpr (nI_le (b := 255) (by omega) (by omega)))) (fun _ => ?_)
  refine wp_iconst (v := 1) hX (dk DJ1_canEncode_9a6ad 5 rfl) (by decide) ?_
  refine wp_goto (tgt := 16) hX (dk DJ1_canEncode_9a6ad 6 rfl) (by decide) ?_
  exact wp_ireturn hX hR (dk DJ1_canEncode_9a6ad 8 rfl) rfl (Nat.le_refl _) (Nat.le_refl _) (⟨rfl, rfl⟩)
theorem k_indexOfChar (d : Nat) (sw : Bool) (f : Nat → Nat → Int32) (g : Nat → Nat → Int64) (i v : Nat) (hi : i < 6) (hv : v < 256) : CT d 0 0 iJ1_indexOfChar_4cfef [.ref (1020 + i), .int (nI v), .int 0, .int (nI (x_sl.getD i 0))] (S sw f g) (QR (some (.int (jix i v))) (S sw f g)) := by
  have hl := x_sl_le i hi
  refine CT.of rfl (Nat.le_of_ble_eq_true rfl) (fun X hX hR hN _ => ?_)
  have hX : Good X RJ1 cJ1_indexOfChar_4cfef d 0 0 := hX
  have hN : x_nl X = 6 := hN
  show WP X 0 0 0 [_, _, _, _, _, _] [] _
  refine wp_iload_n hX (dk DJ1_indexOfChar_4cfef 0 rfl) rfl ?_
  refine wp_i2b hX (dk DJ1_indexOfChar_4cfef 1 rfl) ?_
  refine wp_istore hX (dk DJ1_indexOfChar_4cfef 2 rfl) rfl hN (Nat.le_of_ble_eq_true rfl) ?_
  show WP _ _ _ 4 [_, _, _, _, _, _] [] _
  refine wp_iload_n hX (dk DJ1_indexOfChar_4cfef 3 rfl) rfl ?_
  refine wp_istore hX (dk DJ1_indexOfChar_4cfef 4 rfl) rfl hN (Nat.le_of_ble_eq_true rfl) ?_
  show WP _ _ _ 7 [_, _, _, _, _, _] [] _
  have lo : ∀ (m j : Nat), j + m = x_sl.getD i 0 → (∀ k, k < j → ¬ (x_sb.getD i []).getD k 0 = nI v) → WP X 0 0 7 [some (.ref (1020 + i)), some (.int (nI v)), some (.int 0), some (.int (nI (x_sl.getD i 0))), some (.int (nI v).toInt8.toInt32), some (.int (nI j))] [] (S sw f g) := by
    intro m
    induction m with
    | zero =>
      intro j hj hk
      obtain rfl : j = x_sl.getD i 0 := by omega
      refine wp_iload hX (dk DJ1_indexOfChar_4cfef 5 rfl) rfl ?_
      refine wp_iload_n hX (dk DJ1_indexOfChar_4cfef 6 rfl) rfl ?_
      refine wp_icmp_ge (tgt := 31) hX (dk DJ1_indexOfChar_4cfef 7 rfl) (by decide) (fun _ => ?_) (fun h_ => absurd (nI_le (by omega) (by omega)) h_)
      refine wp_iconst (v := -1) hX (dk DJ1_indexOfChar_4cfef 17 rfl) (by decide) ?_
      exact wp_ireturn hX hR (dk DJ1_indexOfChar_4cfef 18 rfl) rfl (Nat.le_refl _) (Nat.le_refl _) (⟨by rw [jix_no i hi v hv hk], rfl⟩)
    | succ m ih =>
      intro j hj hk
      refine wp_iload hX (dk DJ1_indexOfChar_4cfef 5 rfl) rfl ?_
      refine wp_iload_n hX (dk DJ1_indexOfChar_4cfef 6 rfl) rfl ?_
      refine wp_icmp_ge (tgt := 31) hX (dk DJ1_indexOfChar_4cfef 7 rfl) (by decide) (fun h_ => absurd h_ (nI_ge (by omega) (by omega))) (fun _ => ?_)
      refine wp_aload_n hX (dk DJ1_indexOfChar_4cfef 8 rfl) rfl ?_
      refine wp_iload hX (dk DJ1_indexOfChar_4cfef 9 rfl) rfl ?_
      refine wp_sbyte hX hi (dk DJ1_indexOfChar_4cfef 10 rfl) (nI_in (by omega) (by omega)) ?_
      rw [nI_clamp (by omega)]
      refine wp_iload hX (dk DJ1_indexOfChar_4cfef 11 rfl) rfl ?_
      refine wp_icmp_ne (tgt := 25) hX (dk DJ1_indexOfChar_4cfef 12 rfl) (by decide) (fun h19 => ?_) (fun h19 => ?_)
      · refine wp_iinc hX (dk DJ1_indexOfChar_4cfef 15 rfl) rfl (nI_inc _) rfl hN ?_
        show WP _ _ _ 28 [_, _, _, _, _, _] [] _
        refine wp_goto (tgt := 7) hX (dk DJ1_indexOfChar_4cfef 16 rfl) (by decide) ?_
        exact ih (j + 1) (by omega) (all_succ hk (fun q => h19 ((jix_by i hi v hv j (by omega)).mpr q)))
      · refine wp_iload hX (dk DJ1_indexOfChar_4cfef 13 rfl) rfl ?_
        exact wp_ireturn hX hR (dk DJ1_indexOfChar_4cfef 14 rfl) rfl (Nat.le_refl _) (Nat.le_refl _) (⟨by rw [jix_at i hi v hv j (by omega) ⟨(jix_by i hi v hv j (by omega)).mp h19, hk⟩], rfl⟩)
  exact lo (x_sl.getD i 0) 0 (by omega) (fun k hk => absurd hk (by omega))
theorem k_indexOfL (d : Nat) (sw : Bool) (f : Nat → Nat → Int32) (g : Nat → Nat → Int64) (i v : Nat) (hi : i < 6) (hv : v < 256) : CT (d + 1) 0 0 iJ1_indexOf_4cfef [.ref (1020 + i), .int (nI v), .int 0, .int (nI (x_sl.getD i 0))] (S sw f g) (QR (some (.int (jix i v))) (S sw f g)) := by
  have hl := x_sl_le i hi
  refine CT.of rfl (Nat.le_of_ble_eq_true rfl) (fun X hX hR hN _ => ?_)
  have hX : Good X RJ1 cJ1_indexOf_4cfef (d + 1) 0 0 := hX
  have hN : x_nl X = 4 := hN
  show WP X 0 0 0 [_, _, _, _] [] _
  refine wp_iload_n hX (dk DJ1_indexOf_4cfef 0 rfl) rfl ?_
  refine w_callS (As := [_]) lkJ1_88 hX (dk DJ1_indexOf_4cfef 1 rfl) rfl (by decide) (k_canEncode d sw f g v hv) ?_
  show WP _ _ _ 4 [_, _, _, _] [_] _
  refine wp_if_ne (tgt := 9) hX (dk DJ1_indexOf_4cfef 2 rfl) (by decide) (fun _ => ?_) (fun h_ => absurd h_ (by decide))
  refine wp_iload_n hX (dk DJ1_indexOf_4cfef 5 rfl) rfl ?_
  refine wp_iconst (v := 0) hX (dk DJ1_indexOf_4cfef 6 rfl) (by decide) ?_
  refine w_max hX lkJ1_92 (dk DJ1_indexOf_4cfef 7 rfl) (by decide) ?_
  rw [if_neg (by decide)]
  refine wp_istore_n hX (dk DJ1_indexOf_4cfef 8 rfl) rfl rfl hN (Nat.le_of_ble_eq_true rfl) ?_
  show WP _ _ _ 15 [_, _, _, _] [] _
  refine wp_iload_n hX (dk DJ1_indexOf_4cfef 9 rfl) rfl ?_
  refine wp_aload_n hX (dk DJ1_indexOf_4cfef 10 rfl) rfl ?_
  refine wp_slen hX hi (dk DJ1_indexOf_4cfef 11 rfl) ?_
  refine w_min hX lkJ1_38 (dk DJ1_indexOf_4cfef 12 rfl) (by decide) ?_
  rw [show (if Int32.ofNat (x_sl.getD i 0) < nI (x_sl.getD i 0) then Int32.ofNat (x_sl.getD i 0) else nI (x_sl.getD i 0)) = nI (x_sl.getD i 0) from ite_self _]
  refine wp_istore_n hX (dk DJ1_indexOf_4cfef 13 rfl) rfl rfl hN (Nat.le_of_ble_eq_true rfl) ?_
  show WP _ _ _ 22 [_, _, _, _] [] _
  refine wp_iload_n hX (dk DJ1_indexOf_4cfef 14 rfl) rfl ?_
  refine wp_iload_n hX (dk DJ1_indexOf_4cfef 15 rfl) rfl ?_
  refine wp_icmp_lt (tgt := 29) hX (dk DJ1_indexOf_4cfef 16 rfl) (by decide) (fun _ => ?_) (fun h_ => absurd (nI_lt (a := 0) (by omega) (by omega)) h_)
  refine wp_aload_n hX (dk DJ1_indexOf_4cfef 19 rfl) rfl ?_
  refine wp_iload_n hX (dk DJ1_indexOf_4cfef 20 rfl) rfl ?_
  refine wp_iload_n hX (dk DJ1_indexOf_4cfef 21 rfl) rfl ?_
  refine wp_iload_n hX (dk DJ1_indexOf_4cfef 22 rfl) rfl ?_
  refine w_callS (As := [_, _, _, _]) lkJ1_95 hX (dk DJ1_indexOf_4cfef 23 rfl) rfl (by decide) (k_indexOfChar d sw f g i v hi hv) ?_
  show WP _ _ _ 36 [_, _, _, _] [_] _
  exact wp_ireturn hX hR (dk DJ1_indexOf_4cfef 24 rfl) rfl (Nat.le_refl _) (Nat.le_refl _) (⟨rfl, rfl⟩)
theorem k_indexOf2 (d : Nat) (sw : Bool) (f : Nat → Nat → Int32) (g : Nat → Nat → Int64) (i v : Nat) (hi : i < 6) (hv : v < 256) : CT (d + 2) 0 0 iJ0_indexOf_7cf53 [.ref (1010 + i), .int (nI v), .int 0] (S sw f g) (QR (some (.int (jix i v))) (S sw f g)) := by
  refine CT.of rfl (Nat.le_of_ble_eq_true rfl) (fun X hX hR hN _ => ?_)
  have hX : Good X RJ0 cJ0_indexOf_7cf53 (d + 2) 0 0 := hX
  have hN : x_nl X = 3 := hN
  show WP X 0 0 0 [_, _, _] [] _
  refine wp_aload_n hX (dk DJ0_indexOf_7cf53 0 rfl) rfl ?_
  refine w_callT (As := []) lkJ0_492 hX (by omega) (dk DJ0_indexOf_7cf53 1 rfl) rfl (by decide) (k_isLatin1 (d + 1) sw f g i hi) ?_
  show WP _ _ _ 4 [_, _, _] [_] _
  refine wp_if_eq (tgt := 23) hX (dk DJ0_indexOf_7cf53 2 rfl) (by decide) (fun h_ => absurd h_ (by decide)) (fun _ => ?_)
  refine wp_aload_n hX (dk DJ0_indexOf_7cf53 3 rfl) rfl ?_
  refine wp_value hX hi fsJ0_9 (dk DJ0_indexOf_7cf53 4 rfl) ?_
  refine wp_iload_n hX (dk DJ0_indexOf_7cf53 5 rfl) rfl ?_
  refine wp_iload_n hX (dk DJ0_indexOf_7cf53 6 rfl) rfl ?_
  refine wp_aload_n hX (dk DJ0_indexOf_7cf53 7 rfl) rfl ?_
  refine w_callT (As := []) lkJ0_505 hX (by omega) (dk DJ0_indexOf_7cf53 8 rfl) rfl (by simp [Value.category]) (k_slength d sw f g i hi) ?_
  show WP _ _ _ 17 [_, _, _] [_, _, _, _] _
  refine w_callS (As := [_, _, _, _]) lkJ0_637 hX (dk DJ0_indexOf_7cf53 9 rfl) rfl (by decide) (k_indexOfL d sw f g i v hi hv) ?_
  show WP _ _ _ 20 [_, _, _] [_] _
  refine wp_goto (tgt := 36) hX (dk DJ0_indexOf_7cf53 10 rfl) (by decide) ?_
  exact wp_ireturn hX hR (dk DJ0_indexOf_7cf53 18 rfl) rfl (Nat.le_refl _) (Nat.le_refl _) (⟨rfl, rfl⟩)
theorem k_indexOf (d : Nat) (sw : Bool) (f : Nat → Nat → Int32) (g : Nat → Nat → Int64) (i v : Nat) (hi : i < 6) (hv : v < 256) : CT (d + 3) 0 0 iJ0_indexOf_0f7a4 [.ref (1010 + i), .int (nI v)] (S sw f g) (QR (some (.int (jix i v))) (S sw f g)) := by
  refine CT.of rfl (Nat.le_of_ble_eq_true rfl) (fun X hX hR hN _ => ?_)
  have hX : Good X RJ0 cJ0_indexOf_0f7a4 (d + 3) 0 0 := hX
  have hN : x_nl X = 2 := hN
  show WP X 0 0 0 [_, _] [] _
  refine wp_aload_n hX (dk DJ0_indexOf_0f7a4 0 rfl) rfl ?_
  refine wp_iload_n hX (dk DJ0_indexOf_0f7a4 1 rfl) rfl ?_
  refine wp_iconst (v := 0) hX (dk DJ0_indexOf_0f7a4 2 rfl) (by decide) ?_
  refine w_callT (As := [_, _]) lkJ0_633 hX (by omega) (dk DJ0_indexOf_0f7a4 3 rfl) rfl (by decide) (k_indexOf2 d sw f g i v hi hv) ?_
  show WP _ _ _ 6 [_, _] [_] _
  exact wp_ireturn hX hR (dk DJ0_indexOf_0f7a4 4 rfl) rfl (Nat.le_refl _) (Nat.le_refl _) (⟨rfl, rfl⟩)
