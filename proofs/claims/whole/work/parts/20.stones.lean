/-! STONES -/
theorem k_kept (d : Nat) (sw : Bool) (f : Nat → Nat → Int32) (g : Nat → Nat → Int64) : CT d 0 0 iX6_kept [.ref 70] (S sw f g) (QR (some (.int (f 70 2))) (S sw f g)) := by
  refine CT.of rfl (Nat.le_of_ble_eq_true rfl) (fun X hX hR hN _ => ?_)
  have hX : Good X RX6 cX6_kept d 0 0 := hX
  have hN : x_nl X = 1 := hN
  show WP X 0 0 0 [_] [] _
  refine wp_aload_n hX (dk DX6_kept 0 rfl) rfl ?_
  refine w_geti hX flX6_18 (dk DX6_kept 1 rfl) (by decide) rfl ?_
  exact wp_ireturn hX hR (dk DX6_kept 2 rfl) rfl (Nat.le_refl _) (Nat.le_refl _) (⟨rfl, rfl⟩)
theorem k_ran (d : Nat) (sw : Bool) (f : Nat → Nat → Int32) (g : Nat → Nat → Int64) : CT d 0 0 iX6_ran [.ref 70] (S sw f g) (QR (some (.int (f 70 3))) (S sw f g)) := by
  refine CT.of rfl (Nat.le_of_ble_eq_true rfl) (fun X hX hR hN _ => ?_)
  have hX : Good X RX6 cX6_ran d 0 0 := hX
  have hN : x_nl X = 1 := hN
  show WP X 0 0 0 [_] [] _
  refine wp_aload_n hX (dk DX6_ran 0 rfl) rfl ?_
  refine w_geti hX flX6_22 (dk DX6_ran 1 rfl) (by decide) rfl ?_
  exact wp_ireturn hX hR (dk DX6_ran 2 rfl) rfl (Nat.le_refl _) (Nat.le_refl _) (⟨rfl, rfl⟩)
theorem k_sthas (d : Nat) (sw : Bool) (f : Nat → Nat → Int32) (g : Nat → Nat → Int64) (x : Int32) : CT d 0 0 iX6_has [.ref 70, .int x] (S sw f g) (QR (some (.int (jin x (f 70 2)))) (S sw f g)) := by
  refine CT.of rfl (Nat.le_of_ble_eq_true rfl) (fun X hX hR hN _ => ?_)
  have hX : Good X RX6 cX6_has d 0 0 := hX
  have hN : x_nl X = 2 := hN
  show WP X 0 0 0 [_, _] [] _
  refine wp_iload_n hX (dk DX6_has 0 rfl) rfl ?_
  refine wp_if_lt (tgt := 16) hX (dk DX6_has 1 rfl) (by decide) (fun h => ?_) (fun h => ?_)
  · refine wp_iconst (v := 0) hX (dk DX6_has 8 rfl) (by decide) ?_
    exact wp_ireturn hX hR (dk DX6_has 9 rfl) rfl (Nat.le_refl _) (Nat.le_refl _) (⟨by rw [jin, if_neg (fun q => q.1 h)], rfl⟩)
  · refine wp_iload_n hX (dk DX6_has 2 rfl) rfl ?_
    refine wp_aload_n hX (dk DX6_has 3 rfl) rfl ?_
    refine w_geti hX flX6_18 (dk DX6_has 4 rfl) (by decide) rfl ?_
    refine wp_icmp_ge (tgt := 16) hX (dk DX6_has 5 rfl) (by decide) (fun h2 => ?_) (fun h2 => ?_)
    · refine wp_iconst (v := 0) hX (dk DX6_has 8 rfl) (by decide) ?_
      exact wp_ireturn hX hR (dk DX6_has 9 rfl) rfl (Nat.le_refl _) (Nat.le_refl _) (⟨by rw [jin, if_neg (fun q => Int32.not_lt.mpr h2 q.2)], rfl⟩)
    · refine wp_iconst (v := 1) hX (dk DX6_has 6 rfl) (by decide) ?_
      refine wp_goto (tgt := 17) hX (dk DX6_has 7 rfl) (by decide) ?_
      -- to 17
      exact wp_ireturn hX hR (dk DX6_has 9 rfl) rfl (Nat.le_refl _) (Nat.le_refl _) (⟨by rw [jin, if_pos ⟨h, Int32.not_le.mp h2⟩], rfl⟩)
theorem k_kindOf (d : Nat) (sw : Bool) (f : Nat → Nat → Int32) (g : Nat → Nat → Int64) (b : Nat) (hb : b < 50) : CT d 0 0 iX6_kindOf [.ref 70, .int (nI b)] (S sw f g) (QR (some (.int (f 71 b))) (S sw f g)) := by
  refine CT.of rfl (Nat.le_of_ble_eq_true rfl) (fun X hX hR hN _ => ?_)
  have hX : Good X RX6 cX6_kindOf d 0 0 := hX
  have hN : x_nl X = 2 := hN
  show WP X 0 0 0 [_, _] [] _
  refine wp_aload_n hX (dk DX6_kindOf 0 rfl) rfl ?_
  refine w_getr hX flX6_11 (dk DX6_kindOf 1 rfl) rfl rfl ?_
  refine wp_iload_n hX (dk DX6_kindOf 2 rfl) rfl ?_
  refine w_iald (j := _) hX (dk DX6_kindOf 3 rfl) rfl rfl (show _ < 50 by omega) ?_
  exact wp_ireturn hX hR (dk DX6_kindOf 4 rfl) rfl (Nat.le_refl _) (Nat.le_refl _) (⟨rfl, rfl⟩)
theorem k_stadd_full (d : Nat) (sw : Bool) (f : Nat → Nat → Int32) (g : Nat → Nat → Int64) (x : Int32) (h : f 70 2 = nI 50) : CT d 0 0 iX6_add [.ref 70, .int x] (S sw f g) (QR (some (.int (-3))) (S sw f g)) := by
  refine CT.of rfl (Nat.le_of_ble_eq_true rfl) (fun X hX hR hN _ => ?_)
  have hX : Good X RX6 cX6_add d 0 0 := hX
  have hN : x_nl X = 2 := hN
  show WP X 0 0 0 [_, _] [] _
  refine wp_aload_n hX (dk DX6_add 0 rfl) rfl ?_
  refine w_geti hX flX6_18 (dk DX6_add 1 rfl) (by decide) rfl ?_
  refine wp_bipush (v := 50) hX (dk DX6_add 2 rfl) (by decide) ?_
  rw [h]
  refine wp_icmp_lt (tgt := 12) hX (dk DX6_add 3 rfl) (by decide) (fun h_ => absurd h_ ((by decide))) (fun _ => ?_)
  refine wp_bipush (v := -3) hX (dk DX6_add 4 rfl) (by decide) ?_
  exact wp_ireturn hX hR (dk DX6_add 5 rfl) rfl (Nat.le_refl _) (Nat.le_refl _) (⟨rfl, rfl⟩)
theorem k_stadd (d : Nat) (sw : Bool) (f : Nat → Nat → Int32) (g : Nat → Nat → Int64) (n : Nat) (x : Int32) (hn : n < 50) (h : f 70 2 = nI n) : CT d 0 0 iX6_add [.ref 70, .int x] (S sw f g) (QR (some (.int (nI n))) (S sw (u2 (u2 f 71 n x) 70 2 (nI (n + 1))) g)) := by
  refine CT.of rfl (Nat.le_of_ble_eq_true rfl) (fun X hX hR hN _ => ?_)
  have hX : Good X RX6 cX6_add d 0 0 := hX
  have hN : x_nl X = 2 := hN
  show WP X 0 0 0 [_, _] [] _
  refine wp_aload_n hX (dk DX6_add 0 rfl) rfl ?_
  refine w_geti hX flX6_18 (dk DX6_add 1 rfl) (by decide) rfl ?_
  refine wp_bipush (v := 50) hX (dk DX6_add 2 rfl) (by decide) ?_
  rw [h]
  refine wp_icmp_lt (tgt := 12) hX (dk DX6_add 3 rfl) (by decide) (fun _ => ?_) (fun h_ => absurd ((nI_lt (b := 50) hn (by omega))) h_)
  refine wp_aload_n hX (dk DX6_add 6 rfl) rfl ?_
  refine w_getr hX flX6_11 (dk DX6_add 7 rfl) rfl rfl ?_
  refine wp_aload_n hX (dk DX6_add 8 rfl) rfl ?_
  refine w_geti hX flX6_18 (dk DX6_add 9 rfl) (by decide) rfl ?_
  rw [h]
  refine wp_iload_n hX (dk DX6_add 10 rfl) rfl ?_
  refine w_iast (j := _) hX (dk DX6_add 11 rfl) rfl rfl (show _ < 50 by omega) ?_
  refine wp_aload_n hX (dk DX6_add 12 rfl) rfl ?_
  refine wp_dup hX (dk DX6_add 13 rfl) rfl ?_
  refine w_geti hX flX6_18 (dk DX6_add 14 rfl) (by decide) rfl ?_
  rw [show u2 f 71 n x 70 2 = nI n by rw [u2_ne _ _ _ (by omega)]; exact h]
  refine wp_iconst (v := 1) hX (dk DX6_add 15 rfl) (by decide) ?_
  refine wp_iadd hX (dk DX6_add 16 rfl) ?_
  rw [nI_1]
  refine w_puti hX fpX6_18 (dk DX6_add 17 rfl) rfl ?_
  refine wp_aload_n hX (dk DX6_add 18 rfl) rfl ?_
  refine w_geti hX flX6_18 (dk DX6_add 19 rfl) (by decide) rfl ?_
  rw [u2_at]
  refine wp_iconst (v := 1) hX (dk DX6_add 20 rfl) (by decide) ?_
  refine wp_isub hX (dk DX6_add 21 rfl) ?_
  rw [nI_pred]
  exact wp_ireturn hX hR (dk DX6_add 22 rfl) rfl (Nat.le_refl _) (Nat.le_refl _) (⟨rfl, rfl⟩)
/-- THE TRACE: t as it is kept -/
def trOk (f : Nat → Nat → Int32) (t : List Int32) : Prop := f 70 3 = nI t.length ∧ t.length ≤ 1000 ∧ ∀ (j : Nat) (q : Int32), j < 24 → t[j]? = some q → f 72 j = q
def trSm (f f2 : Nat → Nat → Int32) : Prop := (∀ b, b ≠ 70 → b ≠ 72 → f2 b = f b) ∧ ∀ i, i ≠ 3 → f2 70 i = f 70 i
theorem trSm.trans {f f2 f3 : Nat → Nat → Int32} (h : trSm f f2) (h2 : trSm f2 f3) : trSm f f3 := ⟨fun b g1 g2 => (h2.1 b g1 g2).trans (h.1 b g1 g2), fun i hi => (h2.2 i hi).trans (h.2 i hi)⟩
theorem k_traced (d : Nat) (sw : Bool) (f : Nat → Nat → Int32) (g : Nat → Nat → Int64) (t : List Int32) (x : Int32) (ht : trOk f t) : CT (d + 1) 0 0 iX6_traced [.ref 70, .int x] (S sw f g) (QR (some (.int (if ¬ x < 0 ∧ x < nI (min t.length 24) then t.getD x.toNatClampNeg 0 else -1))) (S sw f g)) := by
  refine CT.of rfl (Nat.le_of_ble_eq_true rfl) (fun X hX hR hN _ => ?_)
  have hX : Good X RX6 cX6_traced (d + 1) 0 0 := hX
  have hN : x_nl X = 2 := hN
  show WP X 0 0 0 [_, _] [] _
  refine wp_iload_n hX (dk DX6_traced 0 rfl) rfl ?_
  refine wp_if_lt (tgt := 26) hX (dk DX6_traced 1 rfl) (by decide) (fun h => ?_) (fun h => ?_)
  · refine wp_iconst (v := -1) hX (dk DX6_traced 13 rfl) (by decide) ?_
    exact wp_ireturn hX hR (dk DX6_traced 14 rfl) rfl (Nat.le_refl _) (Nat.le_refl _) (⟨by rw [if_neg (fun q => q.1 h)], rfl⟩)
  · refine wp_iload_n hX (dk DX6_traced 2 rfl) rfl ?_
    refine wp_aload_n hX (dk DX6_traced 3 rfl) rfl ?_
    refine w_geti hX flX6_22 (dk DX6_traced 4 rfl) (by decide) rfl ?_
    refine wp_bipush (v := 24) hX (dk DX6_traced 5 rfl) (by decide) ?_
    refine w_min hX lkX6_25 (dk DX6_traced 6 rfl) (by simp [Value.category]) ?_
    have hlen := ht.2.1
    have e : (if (24 : Int32) < f 70 3 then (24 : Int32) else f 70 3) = nI (min t.length 24) := by
      rw [ht.1]
      by_cases c : 24 < t.length
      · rw [if_pos (show (24 : Int32) < nI t.length from nI_lt (a := 24) c (by omega)), show min t.length 24 = 24 by omega]
        rfl
      · rw [if_neg (show ¬ (24 : Int32) < nI t.length from nI_nlt (a := 24) (by omega) (by omega)), show min t.length 24 = t.length by omega]
    rw [e]
    refine wp_icmp_ge (tgt := 26) hX (dk DX6_traced 7 rfl) (by decide) (fun h2 => ?_) (fun h2 => ?_)
    · refine wp_iconst (v := -1) hX (dk DX6_traced 13 rfl) (by decide) ?_
      exact wp_ireturn hX hR (dk DX6_traced 14 rfl) rfl (Nat.le_refl _) (Nat.le_refl _) (⟨by rw [if_neg (fun q => Int32.not_lt.mpr h2 q.2)], rfl⟩)
    · obtain ⟨j, hj1, rfl⟩ := nI_of h
      have hj2 : j < min t.length 24 := by
        by_cases c : j < min t.length 24
        · exact c
        · exact absurd (nI_le (show min t.length 24 ≤ j by omega) (by omega)) h2
      refine wp_aload_n hX (dk DX6_traced 8 rfl) rfl ?_
      refine w_getr hX flX6_15 (dk DX6_traced 9 rfl) rfl rfl ?_
      refine wp_iload_n hX (dk DX6_traced 10 rfl) rfl ?_
      refine w_iald (j := _) hX (dk DX6_traced 11 rfl) rfl rfl (show _ < 24 by omega) ?_
      refine wp_goto (tgt := 27) hX (dk DX6_traced 12 rfl) (by decide) ?_
      -- to 27
      have hq : f 72 j = t.getD j 0 := by
        have h9 : t[j]? = some (t[j]'(by omega)) := List.getElem?_eq_getElem (by omega)
        rw [List.getD_eq_getElem?_getD, h9]
        exact ht.2.2 j _ (by omega) h9
      exact wp_ireturn hX hR (dk DX6_traced 14 rfl) rfl (Nat.le_refl _) (Nat.le_refl _) (⟨by rw [if_pos ⟨h, Int32.not_le.mp h2⟩, nI_clamp (by omega), hq], rfl⟩)
/-- is a kind under another one -/
def abN (k : Nat) : Nat := [0, 0, 0, 2, 1, 3, 0, 4].getD k 0
def htN (k : Nat) : Nat := [0, 1, 1, 2, 2, 3, 1, 3].getD k 0
def junder : Nat → Nat → Int32 → Int32
  | 0, k, t => if nI k = t then 1 else 0
  | m + 1, k, t => if nI k = t then 1 else if k = 0 then 0 else junder m (abN k) t
theorem ab_ok : ∀ k, k < 8 → (k ≠ 0 → x_abov k = nI (abN k) ∧ abN k < 8 ∧ htN (abN k) + 1 = htN k) ∧ (k = 0 → x_abov k = -1 ∧ htN k = 0) ∧ htN k ≤ 3 := by decide +kernel
theorem k_isUnder (d : Nat) (sw : Bool) (f : Nat → Nat → Int32) (g : Nat → Nat → Int64) (k : Nat) (t : Int32) (hk : k < 8) : CT d 0 0 iX6_isUnder [.int (nI k), .int t] (S sw f g) (QR (some (.int (junder 3 k t))) (S sw f g)) := by
  refine CT.of rfl (Nat.le_of_ble_eq_true rfl) (fun X hX hR hN _ => ?_)
  have hX : Good X RX6 cX6_isUnder d 0 0 := hX
  have hN : x_nl X = 4 := hN
  show WP X 0 0 0 [_, _, _, _] [] _
  refine wp_iload_n hX (dk DX6_isUnder 0 rfl) rfl ?_
  refine wp_istore_n hX (dk DX6_isUnder 1 rfl) rfl rfl hN (Nat.le_of_ble_eq_true rfl) ?_
  show WP _ _ _ 2 [_, _, _, _] [] _
  refine wp_iconst (v := 0) hX (dk DX6_isUnder 2 rfl) (by decide) ?_
  refine wp_istore_n hX (dk DX6_isUnder 3 rfl) rfl rfl hN (Nat.le_of_ble_eq_true rfl) ?_
  show WP _ _ _ 4 [_, _, _, _] [] _
  have stop : ∀ (u : Nat) (z : Int32), u ≤ 7 → z < 0 → junder 3 k t = 0 → WP X 0 0 4 [some (.int (nI k)), some (.int t), some (.int z), some (.int (nI u))] [] (S sw f g) := by
    intro u z hu hz e
    refine wp_iload_n hX (dk DX6_isUnder 4 rfl) rfl ?_
    refine wp_bipush (v := 8) hX (dk DX6_isUnder 5 rfl) (by decide) ?_
    refine wp_icmp_ge (tgt := 33) hX (dk DX6_isUnder 6 rfl) (by decide) (fun h_ => absurd h_ ((nI_ge (b := 8) (by omega) (by omega)))) (fun _ => ?_)
    refine wp_iload_n hX (dk DX6_isUnder 7 rfl) rfl ?_
    refine wp_if_lt (tgt := 33) hX (dk DX6_isUnder 8 rfl) (by decide) (fun _ => ?_) (fun h_ => absurd (hz) h_)
    refine wp_iconst (v := 0) hX (dk DX6_isUnder 20 rfl) (by decide) ?_
    exact wp_ireturn hX hR (dk DX6_isUnder 21 rfl) rfl (Nat.le_refl _) (Nat.le_refl _) (⟨by rw [e], rfl⟩)
  have lp : ∀ (h q u : Nat), q < 8 → htN q ≤ h → u + h ≤ 6 → junder 3 k t = junder h q t → WP X 0 0 4 [some (.int (nI k)), some (.int t), some (.int (nI q)), some (.int (nI u))] [] (S sw f g) := by
    intro h
    induction h with
    | zero =>
      intro q u hq hh hu e
      obtain ⟨a1, a2, a3⟩ := ab_ok q hq
      have hq0 : q = 0 := by
        by_cases c : q = 0
        · exact c
        · have := (a1 c).2.2; omega
      refine wp_iload_n hX (dk DX6_isUnder 4 rfl) rfl ?_
      refine wp_bipush (v := 8) hX (dk DX6_isUnder 5 rfl) (by decide) ?_
      refine wp_icmp_ge (tgt := 33) hX (dk DX6_isUnder 6 rfl) (by decide) (fun h_ => absurd h_ ((nI_ge (b := 8) (by omega) (by omega)))) (fun _ => ?_)
      refine wp_iload_n hX (dk DX6_isUnder 7 rfl) rfl ?_
      refine wp_if_lt (tgt := 33) hX (dk DX6_isUnder 8 rfl) (by decide) (fun h_ => absurd h_ ((nI_pos (by omega)))) (fun _ => ?_)
      refine wp_iload_n hX (dk DX6_isUnder 9 rfl) rfl ?_
      refine wp_iload_n hX (dk DX6_isUnder 10 rfl) rfl ?_
      refine wp_icmp_ne (tgt := 21) hX (dk DX6_isUnder 11 rfl) (by decide) (fun hc => ?_) (fun hc => ?_)
      · refine wp_abov hX fsX6_31 (dk DX6_isUnder 14 rfl) ?_
        refine wp_iload_n hX (dk DX6_isUnder 15 rfl) rfl ?_
        refine wp_t2 hX (dk DX6_isUnder 16 rfl) (vp_in_nI (by omega) (by omega)) ?_
        refine wp_istore_n hX (dk DX6_isUnder 17 rfl) rfl rfl hN (Nat.le_of_ble_eq_true rfl) ?_
        show WP _ _ _ 27 [_, _, _, _] [] _
        refine wp_iinc hX (dk DX6_isUnder 18 rfl) rfl (nI_inc _) rfl hN ?_
        show WP _ _ _ 30 [_, _, _, _] [] _
        refine wp_goto (tgt := 4) hX (dk DX6_isUnder 19 rfl) (by decide) ?_
        -- to 4
        rw [nI_clamp (by omega), (a2 hq0).1]
        refine stop (u + 1) (-1) (by omega) (by decide) ?_
        rw [e, junder, if_neg hc]
      · refine wp_iconst (v := 1) hX (dk DX6_isUnder 12 rfl) (by decide) ?_
        exact wp_ireturn hX hR (dk DX6_isUnder 13 rfl) rfl (Nat.le_refl _) (Nat.le_refl _) (⟨by rw [e, junder, if_pos hc], rfl⟩)
    | succ h ih =>
      intro q u hq hh hu e
      obtain ⟨a1, a2, a3⟩ := ab_ok q hq
      refine wp_iload_n hX (dk DX6_isUnder 4 rfl) rfl ?_
      refine wp_bipush (v := 8) hX (dk DX6_isUnder 5 rfl) (by decide) ?_
      refine wp_icmp_ge (tgt := 33) hX (dk DX6_isUnder 6 rfl) (by decide) (fun h_ => absurd h_ ((nI_ge (b := 8) (by omega) (by omega)))) (fun _ => ?_)
      refine wp_iload_n hX (dk DX6_isUnder 7 rfl) rfl ?_
      refine wp_if_lt (tgt := 33) hX (dk DX6_isUnder 8 rfl) (by decide) (fun h_ => absurd h_ ((nI_pos (by omega)))) (fun _ => ?_)
      refine wp_iload_n hX (dk DX6_isUnder 9 rfl) rfl ?_
      refine wp_iload_n hX (dk DX6_isUnder 10 rfl) rfl ?_
      refine wp_icmp_ne (tgt := 21) hX (dk DX6_isUnder 11 rfl) (by decide) (fun hc => ?_) (fun hc => ?_)
      · refine wp_abov hX fsX6_31 (dk DX6_isUnder 14 rfl) ?_
        refine wp_iload_n hX (dk DX6_isUnder 15 rfl) rfl ?_
        refine wp_t2 hX (dk DX6_isUnder 16 rfl) (vp_in_nI (by omega) (by omega)) ?_
        refine wp_istore_n hX (dk DX6_isUnder 17 rfl) rfl rfl hN (Nat.le_of_ble_eq_true rfl) ?_
        show WP _ _ _ 27 [_, _, _, _] [] _
        refine wp_iinc hX (dk DX6_isUnder 18 rfl) rfl (nI_inc _) rfl hN ?_
        show WP _ _ _ 30 [_, _, _, _] [] _
        refine wp_goto (tgt := 4) hX (dk DX6_isUnder 19 rfl) (by decide) ?_
        -- to 4
        rw [nI_clamp (by omega)]
        rw [show junder (h + 1) q t = if nI q = t then 1 else if q = 0 then 0 else junder h (abN q) t from rfl, if_neg hc] at e
        by_cases c : q = 0
        · rw [(a2 c).1]
          rw [if_pos c] at e
          exact stop (u + 1) (-1) (by omega) (by decide) e
        · obtain ⟨b1, b2, b3⟩ := a1 c
          rw [b1]
          rw [if_neg c] at e
          exact ih (abN q) (u + 1) b2 (by omega) (by omega) e
      · refine wp_iconst (v := 1) hX (dk DX6_isUnder 12 rfl) (by decide) ?_
        exact wp_ireturn hX hR (dk DX6_isUnder 13 rfl) rfl (Nat.le_refl _) (Nat.le_refl _) (⟨by rw [e, junder, if_pos hc], rfl⟩)
  exact lp 3 k 0 hk (ab_ok k hk).2.2 (by omega) rfl
theorem k_note (d : Nat) (sw : Bool) (f : Nat → Nat → Int32) (g : Nat → Nat → Int64) (t : List Int32) (b : Int32) (ht : trOk f t) (hl : t.length < 1000) : CT d 0 0 iX6_note [.ref 70, .int b] (S sw f g) (QS (fun r sw2 f2 g2 => r = none ∧ sw2 = sw ∧ g2 = g ∧ trSm f f2 ∧ trOk f2 (t ++ [b]))) := by
  obtain ⟨h1, h2, h3⟩ := ht
  refine CT.of rfl (Nat.le_of_ble_eq_true rfl) (fun X hX hR hN _ => ?_)
  have hX : Good X RX6 cX6_note d 0 0 := hX
  have hN : x_nl X = 2 := hN
  show WP X 0 0 0 [_, _] [] _
  refine wp_aload_n hX (dk DX6_note 0 rfl) rfl ?_
  refine w_geti hX flX6_22 (dk DX6_note 1 rfl) (by decide) rfl ?_
  refine wp_bipush (v := 24) hX (dk DX6_note 2 rfl) (by decide) ?_
  rw [h1]
  refine wp_icmp_ge (tgt := 19) hX (dk DX6_note 3 rfl) (by decide) (fun h => ?_) (fun h => ?_)
  · refine wp_aload_n hX (dk DX6_note 10 rfl) rfl ?_
    refine wp_dup hX (dk DX6_note 11 rfl) rfl ?_
    refine w_geti hX flX6_22 (dk DX6_note 12 rfl) (by decide) rfl ?_
    rw [h1]
    refine wp_iconst (v := 1) hX (dk DX6_note 13 rfl) (by decide) ?_
    refine wp_iadd hX (dk DX6_note 14 rfl) ?_
    rw [nI_1]
    refine w_puti hX fpX6_22 (dk DX6_note 15 rfl) rfl ?_
    refine wp_return hX hR (dk DX6_note 16 rfl) (Nat.le_refl _) (Nat.le_refl _) ⟨sw, _, g, rfl, rfl, rfl, rfl, ⟨fun c g1 g2 => u2_ne _ _ _ g1, fun i hi => u2_off _ _ _ hi⟩, ?_, ?_, ?_⟩
    · rw [u2_at]; simp
    · simp; omega
    · intro j q hj hq
      have hlt : 24 ≤ t.length := by
        by_cases c : 24 ≤ t.length
        · exact c
        · exact absurd h (nI_ge (b := 24) (by omega) (by omega))
      rw [u2_ne _ _ _ (by decide)]
      rw [List.getElem?_append_left (by omega)] at hq
      exact h3 j q hj hq
  · have hlt : t.length < 24 := by
      by_cases c : t.length < 24
      · exact c
      · exact absurd (nI_le (a := 24) (by omega) (by omega)) h
    refine wp_aload_n hX (dk DX6_note 4 rfl) rfl ?_
    refine w_getr hX flX6_15 (dk DX6_note 5 rfl) rfl rfl ?_
    refine wp_aload_n hX (dk DX6_note 6 rfl) rfl ?_
    refine w_geti hX flX6_22 (dk DX6_note 7 rfl) (by decide) rfl ?_
    rw [h1]
    refine wp_iload_n hX (dk DX6_note 8 rfl) rfl ?_
    refine w_iast (j := _) hX (dk DX6_note 9 rfl) rfl rfl (show _ < 24 by omega) ?_
    refine wp_aload_n hX (dk DX6_note 10 rfl) rfl ?_
    refine wp_dup hX (dk DX6_note 11 rfl) rfl ?_
    refine w_geti hX flX6_22 (dk DX6_note 12 rfl) (by decide) rfl ?_
    rw [show u2 f 72 t.length b 70 3 = nI t.length from h1]
    refine wp_iconst (v := 1) hX (dk DX6_note 13 rfl) (by decide) ?_
    refine wp_iadd hX (dk DX6_note 14 rfl) ?_
    rw [nI_1]
    refine w_puti hX fpX6_22 (dk DX6_note 15 rfl) rfl ?_
    refine wp_return hX hR (dk DX6_note 16 rfl) (Nat.le_refl _) (Nat.le_refl _) ⟨sw, _, g, rfl, rfl, rfl, rfl, ⟨fun c g1 g2 => by rw [u2_ne _ _ _ g1, u2_ne _ _ _ g2], fun i hi => by rw [u2_off _ _ _ hi, u2_ne _ _ _ (by decide)]⟩, ?_, ?_, ?_⟩
    · rw [u2_at]; simp
    · simp; omega
    · intro j q hj hq
      rw [u2_ne _ _ _ (by decide)]
      by_cases c : j < t.length
      · rw [List.getElem?_append_left c] at hq
        rw [u2_off _ _ _ (by omega)]
        exact h3 j q hj hq
      · rw [List.getElem?_append_right (by omega)] at hq
        have : j - t.length = 0 := by
          have := (List.getElem?_eq_some_iff.mp hq).1
          simp at this
          omega
        rw [this] at hq
        cases hq
        rw [show j = t.length by omega, u2_at]
/-- the kind whose body answers -/
def rsv (a : Nat) : Nat → Nat → Nat
  | 0, k => k
  | m + 1, k => if x_bods (k * 4 + a) = 0 then rsv a m (abN k) else k
/-- the bodies that run: fuel, from which kind, which act -/
def jT (k0 : Nat) : Nat → Nat → Nat → List Int32
  | 0, _, _ => []
  | m + 1, fr, a => match rsv a 4 fr * 4 + a with
    | 0 => [1]
    | 1 => [10] ++ jT k0 m k0 0
    | 2 => [11]
    | 3 => [2] ++ jT k0 m k0 1 ++ jT k0 m k0 2
    | 4 => [20] ++ jT k0 m 0 0
    | 9 => [30] ++ jT k0 m 0 1
    | 13 => [41] ++ jT k0 m 2 1
    | 14 => [40] ++ jT k0 m 2 2
    | 18 => [50] ++ jT k0 m 1 2 ++ jT k0 m k0 0
    | 23 => [60] ++ jT k0 m 3 3
    | 24 => [70] ++ jT k0 m 0 0
    | 29 => [80] ++ jT k0 m 4 1 ++ jT k0 m k0 2
    | 31 => [81] ++ jT k0 m 4 3
    | _ => []
/-- the answer of stone n of kind k0 -/
def jV (k0 : Nat) (n : Int32) : Nat → Nat → Nat → Int32 → Int32
  | 0, _, _, _ => 0
  | m + 1, fr, a, x => match rsv a 4 fr * 4 + a with
    | 0 => x + n
    | 1 => jV k0 n m k0 0 x * 2
    | 2 => x ^^^ n
    | 3 => jV k0 n m k0 1 x - jV k0 n m k0 2 1
    | 4 => jV k0 n m 0 0 x + 3
    | 9 => -jV k0 n m 0 1 x
    | 13 => jV k0 n m 2 1 (x + 1)
    | 14 => jV k0 n m 2 2 x * 3
    | 18 => jV k0 n m 1 2 x - jV k0 n m k0 0 2
    | 23 => jV k0 n m 3 3 x ^^^ 5
    | 24 => jV k0 n m 0 0 x * 2
    | 29 => jV k0 n m 4 1 x + jV k0 n m k0 2 2
    | 31 => jV k0 n m 4 3 x - 1
    | _ => 0
theorem rs_ok : ∀ fr, fr < 8 → ∀ a, a < 4 → rsv a 4 fr < 8 ∧ (rsv a 4 fr * 4 + a) ∈ [0, 1, 2, 3, 4, 9, 13, 14, 18, 23, 24, 29, 31] := by decide +kernel
theorem rs_st : ∀ k, k < 8 → ∀ a, a < 4 → (x_bods (k * 4 + a) = 0 → k ≠ 0) := by decide +kernel
theorem rs_f3 : ∀ k, k < 8 → ∀ a, a < 4 → rsv a 3 k = rsv a 4 k := by decide +kernel
theorem rs_f4 : ∀ k, k < 8 → ∀ a, a < 4 → (x_bods (k * 4 + a) = 0 ∨ rsv a 4 k = k) := by decide +kernel
theorem ixA (a b : Nat) : nI a * 4 + nI b = nI (a * 4 + b) := by rw [show (4 : Int32) = nI 4 from rfl, pk_mul, nI_add]
/-- one step of a contract of answer -/
def aCT (D m : Nat) (sw : Bool) (g : Nat → Nat → Int64) : Prop := ∀ (f : Nat → Nat → Int32) (t : List Int32) (n k0 fr a : Nat) (x : Int32), n < 50 → k0 < 8 → fr < 8 → a < 4 → f 71 n = nI k0 → trOk f t → t.length + (jT k0 m fr a).length ≤ 1000 → CT D 0 0 iX6_answer [.ref 70, .int (nI n), .int (nI fr), .int (nI a), .int x, .int (nI (40 - m))] (S sw f g) (QS (fun r sw2 f2 g2 => r = some (.int (jV k0 (nI n) m fr a x)) ∧ sw2 = sw ∧ g2 = g ∧ trSm f f2 ∧ trOk f2 (t ++ jT k0 m fr a)))
def oCT (D m : Nat) (sw : Bool) (g : Nat → Nat → Int64) : Prop := ∀ (f : Nat → Nat → Int32) (t : List Int32) (n k0 a : Nat) (x : Int32), n < 50 → k0 < 8 → a < 4 → f 71 n = nI k0 → trOk f t → t.length + (jT k0 m k0 a).length ≤ 1000 → CT D 0 0 iX6_own [.ref 70, .int (nI n), .int (nI a), .int x, .int (nI (40 - m))] (S sw f g) (QS (fun r sw2 f2 g2 => r = some (.int (jV k0 (nI n) m k0 a x)) ∧ sw2 = sw ∧ g2 = g ∧ trSm f f2 ∧ trOk f2 (t ++ jT k0 m k0 a)))
theorem k_own (D m : Nat) (sw : Bool) (g : Nat → Nat → Int64) (h : aCT D m sw g) : oCT (D + 1) m sw g := by
  intro f t n k0 a x hn hk ha hf ht hl
  refine CT.of rfl (Nat.le_of_ble_eq_true rfl) (fun X hX hR hN _ => ?_)
  have hX : Good X RX6 cX6_own (D + 1) 0 0 := hX
  have hN : x_nl X = 5 := hN
  show WP X 0 0 0 [_, _, _, _, _] [] _
  refine wp_aload_n hX (dk DX6_own 0 rfl) rfl ?_
  refine wp_iload_n hX (dk DX6_own 1 rfl) rfl ?_
  refine wp_aload_n hX (dk DX6_own 2 rfl) rfl ?_
  refine w_getr hX flX6_11 (dk DX6_own 3 rfl) rfl rfl ?_
  refine wp_iload_n hX (dk DX6_own 4 rfl) rfl ?_
  refine w_iald (j := _) hX (dk DX6_own 5 rfl) rfl rfl (show _ < 50 by omega) ?_
  rw [hf]
  refine wp_iload_n hX (dk DX6_own 6 rfl) rfl ?_
  refine wp_iload_n hX (dk DX6_own 7 rfl) rfl ?_
  refine wp_iload hX (dk DX6_own 8 rfl) rfl ?_
  refine w_callVQ (As := [_, _, _, _, _]) lkX6_42 hX (dk DX6_own 9 rfl) rfl rfl (by decide) hN (h f t n k0 k0 a x hn hk hk ha hf ht hl) (fun v_ sw_ f_ g_ hq_ => ?_)
  obtain ⟨rfl, rfl, rfl, h4, h5⟩ := hq_
  show WP _ _ _ 15 [_, _, _, _, _] [_] _
  exact wp_ireturn hX hR (dk DX6_own 10 rfl) rfl (Nat.le_refl _) (Nat.le_refl _) (⟨_, _, _, rfl, rfl, rfl, rfl, h4, h5⟩)
theorem k_ans0 (D : Nat) (sw : Bool) (g : Nat → Nat → Int64) : aCT D 0 sw g := by
  intro f t n k0 fr a x hn hk hfr ha hf ht hl
  refine CT.of rfl (Nat.le_of_ble_eq_true rfl) (fun X hX hR hN _ => ?_)
  have hX : Good X RX6 cX6_answer D 0 0 := hX
  have hN : x_nl X = 10 := hN
  show WP X 0 0 0 [_, _, _, _, _, _, _, _, _, _] [] _
  refine wp_iload_n hX (dk DX6_answer 0 rfl) rfl ?_
  refine wp_istore hX (dk DX6_answer 1 rfl) rfl hN (Nat.le_of_ble_eq_true rfl) ?_
  show WP _ _ _ 3 [_, _, _, _, _, _, _, _, _, _] [] _
  refine wp_iconst (v := 0) hX (dk DX6_answer 2 rfl) (by decide) ?_
  refine wp_istore hX (dk DX6_answer 3 rfl) rfl hN (Nat.le_of_ble_eq_true rfl) ?_
  show WP _ _ _ 6 [_, _, _, _, _, _, _, _, _, _] [] _
  have fin : ∀ (z : Int32) (u : Option Value), WP X 0 0 45 [some (.ref 70), some (.int (nI n)), some (.int (nI fr)), some (.int (nI a)), some (.int x), some (.int (nI (40 - 0))), some (.int z), u, none, none] [] (S sw f g) := by
    intro z u
    have e : WP X 0 0 57 [some (.ref 70), some (.int (nI n)), some (.int (nI fr)), some (.int (nI a)), some (.int x), some (.int (nI (40 - 0))), some (.int z), u, none, none] [] (S sw f g) := by
      refine wp_iconst (v := 0) hX (dk DX6_answer 28 rfl) (by decide) ?_
      exact wp_ireturn hX hR (dk DX6_answer 29 rfl) rfl (Nat.le_refl _) (Nat.le_refl _) (⟨sw, f, g, rfl, rfl, rfl, rfl, ⟨fun _ _ _ => rfl, fun _ _ => rfl⟩, by simpa [jT] using ht⟩)
    refine wp_iload hX (dk DX6_answer 23 rfl) rfl ?_
    refine wp_if_lt (tgt := 57) hX (dk DX6_answer 24 rfl) (by decide) (fun h => ?_) (fun h => ?_)
    · exact e
    · refine wp_iload hX (dk DX6_answer 25 rfl) rfl ?_
      refine wp_bipush (v := 40) hX (dk DX6_answer 26 rfl) (by decide) ?_
      refine wp_icmp_lt (tgt := 59) hX (dk DX6_answer 27 rfl) (by decide) (fun h_ => absurd h_ ((by decide))) (fun _ => ?_)
      exact e
  have lp : ∀ (h k u : Nat), k < 8 → htN k ≤ h → u + h ≤ 6 → WP X 0 0 6 [some (.ref 70), some (.int (nI n)), some (.int (nI fr)), some (.int (nI a)), some (.int x), some (.int (nI (40 - 0))), some (.int (nI k)), some (.int (nI u)), none, none] [] (S sw f g) := by
    intro h
    induction h with
    | zero =>
      intro k u hk1 hh hu
      refine wp_iload hX (dk DX6_answer 4 rfl) rfl ?_
      refine wp_bipush (v := 8) hX (dk DX6_answer 5 rfl) (by decide) ?_
      refine wp_icmp_ge (tgt := 45) hX (dk DX6_answer 6 rfl) (by decide) (fun h_ => absurd h_ ((nI_ge (b := 8) (by omega) (by omega)))) (fun _ => ?_)
      refine wp_iload hX (dk DX6_answer 7 rfl) rfl ?_
      refine wp_if_lt (tgt := 45) hX (dk DX6_answer 8 rfl) (by decide) (fun h_ => absurd h_ ((nI_pos (by omega)))) (fun _ => ?_)
      refine wp_bods hX fsX6_46 (dk DX6_answer 9 rfl) ?_
      refine wp_iload hX (dk DX6_answer 10 rfl) rfl ?_
      refine wp_iconst (v := 4) hX (dk DX6_answer 11 rfl) (by decide) ?_
      refine wp_imul hX (dk DX6_answer 12 rfl) ?_
      refine wp_iload_n hX (dk DX6_answer 13 rfl) rfl ?_
      refine wp_iadd hX (dk DX6_answer 14 rfl) ?_
      rw [ixA]
      refine wp_t3 hX (dk DX6_answer 15 rfl) (vp_in_nI (by omega) (by omega)) ?_
      rw [nI_clamp (by omega)]
      refine wp_if_ne (tgt := 45) hX (dk DX6_answer 16 rfl) (by decide) (fun hc => ?_) (fun hc => ?_)
      · exact fin _ _
      · exfalso
        have := rs_st k hk1 a ha hc
        have h9 := ((ab_ok k hk1).1 this).2.2
        omega
    | succ h ih =>
      intro k u hk1 hh hu
      refine wp_iload hX (dk DX6_answer 4 rfl) rfl ?_
      refine wp_bipush (v := 8) hX (dk DX6_answer 5 rfl) (by decide) ?_
      refine wp_icmp_ge (tgt := 45) hX (dk DX6_answer 6 rfl) (by decide) (fun h_ => absurd h_ ((nI_ge (b := 8) (by omega) (by omega)))) (fun _ => ?_)
      refine wp_iload hX (dk DX6_answer 7 rfl) rfl ?_
      refine wp_if_lt (tgt := 45) hX (dk DX6_answer 8 rfl) (by decide) (fun h_ => absurd h_ ((nI_pos (by omega)))) (fun _ => ?_)
      refine wp_bods hX fsX6_46 (dk DX6_answer 9 rfl) ?_
      refine wp_iload hX (dk DX6_answer 10 rfl) rfl ?_
      refine wp_iconst (v := 4) hX (dk DX6_answer 11 rfl) (by decide) ?_
      refine wp_imul hX (dk DX6_answer 12 rfl) ?_
      refine wp_iload_n hX (dk DX6_answer 13 rfl) rfl ?_
      refine wp_iadd hX (dk DX6_answer 14 rfl) ?_
      rw [ixA]
      refine wp_t3 hX (dk DX6_answer 15 rfl) (vp_in_nI (by omega) (by omega)) ?_
      rw [nI_clamp (by omega)]
      refine wp_if_ne (tgt := 45) hX (dk DX6_answer 16 rfl) (by decide) (fun hc => ?_) (fun hc => ?_)
      · exact fin _ _
      · obtain ⟨b1, b2, b3⟩ := (ab_ok k hk1).1 (rs_st k hk1 a ha hc)
        refine wp_abov hX fsX6_31 (dk DX6_answer 17 rfl) ?_
        refine wp_iload hX (dk DX6_answer 18 rfl) rfl ?_
        refine wp_t2 hX (dk DX6_answer 19 rfl) (vp_in_nI (by omega) (by omega)) ?_
        rw [nI_clamp (by omega), b1]
        refine wp_istore hX (dk DX6_answer 20 rfl) rfl hN (Nat.le_of_ble_eq_true rfl) ?_
        show WP _ _ _ 39 [_, _, _, _, _, _, _, _, _, _] [] _
        refine wp_iinc hX (dk DX6_answer 21 rfl) rfl (nI_inc _) rfl hN ?_
        show WP _ _ _ 42 [_, _, _, _, _, _, _, _, _, _] [] _
        refine wp_goto (tgt := 6) hX (dk DX6_answer 22 rfl) (by decide) ?_
        -- to 6
        exact ih (abN k) (u + 1) b2 (by omega) (by omega)
  exact lp 3 fr 0 hfr (ab_ok fr hfr).2.2 (by omega)
theorem k_ansS (D m : Nat) (sw : Bool) (g : Nat → Nat → Int64) (hm : m < 40) (hA : aCT (D + 1) m sw g) (hO : oCT (D + 1) m sw g) : aCT (D + 2) (m + 1) sw g := by
  intro f t n k0 fr a x hn hk hfr ha hf ht hl
  refine CT.of rfl (Nat.le_of_ble_eq_true rfl) (fun X hX hR hN _ => ?_)
  have hX : Good X RX6 cX6_answer (D + 2) 0 0 := hX
  have hN : x_nl X = 10 := hN
  show WP X 0 0 0 [_, _, _, _, _, _, _, _, _, _] [] _
  refine wp_iload_n hX (dk DX6_answer 0 rfl) rfl ?_
  refine wp_istore hX (dk DX6_answer 1 rfl) rfl hN (Nat.le_of_ble_eq_true rfl) ?_
  show WP _ _ _ 3 [_, _, _, _, _, _, _, _, _, _] [] _
  refine wp_iconst (v := 0) hX (dk DX6_answer 2 rfl) (by decide) ?_
  refine wp_istore hX (dk DX6_answer 3 rfl) rfl hN (Nat.le_of_ble_eq_true rfl) ?_
  show WP _ _ _ 6 [_, _, _, _, _, _, _, _, _, _] [] _
  obtain ⟨hr8, hrl⟩ := rs_ok fr hfr a ha
  obtain ⟨r, hr⟩ : ∃ r, r = rsv a 4 fr := ⟨_, rfl⟩
  rw [← hr] at hr8 hrl
  -- behind the search
  have fin : ∀ (u : Option Value), WP X 0 0 45 [some (.ref 70), some (.int (nI n)), some (.int (nI fr)), some (.int (nI a)), some (.int x), some (.int (nI (40 - (m + 1)))), some (.int (nI r)), u, none, none] [] (S sw f g) := by
    intro u
    have h1 : t.length < 1000 := by
      have : 1 ≤ (jT k0 (m + 1) fr a).length := by
        rw [jT, ← hr]
        simp only [List.mem_cons, List.not_mem_nil, or_false] at hrl
        rcases hrl with e | e | e | e | e | e | e | e | e | e | e | e | e <;> rw [e] <;> simp <;> omega
      omega
    refine wp_iload hX (dk DX6_answer 23 rfl) rfl ?_
    refine wp_if_lt (tgt := 57) hX (dk DX6_answer 24 rfl) (by decide) (fun h_ => absurd h_ ((nI_pos (by omega)))) (fun _ => ?_)
    refine wp_iload hX (dk DX6_answer 25 rfl) rfl ?_
    refine wp_bipush (v := 40) hX (dk DX6_answer 26 rfl) (by decide) ?_
    refine wp_icmp_lt (tgt := 59) hX (dk DX6_answer 27 rfl) (by decide) (fun _ => ?_) (fun h_ => absurd ((nI_lt (b := 40) (by omega) (by omega))) h_)
    refine wp_bods hX fsX6_46 (dk DX6_answer 30 rfl) ?_
    refine wp_iload hX (dk DX6_answer 31 rfl) rfl ?_
    refine wp_iconst (v := 4) hX (dk DX6_answer 32 rfl) (by decide) ?_
    refine wp_imul hX (dk DX6_answer 33 rfl) ?_
    refine wp_iload_n hX (dk DX6_answer 34 rfl) rfl ?_
    refine wp_iadd hX (dk DX6_answer 35 rfl) ?_
    rw [ixA]
    refine wp_t3 hX (dk DX6_answer 36 rfl) (vp_in_nI (by omega) (by omega)) ?_
    rw [nI_clamp (by omega)]
    refine wp_istore hX (dk DX6_answer 37 rfl) rfl hN (Nat.le_of_ble_eq_true rfl) ?_
    show WP _ _ _ 71 [_, _, _, _, _, _, _, _, _, _] [] _
    refine wp_aload_n hX (dk DX6_answer 38 rfl) rfl ?_
    refine wp_iload hX (dk DX6_answer 39 rfl) rfl ?_
    refine w_callVQ (As := [_]) lkX6_49 hX (dk DX6_answer 40 rfl) rfl rfl (by decide) hN (k_note (D + 1) sw f g t (x_bods (r * 4 + a)) ht h1) (fun v_ sw_ f_ g_ hq_ => ?_)
    obtain ⟨rfl, rfl, rfl, h4, h5⟩ := hq_
    show WP _ _ _ 77 [_, _, _, _, _, _, _, _, _, _] [] _
    have hf1 : f_ 71 n = nI k0 := by rw [h4.1 71 (by decide) (by decide)]; exact hf
    refine wp_iload hX (dk DX6_answer 41 rfl) rfl ?_
    refine wp_iconst (v := 1) hX (dk DX6_answer 42 rfl) (by decide) ?_
    refine wp_iadd hX (dk DX6_answer 43 rfl) ?_
    rw [nI_1, show 40 - (m + 1) + 1 = 40 - m by omega]
    refine wp_istore hX (dk DX6_answer 44 rfl) rfl hN (Nat.le_of_ble_eq_true rfl) ?_
    show WP _ _ _ 83 [_, _, _, _, _, _, _, _, _, _] [] _
    refine wp_abov hX fsX6_31 (dk DX6_answer 45 rfl) ?_
    refine wp_iload hX (dk DX6_answer 46 rfl) rfl ?_
    refine wp_t2 hX (dk DX6_answer 47 rfl) (vp_in_nI (by omega) (by omega)) ?_
    rw [nI_clamp (by omega)]
    refine wp_istore hX (dk DX6_answer 48 rfl) rfl hN (Nat.le_of_ble_eq_true rfl) ?_
    show WP _ _ _ 91 [_, _, _, _, _, _, _, _, _, _] [] _
    refine wp_iload hX (dk DX6_answer 49 rfl) rfl ?_
    rw [jT, ← hr] at hl
    rw [jT, jV, ← hr] at hR
    simp only [List.mem_cons, List.not_mem_nil, or_false] at hrl
    rcases hrl with e | e | e | e | e | e | e | e | e | e | e | e | e
    · obtain rfl : r = 0 := by omega
      obtain rfl : a = 0 := by omega
      rw [show x_bods (0 * 4 + 0) = 1 from rfl] at h5
      refine wp_lookup (off := 115) (tgt := 208) hX (dk DX6_answer 50 rfl) (by decide) (by decide) (by decide) ?_
      refine wp_iload hX (dk DX6_answer 51 rfl) rfl ?_
      refine wp_iload_n hX (dk DX6_answer 52 rfl) rfl ?_
      refine wp_iadd hX (dk DX6_answer 53 rfl) ?_
      exact wp_ireturn hX hR (dk DX6_answer 54 rfl) rfl (Nat.le_refl _) (Nat.le_refl _) (⟨_, _, _, rfl, rfl, rfl, rfl, h4, by simpa [List.append_assoc] using h5⟩)
    · obtain rfl : r = 0 := by omega
      obtain rfl : a = 1 := by omega
      rw [show x_bods (0 * 4 + 1) = 10 from rfl] at h5
      refine wp_lookup (off := 141) (tgt := 234) hX (dk DX6_answer 50 rfl) (by decide) (by decide) (by decide) ?_
      refine wp_aload_n hX (dk DX6_answer_1 9 rfl) rfl ?_
      refine wp_iload_n hX (dk DX6_answer_1 10 rfl) rfl ?_
      refine wp_iconst (v := 0) hX (dk DX6_answer_1 11 rfl) (by decide) ?_
      refine wp_iload hX (dk DX6_answer_1 12 rfl) rfl ?_
      refine wp_iload hX (dk DX6_answer_1 13 rfl) rfl ?_
      refine w_callVQ (As := [_, _, _, _]) lkX6_38 hX (dk DX6_answer_1 14 rfl) rfl rfl (by decide) hN (hO f_ _ n k0 0 x hn hk (by decide) hf1 h5 (by simp at hl ⊢; omega)) (fun v_1 sw_1 f_1 g_1 hq_1 => ?_)
      obtain ⟨rfl, rfl, rfl, k41, k51⟩ := hq_1
      have hf11 : f_1 71 n = nI k0 := by rw [k41.1 71 (by decide) (by decide)]; exact hf1
      show WP _ _ _ 244 [_, _, _, _, _, _, _, _, _, _] [_] _
      refine wp_iconst (v := 2) hX (dk DX6_answer_1 15 rfl) (by decide) ?_
      refine wp_imul hX (dk DX6_answer_1 16 rfl) ?_
      exact wp_ireturn hX hR (dk DX6_answer_1 17 rfl) rfl (Nat.le_refl _) (Nat.le_refl _) (⟨_, _, _, rfl, rfl, rfl, rfl, (h4).trans k41, by simpa [List.append_assoc] using k51⟩)
    · obtain rfl : r = 0 := by omega
      obtain rfl : a = 2 := by omega
      rw [show x_bods (0 * 4 + 2) = 11 from rfl] at h5
      refine wp_lookup (off := 154) (tgt := 247) hX (dk DX6_answer 50 rfl) (by decide) (by decide) (by decide) ?_
      refine wp_iload hX (dk DX6_answer_1 18 rfl) rfl ?_
      refine wp_iload_n hX (dk DX6_answer_1 19 rfl) rfl ?_
      refine wp_ixor hX (dk DX6_answer_1 20 rfl) ?_
      exact wp_ireturn hX hR (dk DX6_answer_1 21 rfl) rfl (Nat.le_refl _) (Nat.le_refl _) (⟨_, _, _, rfl, rfl, rfl, rfl, h4, by simpa [List.append_assoc] using h5⟩)
    · obtain rfl : r = 0 := by omega
      obtain rfl : a = 3 := by omega
      rw [show x_bods (0 * 4 + 3) = 2 from rfl] at h5
      refine wp_lookup (off := 120) (tgt := 213) hX (dk DX6_answer 50 rfl) (by decide) (by decide) (by decide) ?_
      refine wp_aload_n hX (dk DX6_answer 55 rfl) rfl ?_
      refine wp_iload_n hX (dk DX6_answer 56 rfl) rfl ?_
      refine wp_iconst (v := 1) hX (dk DX6_answer 57 rfl) (by decide) ?_
      refine wp_iload hX (dk DX6_answer 58 rfl) rfl ?_
      refine wp_iload hX (dk DX6_answer 59 rfl) rfl ?_
      refine w_callVQ (As := [_, _, _, _]) lkX6_38 hX (dk DX6_answer_1 0 rfl) rfl rfl (by decide) hN (hO f_ _ n k0 1 x hn hk (by decide) hf1 h5 (by simp at hl ⊢; omega)) (fun v_1 sw_1 f_1 g_1 hq_1 => ?_)
      obtain ⟨rfl, rfl, rfl, k41, k51⟩ := hq_1
      have hf11 : f_1 71 n = nI k0 := by rw [k41.1 71 (by decide) (by decide)]; exact hf1
      show WP _ _ _ 223 [_, _, _, _, _, _, _, _, _, _] [_] _
      refine wp_aload_n hX (dk DX6_answer_1 1 rfl) rfl ?_
      refine wp_iload_n hX (dk DX6_answer_1 2 rfl) rfl ?_
      refine wp_iconst (v := 2) hX (dk DX6_answer_1 3 rfl) (by decide) ?_
      refine wp_iconst (v := 1) hX (dk DX6_answer_1 4 rfl) (by decide) ?_
      refine wp_iload hX (dk DX6_answer_1 5 rfl) rfl ?_
      refine w_callVQ (As := [_, _, _, _]) lkX6_38 hX (dk DX6_answer_1 6 rfl) rfl rfl (by simp [Value.category]) hN (hO f_1 _ n k0 2 1 hn hk (by decide) hf11 k51 (by simp at hl ⊢; omega)) (fun v_2 sw_2 f_2 g_2 hq_2 => ?_)
      obtain ⟨rfl, rfl, rfl, k42, k52⟩ := hq_2
      have hf12 : f_2 71 n = nI k0 := by rw [k42.1 71 (by decide) (by decide)]; exact hf11
      show WP _ _ _ 232 [_, _, _, _, _, _, _, _, _, _] [_, _] _
      refine wp_isub hX (dk DX6_answer_1 7 rfl) ?_
      exact wp_ireturn hX hR (dk DX6_answer_1 8 rfl) rfl (Nat.le_refl _) (Nat.le_refl _) (⟨_, _, _, rfl, rfl, rfl, rfl, ((h4).trans k41).trans k42, by simpa [List.append_assoc] using k52⟩)
    · obtain rfl : r = 1 := by omega
      obtain rfl : a = 0 := by omega
      rw [show x_bods (1 * 4 + 0) = 20 from rfl] at h5
      refine wp_lookup (off := 159) (tgt := 252) hX (dk DX6_answer 50 rfl) (by decide) (by decide) (by decide) ?_
      refine wp_aload_n hX (dk DX6_answer_1 22 rfl) rfl ?_
      refine wp_iload_n hX (dk DX6_answer_1 23 rfl) rfl ?_
      refine wp_iload hX (dk DX6_answer_1 24 rfl) rfl ?_
      refine wp_iconst (v := 0) hX (dk DX6_answer_1 25 rfl) (by decide) ?_
      refine wp_iload hX (dk DX6_answer_1 26 rfl) rfl ?_
      refine wp_iload hX (dk DX6_answer_1 27 rfl) rfl ?_
      refine w_callVQ (As := [_, _, _, _, _]) lkX6_42 hX (dk DX6_answer_1 28 rfl) rfl rfl (by decide) hN (hA f_ _ n k0 0 0 x hn hk (by decide) (by decide) hf1 h5 (by simp at hl ⊢; omega)) (fun v_1 sw_1 f_1 g_1 hq_1 => ?_)
      obtain ⟨rfl, rfl, rfl, k41, k51⟩ := hq_1
      have hf11 : f_1 71 n = nI k0 := by rw [k41.1 71 (by decide) (by decide)]; exact hf1
      show WP _ _ _ 264 [_, _, _, _, _, _, _, _, _, _] [_] _
      refine wp_iconst (v := 3) hX (dk DX6_answer_1 29 rfl) (by decide) ?_
      refine wp_iadd hX (dk DX6_answer_1 30 rfl) ?_
      exact wp_ireturn hX hR (dk DX6_answer_1 31 rfl) rfl (Nat.le_refl _) (Nat.le_refl _) (⟨_, _, _, rfl, rfl, rfl, rfl, (h4).trans k41, by simpa [List.append_assoc] using k51⟩)
    · obtain rfl : r = 2 := by omega
      obtain rfl : a = 1 := by omega
      rw [show x_bods (2 * 4 + 1) = 30 from rfl] at h5
      refine wp_lookup (off := 174) (tgt := 267) hX (dk DX6_answer 50 rfl) (by decide) (by decide) (by decide) ?_
      refine wp_aload_n hX (dk DX6_answer_1 32 rfl) rfl ?_
      refine wp_iload_n hX (dk DX6_answer_1 33 rfl) rfl ?_
      refine wp_iload hX (dk DX6_answer_1 34 rfl) rfl ?_
      refine wp_iconst (v := 1) hX (dk DX6_answer_1 35 rfl) (by decide) ?_
      refine wp_iload hX (dk DX6_answer_1 36 rfl) rfl ?_
      refine wp_iload hX (dk DX6_answer_1 37 rfl) rfl ?_
      refine w_callVQ (As := [_, _, _, _, _]) lkX6_42 hX (dk DX6_answer_1 38 rfl) rfl rfl (by decide) hN (hA f_ _ n k0 0 1 x hn hk (by decide) (by decide) hf1 h5 (by simp at hl ⊢; omega)) (fun v_1 sw_1 f_1 g_1 hq_1 => ?_)
      obtain ⟨rfl, rfl, rfl, k41, k51⟩ := hq_1
      have hf11 : f_1 71 n = nI k0 := by rw [k41.1 71 (by decide) (by decide)]; exact hf1
      show WP _ _ _ 279 [_, _, _, _, _, _, _, _, _, _] [_] _
      refine wp_ineg hX (dk DX6_answer_1 39 rfl) ?_
      exact wp_ireturn hX hR (dk DX6_answer_1 40 rfl) rfl (Nat.le_refl _) (Nat.le_refl _) (⟨_, _, _, rfl, rfl, rfl, rfl, (h4).trans k41, by simpa [List.append_assoc] using k51⟩)
    · obtain rfl : r = 3 := by omega
      obtain rfl : a = 1 := by omega
      rw [show x_bods (3 * 4 + 1) = 41 from rfl] at h5
      refine wp_lookup (off := 203) (tgt := 296) hX (dk DX6_answer 50 rfl) (by decide) (by decide) (by decide) ?_
      refine wp_aload_n hX (dk DX6_answer_1 51 rfl) rfl ?_
      refine wp_iload_n hX (dk DX6_answer_1 52 rfl) rfl ?_
      refine wp_iload hX (dk DX6_answer_1 53 rfl) rfl ?_
      refine wp_iconst (v := 1) hX (dk DX6_answer_1 54 rfl) (by decide) ?_
      refine wp_iload hX (dk DX6_answer_1 55 rfl) rfl ?_
      refine wp_iconst (v := 1) hX (dk DX6_answer_1 56 rfl) (by decide) ?_
      refine wp_iadd hX (dk DX6_answer_1 57 rfl) ?_
      refine wp_iload hX (dk DX6_answer_1 58 rfl) rfl ?_
      refine w_callVQ (As := [_, _, _, _, _]) lkX6_42 hX (dk DX6_answer_1 59 rfl) rfl rfl (by decide) hN (hA f_ _ n k0 2 1 (x + 1) hn hk (by decide) (by decide) hf1 h5 (by simp at hl ⊢; omega)) (fun v_1 sw_1 f_1 g_1 hq_1 => ?_)
      obtain ⟨rfl, rfl, rfl, k41, k51⟩ := hq_1
      have hf11 : f_1 71 n = nI k0 := by rw [k41.1 71 (by decide) (by decide)]; exact hf1
      show WP _ _ _ 310 [_, _, _, _, _, _, _, _, _, _] [_] _
      exact wp_ireturn hX hR (dk DX6_answer_2 0 rfl) rfl (Nat.le_refl _) (Nat.le_refl _) (⟨_, _, _, rfl, rfl, rfl, rfl, (h4).trans k41, by simpa [List.append_assoc] using k51⟩)
    · obtain rfl : r = 3 := by omega
      obtain rfl : a = 2 := by omega
      rw [show x_bods (3 * 4 + 2) = 40 from rfl] at h5
      refine wp_lookup (off := 188) (tgt := 281) hX (dk DX6_answer 50 rfl) (by decide) (by decide) (by decide) ?_
      refine wp_aload_n hX (dk DX6_answer_1 41 rfl) rfl ?_
      refine wp_iload_n hX (dk DX6_answer_1 42 rfl) rfl ?_
      refine wp_iload hX (dk DX6_answer_1 43 rfl) rfl ?_
      refine wp_iconst (v := 2) hX (dk DX6_answer_1 44 rfl) (by decide) ?_
      refine wp_iload hX (dk DX6_answer_1 45 rfl) rfl ?_
      refine wp_iload hX (dk DX6_answer_1 46 rfl) rfl ?_
      refine w_callVQ (As := [_, _, _, _, _]) lkX6_42 hX (dk DX6_answer_1 47 rfl) rfl rfl (by decide) hN (hA f_ _ n k0 2 2 x hn hk (by decide) (by decide) hf1 h5 (by simp at hl ⊢; omega)) (fun v_1 sw_1 f_1 g_1 hq_1 => ?_)
      obtain ⟨rfl, rfl, rfl, k41, k51⟩ := hq_1
      have hf11 : f_1 71 n = nI k0 := by rw [k41.1 71 (by decide) (by decide)]; exact hf1
      show WP _ _ _ 293 [_, _, _, _, _, _, _, _, _, _] [_] _
      refine wp_iconst (v := 3) hX (dk DX6_answer_1 48 rfl) (by decide) ?_
      refine wp_imul hX (dk DX6_answer_1 49 rfl) ?_
      exact wp_ireturn hX hR (dk DX6_answer_1 50 rfl) rfl (Nat.le_refl _) (Nat.le_refl _) (⟨_, _, _, rfl, rfl, rfl, rfl, (h4).trans k41, by simpa [List.append_assoc] using k51⟩)
    · obtain rfl : r = 4 := by omega
      obtain rfl : a = 2 := by omega
      rw [show x_bods (4 * 4 + 2) = 50 from rfl] at h5
      refine wp_lookup (off := 218) (tgt := 311) hX (dk DX6_answer 50 rfl) (by decide) (by decide) (by decide) ?_
      refine wp_aload_n hX (dk DX6_answer_2 1 rfl) rfl ?_
      refine wp_iload_n hX (dk DX6_answer_2 2 rfl) rfl ?_
      refine wp_iload hX (dk DX6_answer_2 3 rfl) rfl ?_
      refine wp_iconst (v := 2) hX (dk DX6_answer_2 4 rfl) (by decide) ?_
      refine wp_iload hX (dk DX6_answer_2 5 rfl) rfl ?_
      refine wp_iload hX (dk DX6_answer_2 6 rfl) rfl ?_
      refine w_callVQ (As := [_, _, _, _, _]) lkX6_42 hX (dk DX6_answer_2 7 rfl) rfl rfl (by decide) hN (hA f_ _ n k0 1 2 x hn hk (by decide) (by decide) hf1 h5 (by simp at hl ⊢; omega)) (fun v_1 sw_1 f_1 g_1 hq_1 => ?_)
      obtain ⟨rfl, rfl, rfl, k41, k51⟩ := hq_1
      have hf11 : f_1 71 n = nI k0 := by rw [k41.1 71 (by decide) (by decide)]; exact hf1
      show WP _ _ _ 323 [_, _, _, _, _, _, _, _, _, _] [_] _
      refine wp_aload_n hX (dk DX6_answer_2 8 rfl) rfl ?_
      refine wp_iload_n hX (dk DX6_answer_2 9 rfl) rfl ?_
      refine wp_iconst (v := 0) hX (dk DX6_answer_2 10 rfl) (by decide) ?_
      refine wp_iconst (v := 2) hX (dk DX6_answer_2 11 rfl) (by decide) ?_
      refine wp_iload hX (dk DX6_answer_2 12 rfl) rfl ?_
      refine w_callVQ (As := [_, _, _, _]) lkX6_38 hX (dk DX6_answer_2 13 rfl) rfl rfl (by simp [Value.category]) hN (hO f_1 _ n k0 0 2 hn hk (by decide) hf11 k51 (by simp at hl ⊢; omega)) (fun v_2 sw_2 f_2 g_2 hq_2 => ?_)
      obtain ⟨rfl, rfl, rfl, k42, k52⟩ := hq_2
      have hf12 : f_2 71 n = nI k0 := by rw [k42.1 71 (by decide) (by decide)]; exact hf11
      show WP _ _ _ 332 [_, _, _, _, _, _, _, _, _, _] [_, _] _
      refine wp_isub hX (dk DX6_answer_2 14 rfl) ?_
      exact wp_ireturn hX hR (dk DX6_answer_2 15 rfl) rfl (Nat.le_refl _) (Nat.le_refl _) (⟨_, _, _, rfl, rfl, rfl, rfl, ((h4).trans k41).trans k42, by simpa [List.append_assoc] using k52⟩)
    · obtain rfl : r = 5 := by omega
      obtain rfl : a = 3 := by omega
      rw [show x_bods (5 * 4 + 3) = 60 from rfl] at h5
      refine wp_lookup (off := 241) (tgt := 334) hX (dk DX6_answer 50 rfl) (by decide) (by decide) (by decide) ?_
      refine wp_aload_n hX (dk DX6_answer_2 16 rfl) rfl ?_
      refine wp_iload_n hX (dk DX6_answer_2 17 rfl) rfl ?_
      refine wp_iload hX (dk DX6_answer_2 18 rfl) rfl ?_
      refine wp_iconst (v := 3) hX (dk DX6_answer_2 19 rfl) (by decide) ?_
      refine wp_iload hX (dk DX6_answer_2 20 rfl) rfl ?_
      refine wp_iload hX (dk DX6_answer_2 21 rfl) rfl ?_
      refine w_callVQ (As := [_, _, _, _, _]) lkX6_42 hX (dk DX6_answer_2 22 rfl) rfl rfl (by decide) hN (hA f_ _ n k0 3 3 x hn hk (by decide) (by decide) hf1 h5 (by simp at hl ⊢; omega)) (fun v_1 sw_1 f_1 g_1 hq_1 => ?_)
      obtain ⟨rfl, rfl, rfl, k41, k51⟩ := hq_1
      have hf11 : f_1 71 n = nI k0 := by rw [k41.1 71 (by decide) (by decide)]; exact hf1
      show WP _ _ _ 346 [_, _, _, _, _, _, _, _, _, _] [_] _
      refine wp_iconst (v := 5) hX (dk DX6_answer_2 23 rfl) (by decide) ?_
      refine wp_ixor hX (dk DX6_answer_2 24 rfl) ?_
      exact wp_ireturn hX hR (dk DX6_answer_2 25 rfl) rfl (Nat.le_refl _) (Nat.le_refl _) (⟨_, _, _, rfl, rfl, rfl, rfl, (h4).trans k41, by simpa [List.append_assoc] using k51⟩)
    · obtain rfl : r = 6 := by omega
      obtain rfl : a = 0 := by omega
      rw [show x_bods (6 * 4 + 0) = 70 from rfl] at h5
      refine wp_lookup (off := 256) (tgt := 349) hX (dk DX6_answer 50 rfl) (by decide) (by decide) (by decide) ?_
      refine wp_aload_n hX (dk DX6_answer_2 26 rfl) rfl ?_
      refine wp_iload_n hX (dk DX6_answer_2 27 rfl) rfl ?_
      refine wp_iload hX (dk DX6_answer_2 28 rfl) rfl ?_
      refine wp_iconst (v := 0) hX (dk DX6_answer_2 29 rfl) (by decide) ?_
      refine wp_iload hX (dk DX6_answer_2 30 rfl) rfl ?_
      refine wp_iload hX (dk DX6_answer_2 31 rfl) rfl ?_
      refine w_callVQ (As := [_, _, _, _, _]) lkX6_42 hX (dk DX6_answer_2 32 rfl) rfl rfl (by decide) hN (hA f_ _ n k0 0 0 x hn hk (by decide) (by decide) hf1 h5 (by simp at hl ⊢; omega)) (fun v_1 sw_1 f_1 g_1 hq_1 => ?_)
      obtain ⟨rfl, rfl, rfl, k41, k51⟩ := hq_1
      have hf11 : f_1 71 n = nI k0 := by rw [k41.1 71 (by decide) (by decide)]; exact hf1
      show WP _ _ _ 361 [_, _, _, _, _, _, _, _, _, _] [_] _
      refine wp_iconst (v := 2) hX (dk DX6_answer_2 33 rfl) (by decide) ?_
      refine wp_imul hX (dk DX6_answer_2 34 rfl) ?_
      exact wp_ireturn hX hR (dk DX6_answer_2 35 rfl) rfl (Nat.le_refl _) (Nat.le_refl _) (⟨_, _, _, rfl, rfl, rfl, rfl, (h4).trans k41, by simpa [List.append_assoc] using k51⟩)
    · obtain rfl : r = 7 := by omega
      obtain rfl : a = 1 := by omega
      rw [show x_bods (7 * 4 + 1) = 80 from rfl] at h5
      refine wp_lookup (off := 271) (tgt := 364) hX (dk DX6_answer 50 rfl) (by decide) (by decide) (by decide) ?_
      refine wp_aload_n hX (dk DX6_answer_2 36 rfl) rfl ?_
      refine wp_iload_n hX (dk DX6_answer_2 37 rfl) rfl ?_
      refine wp_iload hX (dk DX6_answer_2 38 rfl) rfl ?_
      refine wp_iconst (v := 1) hX (dk DX6_answer_2 39 rfl) (by decide) ?_
      refine wp_iload hX (dk DX6_answer_2 40 rfl) rfl ?_
      refine wp_iload hX (dk DX6_answer_2 41 rfl) rfl ?_
      refine w_callVQ (As := [_, _, _, _, _]) lkX6_42 hX (dk DX6_answer_2 42 rfl) rfl rfl (by decide) hN (hA f_ _ n k0 4 1 x hn hk (by decide) (by decide) hf1 h5 (by simp at hl ⊢; omega)) (fun v_1 sw_1 f_1 g_1 hq_1 => ?_)
      obtain ⟨rfl, rfl, rfl, k41, k51⟩ := hq_1
      have hf11 : f_1 71 n = nI k0 := by rw [k41.1 71 (by decide) (by decide)]; exact hf1
      show WP _ _ _ 376 [_, _, _, _, _, _, _, _, _, _] [_] _
      refine wp_aload_n hX (dk DX6_answer_2 43 rfl) rfl ?_
      refine wp_iload_n hX (dk DX6_answer_2 44 rfl) rfl ?_
      refine wp_iconst (v := 2) hX (dk DX6_answer_2 45 rfl) (by decide) ?_
      refine wp_iconst (v := 2) hX (dk DX6_answer_2 46 rfl) (by decide) ?_
      refine wp_iload hX (dk DX6_answer_2 47 rfl) rfl ?_
      refine w_callVQ (As := [_, _, _, _]) lkX6_38 hX (dk DX6_answer_2 48 rfl) rfl rfl (by simp [Value.category]) hN (hO f_1 _ n k0 2 2 hn hk (by decide) hf11 k51 (by simp at hl ⊢; omega)) (fun v_2 sw_2 f_2 g_2 hq_2 => ?_)
      obtain ⟨rfl, rfl, rfl, k42, k52⟩ := hq_2
      have hf12 : f_2 71 n = nI k0 := by rw [k42.1 71 (by decide) (by decide)]; exact hf11
      show WP _ _ _ 385 [_, _, _, _, _, _, _, _, _, _] [_, _] _
      refine wp_iadd hX (dk DX6_answer_2 49 rfl) ?_
      exact wp_ireturn hX hR (dk DX6_answer_2 50 rfl) rfl (Nat.le_refl _) (Nat.le_refl _) (⟨_, _, _, rfl, rfl, rfl, rfl, ((h4).trans k41).trans k42, by simpa [List.append_assoc] using k52⟩)
    · obtain rfl : r = 7 := by omega
      obtain rfl : a = 3 := by omega
      rw [show x_bods (7 * 4 + 3) = 81 from rfl] at h5
      refine wp_lookup (off := 294) (tgt := 387) hX (dk DX6_answer 50 rfl) (by decide) (by decide) (by decide) ?_
      refine wp_aload_n hX (dk DX6_answer_2 51 rfl) rfl ?_
      refine wp_iload_n hX (dk DX6_answer_2 52 rfl) rfl ?_
      refine wp_iload hX (dk DX6_answer_2 53 rfl) rfl ?_
      refine wp_iconst (v := 3) hX (dk DX6_answer_2 54 rfl) (by decide) ?_
      refine wp_iload hX (dk DX6_answer_2 55 rfl) rfl ?_
      refine wp_iload hX (dk DX6_answer_2 56 rfl) rfl ?_
      refine w_callVQ (As := [_, _, _, _, _]) lkX6_42 hX (dk DX6_answer_2 57 rfl) rfl rfl (by decide) hN (hA f_ _ n k0 4 3 x hn hk (by decide) (by decide) hf1 h5 (by simp at hl ⊢; omega)) (fun v_1 sw_1 f_1 g_1 hq_1 => ?_)
      obtain ⟨rfl, rfl, rfl, k41, k51⟩ := hq_1
      have hf11 : f_1 71 n = nI k0 := by rw [k41.1 71 (by decide) (by decide)]; exact hf1
      show WP _ _ _ 399 [_, _, _, _, _, _, _, _, _, _] [_] _
      refine wp_iconst (v := 1) hX (dk DX6_answer_2 58 rfl) (by decide) ?_
      refine wp_isub hX (dk DX6_answer_2 59 rfl) ?_
      exact wp_ireturn hX hR (dk DX6_answer_3 0 rfl) rfl (Nat.le_refl _) (Nat.le_refl _) (⟨_, _, _, rfl, rfl, rfl, rfl, (h4).trans k41, by simpa [List.append_assoc] using k51⟩)
  have lp : ∀ (h k u : Nat), k < 8 → htN k ≤ h → u + h ≤ 6 → rsv a 4 k = r → WP X 0 0 6 [some (.ref 70), some (.int (nI n)), some (.int (nI fr)), some (.int (nI a)), some (.int x), some (.int (nI (40 - (m + 1)))), some (.int (nI k)), some (.int (nI u)), none, none] [] (S sw f g) := by
    intro h
    induction h with
    | zero =>
      intro k u hk1 hh hu e
      refine wp_iload hX (dk DX6_answer 4 rfl) rfl ?_
      refine wp_bipush (v := 8) hX (dk DX6_answer 5 rfl) (by decide) ?_
      refine wp_icmp_ge (tgt := 45) hX (dk DX6_answer 6 rfl) (by decide) (fun h_ => absurd h_ ((nI_ge (b := 8) (by omega) (by omega)))) (fun _ => ?_)
      refine wp_iload hX (dk DX6_answer 7 rfl) rfl ?_
      refine wp_if_lt (tgt := 45) hX (dk DX6_answer 8 rfl) (by decide) (fun h_ => absurd h_ ((nI_pos (by omega)))) (fun _ => ?_)
      refine wp_bods hX fsX6_46 (dk DX6_answer 9 rfl) ?_
      refine wp_iload hX (dk DX6_answer 10 rfl) rfl ?_
      refine wp_iconst (v := 4) hX (dk DX6_answer 11 rfl) (by decide) ?_
      refine wp_imul hX (dk DX6_answer 12 rfl) ?_
      refine wp_iload_n hX (dk DX6_answer 13 rfl) rfl ?_
      refine wp_iadd hX (dk DX6_answer 14 rfl) ?_
      rw [ixA]
      refine wp_t3 hX (dk DX6_answer 15 rfl) (vp_in_nI (by omega) (by omega)) ?_
      rw [nI_clamp (by omega)]
      refine wp_if_ne (tgt := 45) hX (dk DX6_answer 16 rfl) (by decide) (fun hc => ?_) (fun hc => ?_)
      · rw [(rs_f4 k hk1 a ha).resolve_left hc] at e
        subst e
        exact fin _
      · exfalso
        have := rs_st k hk1 a ha hc
        have h9 := ((ab_ok k hk1).1 this).2.2
        omega
    | succ h ih =>
      intro k u hk1 hh hu e
      refine wp_iload hX (dk DX6_answer 4 rfl) rfl ?_
      refine wp_bipush (v := 8) hX (dk DX6_answer 5 rfl) (by decide) ?_
      refine wp_icmp_ge (tgt := 45) hX (dk DX6_answer 6 rfl) (by decide) (fun h_ => absurd h_ ((nI_ge (b := 8) (by omega) (by omega)))) (fun _ => ?_)
      refine wp_iload hX (dk DX6_answer 7 rfl) rfl ?_
      refine wp_if_lt (tgt := 45) hX (dk DX6_answer 8 rfl) (by decide) (fun h_ => absurd h_ ((nI_pos (by omega)))) (fun _ => ?_)
      refine wp_bods hX fsX6_46 (dk DX6_answer 9 rfl) ?_
      refine wp_iload hX (dk DX6_answer 10 rfl) rfl ?_
      refine wp_iconst (v := 4) hX (dk DX6_answer 11 rfl) (by decide) ?_
      refine wp_imul hX (dk DX6_answer 12 rfl) ?_
      refine wp_iload_n hX (dk DX6_answer 13 rfl) rfl ?_
      refine wp_iadd hX (dk DX6_answer 14 rfl) ?_
      rw [ixA]
      refine wp_t3 hX (dk DX6_answer 15 rfl) (vp_in_nI (by omega) (by omega)) ?_
      rw [nI_clamp (by omega)]
      refine wp_if_ne (tgt := 45) hX (dk DX6_answer 16 rfl) (by decide) (fun hc => ?_) (fun hc => ?_)
      · rw [(rs_f4 k hk1 a ha).resolve_left hc] at e
        subst e
        exact fin _
      · obtain ⟨b1, b2, b3⟩ := (ab_ok k hk1).1 (rs_st k hk1 a ha hc)
        refine wp_abov hX fsX6_31 (dk DX6_answer 17 rfl) ?_
        refine wp_iload hX (dk DX6_answer 18 rfl) rfl ?_
        refine wp_t2 hX (dk DX6_answer 19 rfl) (vp_in_nI (by omega) (by omega)) ?_
        rw [nI_clamp (by omega), b1]
        refine wp_istore hX (dk DX6_answer 20 rfl) rfl hN (Nat.le_of_ble_eq_true rfl) ?_
        show WP _ _ _ 39 [_, _, _, _, _, _, _, _, _, _] [] _
        refine wp_iinc hX (dk DX6_answer 21 rfl) rfl (nI_inc _) rfl hN ?_
        show WP _ _ _ 42 [_, _, _, _, _, _, _, _, _, _] [] _
        refine wp_goto (tgt := 6) hX (dk DX6_answer 22 rfl) (by decide) ?_
        -- to 6
        refine ih (abN k) (u + 1) b2 (by omega) (by omega) ?_
        rw [← e]
        have h3 := (ab_ok k hk1).2.2
        rw [← rs_f3 (abN k) b2 a ha]
        show _ = if x_bods (k * 4 + a) = 0 then rsv a 3 (abN k) else k
        rw [if_pos hc]
  exact lp 3 fr 0 hfr (ab_ok fr hfr).2.2 (by omega) hr.symm
theorem k_ans (sw : Bool) (g : Nat → Nat → Int64) : ∀ (m D : Nat), m ≤ 40 → aCT (D + 2 * m) m sw g
  | 0, D, _ => k_ans0 D sw g
  | m + 1, D, h => by
    have h1 := k_ans sw g m (D + 1) (by omega)
    have h2 := k_own _ m sw g (k_ans sw g m D (by omega))
    have h3 := k_ansS (D + 2 * m) m sw g (by omega) (by rw [show D + 2 * m + 1 = D + 1 + 2 * m by omega]; exact h1) h2
    rw [show D + 2 * (m + 1) = D + 2 * m + 2 by omega]
    exact h3
theorem jT_len : ∀ k, k < 8 → ∀ a, a < 4 → (jT k 40 k a).length ≤ 1000 := by decide +kernel
theorem k_start0 (d : Nat) (sw : Bool) (f : Nat → Nat → Int32) (g : Nat → Nat → Int64) (n a x : Int32) (h : ¬ (jin n (f 70 2) = 1 ∧ ¬ a < 0 ∧ a < 4)) : CT (d + 1) 0 0 iX6_start [.ref 70, .int n, .int a, .int x] (S sw f g) (QR (some (.int 0)) (S sw (u2 f 70 3 0) g)) := by
  refine CT.of rfl (Nat.le_of_ble_eq_true rfl) (fun X hX hR hN _ => ?_)
  have hX : Good X RX6 cX6_start (d + 1) 0 0 := hX
  have hN : x_nl X = 4 := hN
  show WP X 0 0 0 [_, _, _, _] [] _
  refine wp_aload_n hX (dk DX6_start 0 rfl) rfl ?_
  refine wp_iconst (v := 0) hX (dk DX6_start 1 rfl) (by decide) ?_
  refine w_puti hX fpX6_22 (dk DX6_start 2 rfl) rfl ?_
  refine wp_aload_n hX (dk DX6_start 3 rfl) rfl ?_
  refine wp_iload_n hX (dk DX6_start 4 rfl) rfl ?_
  refine w_callV (As := [_]) lkX6_34 hX (dk DX6_start 5 rfl) rfl rfl (by decide) hN (k_sthas d sw _ g n) ?_
  show WP _ _ _ 10 [_, _, _, _] [_] _
  rw [show u2 f 70 3 0 70 2 = f 70 2 from u2_off _ _ _ (by decide)]
  refine wp_if_eq (tgt := 22) hX (dk DX6_start 6 rfl) (by decide) (fun h1 => ?_) (fun h1 => ?_)
  · refine wp_iconst (v := 0) hX (dk DX6_start 12 rfl) (by decide) ?_
    exact wp_ireturn hX hR (dk DX6_start 13 rfl) rfl (Nat.le_refl _) (Nat.le_refl _) (⟨rfl, rfl⟩)
  · refine wp_iload_n hX (dk DX6_start 7 rfl) rfl ?_
    refine wp_if_lt (tgt := 22) hX (dk DX6_start 8 rfl) (by decide) (fun h2 => ?_) (fun h2 => ?_)
    · refine wp_iconst (v := 0) hX (dk DX6_start 12 rfl) (by decide) ?_
      exact wp_ireturn hX hR (dk DX6_start 13 rfl) rfl (Nat.le_refl _) (Nat.le_refl _) (⟨rfl, rfl⟩)
    · refine wp_iload_n hX (dk DX6_start 9 rfl) rfl ?_
      refine wp_iconst (v := 4) hX (dk DX6_start 10 rfl) (by decide) ?_
      refine wp_icmp_lt (tgt := 24) hX (dk DX6_start 11 rfl) (by decide) (fun h3 => ?_) (fun h3 => ?_)
      · exfalso
        refine h ⟨?_, h2, h3⟩
        unfold jin at h1 ⊢
        by_cases c : ¬ n < 0 ∧ n < f 70 2
        · rw [if_pos c]
        · rw [if_neg c] at h1
          exact absurd rfl h1
      · refine wp_iconst (v := 0) hX (dk DX6_start 12 rfl) (by decide) ?_
        exact wp_ireturn hX hR (dk DX6_start 13 rfl) rfl (Nat.le_refl _) (Nat.le_refl _) (⟨rfl, rfl⟩)
theorem k_start (d : Nat) (sw : Bool) (f : Nat → Nat → Int32) (g : Nat → Nat → Int64) (c n k0 a : Nat) (x : Int32) (hc : f 70 2 = nI c) (hc50 : c ≤ 50) (hn : n < c) (hk : k0 < 8) (ha : a < 4) (hf : f 71 n = nI k0) : CT (d + 82) 0 0 iX6_start [.ref 70, .int (nI n), .int (nI a), .int x] (S sw f g) (QS (fun r sw2 f2 g2 => r = some (.int (jV k0 (nI n) 40 k0 a x)) ∧ sw2 = sw ∧ g2 = g ∧ trSm f f2 ∧ trOk f2 (jT k0 40 k0 a))) := by
  refine CT.of rfl (Nat.le_of_ble_eq_true rfl) (fun X hX hR hN _ => ?_)
  have hX : Good X RX6 cX6_start (d + 82) 0 0 := hX
  have hN : x_nl X = 4 := hN
  show WP X 0 0 0 [_, _, _, _] [] _
  refine wp_aload_n hX (dk DX6_start 0 rfl) rfl ?_
  refine wp_iconst (v := 0) hX (dk DX6_start 1 rfl) (by decide) ?_
  refine w_puti hX fpX6_22 (dk DX6_start 2 rfl) rfl ?_
  refine wp_aload_n hX (dk DX6_start 3 rfl) rfl ?_
  refine wp_iload_n hX (dk DX6_start 4 rfl) rfl ?_
  refine w_callV (As := [_]) lkX6_34 hX (dk DX6_start 5 rfl) rfl rfl (by decide) hN (k_sthas (d + 81) sw _ g (nI n)) ?_
  show WP _ _ _ 10 [_, _, _, _] [_] _
  rw [show u2 f 70 3 0 70 2 = nI c from (u2_off _ _ _ (by decide)).trans hc]
  have h1 : jin (nI n) (nI c) = 1 := if_pos ⟨nI_pos (by omega), nI_lt hn (by omega)⟩
  rw [h1]
  refine wp_if_eq (tgt := 22) hX (dk DX6_start 6 rfl) (by decide) (fun h_ => absurd h_ ((by decide))) (fun _ => ?_)
  refine wp_iload_n hX (dk DX6_start 7 rfl) rfl ?_
  refine wp_if_lt (tgt := 22) hX (dk DX6_start 8 rfl) (by decide) (fun h_ => absurd h_ ((nI_pos (by omega)))) (fun _ => ?_)
  refine wp_iload_n hX (dk DX6_start 9 rfl) rfl ?_
  refine wp_iconst (v := 4) hX (dk DX6_start 10 rfl) (by decide) ?_
  refine wp_icmp_lt (tgt := 24) hX (dk DX6_start 11 rfl) (by decide) (fun _ => ?_) (fun h_ => absurd ((nI_lt (b := 4) ha (by omega))) h_)
  have ht0 : trOk (u2 f 70 3 0) [] := ⟨by rw [u2_at]; rfl, by simp, fun j q _ h => by simp at h⟩
  refine wp_aload_n hX (dk DX6_start 14 rfl) rfl ?_
  refine wp_iload_n hX (dk DX6_start 15 rfl) rfl ?_
  refine wp_iload_n hX (dk DX6_start 16 rfl) rfl ?_
  refine wp_iload_n hX (dk DX6_start 17 rfl) rfl ?_
  refine wp_iconst (v := 0) hX (dk DX6_start 18 rfl) (by decide) ?_
  refine w_callVQ (As := [_, _, _, _]) lkX6_38 hX (dk DX6_start 19 rfl) rfl rfl (by decide) hN (k_own _ 40 sw g (k_ans sw g 40 d (by omega)) (u2 f 70 3 0) [] n k0 a x (by omega) hk ha (by rw [u2_ne _ _ _ (by decide)]; exact hf) ht0 (by have := jT_len k0 hk a ha; simpa using this)) (fun v_ sw_ f_ g_ hq_ => ?_)
  obtain ⟨rfl, rfl, rfl, h4, h5⟩ := hq_
  show WP _ _ _ 32 [_, _, _, _] [_] _
  exact wp_ireturn hX hR (dk DX6_start 20 rfl) rfl (Nat.le_refl _) (Nat.le_refl _) (⟨_, _, _, rfl, rfl, rfl, rfl, ⟨fun b g1 g2 => by rw [h4.1 b g1 g2, u2_ne _ _ _ g1], fun i hi => by rw [h4.2 i hi, u2_off _ _ _ hi]⟩, by simpa using h5⟩)
