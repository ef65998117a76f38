/-! REFERENCE: shift -/
theorem i2l_add {p q : Nat} (hp : p < 2 ^ 31) (hq : q < 2 ^ 31) : (nI p).toInt64 + (nI q).toInt64 = lN (p + q) := by rw [nI_l hp, nI_l hq, lN_add]
theorem idec (x : Int32) : x + Int32.ofInt (-1) = x - 1 := by rw [Int32.sub_eq_add_neg]; rfl
theorem u_shift0 (d : Nat) (sw : Bool) (f : Nat → Nat → Int32) (g : Nat → Nat → Int64) (x i y j n : Int32) (h : ¬ ((∃ b, b < 6 ∧ x = nI b) ∧ ∃ c, c < 6 ∧ y = nI c)) : CT (d + 110) 0 0 iX11_shift [.ref 81, .int x, .int i, .int y, .int j, .int n] (S sw f g) (rdM g f (-1)) := by
  refine CT.rdM ?_
  refine CT.of rfl (Nat.le_of_ble_eq_true rfl) (fun X hX hR hN _ => ?_)
  have hX : Good X RX11 cX11_shift (d + 110) 0 0 := hX
  have hN : x_nl X = 7 := hN
  show WP X 0 0 0 [_, _, _, _, _, _, _] [] _
  by_cases c1 : ∃ b, b < 6 ∧ x = nI b
  · obtain ⟨b, hb, rfl⟩ := c1
    refine wp_iload_n hX (dk DX11_shift 0 rfl) rfl ?_
    refine w_callS (As := [_]) lkX11_174 hX (dk DX11_shift 1 rfl) rfl (by decide) (k_mH1 (d + 108) sw f g b hb) ?_
    show WP _ _ _ 4 [_, _, _, _, _, _, _] [_] _
    refine wp_if_eq (tgt := 14) hX (dk DX11_shift 2 rfl) (by decide) (fun h_ => absurd h_ (by decide)) (fun _ => ?_)
    refine wp_iload_n hX (dk DX11_shift 3 rfl) rfl ?_
    refine w_callS (As := [_]) lkX11_174 hX (dk DX11_shift 4 rfl) rfl (by decide) (k_mH0 (d + 108) sw f g y (fun q => h ⟨⟨b, hb, rfl⟩, q⟩)) ?_
    show WP _ _ _ 11 [_, _, _, _, _, _, _] [_] _
    refine wp_if_ne (tgt := 16) hX (dk DX11_shift 5 rfl) (by decide) (fun h_ => absurd (rfl) h_) (fun _ => ?_)
    refine wp_iconst (v := -1) hX (dk DX11_shift 6 rfl) (by decide) ?_
    exact wp_ireturn hX hR (dk DX11_shift 7 rfl) rfl (Nat.le_refl _) (Nat.le_refl _) (⟨rfl, rfl⟩)
  · refine wp_iload_n hX (dk DX11_shift 0 rfl) rfl ?_
    refine w_callS (As := [_]) lkX11_174 hX (dk DX11_shift 1 rfl) rfl (by decide) (k_mH0 (d + 108) sw f g x c1) ?_
    show WP _ _ _ 4 [_, _, _, _, _, _, _] [_] _
    refine wp_if_eq (tgt := 14) hX (dk DX11_shift 2 rfl) (by decide) (fun _ => ?_) (fun h_ => absurd (rfl) h_)
    refine wp_iconst (v := -1) hX (dk DX11_shift 6 rfl) (by decide) ?_
    exact wp_ireturn hX hR (dk DX11_shift 7 rfl) rfl (Nat.le_refl _) (Nat.le_refl _) (⟨rfl, rfl⟩)
theorem u_shiftR (d : Nat) (sw : Bool) (f : Nat → Nat → Int32) (g : Nat → Nat → Int64) (b c : Nat) (i j n : Int32) (hb : b < 6) (hc : c < 6) (hs : shR f) (h : ¬ jsh (f 106 b) (f 107 b) (f 106 c) (f 107 c) i j n = 0) : CT (d + 110) 0 0 iX11_shift [.ref 81, .int (nI b), .int i, .int (nI c), .int j, .int n] (S sw f g) (rdM g f (jsh (f 106 b) (f 107 b) (f 106 c) (f 107 c) i j n)) := by
  refine CT.rdM ?_
  obtain ⟨ans, hans⟩ : ∃ a, a = jsh (f 106 b) (f 107 b) (f 106 c) (f 107 c) i j n := ⟨_, rfl⟩
  rw [← hans] at h ⊢
  unfold jsh at hans
  refine CT.of rfl (Nat.le_of_ble_eq_true rfl) (fun X hX hR hN _ => ?_)
  have hX : Good X RX11 cX11_shift (d + 110) 0 0 := hX
  have hN : x_nl X = 7 := hN
  show WP X 0 0 0 [_, _, _, _, _, _, _] [] _
  by_cases c1 : f 106 b = -1 ∨ f 106 c = -1
  · rw [if_pos c1] at hans
    rw [hans] at hR
    refine wp_iload_n hX (dk DX11_shift 0 rfl) rfl ?_
    refine w_callS (As := [_]) lkX11_174 hX (dk DX11_shift 1 rfl) rfl (by decide) (k_mH1 (d + 108) sw f g b hb) ?_
    show WP _ _ _ 4 [_, _, _, _, _, _, _] [_] _
    refine wp_if_eq (tgt := 14) hX (dk DX11_shift 2 rfl) (by decide) (fun h_ => absurd h_ (by decide)) (fun _ => ?_)
    refine wp_iload_n hX (dk DX11_shift 3 rfl) rfl ?_
    refine w_callS (As := [_]) lkX11_174 hX (dk DX11_shift 4 rfl) rfl (by decide) (k_mH1 (d + 108) sw f g c hc) ?_
    show WP _ _ _ 11 [_, _, _, _, _, _, _] [_] _
    refine wp_if_ne (tgt := 16) hX (dk DX11_shift 5 rfl) (by decide) (fun _ => ?_) (fun h_ => absurd h_ (by decide))
    refine wp_aload_n hX (dk DX11_shift 8 rfl) rfl ?_
    refine w_getr hX flX11_84 (dk DX11_shift 9 rfl) rfl rfl ?_
    refine wp_iload_n hX (dk DX11_shift 10 rfl) rfl ?_
    refine w_iald (j := _) hX (dk DX11_shift 11 rfl) rfl rfl (show _ < 6 by omega) ?_
    refine wp_iconst (v := -1) hX (dk DX11_shift 12 rfl) (by decide) ?_
    refine wp_icmp_eq (tgt := 36) hX (dk DX11_shift 13 rfl) (by decide) (fun h23 => ?_) (fun h23 => ?_)
    · refine wp_bipush (v := -11) hX (dk DX11_shift 20 rfl) (by decide) ?_
      exact wp_ireturn hX hR (dk DX11_shift 21 rfl) rfl (Nat.le_refl _) (Nat.le_refl _) (⟨rfl, rfl⟩)
    · refine wp_aload_n hX (dk DX11_shift 14 rfl) rfl ?_
      refine w_getr hX flX11_84 (dk DX11_shift 15 rfl) rfl rfl ?_
      refine wp_iload_n hX (dk DX11_shift 16 rfl) rfl ?_
      refine w_iald (j := _) hX (dk DX11_shift 17 rfl) rfl rfl (show _ < 6 by omega) ?_
      refine wp_iconst (v := -1) hX (dk DX11_shift 18 rfl) (by decide) ?_
      refine wp_icmp_ne (tgt := 39) hX (dk DX11_shift 19 rfl) (by decide) (fun h_ => absurd (c1.resolve_left h23) h_) (fun _ => ?_)
      refine wp_bipush (v := -11) hX (dk DX11_shift 20 rfl) (by decide) ?_
      exact wp_ireturn hX hR (dk DX11_shift 21 rfl) rfl (Nat.le_refl _) (Nat.le_refl _) (⟨rfl, rfl⟩)
  · rw [if_neg c1] at hans
    have c1b : ¬ f 106 b = -1 := fun q => c1 (Or.inl q)
    have c1c : ¬ f 106 c = -1 := fun q => c1 (Or.inr q)
    by_cases c2 : jin (f 106 b) 5 = 0
    · rw [if_pos (Or.inl c2)] at hans
      rw [hans] at hR
      refine wp_iload_n hX (dk DX11_shift 0 rfl) rfl ?_
      refine w_callS (As := [_]) lkX11_174 hX (dk DX11_shift 1 rfl) rfl (by decide) (k_mH1 (d + 108) sw f g b hb) ?_
      show WP _ _ _ 4 [_, _, _, _, _, _, _] [_] _
      refine wp_if_eq (tgt := 14) hX (dk DX11_shift 2 rfl) (by decide) (fun h_ => absurd h_ (by decide)) (fun _ => ?_)
      refine wp_iload_n hX (dk DX11_shift 3 rfl) rfl ?_
      refine w_callS (As := [_]) lkX11_174 hX (dk DX11_shift 4 rfl) rfl (by decide) (k_mH1 (d + 108) sw f g c hc) ?_
      show WP _ _ _ 11 [_, _, _, _, _, _, _] [_] _
      refine wp_if_ne (tgt := 16) hX (dk DX11_shift 5 rfl) (by decide) (fun _ => ?_) (fun h_ => absurd h_ (by decide))
      refine wp_aload_n hX (dk DX11_shift 8 rfl) rfl ?_
      refine w_getr hX flX11_84 (dk DX11_shift 9 rfl) rfl rfl ?_
      refine wp_iload_n hX (dk DX11_shift 10 rfl) rfl ?_
      refine w_iald (j := _) hX (dk DX11_shift 11 rfl) rfl rfl (show _ < 6 by omega) ?_
      refine wp_iconst (v := -1) hX (dk DX11_shift 12 rfl) (by decide) ?_
      refine wp_icmp_eq (tgt := 36) hX (dk DX11_shift 13 rfl) (by decide) (fun h_ => absurd h_ (c1b)) (fun _ => ?_)
      refine wp_aload_n hX (dk DX11_shift 14 rfl) rfl ?_
      refine w_getr hX flX11_84 (dk DX11_shift 15 rfl) rfl rfl ?_
      refine wp_iload_n hX (dk DX11_shift 16 rfl) rfl ?_
      refine w_iald (j := _) hX (dk DX11_shift 17 rfl) rfl rfl (show _ < 6 by omega) ?_
      refine wp_iconst (v := -1) hX (dk DX11_shift 18 rfl) (by decide) ?_
      refine wp_icmp_ne (tgt := 39) hX (dk DX11_shift 19 rfl) (by decide) (fun _ => ?_) (fun h_ => absurd h_ (c1c))
      refine wp_aload_n hX (dk DX11_shift 22 rfl) rfl ?_
      refine wp_iload_n hX (dk DX11_shift 23 rfl) rfl ?_
      refine w_callV (As := [_]) lkX11_376 hX (dk DX11_shift 24 rfl) rfl rfl (by decide) hN (k_misR (d + 108) sw f g b hb) ?_
      show WP _ _ _ 44 [_, _, _, _, _, _, _] [_] _
      refine wp_if_eq (tgt := 70) hX (dk DX11_shift 25 rfl) (by decide) (fun _ => ?_) (fun h_ => absurd (c2) h_)
      refine wp_bipush (v := -12) hX (dk DX11_shift 39 rfl) (by decide) ?_
      exact wp_ireturn hX hR (dk DX11_shift 40 rfl) rfl (Nat.le_refl _) (Nat.le_refl _) (⟨rfl, rfl⟩)
    · by_cases c3 : f 106 b = f 106 c
      · rw [if_neg (fun q => q.elim c2 (fun z => z c3))] at hans
        have c2c : ¬ jin (f 106 c) 5 = 0 := by rw [← c3]; exact c2
        obtain ⟨k, k1, k2⟩ := jin_ex (n := 5) (by decide) c2
        obtain ⟨zb, z1, z2⟩ := hs b k hb k1 k2
        obtain ⟨zc, z3, z4⟩ := hs c k hc k1 (by rw [← c3]; exact k2)
        rw [z2, z4] at hans
        by_cases c4 : jstr (nI zb) i n = 0 ∨ jstr (nI zc) j n = 0
        · rw [if_pos c4] at hans
          rw [hans] at hR
          refine wp_iload_n hX (dk DX11_shift 0 rfl) rfl ?_
          refine w_callS (As := [_]) lkX11_174 hX (dk DX11_shift 1 rfl) rfl (by decide) (k_mH1 (d + 108) sw f g b hb) ?_
          show WP _ _ _ 4 [_, _, _, _, _, _, _] [_] _
          refine wp_if_eq (tgt := 14) hX (dk DX11_shift 2 rfl) (by decide) (fun h_ => absurd h_ (by decide)) (fun _ => ?_)
          refine wp_iload_n hX (dk DX11_shift 3 rfl) rfl ?_
          refine w_callS (As := [_]) lkX11_174 hX (dk DX11_shift 4 rfl) rfl (by decide) (k_mH1 (d + 108) sw f g c hc) ?_
          show WP _ _ _ 11 [_, _, _, _, _, _, _] [_] _
          refine wp_if_ne (tgt := 16) hX (dk DX11_shift 5 rfl) (by decide) (fun _ => ?_) (fun h_ => absurd h_ (by decide))
          refine wp_aload_n hX (dk DX11_shift 8 rfl) rfl ?_
          refine w_getr hX flX11_84 (dk DX11_shift 9 rfl) rfl rfl ?_
          refine wp_iload_n hX (dk DX11_shift 10 rfl) rfl ?_
          refine w_iald (j := _) hX (dk DX11_shift 11 rfl) rfl rfl (show _ < 6 by omega) ?_
          refine wp_iconst (v := -1) hX (dk DX11_shift 12 rfl) (by decide) ?_
          refine wp_icmp_eq (tgt := 36) hX (dk DX11_shift 13 rfl) (by decide) (fun h_ => absurd h_ (c1b)) (fun _ => ?_)
          refine wp_aload_n hX (dk DX11_shift 14 rfl) rfl ?_
          refine w_getr hX flX11_84 (dk DX11_shift 15 rfl) rfl rfl ?_
          refine wp_iload_n hX (dk DX11_shift 16 rfl) rfl ?_
          refine w_iald (j := _) hX (dk DX11_shift 17 rfl) rfl rfl (show _ < 6 by omega) ?_
          refine wp_iconst (v := -1) hX (dk DX11_shift 18 rfl) (by decide) ?_
          refine wp_icmp_ne (tgt := 39) hX (dk DX11_shift 19 rfl) (by decide) (fun _ => ?_) (fun h_ => absurd h_ (c1c))
          refine wp_aload_n hX (dk DX11_shift 22 rfl) rfl ?_
          refine wp_iload_n hX (dk DX11_shift 23 rfl) rfl ?_
          refine w_callV (As := [_]) lkX11_376 hX (dk DX11_shift 24 rfl) rfl rfl (by decide) hN (k_misR (d + 108) sw f g b hb) ?_
          show WP _ _ _ 44 [_, _, _, _, _, _, _] [_] _
          refine wp_if_eq (tgt := 70) hX (dk DX11_shift 25 rfl) (by decide) (fun h_ => absurd h_ (c2)) (fun _ => ?_)
          refine wp_aload_n hX (dk DX11_shift 26 rfl) rfl ?_
          refine wp_iload_n hX (dk DX11_shift 27 rfl) rfl ?_
          refine w_callV (As := [_]) lkX11_376 hX (dk DX11_shift 28 rfl) rfl rfl (by decide) hN (k_misR (d + 108) sw f g c hc) ?_
          show WP _ _ _ 52 [_, _, _, _, _, _, _] [_] _
          refine wp_if_eq (tgt := 70) hX (dk DX11_shift 29 rfl) (by decide) (fun h_ => absurd h_ (c2c)) (fun _ => ?_)
          refine wp_aload_n hX (dk DX11_shift 30 rfl) rfl ?_
          refine w_getr hX flX11_84 (dk DX11_shift 31 rfl) rfl rfl ?_
          refine wp_iload_n hX (dk DX11_shift 32 rfl) rfl ?_
          refine w_iald (j := _) hX (dk DX11_shift 33 rfl) rfl rfl (show _ < 6 by omega) ?_
          refine wp_aload_n hX (dk DX11_shift 34 rfl) rfl ?_
          refine w_getr hX flX11_84 (dk DX11_shift 35 rfl) rfl rfl ?_
          refine wp_iload_n hX (dk DX11_shift 36 rfl) rfl ?_
          refine w_iald (j := _) hX (dk DX11_shift 37 rfl) rfl rfl (show _ < 6 by omega) ?_
          refine wp_icmp_eq (tgt := 73) hX (dk DX11_shift 38 rfl) (by decide) (fun _ => ?_) (fun h_ => absurd (c3) h_)
          refine wp_iload hX (dk DX11_shift 41 rfl) rfl ?_
          refine wp_if_lt (tgt := 122) hX (dk DX11_shift 42 rfl) (by decide) (fun h75 => ?_) (fun h75 => ?_)
          · refine wp_bipush (v := -13) hX (dk DX11_shift_1 11 rfl) (by decide) ?_
            exact wp_ireturn hX hR (dk DX11_shift_1 12 rfl) rfl (Nat.le_refl _) (Nat.le_refl _) (⟨rfl, rfl⟩)
          · refine wp_iload_n hX (dk DX11_shift 43 rfl) rfl ?_
            refine wp_if_lt (tgt := 122) hX (dk DX11_shift 44 rfl) (by decide) (fun h79 => ?_) (fun h79 => ?_)
            · refine wp_bipush (v := -13) hX (dk DX11_shift_1 11 rfl) (by decide) ?_
              exact wp_ireturn hX hR (dk DX11_shift_1 12 rfl) rfl (Nat.le_refl _) (Nat.le_refl _) (⟨rfl, rfl⟩)
            · refine wp_iload hX (dk DX11_shift 45 rfl) rfl ?_
              refine wp_if_lt (tgt := 122) hX (dk DX11_shift 46 rfl) (by decide) (fun h84 => ?_) (fun h84 => ?_)
              · refine wp_bipush (v := -13) hX (dk DX11_shift_1 11 rfl) (by decide) ?_
                exact wp_ireturn hX hR (dk DX11_shift_1 12 rfl) rfl (Nat.le_refl _) (Nat.le_refl _) (⟨rfl, rfl⟩)
              · refine wp_iload_n hX (dk DX11_shift 47 rfl) rfl ?_
                refine wp_i2l hX (dk DX11_shift 48 rfl) ?_
                refine wp_iload hX (dk DX11_shift 49 rfl) rfl ?_
                refine wp_i2l hX (dk DX11_shift 50 rfl) ?_
                refine wp_ladd hX (dk DX11_shift 51 rfl) ?_
                refine wp_aload_n hX (dk DX11_shift 52 rfl) rfl ?_
                refine w_getr hX flX11_87 (dk DX11_shift 53 rfl) rfl rfl ?_
                refine wp_iload_n hX (dk DX11_shift 54 rfl) rfl ?_
                refine w_iald (j := _) hX (dk DX11_shift 55 rfl) rfl rfl (show _ < 6 by omega) ?_
                rw [z2]
                refine wp_i2l hX (dk DX11_shift 56 rfl) ?_
                refine wp_lcmp hX (dk DX11_shift 57 rfl) ?_
                refine wp_if_gt (tgt := 122) hX (dk DX11_shift 58 rfl) (by decide) (fun h101 => ?_) (fun h101 => ?_)
                · refine wp_bipush (v := -13) hX (dk DX11_shift_1 11 rfl) (by decide) ?_
                  exact wp_ireturn hX hR (dk DX11_shift_1 12 rfl) rfl (Nat.le_refl _) (Nat.le_refl _) (⟨rfl, rfl⟩)
                · refine wp_iload hX (dk DX11_shift 59 rfl) rfl ?_
                  refine wp_i2l hX (dk DX11_shift_1 0 rfl) ?_
                  refine wp_iload hX (dk DX11_shift_1 1 rfl) rfl ?_
                  refine wp_i2l hX (dk DX11_shift_1 2 rfl) ?_
                  refine wp_ladd hX (dk DX11_shift_1 3 rfl) ?_
                  refine wp_aload_n hX (dk DX11_shift_1 4 rfl) rfl ?_
                  refine w_getr hX flX11_87 (dk DX11_shift_1 5 rfl) rfl rfl ?_
                  refine wp_iload_n hX (dk DX11_shift_1 6 rfl) rfl ?_
                  refine w_iald (j := _) hX (dk DX11_shift_1 7 rfl) rfl rfl (show _ < 6 by omega) ?_
                  rw [z4]
                  refine wp_i2l hX (dk DX11_shift_1 8 rfl) ?_
                  refine wp_lcmp hX (dk DX11_shift_1 9 rfl) ?_
                  refine wp_if_le (tgt := 125) hX (dk DX11_shift_1 10 rfl) (by decide) (fun h119 => ?_) (fun h119 => ?_)
                  · skip
                    exfalso
                    obtain ⟨p, p1, rfl⟩ := nI_of h79
                    obtain ⟨u, u1, rfl⟩ := nI_of h84
                    obtain ⟨q, q1, rfl⟩ := nI_of h75
                    rw [i2l_add p1 q1, nI_l (show zb < 2 ^ 31 by omega)] at h101
                    rw [i2l_add u1 q1, nI_l (show zc < 2 ^ 31 by omega)] at h119
                    have a1 : p + q ≤ zb := Nat.le_of_not_lt (fun e => h101 ((lg_cmp_gt _ _).mpr ((pk_lLT (by omega) (by omega)).mpr e)))
                    have a2 : u + q ≤ zc := Nat.le_of_not_lt (fun e => (Int64.not_lt.mpr ((lg_cmp_le _ _).mp h119)) ((pk_lLT (by omega) (by omega)).mpr e))
                    rcases c4 with c4 | c4
                    · rw [jstr_y z1 a1] at c4; cases c4
                    · rw [jstr_y z3 a2] at c4; cases c4
                  · refine wp_bipush (v := -13) hX (dk DX11_shift_1 11 rfl) (by decide) ?_
                    exact wp_ireturn hX hR (dk DX11_shift_1 12 rfl) rfl (Nat.le_refl _) (Nat.le_refl _) (⟨rfl, rfl⟩)
        · rw [if_neg c4] at hans
          exact absurd hans h
      · rw [if_pos (Or.inr c3)] at hans
        rw [hans] at hR
        refine wp_iload_n hX (dk DX11_shift 0 rfl) rfl ?_
        refine w_callS (As := [_]) lkX11_174 hX (dk DX11_shift 1 rfl) rfl (by decide) (k_mH1 (d + 108) sw f g b hb) ?_
        show WP _ _ _ 4 [_, _, _, _, _, _, _] [_] _
        refine wp_if_eq (tgt := 14) hX (dk DX11_shift 2 rfl) (by decide) (fun h_ => absurd h_ (by decide)) (fun _ => ?_)
        refine wp_iload_n hX (dk DX11_shift 3 rfl) rfl ?_
        refine w_callS (As := [_]) lkX11_174 hX (dk DX11_shift 4 rfl) rfl (by decide) (k_mH1 (d + 108) sw f g c hc) ?_
        show WP _ _ _ 11 [_, _, _, _, _, _, _] [_] _
        refine wp_if_ne (tgt := 16) hX (dk DX11_shift 5 rfl) (by decide) (fun _ => ?_) (fun h_ => absurd h_ (by decide))
        refine wp_aload_n hX (dk DX11_shift 8 rfl) rfl ?_
        refine w_getr hX flX11_84 (dk DX11_shift 9 rfl) rfl rfl ?_
        refine wp_iload_n hX (dk DX11_shift 10 rfl) rfl ?_
        refine w_iald (j := _) hX (dk DX11_shift 11 rfl) rfl rfl (show _ < 6 by omega) ?_
        refine wp_iconst (v := -1) hX (dk DX11_shift 12 rfl) (by decide) ?_
        refine wp_icmp_eq (tgt := 36) hX (dk DX11_shift 13 rfl) (by decide) (fun h_ => absurd h_ (c1b)) (fun _ => ?_)
        refine wp_aload_n hX (dk DX11_shift 14 rfl) rfl ?_
        refine w_getr hX flX11_84 (dk DX11_shift 15 rfl) rfl rfl ?_
        refine wp_iload_n hX (dk DX11_shift 16 rfl) rfl ?_
        refine w_iald (j := _) hX (dk DX11_shift 17 rfl) rfl rfl (show _ < 6 by omega) ?_
        refine wp_iconst (v := -1) hX (dk DX11_shift 18 rfl) (by decide) ?_
        refine wp_icmp_ne (tgt := 39) hX (dk DX11_shift 19 rfl) (by decide) (fun _ => ?_) (fun h_ => absurd h_ (c1c))
        refine wp_aload_n hX (dk DX11_shift 22 rfl) rfl ?_
        refine wp_iload_n hX (dk DX11_shift 23 rfl) rfl ?_
        refine w_callV (As := [_]) lkX11_376 hX (dk DX11_shift 24 rfl) rfl rfl (by decide) hN (k_misR (d + 108) sw f g b hb) ?_
        show WP _ _ _ 44 [_, _, _, _, _, _, _] [_] _
        refine wp_if_eq (tgt := 70) hX (dk DX11_shift 25 rfl) (by decide) (fun h_ => absurd h_ (c2)) (fun _ => ?_)
        refine wp_aload_n hX (dk DX11_shift 26 rfl) rfl ?_
        refine wp_iload_n hX (dk DX11_shift 27 rfl) rfl ?_
        refine w_callV (As := [_]) lkX11_376 hX (dk DX11_shift 28 rfl) rfl rfl (by decide) hN (k_misR (d + 108) sw f g c hc) ?_
        show WP _ _ _ 52 [_, _, _, _, _, _, _] [_] _
        refine wp_if_eq (tgt := 70) hX (dk DX11_shift 29 rfl) (by decide) (fun h52 => ?_) (fun h52 => ?_)
        · refine wp_bipush (v := -12) hX (dk DX11_shift 39 rfl) (by decide) ?_
          exact wp_ireturn hX hR (dk DX11_shift 40 rfl) rfl (Nat.le_refl _) (Nat.le_refl _) (⟨rfl, rfl⟩)
        · refine wp_aload_n hX (dk DX11_shift 30 rfl) rfl ?_
          refine w_getr hX flX11_84 (dk DX11_shift 31 rfl) rfl rfl ?_
          refine wp_iload_n hX (dk DX11_shift 32 rfl) rfl ?_
          refine w_iald (j := _) hX (dk DX11_shift 33 rfl) rfl rfl (show _ < 6 by omega) ?_
          refine wp_aload_n hX (dk DX11_shift 34 rfl) rfl ?_
          refine w_getr hX flX11_84 (dk DX11_shift 35 rfl) rfl rfl ?_
          refine wp_iload_n hX (dk DX11_shift 36 rfl) rfl ?_
          refine w_iald (j := _) hX (dk DX11_shift 37 rfl) rfl rfl (show _ < 6 by omega) ?_
          refine wp_icmp_eq (tgt := 73) hX (dk DX11_shift 38 rfl) (by decide) (fun h_ => absurd h_ (c3)) (fun _ => ?_)
          refine wp_bipush (v := -12) hX (dk DX11_shift 39 rfl) (by decide) ?_
          exact wp_ireturn hX hR (dk DX11_shift 40 rfl) rfl (Nat.le_refl _) (Nat.le_refl _) (⟨rfl, rfl⟩)
/-- the last ones of a stretch copied -/
def mbk (r : Nat → Int64) (sp dp q n : Nat) : Nat → Int64 := fun x => if dp + q ≤ x ∧ x < dp + n then r (sp + (x - dp)) else r x
theorem mbk_n (r : Nat → Int64) (sp dp n : Nat) : mbk r sp dp n n = r := by
  funext x
  unfold mbk
  rw [if_neg (by omega)]
theorem mbk_0 (r : Nat → Int64) (sp dp n : Nat) : mbk r sp dp 0 n = va_cpy r r sp dp n := by
  funext x
  unfold mbk
  by_cases c : dp ≤ x ∧ x < dp + n
  · rw [if_pos (by omega), pk_cpy_in c.1 c.2]
  · rw [if_neg (by omega), pk_cpy_out (by omega)]
theorem cpy_0 (r : Nat → Int64) (sp dp : Nat) : va_cpy r r sp dp 0 = r := by
  funext x
  exact pk_cpy_out (by omega)
theorem u1_g (g : Nat → Nat → Int64) (a : Nat) : u1 g a (g a) = g := by
  funext c
  unfold u1
  by_cases h : c = a
  · rw [if_pos h, h]
  · rw [if_neg h]
theorem u2_u1 (g : Nat → Nat → Int64) (a k : Nat) (r r2 : Nat → Int64) (v : Int64) (h : ∀ j, r2 j = if j = k then v else r j) : u2 (u1 g a r) a k v = u1 g a r2 := by
  funext c j
  unfold u2 u1
  by_cases hc : c = a
  · simp only [if_pos hc, h]
  · simp only [if_neg hc]
theorem u_shift1 (d : Nat) (sw : Bool) (f : Nat → Nat → Int32) (g : Nat → Nat → Int64) (b c i j n : Nat) (hb : b < 6) (hc : c < 6) (hs : shR f) (hi : i + n ≤ 60) (hj : j + n ≤ 60) (h : jsh (f 106 b) (f 107 b) (f 106 c) (f 107 c) (nI i) (nI j) (nI n) = 0) : CT (d + 110) 0 0 iX11_shift [.ref 81, .int (nI b), .int (nI i), .int (nI c), .int (nI j), .int (nI n)] (S sw f g) (QR (some (.int (nI n))) (S sw f (u1 g 108 (va_cpy (g 108) (g 108) (b * 60 + i) (c * 60 + j) n)))) := by
  obtain ⟨⟨k, hk, e1⟩, e2, e3, e4⟩ := jsh_0 h
  have hne : ¬ nI k = -1 := fun q => nI_pos (n := k) (by omega) (by rw [q]; decide)
  obtain ⟨zb, z1, z2⟩ := hs b k hb hk e1
  obtain ⟨zc, z3, z4⟩ := hs c k hc hk (by rw [← e2]; exact e1)
  rw [z2] at e3
  rw [z4] at e4
  have b1 : i + n ≤ zb := by
    obtain ⟨p, q, p1, p2, p3⟩ := jstr_in z1 e3
    have := (nI_eq (by omega) (by omega)).mp p1
    have := (nI_eq (by omega) (by omega)).mp p2
    omega
  have b2 : j + n ≤ zc := by
    obtain ⟨p, q, p1, p2, p3⟩ := jstr_in z3 e4
    have := (nI_eq (by omega) (by omega)).mp p1
    have := (nI_eq (by omega) (by omega)).mp p2
    omega
  have hjk : jin (f 106 b) 5 = 1 := jin_1 (n := 5) (by decide) hk e1
  have hjc : jin (f 106 c) 5 = 1 := jin_1 (n := 5) (by decide) hk (by rw [← e2]; exact e1)
  have ix : ∀ c j k : Nat, (60 : Int32) * nI c + nI j + nI k = nI (c * 60 + j + k) := fun c j k => by rw [ix60m, nI_add]
  obtain ⟨r, hr⟩ : ∃ r, r = g 108 := ⟨_, rfl⟩
  rw [← hr]
  refine CT.of rfl (Nat.le_of_ble_eq_true rfl) (fun X hX hR hN _ => ?_)
  have hX : Good X RX11 cX11_shift (d + 110) 0 0 := hX
  have hN : x_nl X = 7 := hN
  show WP X 0 0 0 [_, _, _, _, _, _, _] [] _
  have fin : ∀ z6 : Option Value, WP X 0 0 230 [some (.ref 81), some (.int (nI b)), some (.int (nI i)), some (.int (nI c)), some (.int (nI j)), some (.int (nI n)), z6] [] (S sw f (u1 g 108 (va_cpy r r (b * 60 + i) (c * 60 + j) n))) := by
    intro z6
    refine wp_iload hX (dk DX11_shift_2 15 rfl) rfl ?_
    exact wp_ireturn hX hR (dk DX11_shift_2 16 rfl) rfl (Nat.le_refl _) (Nat.le_refl _) (⟨rfl, rfl⟩)
  have bw : (c = b ∧ i < j) → ∀ q, q ≤ n → WP X 0 0 142 [some (.ref 81), some (.int (nI b)), some (.int (nI i)), some (.int (nI c)), some (.int (nI j)), some (.int (nI n)), some (.int (nI q - 1))] [] (S sw f (u1 g 108 (mbk r (b * 60 + i) (c * 60 + j) q n))) := by
    rintro ⟨rfl, hij⟩ q
    induction q with
    | zero =>
      intro _
      rw [mbk_0]
      refine wp_iload hX (dk DX11_shift_1 23 rfl) rfl ?_
      refine wp_if_lt (tgt := 182) hX (dk DX11_shift_1 24 rfl) (by decide) (fun _ => ?_) (fun h_ => absurd (by decide) h_)
      refine wp_goto (tgt := 230) hX (dk DX11_shift_1 47 rfl) (by decide) ?_
      exact fin _
    | succ q ih =>
      intro hq
      have nx := ih (by omega)
      have e : u2 (u1 g 108 (mbk r (c * 60 + i) (c * 60 + j) (q + 1) n)) 108 (c * 60 + j + q) (u1 g 108 (mbk r (c * 60 + i) (c * 60 + j) (q + 1) n) 108 (c * 60 + i + q)) = u1 g 108 (mbk r (c * 60 + i) (c * 60 + j) q n) := by
        rw [u1_row]
        refine u2_u1 _ _ _ _ _ _ (fun x => ?_)
        unfold mbk
        by_cases hx : x = c * 60 + j + q
        · rw [if_pos hx, if_pos (by omega), if_neg (by omega), hx]
          exact congrArg r (by omega)
        · rw [if_neg hx]
          by_cases h3 : c * 60 + j + (q + 1) ≤ x ∧ x < c * 60 + j + n
          · rw [if_pos h3, if_pos (by omega)]
          · rw [if_neg h3, if_neg (by omega)]
      rw [← e] at nx
      rw [nI_pred]
      refine wp_iload hX (dk DX11_shift_1 23 rfl) rfl ?_
      refine wp_if_lt (tgt := 182) hX (dk DX11_shift_1 24 rfl) (by decide) (fun h_ => absurd h_ (nI_pos (by omega))) (fun _ => ?_)
      refine wp_aload_n hX (dk DX11_shift_1 25 rfl) rfl ?_
      refine w_getr hX flX11_90 (dk DX11_shift_1 26 rfl) rfl rfl ?_
      refine wp_bipush (v := 60) hX (dk DX11_shift_1 27 rfl) (by decide) ?_
      refine wp_iload_n hX (dk DX11_shift_1 28 rfl) rfl ?_
      refine wp_imul hX (dk DX11_shift_1 29 rfl) ?_
      refine wp_iload hX (dk DX11_shift_1 30 rfl) rfl ?_
      refine wp_iadd hX (dk DX11_shift_1 31 rfl) ?_
      refine wp_iload hX (dk DX11_shift_1 32 rfl) rfl ?_
      refine wp_iadd hX (dk DX11_shift_1 33 rfl) ?_
      refine wp_aload_n hX (dk DX11_shift_1 34 rfl) rfl ?_
      refine w_getr hX flX11_90 (dk DX11_shift_1 35 rfl) rfl rfl ?_
      refine wp_bipush (v := 60) hX (dk DX11_shift_1 36 rfl) (by decide) ?_
      refine wp_iload_n hX (dk DX11_shift_1 37 rfl) rfl ?_
      refine wp_imul hX (dk DX11_shift_1 38 rfl) ?_
      refine wp_iload_n hX (dk DX11_shift_1 39 rfl) rfl ?_
      refine wp_iadd hX (dk DX11_shift_1 40 rfl) ?_
      refine wp_iload hX (dk DX11_shift_1 41 rfl) rfl ?_
      refine wp_iadd hX (dk DX11_shift_1 42 rfl) ?_
      refine w_lald (j := (c * 60 + i + q)) hX (dk DX11_shift_1 43 rfl) rfl (ix c i q) (show _ < 360 by omega) ?_
      refine w_last (j := (c * 60 + j + q)) hX (dk DX11_shift_1 44 rfl) rfl (ix c j q) (show _ < 360 by omega) ?_
      refine wp_iinc hX (dk DX11_shift_1 45 rfl) rfl (idec (nI q)) rfl hN ?_
      show WP _ _ _ 179 [_, _, _, _, _, _, _] [] _
      refine wp_goto (tgt := 142) hX (dk DX11_shift_1 46 rfl) (by decide) ?_
      exact nx
  have fw : ¬ (c = b ∧ i < j) → ∀ (m q : Nat), q + m = n → WP X 0 0 188 [some (.ref 81), some (.int (nI b)), some (.int (nI i)), some (.int (nI c)), some (.int (nI j)), some (.int (nI n)), some (.int (nI q))] [] (S sw f (u1 g 108 (va_cpy r r (b * 60 + i) (c * 60 + j) q))) := by
    intro hbc m
    induction m with
    | zero =>
      intro q hq
      obtain rfl : q = n := by omega
      refine wp_iload hX (dk DX11_shift_1 50 rfl) rfl ?_
      refine wp_iload hX (dk DX11_shift_1 51 rfl) rfl ?_
      refine wp_icmp_ge (tgt := 230) hX (dk DX11_shift_1 52 rfl) (by decide) (fun _ => ?_) (fun h_ => absurd (nI_le (by omega) (by omega)) h_)
      exact fin _
    | succ m ih =>
      intro q hq
      have nx := ih (q + 1) (by omega)
      have e : u2 (u1 g 108 (va_cpy r r (b * 60 + i) (c * 60 + j) q)) 108 (c * 60 + j + q) (u1 g 108 (va_cpy r r (b * 60 + i) (c * 60 + j) q) 108 (b * 60 + i + q)) = u1 g 108 (va_cpy r r (b * 60 + i) (c * 60 + j) (q + 1)) := by
        rw [u1_row]
        refine u2_u1 _ _ _ _ _ _ (fun x => ?_)
        have hout : b * 60 + i + q < c * 60 + j ∨ c * 60 + j + q ≤ b * 60 + i + q := by
          by_cases e : c = b
          · subst e
            have : ¬ i < j := fun z => hbc ⟨rfl, z⟩
            omega
          · omega
        rw [pk_cpy_out hout]
        by_cases hx : x = c * 60 + j + q
        · rw [if_pos hx, hx, pk_cpy_in (by omega) (by omega)]
          exact congrArg r (by omega)
        · rw [if_neg hx]
          by_cases h3 : c * 60 + j ≤ x ∧ x < c * 60 + j + q
          · rw [pk_cpy_in h3.1 h3.2, pk_cpy_in h3.1 (by omega)]
          · rw [pk_cpy_out (by omega), pk_cpy_out (by omega)]
      rw [← e] at nx
      refine wp_iload hX (dk DX11_shift_1 50 rfl) rfl ?_
      refine wp_iload hX (dk DX11_shift_1 51 rfl) rfl ?_
      refine wp_icmp_ge (tgt := 230) hX (dk DX11_shift_1 52 rfl) (by decide) (fun h_ => absurd h_ (nI_ge (by omega) (by omega))) (fun _ => ?_)
      refine wp_aload_n hX (dk DX11_shift_1 53 rfl) rfl ?_
      refine w_getr hX flX11_90 (dk DX11_shift_1 54 rfl) rfl rfl ?_
      refine wp_bipush (v := 60) hX (dk DX11_shift_1 55 rfl) (by decide) ?_
      refine wp_iload_n hX (dk DX11_shift_1 56 rfl) rfl ?_
      refine wp_imul hX (dk DX11_shift_1 57 rfl) ?_
      refine wp_iload hX (dk DX11_shift_1 58 rfl) rfl ?_
      refine wp_iadd hX (dk DX11_shift_1 59 rfl) ?_
      refine wp_iload hX (dk DX11_shift_2 0 rfl) rfl ?_
      refine wp_iadd hX (dk DX11_shift_2 1 rfl) ?_
      refine wp_aload_n hX (dk DX11_shift_2 2 rfl) rfl ?_
      refine w_getr hX flX11_90 (dk DX11_shift_2 3 rfl) rfl rfl ?_
      refine wp_bipush (v := 60) hX (dk DX11_shift_2 4 rfl) (by decide) ?_
      refine wp_iload_n hX (dk DX11_shift_2 5 rfl) rfl ?_
      refine wp_imul hX (dk DX11_shift_2 6 rfl) ?_
      refine wp_iload_n hX (dk DX11_shift_2 7 rfl) rfl ?_
      refine wp_iadd hX (dk DX11_shift_2 8 rfl) ?_
      refine wp_iload hX (dk DX11_shift_2 9 rfl) rfl ?_
      refine wp_iadd hX (dk DX11_shift_2 10 rfl) ?_
      refine w_lald (j := (b * 60 + i + q)) hX (dk DX11_shift_2 11 rfl) rfl (ix b i q) (show _ < 360 by omega) ?_
      refine w_last (j := (c * 60 + j + q)) hX (dk DX11_shift_2 12 rfl) rfl (ix c j q) (show _ < 360 by omega) ?_
      refine wp_iinc hX (dk DX11_shift_2 13 rfl) rfl (nI_inc _) rfl hN ?_
      show WP _ _ _ 227 [_, _, _, _, _, _, _] [] _
      refine wp_goto (tgt := 188) hX (dk DX11_shift_2 14 rfl) (by decide) ?_
      exact nx
  refine wp_iload_n hX (dk DX11_shift 0 rfl) rfl ?_
  refine w_callS (As := [_]) lkX11_174 hX (dk DX11_shift 1 rfl) rfl (by decide) (k_mH1 (d + 108) sw f g b hb) ?_
  show WP _ _ _ 4 [_, _, _, _, _, _, _] [_] _
  refine wp_if_eq (tgt := 14) hX (dk DX11_shift 2 rfl) (by decide) (fun h_ => absurd h_ (by decide)) (fun _ => ?_)
  refine wp_iload_n hX (dk DX11_shift 3 rfl) rfl ?_
  refine w_callS (As := [_]) lkX11_174 hX (dk DX11_shift 4 rfl) rfl (by decide) (k_mH1 (d + 108) sw f g c hc) ?_
  show WP _ _ _ 11 [_, _, _, _, _, _, _] [_] _
  refine wp_if_ne (tgt := 16) hX (dk DX11_shift 5 rfl) (by decide) (fun _ => ?_) (fun h_ => absurd h_ (by decide))
  refine wp_aload_n hX (dk DX11_shift 8 rfl) rfl ?_
  refine w_getr hX flX11_84 (dk DX11_shift 9 rfl) rfl rfl ?_
  refine wp_iload_n hX (dk DX11_shift 10 rfl) rfl ?_
  refine w_iald (j := _) hX (dk DX11_shift 11 rfl) rfl rfl (show _ < 6 by omega) ?_
  refine wp_iconst (v := -1) hX (dk DX11_shift 12 rfl) (by decide) ?_
  refine wp_icmp_eq (tgt := 36) hX (dk DX11_shift 13 rfl) (by decide) (fun h_ => absurd h_ (by rw [e1]; exact hne)) (fun _ => ?_)
  refine wp_aload_n hX (dk DX11_shift 14 rfl) rfl ?_
  refine w_getr hX flX11_84 (dk DX11_shift 15 rfl) rfl rfl ?_
  refine wp_iload_n hX (dk DX11_shift 16 rfl) rfl ?_
  refine w_iald (j := _) hX (dk DX11_shift 17 rfl) rfl rfl (show _ < 6 by omega) ?_
  refine wp_iconst (v := -1) hX (dk DX11_shift 18 rfl) (by decide) ?_
  refine wp_icmp_ne (tgt := 39) hX (dk DX11_shift 19 rfl) (by decide) (fun _ => ?_) (fun h_ => absurd h_ (by rw [← e2, e1]; exact hne))
  refine wp_aload_n hX (dk DX11_shift 22 rfl) rfl ?_
  refine wp_iload_n hX (dk DX11_shift 23 rfl) rfl ?_
  refine w_callV (As := [_]) lkX11_376 hX (dk DX11_shift 24 rfl) rfl rfl (by decide) hN (k_misR (d + 108) sw f g b hb) ?_
  show WP _ _ _ 44 [_, _, _, _, _, _, _] [_] _
  rw [hjk]
  refine wp_if_eq (tgt := 70) hX (dk DX11_shift 25 rfl) (by decide) (fun h_ => absurd h_ (by decide)) (fun _ => ?_)
  refine wp_aload_n hX (dk DX11_shift 26 rfl) rfl ?_
  refine wp_iload_n hX (dk DX11_shift 27 rfl) rfl ?_
  refine w_callV (As := [_]) lkX11_376 hX (dk DX11_shift 28 rfl) rfl rfl (by decide) hN (k_misR (d + 108) sw f g c hc) ?_
  show WP _ _ _ 52 [_, _, _, _, _, _, _] [_] _
  rw [hjc]
  refine wp_if_eq (tgt := 70) hX (dk DX11_shift 29 rfl) (by decide) (fun h_ => absurd h_ (by decide)) (fun _ => ?_)
  refine wp_aload_n hX (dk DX11_shift 30 rfl) rfl ?_
  refine w_getr hX flX11_84 (dk DX11_shift 31 rfl) rfl rfl ?_
  refine wp_iload_n hX (dk DX11_shift 32 rfl) rfl ?_
  refine w_iald (j := _) hX (dk DX11_shift 33 rfl) rfl rfl (show _ < 6 by omega) ?_
  refine wp_aload_n hX (dk DX11_shift 34 rfl) rfl ?_
  refine w_getr hX flX11_84 (dk DX11_shift 35 rfl) rfl rfl ?_
  refine wp_iload_n hX (dk DX11_shift 36 rfl) rfl ?_
  refine w_iald (j := _) hX (dk DX11_shift 37 rfl) rfl rfl (show _ < 6 by omega) ?_
  refine wp_icmp_eq (tgt := 73) hX (dk DX11_shift 38 rfl) (by decide) (fun _ => ?_) (fun h_ => absurd (e2) h_)
  refine wp_iload hX (dk DX11_shift 41 rfl) rfl ?_
  refine wp_if_lt (tgt := 122) hX (dk DX11_shift 42 rfl) (by decide) (fun h_ => absurd h_ (nI_pos (by omega))) (fun _ => ?_)
  refine wp_iload_n hX (dk DX11_shift 43 rfl) rfl ?_
  refine wp_if_lt (tgt := 122) hX (dk DX11_shift 44 rfl) (by decide) (fun h_ => absurd h_ (nI_pos (by omega))) (fun _ => ?_)
  refine wp_iload hX (dk DX11_shift 45 rfl) rfl ?_
  refine wp_if_lt (tgt := 122) hX (dk DX11_shift 46 rfl) (by decide) (fun h_ => absurd h_ (nI_pos (by omega))) (fun _ => ?_)
  refine wp_iload_n hX (dk DX11_shift 47 rfl) rfl ?_
  refine wp_i2l hX (dk DX11_shift 48 rfl) ?_
  refine wp_iload hX (dk DX11_shift 49 rfl) rfl ?_
  refine wp_i2l hX (dk DX11_shift 50 rfl) ?_
  refine wp_ladd hX (dk DX11_shift 51 rfl) ?_
  refine wp_aload_n hX (dk DX11_shift 52 rfl) rfl ?_
  refine w_getr hX flX11_87 (dk DX11_shift 53 rfl) rfl rfl ?_
  refine wp_iload_n hX (dk DX11_shift 54 rfl) rfl ?_
  refine w_iald (j := _) hX (dk DX11_shift 55 rfl) rfl rfl (show _ < 6 by omega) ?_
  rw [z2]
  refine wp_i2l hX (dk DX11_shift 56 rfl) ?_
  refine wp_lcmp hX (dk DX11_shift 57 rfl) ?_
  rw [i2l_add (by omega) (by omega), nI_l (show zb < 2 ^ 31 by omega)]
  refine wp_if_gt (tgt := 122) hX (dk DX11_shift 58 rfl) (by decide) (fun h_ => absurd h_ (fun e => by have := (pk_lLT (by omega) (by omega)).mp ((lg_cmp_gt _ _).mp e); omega)) (fun _ => ?_)
  refine wp_iload hX (dk DX11_shift 59 rfl) rfl ?_
  refine wp_i2l hX (dk DX11_shift_1 0 rfl) ?_
  refine wp_iload hX (dk DX11_shift_1 1 rfl) rfl ?_
  refine wp_i2l hX (dk DX11_shift_1 2 rfl) ?_
  refine wp_ladd hX (dk DX11_shift_1 3 rfl) ?_
  refine wp_aload_n hX (dk DX11_shift_1 4 rfl) rfl ?_
  refine w_getr hX flX11_87 (dk DX11_shift_1 5 rfl) rfl rfl ?_
  refine wp_iload_n hX (dk DX11_shift_1 6 rfl) rfl ?_
  refine w_iald (j := _) hX (dk DX11_shift_1 7 rfl) rfl rfl (show _ < 6 by omega) ?_
  rw [z4]
  refine wp_i2l hX (dk DX11_shift_1 8 rfl) ?_
  refine wp_lcmp hX (dk DX11_shift_1 9 rfl) ?_
  rw [i2l_add (by omega) (by omega), nI_l (show zc < 2 ^ 31 by omega)]
  refine wp_if_le (tgt := 125) hX (dk DX11_shift_1 10 rfl) (by decide) (fun _ => ?_) (fun h_ => absurd ((lg_cmp_le _ _).mpr (Int64.not_lt.mp (fun e => by have := (pk_lLT (by omega) (by omega)).mp e; omega))) h_)
  refine wp_iload_n hX (dk DX11_shift_1 13 rfl) rfl ?_
  refine wp_iload_n hX (dk DX11_shift_1 14 rfl) rfl ?_
  refine wp_icmp_ne (tgt := 185) hX (dk DX11_shift_1 15 rfl) (by decide) (fun h127 => ?_) (fun h127 => ?_)
  · have hbc : ¬ (c = b ∧ i < j) := fun q => h127 (by rw [q.1])
    refine wp_iconst (v := 0) hX (dk DX11_shift_1 48 rfl) (by decide) ?_
    refine wp_istore hX (dk DX11_shift_1 49 rfl) rfl hN (Nat.le_of_ble_eq_true rfl) ?_
    show WP _ _ _ 188 [_, _, _, _, _, _, _] [] _
    have go := fw hbc n 0 (by omega)
    rw [cpy_0, hr, u1_g] at go
    exact go
  · refine wp_iload_n hX (dk DX11_shift_1 16 rfl) rfl ?_
    refine wp_iload hX (dk DX11_shift_1 17 rfl) rfl ?_
    refine wp_icmp_ge (tgt := 185) hX (dk DX11_shift_1 18 rfl) (by decide) (fun h133 => ?_) (fun h133 => ?_)
    · have hbc : ¬ (c = b ∧ i < j) := fun q => absurd h133 (nI_ge q.2 (by omega))
      refine wp_iconst (v := 0) hX (dk DX11_shift_1 48 rfl) (by decide) ?_
      refine wp_istore hX (dk DX11_shift_1 49 rfl) rfl hN (Nat.le_of_ble_eq_true rfl) ?_
      show WP _ _ _ 188 [_, _, _, _, _, _, _] [] _
      have go := fw hbc n 0 (by omega)
      rw [cpy_0, hr, u1_g] at go
      exact go
    · have hbc : c = b ∧ i < j := ⟨((nI_eq (by omega) (by omega)).mp h127).symm, Nat.lt_of_not_le (fun e => h133 (nI_le e (by omega)))⟩
      refine wp_iload hX (dk DX11_shift_1 19 rfl) rfl ?_
      refine wp_iconst (v := 1) hX (dk DX11_shift_1 20 rfl) (by decide) ?_
      refine wp_isub hX (dk DX11_shift_1 21 rfl) ?_
      refine wp_istore hX (dk DX11_shift_1 22 rfl) rfl hN (Nat.le_of_ble_eq_true rfl) ?_
      show WP _ _ _ 142 [_, _, _, _, _, _, _] [] _
      have go := bw hbc n (Nat.le_refl _)
      rw [mbk_n, hr, u1_g] at go
      exact go
