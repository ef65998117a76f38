/-! REFERENCE: body, act, trace -/
theorem u_body0 (d : Nat) (sw : Bool) (f : Nat → Nat → Int32) (g : Nat → Nat → Int64) (x : Int32) (h : ¬ ∃ k, k < 8 ∧ x = nI k) : CT (d + 110) 0 0 iX11_body [.ref 81, .int x] (S sw f g) (rdM g f (-1)) := by
  refine CT.rdM ?_
  refine CT.of rfl (Nat.le_of_ble_eq_true rfl) (fun X hX hR hN _ => ?_)
  have hX : Good X RX11 cX11_body (d + 110) 0 0 := hX
  have hN : x_nl X = 2 := hN
  show WP X 0 0 0 [_, _] [] _
  refine wp_iload_n hX (dk DX11_body 0 rfl) rfl ?_
  refine wp_iconst (v := 0) hX (dk DX11_body 1 rfl) (by decide) ?_
  refine wp_bipush (v := 7) hX (dk DX11_body 2 rfl) (by decide) ?_
  refine w_callS (As := [_, _, _]) lkX11_116 hX (dk DX11_body 3 rfl) rfl (by decide) (k_wi0 (d + 109) 7 x 7 _ rfl (by decide) (fun ⟨i, h1, h2⟩ => h ⟨i, by omega, h2⟩)) ?_
  show WP _ _ _ 7 [_, _] [_] _
  refine wp_if_ne (tgt := 12) hX (dk DX11_body 4 rfl) (by decide) (fun h_ => absurd (rfl) h_) (fun _ => ?_)
  refine wp_iconst (v := -1) hX (dk DX11_body 5 rfl) (by decide) ?_
  exact wp_ireturn hX hR (dk DX11_body 6 rfl) rfl (Nat.le_refl _) (Nat.le_refl _) (⟨rfl, rfl⟩)
theorem u_bodyF (d : Nat) (sw : Bool) (f : Nat → Nat → Int32) (g : Nat → Nat → Int64) (k : Nat) (hk : k < 8) (h : f 81 37 = nI 50) : CT (d + 110) 0 0 iX11_body [.ref 81, .int (nI k)] (S sw f g) (rdM g f (-3)) := by
  refine CT.rdM ?_
  refine CT.of rfl (Nat.le_of_ble_eq_true rfl) (fun X hX hR hN _ => ?_)
  have hX : Good X RX11 cX11_body (d + 110) 0 0 := hX
  have hN : x_nl X = 2 := hN
  show WP X 0 0 0 [_, _] [] _
  refine wp_iload_n hX (dk DX11_body 0 rfl) rfl ?_
  refine wp_iconst (v := 0) hX (dk DX11_body 1 rfl) (by decide) ?_
  refine wp_bipush (v := 7) hX (dk DX11_body 2 rfl) (by decide) ?_
  refine w_callS (As := [_, _, _]) lkX11_116 hX (dk DX11_body 3 rfl) rfl (by decide) (k_wi1 (d + 109) k 7 7 _ rfl (by decide) (by omega)) ?_
  show WP _ _ _ 7 [_, _] [_] _
  refine wp_if_ne (tgt := 12) hX (dk DX11_body 4 rfl) (by decide) (fun _ => ?_) (fun h_ => absurd h_ (by decide))
  refine wp_aload_n hX (dk DX11_body 7 rfl) rfl ?_
  refine w_geti hX flX11_373 (dk DX11_body 8 rfl) (by decide) rfl ?_
  refine wp_bipush (v := 50) hX (dk DX11_body 9 rfl) (by decide) ?_
  refine wp_icmp_ne (tgt := 24) hX (dk DX11_body 10 rfl) (by decide) (fun h_ => absurd (h) h_) (fun _ => ?_)
  refine wp_bipush (v := -3) hX (dk DX11_body 11 rfl) (by decide) ?_
  exact wp_ireturn hX hR (dk DX11_body 12 rfl) rfl (Nat.le_refl _) (Nat.le_refl _) (⟨rfl, rfl⟩)
theorem u_body1 (d : Nat) (sw : Bool) (f : Nat → Nat → Int32) (g : Nat → Nat → Int64) (n k : Nat) (hk : k < 8) (hn : n < 50) (h : f 81 37 = nI n) : CT (d + 110) 0 0 iX11_body [.ref 81, .int (nI k)] (S sw f g) (QR (some (.int (nI n))) (S sw (u2 (u2 f 104 n (nI k)) 81 37 (nI (n + 1))) g)) := by
  refine CT.of rfl (Nat.le_of_ble_eq_true rfl) (fun X hX hR hN _ => ?_)
  have hX : Good X RX11 cX11_body (d + 110) 0 0 := hX
  have hN : x_nl X = 2 := hN
  show WP X 0 0 0 [_, _] [] _
  refine wp_iload_n hX (dk DX11_body 0 rfl) rfl ?_
  refine wp_iconst (v := 0) hX (dk DX11_body 1 rfl) (by decide) ?_
  refine wp_bipush (v := 7) hX (dk DX11_body 2 rfl) (by decide) ?_
  refine w_callS (As := [_, _, _]) lkX11_116 hX (dk DX11_body 3 rfl) rfl (by decide) (k_wi1 (d + 109) k 7 7 _ rfl (by decide) (by omega)) ?_
  show WP _ _ _ 7 [_, _] [_] _
  refine wp_if_ne (tgt := 12) hX (dk DX11_body 4 rfl) (by decide) (fun _ => ?_) (fun h_ => absurd h_ (by decide))
  refine wp_aload_n hX (dk DX11_body 7 rfl) rfl ?_
  refine w_geti hX flX11_373 (dk DX11_body 8 rfl) (by decide) rfl ?_
  rw [h]
  refine wp_bipush (v := 50) hX (dk DX11_body 9 rfl) (by decide) ?_
  refine wp_icmp_ne (tgt := 24) hX (dk DX11_body 10 rfl) (by decide) (fun _ => ?_) (fun h_ => absurd h_ (fun q => by have := (nI_eq (b := 50) (by omega) (by omega)).mp q; omega))
  refine wp_aload_n hX (dk DX11_body 13 rfl) rfl ?_
  refine w_getr hX flX11_78 (dk DX11_body 14 rfl) rfl rfl ?_
  refine wp_aload_n hX (dk DX11_body 15 rfl) rfl ?_
  refine w_geti hX flX11_373 (dk DX11_body 16 rfl) (by decide) rfl ?_
  rw [h]
  refine wp_iload_n hX (dk DX11_body 17 rfl) rfl ?_
  refine w_iast (j := _) hX (dk DX11_body 18 rfl) rfl rfl (show _ < 50 by omega) ?_
  refine wp_aload_n hX (dk DX11_body 19 rfl) rfl ?_
  refine wp_dup hX (dk DX11_body 20 rfl) rfl ?_
  refine w_geti hX flX11_373 (dk DX11_body 21 rfl) (by decide) rfl ?_
  rw [show u2 f 104 n (nI k) 81 37 = nI n by rw [u2_ne _ _ _ (show (81 : Nat) ≠ 104 by decide)]; exact h]
  refine wp_dup_x1 hX (dk DX11_body 22 rfl) rfl rfl ?_
  refine wp_iconst (v := 1) hX (dk DX11_body 23 rfl) (by decide) ?_
  refine wp_iadd hX (dk DX11_body 24 rfl) ?_
  rw [nI_1]
  refine w_puti hX fpX11_373 (dk DX11_body 25 rfl) rfl ?_
  exact wp_ireturn hX hR (dk DX11_body 26 rfl) rfl (Nat.le_refl _) (Nat.le_refl _) (⟨rfl, rfl⟩)
theorem u_act0 (d : Nat) (sw : Bool) (f : Nat → Nat → Int32) (g : Nat → Nat → Int64) (c : Nat) (x y v : Int32) (hc : f 81 37 = nI c) (hc50 : c ≤ 50) (h : ¬ ((∃ i, i < c ∧ x = nI i) ∧ ∃ a, a < 4 ∧ y = nI a)) : CT (d + 110) 0 0 iX11_act [.ref 81, .int x, .int y, .int v] (S sw f g) (QR (some (.int 0)) (S sw (u2 f 81 39 0) g)) := by
  have hc2 : u2 f 81 39 0 81 37 = nI c := by rw [u2_off _ _ _ (by decide)]; exact hc
  refine CT.of rfl (Nat.le_of_ble_eq_true rfl) (fun X hX hR hN _ => ?_)
  have hX : Good X RX11 cX11_act (d + 110) 0 0 := hX
  have hN : x_nl X = 5 := hN
  show WP X 0 0 0 [_, _, _, _, _] [] _
  by_cases c1 : ∃ i, i < c ∧ x = nI i
  · obtain ⟨i, hi, rfl⟩ := c1
    refine wp_aload_n hX (dk DX11_act 0 rfl) rfl ?_
    refine wp_iconst (v := 0) hX (dk DX11_act 1 rfl) (by decide) ?_
    refine w_puti hX fpX11_352 (dk DX11_act 2 rfl) rfl ?_
    refine wp_iload_n hX (dk DX11_act 3 rfl) rfl ?_
    refine wp_iconst (v := 0) hX (dk DX11_act 4 rfl) (by decide) ?_
    refine wp_aload_n hX (dk DX11_act 5 rfl) rfl ?_
    refine w_geti hX flX11_373 (dk DX11_act 6 rfl) (by decide) rfl ?_
    rw [hc2]
    refine wp_iconst (v := 1) hX (dk DX11_act 7 rfl) (by decide) ?_
    refine wp_isub hX (dk DX11_act 8 rfl) ?_
    refine w_callS (As := [_, _, _]) lkX11_116 hX (dk DX11_act 9 rfl) rfl (by decide) (k_within (d + 109) _ _ _ _) ?_
    show WP _ _ _ 16 [_, _, _, _, _] [_] _
    rw [wi_1 (by omega) hi]
    refine wp_if_eq (tgt := 28) hX (dk DX11_act 10 rfl) (by decide) (fun h_ => absurd h_ (by decide)) (fun _ => ?_)
    refine wp_iload_n hX (dk DX11_act 11 rfl) rfl ?_
    refine wp_iconst (v := 0) hX (dk DX11_act 12 rfl) (by decide) ?_
    refine wp_iconst (v := 3) hX (dk DX11_act 13 rfl) (by decide) ?_
    refine w_callS (As := [_, _, _]) lkX11_116 hX (dk DX11_act 14 rfl) rfl (by decide) (k_wi0 (d + 109) 3 y 3 _ rfl (by decide) (fun ⟨a, h1, h2⟩ => h ⟨⟨i, hi, rfl⟩, a, by omega, h2⟩)) ?_
    show WP _ _ _ 25 [_, _, _, _, _] [_] _
    refine wp_if_ne (tgt := 30) hX (dk DX11_act 15 rfl) (by decide) (fun h_ => absurd (rfl) h_) (fun _ => ?_)
    refine wp_iconst (v := 0) hX (dk DX11_act 16 rfl) (by decide) ?_
    exact wp_ireturn hX hR (dk DX11_act 17 rfl) rfl (Nat.le_refl _) (Nat.le_refl _) (⟨rfl, rfl⟩)
  · refine wp_aload_n hX (dk DX11_act 0 rfl) rfl ?_
    refine wp_iconst (v := 0) hX (dk DX11_act 1 rfl) (by decide) ?_
    refine w_puti hX fpX11_352 (dk DX11_act 2 rfl) rfl ?_
    refine wp_iload_n hX (dk DX11_act 3 rfl) rfl ?_
    refine wp_iconst (v := 0) hX (dk DX11_act 4 rfl) (by decide) ?_
    refine wp_aload_n hX (dk DX11_act 5 rfl) rfl ?_
    refine w_geti hX flX11_373 (dk DX11_act 6 rfl) (by decide) rfl ?_
    rw [hc2]
    refine wp_iconst (v := 1) hX (dk DX11_act 7 rfl) (by decide) ?_
    refine wp_isub hX (dk DX11_act 8 rfl) ?_
    refine w_callS (As := [_, _, _]) lkX11_116 hX (dk DX11_act 9 rfl) rfl (by decide) (k_within (d + 109) _ _ _ _) ?_
    show WP _ _ _ 16 [_, _, _, _, _] [_] _
    rw [wi_0 (by omega) c1]
    refine wp_if_eq (tgt := 28) hX (dk DX11_act 10 rfl) (by decide) (fun _ => ?_) (fun h_ => absurd (rfl) h_)
    refine wp_iconst (v := 0) hX (dk DX11_act 16 rfl) (by decide) ?_
    exact wp_ireturn hX hR (dk DX11_act 17 rfl) rfl (Nat.le_refl _) (Nat.le_refl _) (⟨rfl, rfl⟩)
theorem v_jV (n x : Int32) : ∀ k0, k0 < 8 → jV k0 n 40 k0 0 x = vC n x k0 ∧ jV k0 n 40 k0 1 x = vH k0 n x k0 ∧ jV k0 n 40 k0 2 x = vL k0 n x k0 ∧ jV k0 n 40 k0 3 x = vT k0 n x k0
  | 0, _ => ⟨rfl, rfl, rfl, rfl⟩
  | 1, _ => ⟨rfl, rfl, rfl, rfl⟩
  | 2, _ => ⟨rfl, rfl, rfl, rfl⟩
  | 3, _ => ⟨rfl, rfl, rfl, rfl⟩
  | 4, _ => ⟨rfl, rfl, rfl, rfl⟩
  | 5, _ => ⟨rfl, rfl, rfl, rfl⟩
  | 6, _ => ⟨rfl, rfl, rfl, rfl⟩
  | 7, _ => ⟨rfl, rfl, rfl, rfl⟩
theorem s_jT : ∀ k0, k0 < 8 → jT k0 40 k0 0 = sC k0 ∧ jT k0 40 k0 1 = sH k0 k0 ∧ jT k0 40 k0 2 = sL k0 k0 ∧ jT k0 40 k0 3 = sT k0 k0 := by decide +kernel
theorem u_act1 (d : Nat) (sw : Bool) (f : Nat → Nat → Int32) (g : Nat → Nat → Int64) (c n k0 a : Nat) (v : Int32) (hc : f 81 37 = nI c) (hc50 : c ≤ 50) (hn : n < c) (hk : k0 < 8) (ha : a < 4) (hf : f 104 n = nI k0) : CT (d + 110) 0 0 iX11_act [.ref 81, .int (nI n), .int (nI a), .int v] (S sw f g) (QS (fun r _ f2 g2 => r = some (.int (jV k0 (nI n) 40 k0 a v)) ∧ g2 = g ∧ tmS f f2 ∧ trM f2 (jT k0 40 k0 a))) := by
  obtain ⟨v0, v1, v2, v3⟩ := v_jV (nI n) v k0 hk
  obtain ⟨s0, s1, s2, s3⟩ := s_jT k0 hk
  obtain ⟨l0, l1, l2, l3⟩ := s_len k0 hk k0 hk
  obtain ⟨f0, hf0⟩ : ∃ f0, f0 = u2 f 81 39 0 := ⟨_, rfl⟩
  have t0 : trM f0 [] := ⟨by rw [hf0, u2_at]; rfl, by decide, fun j q _ h => by simp at h⟩
  have k0f : f0 104 n = nI k0 := by rw [hf0, u2_ne _ _ _ (by decide)]; exact hf
  have sm : tmS f f0 := by rw [hf0]; exact ⟨fun b h1 _ => u2_ne _ _ _ h1, fun i hi => u2_off _ _ _ hi⟩
  have hc2 : f0 81 37 = nI c := by rw [hf0, u2_off _ _ _ (by decide)]; exact hc
  have h4 : a = 0 ∨ a = 1 ∨ a = 2 ∨ a = 3 := by omega
  refine CT.of rfl (Nat.le_of_ble_eq_true rfl) (fun X hX hR hN _ => ?_)
  have hX : Good X RX11 cX11_act (d + 110) 0 0 := hX
  have hN : x_nl X = 5 := hN
  show WP X 0 0 0 [_, _, _, _, _] [] _
  refine wp_aload_n hX (dk DX11_act 0 rfl) rfl ?_
  refine wp_iconst (v := 0) hX (dk DX11_act 1 rfl) (by decide) ?_
  refine w_puti hX fpX11_352 (dk DX11_act 2 rfl) rfl ?_
  rw [← hf0]
  rcases h4 with rfl | rfl | rfl | rfl
  · rw [v0, s0] at hR
    refine wp_iload_n hX (dk DX11_act 3 rfl) rfl ?_
    refine wp_iconst (v := 0) hX (dk DX11_act 4 rfl) (by decide) ?_
    refine wp_aload_n hX (dk DX11_act 5 rfl) rfl ?_
    refine w_geti hX flX11_373 (dk DX11_act 6 rfl) (by decide) rfl ?_
    rw [hc2]
    refine wp_iconst (v := 1) hX (dk DX11_act 7 rfl) (by decide) ?_
    refine wp_isub hX (dk DX11_act 8 rfl) ?_
    refine w_callS (As := [_, _, _]) lkX11_116 hX (dk DX11_act 9 rfl) rfl (by decide) (k_within (d + 109) _ _ _ _) ?_
    show WP _ _ _ 16 [_, _, _, _, _] [_] _
    rw [wi_1 (by omega) hn]
    refine wp_if_eq (tgt := 28) hX (dk DX11_act 10 rfl) (by decide) (fun h_ => absurd h_ (by decide)) (fun _ => ?_)
    refine wp_iload_n hX (dk DX11_act 11 rfl) rfl ?_
    refine wp_iconst (v := 0) hX (dk DX11_act 12 rfl) (by decide) ?_
    refine wp_iconst (v := 3) hX (dk DX11_act 13 rfl) (by decide) ?_
    refine w_callS (As := [_, _, _]) lkX11_116 hX (dk DX11_act 14 rfl) rfl (by decide) (k_wi1 (d + 109) 0 3 3 _ rfl (by decide) (by omega)) ?_
    show WP _ _ _ 25 [_, _, _, _, _] [_] _
    refine wp_if_ne (tgt := 30) hX (dk DX11_act 15 rfl) (by decide) (fun _ => ?_) (fun h_ => absurd h_ (by decide))
    refine wp_aload_n hX (dk DX11_act 18 rfl) rfl ?_
    refine w_getr hX flX11_78 (dk DX11_act 19 rfl) rfl rfl ?_
    refine wp_iload_n hX (dk DX11_act 20 rfl) rfl ?_
    refine w_iald (j := _) hX (dk DX11_act 21 rfl) rfl rfl (show _ < 50 by omega) ?_
    rw [k0f]
    refine wp_istore hX (dk DX11_act 22 rfl) rfl hN (Nat.le_of_ble_eq_true rfl) ?_
    show WP _ _ _ 38 [_, _, _, _, _] [] _
    refine wp_iload_n hX (dk DX11_act 23 rfl) rfl ?_
    refine wp_if_ne (tgt := 53) hX (dk DX11_act 24 rfl) (by decide) (fun h_ => absurd (rfl) h_) (fun _ => ?_)
    refine wp_aload_n hX (dk DX11_act 25 rfl) rfl ?_
    refine wp_iload_n hX (dk DX11_act 26 rfl) rfl ?_
    refine wp_iload hX (dk DX11_act 27 rfl) rfl ?_
    refine wp_iload_n hX (dk DX11_act 28 rfl) rfl ?_
    refine w_callVQ (As := [_, _, _]) lkX11_358 hX (dk DX11_act 29 rfl) rfl rfl (by decide) hN (a_C sw g n k0 (by omega) hk k0 hk (d + 105) f0 [] v k0f t0 (by simp; omega)) (fun v_a sw_a f_a g_a hq_a => ?_)
    obtain ⟨rfl, rfl, rfl, e1, e2⟩ := hq_a
    show WP _ _ _ 50 [_, _, _, _, _] [_] _
    refine wp_goto (tgt := 93) hX (dk DX11_act 30 rfl) (by decide) ?_
    exact wp_ireturn hX hR (dk DX11_act 54 rfl) rfl (Nat.le_refl _) (Nat.le_refl _) (⟨_, _, _, rfl, rfl, rfl, sm.trans e1, e2⟩)
  · rw [v1, s1] at hR
    refine wp_iload_n hX (dk DX11_act 3 rfl) rfl ?_
    refine wp_iconst (v := 0) hX (dk DX11_act 4 rfl) (by decide) ?_
    refine wp_aload_n hX (dk DX11_act 5 rfl) rfl ?_
    refine w_geti hX flX11_373 (dk DX11_act 6 rfl) (by decide) rfl ?_
    rw [hc2]
    refine wp_iconst (v := 1) hX (dk DX11_act 7 rfl) (by decide) ?_
    refine wp_isub hX (dk DX11_act 8 rfl) ?_
    refine w_callS (As := [_, _, _]) lkX11_116 hX (dk DX11_act 9 rfl) rfl (by decide) (k_within (d + 109) _ _ _ _) ?_
    show WP _ _ _ 16 [_, _, _, _, _] [_] _
    rw [wi_1 (by omega) hn]
    refine wp_if_eq (tgt := 28) hX (dk DX11_act 10 rfl) (by decide) (fun h_ => absurd h_ (by decide)) (fun _ => ?_)
    refine wp_iload_n hX (dk DX11_act 11 rfl) rfl ?_
    refine wp_iconst (v := 0) hX (dk DX11_act 12 rfl) (by decide) ?_
    refine wp_iconst (v := 3) hX (dk DX11_act 13 rfl) (by decide) ?_
    refine w_callS (As := [_, _, _]) lkX11_116 hX (dk DX11_act 14 rfl) rfl (by decide) (k_wi1 (d + 109) 1 3 3 _ rfl (by decide) (by omega)) ?_
    show WP _ _ _ 25 [_, _, _, _, _] [_] _
    refine wp_if_ne (tgt := 30) hX (dk DX11_act 15 rfl) (by decide) (fun _ => ?_) (fun h_ => absurd h_ (by decide))
    refine wp_aload_n hX (dk DX11_act 18 rfl) rfl ?_
    refine w_getr hX flX11_78 (dk DX11_act 19 rfl) rfl rfl ?_
    refine wp_iload_n hX (dk DX11_act 20 rfl) rfl ?_
    refine w_iald (j := _) hX (dk DX11_act 21 rfl) rfl rfl (show _ < 50 by omega) ?_
    rw [k0f]
    refine wp_istore hX (dk DX11_act 22 rfl) rfl hN (Nat.le_of_ble_eq_true rfl) ?_
    show WP _ _ _ 38 [_, _, _, _, _] [] _
    refine wp_iload_n hX (dk DX11_act 23 rfl) rfl ?_
    refine wp_if_ne (tgt := 53) hX (dk DX11_act 24 rfl) (by decide) (fun _ => ?_) (fun h_ => absurd h_ (by decide))
    refine wp_iload_n hX (dk DX11_act 31 rfl) rfl ?_
    refine wp_iconst (v := 1) hX (dk DX11_act 32 rfl) (by decide) ?_
    refine wp_icmp_ne (tgt := 69) hX (dk DX11_act 33 rfl) (by decide) (fun h_ => absurd (rfl) h_) (fun _ => ?_)
    refine wp_aload_n hX (dk DX11_act 34 rfl) rfl ?_
    refine wp_iload_n hX (dk DX11_act 35 rfl) rfl ?_
    refine wp_iload hX (dk DX11_act 36 rfl) rfl ?_
    refine wp_iload_n hX (dk DX11_act 37 rfl) rfl ?_
    refine w_callVQ (As := [_, _, _]) lkX11_364 hX (dk DX11_act 38 rfl) rfl rfl (by decide) hN (a_H sw g n k0 (by omega) hk k0 hk (d + 101) f0 [] v k0f t0 (by simp; omega)) (fun v_a sw_a f_a g_a hq_a => ?_)
    obtain ⟨rfl, rfl, rfl, e1, e2⟩ := hq_a
    show WP _ _ _ 66 [_, _, _, _, _] [_] _
    refine wp_goto (tgt := 93) hX (dk DX11_act 39 rfl) (by decide) ?_
    exact wp_ireturn hX hR (dk DX11_act 54 rfl) rfl (Nat.le_refl _) (Nat.le_refl _) (⟨_, _, _, rfl, rfl, rfl, sm.trans e1, e2⟩)
  · rw [v2, s2] at hR
    refine wp_iload_n hX (dk DX11_act 3 rfl) rfl ?_
    refine wp_iconst (v := 0) hX (dk DX11_act 4 rfl) (by decide) ?_
    refine wp_aload_n hX (dk DX11_act 5 rfl) rfl ?_
    refine w_geti hX flX11_373 (dk DX11_act 6 rfl) (by decide) rfl ?_
    rw [hc2]
    refine wp_iconst (v := 1) hX (dk DX11_act 7 rfl) (by decide) ?_
    refine wp_isub hX (dk DX11_act 8 rfl) ?_
    refine w_callS (As := [_, _, _]) lkX11_116 hX (dk DX11_act 9 rfl) rfl (by decide) (k_within (d + 109) _ _ _ _) ?_
    show WP _ _ _ 16 [_, _, _, _, _] [_] _
    rw [wi_1 (by omega) hn]
    refine wp_if_eq (tgt := 28) hX (dk DX11_act 10 rfl) (by decide) (fun h_ => absurd h_ (by decide)) (fun _ => ?_)
    refine wp_iload_n hX (dk DX11_act 11 rfl) rfl ?_
    refine wp_iconst (v := 0) hX (dk DX11_act 12 rfl) (by decide) ?_
    refine wp_iconst (v := 3) hX (dk DX11_act 13 rfl) (by decide) ?_
    refine w_callS (As := [_, _, _]) lkX11_116 hX (dk DX11_act 14 rfl) rfl (by decide) (k_wi1 (d + 109) 2 3 3 _ rfl (by decide) (by omega)) ?_
    show WP _ _ _ 25 [_, _, _, _, _] [_] _
    refine wp_if_ne (tgt := 30) hX (dk DX11_act 15 rfl) (by decide) (fun _ => ?_) (fun h_ => absurd h_ (by decide))
    refine wp_aload_n hX (dk DX11_act 18 rfl) rfl ?_
    refine w_getr hX flX11_78 (dk DX11_act 19 rfl) rfl rfl ?_
    refine wp_iload_n hX (dk DX11_act 20 rfl) rfl ?_
    refine w_iald (j := _) hX (dk DX11_act 21 rfl) rfl rfl (show _ < 50 by omega) ?_
    rw [k0f]
    refine wp_istore hX (dk DX11_act 22 rfl) rfl hN (Nat.le_of_ble_eq_true rfl) ?_
    show WP _ _ _ 38 [_, _, _, _, _] [] _
    refine wp_iload_n hX (dk DX11_act 23 rfl) rfl ?_
    refine wp_if_ne (tgt := 53) hX (dk DX11_act 24 rfl) (by decide) (fun _ => ?_) (fun h_ => absurd h_ (by decide))
    refine wp_iload_n hX (dk DX11_act 31 rfl) rfl ?_
    refine wp_iconst (v := 1) hX (dk DX11_act 32 rfl) (by decide) ?_
    refine wp_icmp_ne (tgt := 69) hX (dk DX11_act 33 rfl) (by decide) (fun _ => ?_) (fun h_ => absurd h_ (by decide))
    refine wp_iload_n hX (dk DX11_act 40 rfl) rfl ?_
    refine wp_iconst (v := 2) hX (dk DX11_act 41 rfl) (by decide) ?_
    refine wp_icmp_ne (tgt := 85) hX (dk DX11_act 42 rfl) (by decide) (fun h_ => absurd (rfl) h_) (fun _ => ?_)
    refine wp_aload_n hX (dk DX11_act 43 rfl) rfl ?_
    refine wp_iload_n hX (dk DX11_act 44 rfl) rfl ?_
    refine wp_iload hX (dk DX11_act 45 rfl) rfl ?_
    refine wp_iload_n hX (dk DX11_act 46 rfl) rfl ?_
    refine w_callVQ (As := [_, _, _]) lkX11_367 hX (dk DX11_act 47 rfl) rfl rfl (by decide) hN (a_L sw g n k0 (by omega) hk k0 hk (d + 103) f0 [] v k0f t0 (by simp; omega)) (fun v_a sw_a f_a g_a hq_a => ?_)
    obtain ⟨rfl, rfl, rfl, e1, e2⟩ := hq_a
    show WP _ _ _ 82 [_, _, _, _, _] [_] _
    refine wp_goto (tgt := 93) hX (dk DX11_act 48 rfl) (by decide) ?_
    exact wp_ireturn hX hR (dk DX11_act 54 rfl) rfl (Nat.le_refl _) (Nat.le_refl _) (⟨_, _, _, rfl, rfl, rfl, sm.trans e1, e2⟩)
  · rw [v3, s3] at hR
    refine wp_iload_n hX (dk DX11_act 3 rfl) rfl ?_
    refine wp_iconst (v := 0) hX (dk DX11_act 4 rfl) (by decide) ?_
    refine wp_aload_n hX (dk DX11_act 5 rfl) rfl ?_
    refine w_geti hX flX11_373 (dk DX11_act 6 rfl) (by decide) rfl ?_
    rw [hc2]
    refine wp_iconst (v := 1) hX (dk DX11_act 7 rfl) (by decide) ?_
    refine wp_isub hX (dk DX11_act 8 rfl) ?_
    refine w_callS (As := [_, _, _]) lkX11_116 hX (dk DX11_act 9 rfl) rfl (by decide) (k_within (d + 109) _ _ _ _) ?_
    show WP _ _ _ 16 [_, _, _, _, _] [_] _
    rw [wi_1 (by omega) hn]
    refine wp_if_eq (tgt := 28) hX (dk DX11_act 10 rfl) (by decide) (fun h_ => absurd h_ (by decide)) (fun _ => ?_)
    refine wp_iload_n hX (dk DX11_act 11 rfl) rfl ?_
    refine wp_iconst (v := 0) hX (dk DX11_act 12 rfl) (by decide) ?_
    refine wp_iconst (v := 3) hX (dk DX11_act 13 rfl) (by decide) ?_
    refine w_callS (As := [_, _, _]) lkX11_116 hX (dk DX11_act 14 rfl) rfl (by decide) (k_wi1 (d + 109) 3 3 3 _ rfl (by decide) (by omega)) ?_
    show WP _ _ _ 25 [_, _, _, _, _] [_] _
    refine wp_if_ne (tgt := 30) hX (dk DX11_act 15 rfl) (by decide) (fun _ => ?_) (fun h_ => absurd h_ (by decide))
    refine wp_aload_n hX (dk DX11_act 18 rfl) rfl ?_
    refine w_getr hX flX11_78 (dk DX11_act 19 rfl) rfl rfl ?_
    refine wp_iload_n hX (dk DX11_act 20 rfl) rfl ?_
    refine w_iald (j := _) hX (dk DX11_act 21 rfl) rfl rfl (show _ < 50 by omega) ?_
    rw [k0f]
    refine wp_istore hX (dk DX11_act 22 rfl) rfl hN (Nat.le_of_ble_eq_true rfl) ?_
    show WP _ _ _ 38 [_, _, _, _, _] [] _
    refine wp_iload_n hX (dk DX11_act 23 rfl) rfl ?_
    refine wp_if_ne (tgt := 53) hX (dk DX11_act 24 rfl) (by decide) (fun _ => ?_) (fun h_ => absurd h_ (by decide))
    refine wp_iload_n hX (dk DX11_act 31 rfl) rfl ?_
    refine wp_iconst (v := 1) hX (dk DX11_act 32 rfl) (by decide) ?_
    refine wp_icmp_ne (tgt := 69) hX (dk DX11_act 33 rfl) (by decide) (fun _ => ?_) (fun h_ => absurd h_ (by decide))
    refine wp_iload_n hX (dk DX11_act 40 rfl) rfl ?_
    refine wp_iconst (v := 2) hX (dk DX11_act 41 rfl) (by decide) ?_
    refine wp_icmp_ne (tgt := 85) hX (dk DX11_act 42 rfl) (by decide) (fun _ => ?_) (fun h_ => absurd h_ (by decide))
    refine wp_aload_n hX (dk DX11_act 49 rfl) rfl ?_
    refine wp_iload_n hX (dk DX11_act 50 rfl) rfl ?_
    refine wp_iload hX (dk DX11_act 51 rfl) rfl ?_
    refine wp_iload_n hX (dk DX11_act 52 rfl) rfl ?_
    refine w_callVQ (As := [_, _, _]) lkX11_370 hX (dk DX11_act 53 rfl) rfl rfl (by decide) hN (a_T sw g n k0 (by omega) hk k0 hk (d + 97) f0 [] v k0f t0 (by simp; omega)) (fun v_a sw_a f_a g_a hq_a => ?_)
    obtain ⟨rfl, rfl, rfl, e1, e2⟩ := hq_a
    show WP _ _ _ 93 [_, _, _, _, _] [_] _
    exact wp_ireturn hX hR (dk DX11_act 54 rfl) rfl (Nat.le_refl _) (Nat.le_refl _) (⟨_, _, _, rfl, rfl, rfl, sm.trans e1, e2⟩)
theorem u_trace (d : Nat) (sw : Bool) (f : Nat → Nat → Int32) (g : Nat → Nat → Int64) (t : List Int32) (x : Int32) (ht : trM f t) : CT (d + 110) 0 0 iX11_trace [.ref 81, .int x] (S sw f g) (rdM g f (if ¬ x < 0 ∧ x < nI (min t.length 24) then t.getD x.toNatClampNeg 0 else -1)) := by
  obtain ⟨h1, h2, h3⟩ := ht
  refine CT.rdM ?_
  obtain ⟨m, hm⟩ : ∃ m, m = min t.length 24 := ⟨_, rfl⟩
  have em : imn 24 (nI t.length) = nI m := by
    unfold imn
    by_cases c : nI t.length < 24
    · rw [if_pos c]
      have : t.length < 24 := (nI_ltI (b := 24) (by omega) (by omega)).mp c
      exact congrArg nI (by omega)
    · rw [if_neg c]
      have : ¬ t.length < 24 := fun q => c (nI_lt (b := 24) q (by omega))
      exact congrArg nI (show 24 = m by omega)
  rw [← hm]
  refine CT.of rfl (Nat.le_of_ble_eq_true rfl) (fun X hX hR hN _ => ?_)
  have hX : Good X RX11 cX11_trace (d + 110) 0 0 := hX
  have hN : x_nl X = 2 := hN
  show WP X 0 0 0 [_, _] [] _
  by_cases c1 : ∃ i, i < m ∧ x = nI i
  · obtain ⟨i, hi, rfl⟩ := c1
    rw [if_pos ⟨nI_pos (by omega), nI_lt hi (by omega)⟩, nI_clamp (by omega)] at hR
    have hi2 : i < t.length := by omega
    have e := h3 i t[i] (by omega) (List.getElem?_eq_getElem hi2)
    rw [show t.getD i 0 = t[i] by simp [hi2], ← e] at hR
    refine wp_iload_n hX (dk DX11_trace 0 rfl) rfl ?_
    refine wp_iconst (v := 0) hX (dk DX11_trace 1 rfl) (by decide) ?_
    refine wp_bipush (v := 24) hX (dk DX11_trace 2 rfl) (by decide) ?_
    refine wp_aload_n hX (dk DX11_trace 3 rfl) rfl ?_
    refine w_geti hX flX11_352 (dk DX11_trace 4 rfl) (by decide) rfl ?_
    rw [h1]
    refine w_min hX lkX11_269 (dk DX11_trace 5 rfl) (by simp [Value.category]) ?_
    rw [show (if nI t.length < 24 then nI t.length else 24) = nI m from em]
    refine wp_iconst (v := 1) hX (dk DX11_trace 6 rfl) (by decide) ?_
    refine wp_isub hX (dk DX11_trace 7 rfl) ?_
    refine w_callS (As := [_, _, _]) lkX11_116 hX (dk DX11_trace 8 rfl) rfl (by decide) (k_within (d + 109) _ _ _ _) ?_
    show WP _ _ _ 16 [_, _] [_] _
    rw [wi_1 (by omega) hi]
    refine wp_if_eq (tgt := 28) hX (dk DX11_trace 9 rfl) (by decide) (fun h_ => absurd h_ (by decide)) (fun _ => ?_)
    refine wp_aload_n hX (dk DX11_trace 10 rfl) rfl ?_
    refine w_getr hX flX11_81 (dk DX11_trace 11 rfl) rfl rfl ?_
    refine wp_iload_n hX (dk DX11_trace 12 rfl) rfl ?_
    refine w_iald (j := _) hX (dk DX11_trace 13 rfl) rfl rfl (show _ < 24 by omega) ?_
    refine wp_goto (tgt := 29) hX (dk DX11_trace 14 rfl) (by decide) ?_
    exact wp_ireturn hX hR (dk DX11_trace 16 rfl) rfl (Nat.le_refl _) (Nat.le_refl _) (⟨rfl, rfl⟩)
  · rw [if_neg (fun q => c1 (by obtain ⟨j, hj, rfl⟩ := nI_of q.1; exact ⟨j, (nI_ltI hj (by omega)).mp q.2, rfl⟩))] at hR
    refine wp_iload_n hX (dk DX11_trace 0 rfl) rfl ?_
    refine wp_iconst (v := 0) hX (dk DX11_trace 1 rfl) (by decide) ?_
    refine wp_bipush (v := 24) hX (dk DX11_trace 2 rfl) (by decide) ?_
    refine wp_aload_n hX (dk DX11_trace 3 rfl) rfl ?_
    refine w_geti hX flX11_352 (dk DX11_trace 4 rfl) (by decide) rfl ?_
    rw [h1]
    refine w_min hX lkX11_269 (dk DX11_trace 5 rfl) (by simp [Value.category]) ?_
    rw [show (if nI t.length < 24 then nI t.length else 24) = nI m from em]
    refine wp_iconst (v := 1) hX (dk DX11_trace 6 rfl) (by decide) ?_
    refine wp_isub hX (dk DX11_trace 7 rfl) ?_
    refine w_callS (As := [_, _, _]) lkX11_116 hX (dk DX11_trace 8 rfl) rfl (by decide) (k_within (d + 109) _ _ _ _) ?_
    show WP _ _ _ 16 [_, _] [_] _
    rw [wi_0 (by omega) c1]
    refine wp_if_eq (tgt := 28) hX (dk DX11_trace 9 rfl) (by decide) (fun _ => ?_) (fun h_ => absurd (rfl) h_)
    refine wp_iconst (v := -1) hX (dk DX11_trace 15 rfl) (by decide) ?_
    exact wp_ireturn hX hR (dk DX11_trace 16 rfl) rfl (Nat.le_refl _) (Nat.le_refl _) (⟨rfl, rfl⟩)
theorem u_count (d : Nat) (sw : Bool) (f : Nat → Nat → Int32) (g : Nat → Nat → Int64) (x : Int32) : CT (d + 110) 0 0 iX11_count [.ref 81, .int x] (S sw f g) (rdM g f (if x = 0 then f 81 0 else if x = 1 then f 81 5 else if x = 2 then f 81 9 else if x = 3 then f 81 35 else if x = 4 then f 81 37 else if x = 5 then f 81 39 else -1)) := by
  refine CT.rdM ?_
  refine CT.of rfl (Nat.le_of_ble_eq_true rfl) (fun X hX hR hN _ => ?_)
  have hX : Good X RX11 cX11_count (d + 110) 0 0 := hX
  have hN : x_nl X = 2 := hN
  show WP X 0 0 0 [_, _] [] _
  refine wp_iload_n hX (dk DX11_count 0 rfl) rfl ?_
  refine wp_eqc 0 (fun h1_0 => ?_) (fun h1_0 => ?_)
  · refine wp_tabAt (c := 0) (off := 39) (tgt := 40) hX (dk DX11_count 1 rfl) h1_0 (by decide) (by decide) (by decide) (by decide) ?_
    refine wp_aload_n hX (dk DX11_count 2 rfl) rfl ?_
    refine w_geti hX flX11_112 (dk DX11_count 3 rfl) (by decide) rfl ?_
    exact wp_ireturn hX hR (dk DX11_count 4 rfl) rfl (Nat.le_refl _) (Nat.le_refl _) (⟨by simp [h1_0], rfl⟩)
  refine wp_eqc 1 (fun h1_1 => ?_) (fun h1_1 => ?_)
  · refine wp_tabAt (c := 1) (off := 44) (tgt := 45) hX (dk DX11_count 1 rfl) h1_1 (by decide) (by decide) (by decide) (by decide) ?_
    refine wp_aload_n hX (dk DX11_count 5 rfl) rfl ?_
    refine w_geti hX flX11_120 (dk DX11_count 6 rfl) (by decide) rfl ?_
    exact wp_ireturn hX hR (dk DX11_count 7 rfl) rfl (Nat.le_refl _) (Nat.le_refl _) (⟨by simp [h1_0, h1_1], rfl⟩)
  refine wp_eqc 2 (fun h1_2 => ?_) (fun h1_2 => ?_)
  · refine wp_tabAt (c := 2) (off := 49) (tgt := 50) hX (dk DX11_count 1 rfl) h1_2 (by decide) (by decide) (by decide) (by decide) ?_
    refine wp_aload_n hX (dk DX11_count 8 rfl) rfl ?_
    refine w_geti hX flX11_195 (dk DX11_count 9 rfl) (by decide) rfl ?_
    exact wp_ireturn hX hR (dk DX11_count 10 rfl) rfl (Nat.le_refl _) (Nat.le_refl _) (⟨by simp [h1_0, h1_1, h1_2], rfl⟩)
  refine wp_eqc 3 (fun h1_3 => ?_) (fun h1_3 => ?_)
  · refine wp_tabAt (c := 3) (off := 54) (tgt := 55) hX (dk DX11_count 1 rfl) h1_3 (by decide) (by decide) (by decide) (by decide) ?_
    refine wp_aload_n hX (dk DX11_count 11 rfl) rfl ?_
    refine w_geti hX flX11_186 (dk DX11_count 12 rfl) (by decide) rfl ?_
    exact wp_ireturn hX hR (dk DX11_count 13 rfl) rfl (Nat.le_refl _) (Nat.le_refl _) (⟨by simp [h1_0, h1_1, h1_2, h1_3], rfl⟩)
  refine wp_eqc 4 (fun h1_4 => ?_) (fun h1_4 => ?_)
  · refine wp_tabAt (c := 4) (off := 59) (tgt := 60) hX (dk DX11_count 1 rfl) h1_4 (by decide) (by decide) (by decide) (by decide) ?_
    refine wp_aload_n hX (dk DX11_count 14 rfl) rfl ?_
    refine w_geti hX flX11_373 (dk DX11_count 15 rfl) (by decide) rfl ?_
    exact wp_ireturn hX hR (dk DX11_count 16 rfl) rfl (Nat.le_refl _) (Nat.le_refl _) (⟨by simp [h1_0, h1_1, h1_2, h1_3, h1_4], rfl⟩)
  refine wp_eqc 5 (fun h1_5 => ?_) (fun h1_5 => ?_)
  · refine wp_tabAt (c := 5) (off := 64) (tgt := 65) hX (dk DX11_count 1 rfl) h1_5 (by decide) (by decide) (by decide) (by decide) ?_
    refine wp_aload_n hX (dk DX11_count 17 rfl) rfl ?_
    refine w_geti hX flX11_352 (dk DX11_count 18 rfl) (by decide) rfl ?_
    exact wp_ireturn hX hR (dk DX11_count 19 rfl) rfl (Nat.le_refl _) (Nat.le_refl _) (⟨by simp [h1_0, h1_1, h1_2, h1_3, h1_4, h1_5], rfl⟩)
  · refine wp_tabOut (tgt := 70) hX (dk DX11_count 1 rfl) (by have := ne_toI h1_0 (k := 0) (by decide); have := ne_toI h1_1 (k := 1) (by decide); have := ne_toI h1_2 (k := 2) (by decide); have := ne_toI h1_3 (k := 3) (by decide); have := ne_toI h1_4 (k := 4) (by decide); have := ne_toI h1_5 (k := 5) (by decide); omega) (by decide) ?_
    refine wp_iconst (v := -1) hX (dk DX11_count 20 rfl) (by decide) ?_
    exact wp_ireturn hX hR (dk DX11_count 21 rfl) rfl (Nat.le_refl _) (Nat.le_refl _) (⟨by simp [h1_0, h1_1, h1_2, h1_3, h1_4, h1_5], rfl⟩)
