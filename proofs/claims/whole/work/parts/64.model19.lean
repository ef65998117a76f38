/-! REFERENCE: spare -/
theorem u_spareN (d : Nat) (sw : Bool) (f : Nat → Nat → Int32) (g : Nat → Nat → Int64) (m b w : Nat) (sh : Nat → Int32) (hF : mFg f 0 sh) (hm : f 81 5 = nI m) (hm6 : m ≤ 6) (hb : b < m) (hw : w < 2) : CT (d + 110) 0 0 iX11_spare [.ref 81, .int (nI b), .int (nI w)] (S sw f g) (rdM g f (-2)) := by
  have hw2 : w = 0 ∨ w = 1 := by omega
  refine CT.of rfl (Nat.le_of_ble_eq_true rfl) (fun X hX hR hN _ => ?_)
  have hX : Good X RX11 cX11_spare (d + 110) 0 0 := hX
  have hN : x_nl X = 7 := hN
  show WP X 0 0 0 [_, _, _, _, _, _, _] [] _
  rcases hw2 with rfl | rfl
  · refine wp_aload_n hX (dk DX11_spare 0 rfl) rfl ?_
    refine wp_iload_n hX (dk DX11_spare 1 rfl) rfl ?_
    refine w_callV (As := [_]) lkX11_123 hX (dk DX11_spare 2 rfl) rfl rfl (by decide) hN (k_mB1 (d + 108) sw f g m b hm hm6 hb) ?_
    show WP _ _ _ 5 [_, _, _, _, _, _, _] [_] _
    refine wp_if_eq (tgt := 17) hX (dk DX11_spare 3 rfl) (by decide) (fun h_ => absurd h_ (by decide)) (fun _ => ?_)
    refine wp_iload_n hX (dk DX11_spare 4 rfl) rfl ?_
    refine wp_iconst (v := 0) hX (dk DX11_spare 5 rfl) (by decide) ?_
    refine wp_iconst (v := 1) hX (dk DX11_spare 6 rfl) (by decide) ?_
    refine w_callS (As := [_, _, _]) lkX11_116 hX (dk DX11_spare 7 rfl) rfl (by decide) (k_wi1 (d + 109) 0 1 1 _ rfl (by decide) (by omega)) ?_
    show WP _ _ _ 14 [_, _, _, _, _, _, _] [_] _
    refine wp_if_ne (tgt := 19) hX (dk DX11_spare 8 rfl) (by decide) (fun _ => ?_) (fun h_ => absurd h_ (by decide))
    refine wp_aload_n hX (dk DX11_spare 11 rfl) rfl ?_
    refine wp_aload_n hX (dk DX11_spare 12 rfl) rfl ?_
    refine w_getr hX flX11_24 (dk DX11_spare 13 rfl) rfl rfl ?_
    refine wp_iload_n hX (dk DX11_spare 14 rfl) rfl ?_
    refine w_iald (j := _) hX (dk DX11_spare 15 rfl) rfl rfl (show _ < 6 by omega) ?_
    refine w_callVQ (As := [_]) lkX11_287 hX (dk DX11_spare 16 rfl) rfl rfl (by decide) hN (k_looks (d + 103) sw f g 0 sh _ hF) (fun v_a sw_a f_a g_a hq_a => ?_)
    obtain ⟨rfl, rfl, rfl, e1, e2⟩ := hq_a
    show WP _ _ _ 29 [_, _, _, _, _, _, _] [] _
    refine wp_bipush (v := -2) hX (dk DX11_spare 17 rfl) (by decide) ?_
    refine wp_istore_n hX (dk DX11_spare 18 rfl) rfl rfl hN (Nat.le_of_ble_eq_true rfl) ?_
    show WP _ _ _ 32 [_, _, _, _, _, _, _] [] _
    refine wp_bipush (v := -2) hX (dk DX11_spare 19 rfl) (by decide) ?_
    refine wp_istore hX (dk DX11_spare 20 rfl) rfl hN (Nat.le_of_ble_eq_true rfl) ?_
    show WP _ _ _ 36 [_, _, _, _, _, _, _] [] _
    refine wp_iconst (v := 0) hX (dk DX11_spare 21 rfl) (by decide) ?_
    refine wp_istore hX (dk DX11_spare 22 rfl) rfl hN (Nat.le_of_ble_eq_true rfl) ?_
    show WP _ _ _ 39 [_, _, _, _, _, _, _] [] _
    refine wp_iload hX (dk DX11_spare 23 rfl) rfl ?_
    refine wp_aload_n hX (dk DX11_spare 24 rfl) rfl ?_
    refine w_geti hX flX11_112 (dk DX11_spare 25 rfl) (by decide) rfl ?_
    rw [show f_a 81 0 = nI 0 by rw [e1 81 (by decide)]; exact hF.1]
    refine wp_icmp_ge (tgt := 92) hX (dk DX11_spare 26 rfl) (by decide) (fun _ => ?_) (fun h_ => absurd (by decide) h_)
    refine wp_iload_n hX (dk DX11_spare 50 rfl) rfl ?_
    refine wp_if_ne (tgt := 100) hX (dk DX11_spare 51 rfl) (by decide) (fun h_ => absurd (rfl) h_) (fun _ => ?_)
    refine wp_iload_n hX (dk DX11_spare 52 rfl) rfl ?_
    refine wp_goto (tgt := 102) hX (dk DX11_spare 53 rfl) (by decide) ?_
    exact wp_ireturn hX hR (dk DX11_spare 55 rfl) rfl (Nat.le_refl _) (Nat.le_refl _) (⟨_, _, _, rfl, rfl, rfl, ⟨fun b2 h1 h2 h3 => e1 b2 (by omega), fun i _ => by rw [e1 81 (by decide)]⟩⟩)
  · refine wp_aload_n hX (dk DX11_spare 0 rfl) rfl ?_
    refine wp_iload_n hX (dk DX11_spare 1 rfl) rfl ?_
    refine w_callV (As := [_]) lkX11_123 hX (dk DX11_spare 2 rfl) rfl rfl (by decide) hN (k_mB1 (d + 108) sw f g m b hm hm6 hb) ?_
    show WP _ _ _ 5 [_, _, _, _, _, _, _] [_] _
    refine wp_if_eq (tgt := 17) hX (dk DX11_spare 3 rfl) (by decide) (fun h_ => absurd h_ (by decide)) (fun _ => ?_)
    refine wp_iload_n hX (dk DX11_spare 4 rfl) rfl ?_
    refine wp_iconst (v := 0) hX (dk DX11_spare 5 rfl) (by decide) ?_
    refine wp_iconst (v := 1) hX (dk DX11_spare 6 rfl) (by decide) ?_
    refine w_callS (As := [_, _, _]) lkX11_116 hX (dk DX11_spare 7 rfl) rfl (by decide) (k_wi1 (d + 109) 1 1 1 _ rfl (by decide) (by omega)) ?_
    show WP _ _ _ 14 [_, _, _, _, _, _, _] [_] _
    refine wp_if_ne (tgt := 19) hX (dk DX11_spare 8 rfl) (by decide) (fun _ => ?_) (fun h_ => absurd h_ (by decide))
    refine wp_aload_n hX (dk DX11_spare 11 rfl) rfl ?_
    refine wp_aload_n hX (dk DX11_spare 12 rfl) rfl ?_
    refine w_getr hX flX11_24 (dk DX11_spare 13 rfl) rfl rfl ?_
    refine wp_iload_n hX (dk DX11_spare 14 rfl) rfl ?_
    refine w_iald (j := _) hX (dk DX11_spare 15 rfl) rfl rfl (show _ < 6 by omega) ?_
    refine w_callVQ (As := [_]) lkX11_287 hX (dk DX11_spare 16 rfl) rfl rfl (by decide) hN (k_looks (d + 103) sw f g 0 sh _ hF) (fun v_a sw_a f_a g_a hq_a => ?_)
    obtain ⟨rfl, rfl, rfl, e1, e2⟩ := hq_a
    show WP _ _ _ 29 [_, _, _, _, _, _, _] [] _
    refine wp_bipush (v := -2) hX (dk DX11_spare 17 rfl) (by decide) ?_
    refine wp_istore_n hX (dk DX11_spare 18 rfl) rfl rfl hN (Nat.le_of_ble_eq_true rfl) ?_
    show WP _ _ _ 32 [_, _, _, _, _, _, _] [] _
    refine wp_bipush (v := -2) hX (dk DX11_spare 19 rfl) (by decide) ?_
    refine wp_istore hX (dk DX11_spare 20 rfl) rfl hN (Nat.le_of_ble_eq_true rfl) ?_
    show WP _ _ _ 36 [_, _, _, _, _, _, _] [] _
    refine wp_iconst (v := 0) hX (dk DX11_spare 21 rfl) (by decide) ?_
    refine wp_istore hX (dk DX11_spare 22 rfl) rfl hN (Nat.le_of_ble_eq_true rfl) ?_
    show WP _ _ _ 39 [_, _, _, _, _, _, _] [] _
    refine wp_iload hX (dk DX11_spare 23 rfl) rfl ?_
    refine wp_aload_n hX (dk DX11_spare 24 rfl) rfl ?_
    refine w_geti hX flX11_112 (dk DX11_spare 25 rfl) (by decide) rfl ?_
    rw [show f_a 81 0 = nI 0 by rw [e1 81 (by decide)]; exact hF.1]
    refine wp_icmp_ge (tgt := 92) hX (dk DX11_spare 26 rfl) (by decide) (fun _ => ?_) (fun h_ => absurd (by decide) h_)
    refine wp_iload_n hX (dk DX11_spare 50 rfl) rfl ?_
    refine wp_if_ne (tgt := 100) hX (dk DX11_spare 51 rfl) (by decide) (fun _ => ?_) (fun h_ => absurd h_ (by decide))
    refine wp_iload hX (dk DX11_spare 54 rfl) rfl ?_
    exact wp_ireturn hX hR (dk DX11_spare 55 rfl) rfl (Nat.le_refl _) (Nat.le_refl _) (⟨_, _, _, rfl, rfl, rfl, ⟨fun b2 h1 h2 h3 => e1 b2 (by omega), fun i _ => by rw [e1 81 (by decide)]⟩⟩)
theorem spF_le (v : Nat → Int32) : ∀ i, (spF v i).1 ≤ i
  | 0 => Nat.le_refl _
  | k + 1 => by
    rw [spF]
    split
    · exact Nat.le_refl _
    · exact Nat.le_succ_of_le (spF_le v k)
theorem u_spare1 (d : Nat) (sw : Bool) (f : Nat → Nat → Int32) (g : Nat → Nat → Int64) (n m b w : Nat) (sh : Nat → Int32) (hF : mFg f n sh) (hn0 : 0 < n) (hm : f 81 5 = nI m) (hm6 : m ≤ 6) (hb : b < m) (hw : w < 2) : CT (d + 110) 0 0 iX11_spare [.ref 81, .int (nI b), .int (nI w)] (S sw f g) (rdM g f (if w = 0 then nI (spF (fun i => MG sh n (33554431 &&& ((1 : Int32) <<< (nI i &&& 31) ^^^ -1)) (jfo sh n (f 86 b))) (n - 1)).1 else (spF (fun i => MG sh n (33554431 &&& ((1 : Int32) <<< (nI i &&& 31) ^^^ -1)) (jfo sh n (f 86 b))) (n - 1)).2)) := by
  have hn10 := hF.2.1
  obtain ⟨v, hv⟩ : ∃ v : Nat → Int32, v = fun i => MG sh n (33554431 &&& ((1 : Int32) <<< (nI i &&& 31) ^^^ -1)) (jfo sh n (f 86 b)) := ⟨_, rfl⟩
  rw [← hv]
  refine CT.of rfl (Nat.le_of_ble_eq_true rfl) (fun X hX hR hN _ => ?_)
  have hX : Good X RX11 cX11_spare (d + 110) 0 0 := hX
  have hN : x_nl X = 7 := hN
  show WP X 0 0 0 [_, _, _, _, _, _, _] [] _
  have call : ∀ (i : Nat) (f2 : Nat → Nat → Int32), (∀ c, c ≠ 109 → c ≠ 110 → f2 c = f c) → ofO f2 n sh (f 86 b) → CT (d + 109) 0 0 iX11_longestOf [.ref 81, .int (33554431 &&& ((1 : Int32) <<< (nI i &&& 31) ^^^ -1))] (S sw f2 g) (QS (fun r sw2 f3 g2 => r = some (.int (v i)) ∧ sw2 = sw ∧ g2 = g ∧ ∀ c, c ≠ 110 → f3 c = f2 c)) := by
    intro i f2 h1 h2
    have := k_mlongOf (d + 106) sw f2 g n sh (33554431 &&& ((1 : Int32) <<< (nI i &&& 31) ^^^ -1)) _ ⟨by rw [h1 81 (by decide) (by decide)]; exact hF.1, hn10, fun j hj => by rw [h1 82 (by decide) (by decide)]; exact hF.2.2 j hj⟩ h2
    refine this.post (fun r M2 hq => ?_)
    obtain ⟨s3, f3, g3, e0, e1, e2, e3, e4, e5, e6⟩ := hq
    exact ⟨s3, f3, g3, e0, by rw [hv]; exact e1, e2, e3, e4⟩
  have lo : ∀ (q i : Nat) (f2 : Nat → Nat → Int32) (z : Option Value), i + 1 + q = n → (∀ c, c ≠ 109 → c ≠ 110 → f2 c = f c) → ofO f2 n sh (f 86 b) → WP X 0 0 39 [some (.ref 81), some (.int (nI b)), some (.int (nI w)), some (.int (nI (spF v i).1)), some (.int (spF v i).2), some (.int (nI (i + 1))), z] [] (S sw f2 g) := by
    intro q
    induction q with
    | zero =>
      intro i f2 z hi hf ho
      obtain rfl : n = i + 1 := by omega
      rw [show i + 1 - 1 = i by omega] at hR
      have hw2 : w = 0 ∨ w = 1 := by omega
      rcases hw2 with rfl | rfl
      · refine wp_iload hX (dk DX11_spare 23 rfl) rfl ?_
        refine wp_aload_n hX (dk DX11_spare 24 rfl) rfl ?_
        refine w_geti hX flX11_112 (dk DX11_spare 25 rfl) (by decide) rfl ?_
        rw [show f2 81 0 = nI (i + 1) by rw [hf 81 (by decide) (by decide)]; exact hF.1]
        refine wp_icmp_ge (tgt := 92) hX (dk DX11_spare 26 rfl) (by decide) (fun _ => ?_) (fun h_ => absurd (nI_le (by omega) (by omega)) h_)
        refine wp_iload_n hX (dk DX11_spare 50 rfl) rfl ?_
        refine wp_if_ne (tgt := 100) hX (dk DX11_spare 51 rfl) (by decide) (fun h_ => absurd (rfl) h_) (fun _ => ?_)
        refine wp_iload_n hX (dk DX11_spare 52 rfl) rfl ?_
        refine wp_goto (tgt := 102) hX (dk DX11_spare 53 rfl) (by decide) ?_
        exact wp_ireturn hX hR (dk DX11_spare 55 rfl) rfl (Nat.le_refl _) (Nat.le_refl _) (⟨_, _, _, rfl, rfl, rfl, ⟨fun b2 h1 h2 h3 => hf b2 (by omega) (by omega), fun i _ => by rw [hf 81 (by decide) (by decide)]⟩⟩)
      · refine wp_iload hX (dk DX11_spare 23 rfl) rfl ?_
        refine wp_aload_n hX (dk DX11_spare 24 rfl) rfl ?_
        refine w_geti hX flX11_112 (dk DX11_spare 25 rfl) (by decide) rfl ?_
        rw [show f2 81 0 = nI (i + 1) by rw [hf 81 (by decide) (by decide)]; exact hF.1]
        refine wp_icmp_ge (tgt := 92) hX (dk DX11_spare 26 rfl) (by decide) (fun _ => ?_) (fun h_ => absurd (nI_le (by omega) (by omega)) h_)
        refine wp_iload_n hX (dk DX11_spare 50 rfl) rfl ?_
        refine wp_if_ne (tgt := 100) hX (dk DX11_spare 51 rfl) (by decide) (fun _ => ?_) (fun h_ => absurd h_ (by decide))
        refine wp_iload hX (dk DX11_spare 54 rfl) rfl ?_
        exact wp_ireturn hX hR (dk DX11_spare 55 rfl) rfl (Nat.le_refl _) (Nat.le_refl _) (⟨_, _, _, rfl, rfl, rfl, ⟨fun b2 h1 h2 h3 => hf b2 (by omega) (by omega), fun i _ => by rw [hf 81 (by decide) (by decide)]⟩⟩)
    | succ q ih =>
      intro i f2 z hi hf ho
      have hne : ¬ nI (spF v i).1 = -2 := rE_ne _ (by have := spF_le v i; omega)
      have next := fun (f3 : Nat → Nat → Int32) (z : Option Value) (h : ∀ c, c ≠ 110 → f3 c = f2 c) => ih (i + 1) f3 z (by omega) (fun c h1 h2 => by rw [h c h2, hf c h1 h2]) ⟨fun j hj => by rw [h 109 (by decide)]; exact ho.1 j hj, by rw [h 109 (by decide)]; exact ho.2⟩
      refine wp_iload hX (dk DX11_spare 23 rfl) rfl ?_
      refine wp_aload_n hX (dk DX11_spare 24 rfl) rfl ?_
      refine w_geti hX flX11_112 (dk DX11_spare 25 rfl) (by decide) rfl ?_
      rw [show f2 81 0 = nI n by rw [hf 81 (by decide) (by decide)]; exact hF.1]
      refine wp_icmp_ge (tgt := 92) hX (dk DX11_spare 26 rfl) (by decide) (fun h_ => absurd h_ (nI_ge (by omega) (by omega))) (fun _ => ?_)
      refine wp_aload_n hX (dk DX11_spare 27 rfl) rfl ?_
      refine wp_ldc hX (dk DX11_spare 28 rfl) kcX11_130 ?_
      refine wp_iconst (v := 1) hX (dk DX11_spare 29 rfl) (by decide) ?_
      refine wp_iload hX (dk DX11_spare 30 rfl) rfl ?_
      refine wp_ishl hX (dk DX11_spare 31 rfl) ?_
      refine wp_iconst (v := -1) hX (dk DX11_spare 32 rfl) (by decide) ?_
      refine wp_ixor hX (dk DX11_spare 33 rfl) ?_
      refine wp_iand hX (dk DX11_spare 34 rfl) ?_
      refine w_callVQ (As := [_]) lkX11_291 hX (dk DX11_spare 35 rfl) rfl rfl (by decide) hN (call (i + 1) f2 hf ho) (fun v_ sw_ f_ g_ hq_ => ?_)
      obtain ⟨rfl, rfl, rfl, e1⟩ := hq_
      show WP _ _ _ 61 [_, _, _, _, _, _, _] [_] _
      refine wp_istore hX (dk DX11_spare 36 rfl) rfl hN (Nat.le_of_ble_eq_true rfl) ?_
      show WP _ _ _ 63 [_, _, _, _, _, _, _] [] _
      refine wp_iload_n hX (dk DX11_spare 37 rfl) rfl ?_
      refine wp_bipush (v := -2) hX (dk DX11_spare 38 rfl) (by decide) ?_
      refine wp_icmp_eq (tgt := 79) hX (dk DX11_spare 39 rfl) (by decide) (fun h_ => absurd h_ (hne)) (fun _ => ?_)
      refine wp_iload hX (dk DX11_spare 40 rfl) rfl ?_
      refine wp_iload hX (dk DX11_spare 41 rfl) rfl ?_
      refine wp_icmp_lt (tgt := 79) hX (dk DX11_spare 42 rfl) (by decide) (fun h73 => ?_) (fun h73 => ?_)
      · refine wp_iload hX (dk DX11_spare 44 rfl) rfl ?_
        refine wp_istore hX (dk DX11_spare 45 rfl) rfl hN (Nat.le_of_ble_eq_true rfl) ?_
        show WP _ _ _ 83 [_, _, _, _, _, _, _] [] _
        refine wp_iload hX (dk DX11_spare 46 rfl) rfl ?_
        refine wp_istore_n hX (dk DX11_spare 47 rfl) rfl rfl hN (Nat.le_of_ble_eq_true rfl) ?_
        show WP _ _ _ 86 [_, _, _, _, _, _, _] [] _
        refine wp_iinc hX (dk DX11_spare 48 rfl) rfl (nI_inc _) rfl hN ?_
        show WP _ _ _ 89 [_, _, _, _, _, _, _] [] _
        refine wp_goto (tgt := 39) hX (dk DX11_spare 49 rfl) (by decide) ?_
        have nx := next f_ (some (.int (v (i + 1)))) e1
        rw [spF] at nx
        first | (rw [if_pos h73] at nx; exact nx) | (rw [if_neg h73] at nx; exact nx)
      · refine wp_goto (tgt := 86) hX (dk DX11_spare 43 rfl) (by decide) ?_
        refine wp_iinc hX (dk DX11_spare 48 rfl) rfl (nI_inc _) rfl hN ?_
        show WP _ _ _ 89 [_, _, _, _, _, _, _] [] _
        refine wp_goto (tgt := 39) hX (dk DX11_spare 49 rfl) (by decide) ?_
        have nx := next f_ (some (.int (v (i + 1)))) e1
        rw [spF] at nx
        first | (rw [if_pos h73] at nx; exact nx) | (rw [if_neg h73] at nx; exact nx)
  refine wp_aload_n hX (dk DX11_spare 0 rfl) rfl ?_
  refine wp_iload_n hX (dk DX11_spare 1 rfl) rfl ?_
  refine w_callV (As := [_]) lkX11_123 hX (dk DX11_spare 2 rfl) rfl rfl (by decide) hN (k_mB1 (d + 108) sw f g m b hm hm6 hb) ?_
  show WP _ _ _ 5 [_, _, _, _, _, _, _] [_] _
  refine wp_if_eq (tgt := 17) hX (dk DX11_spare 3 rfl) (by decide) (fun h_ => absurd h_ (by decide)) (fun _ => ?_)
  refine wp_iload_n hX (dk DX11_spare 4 rfl) rfl ?_
  refine wp_iconst (v := 0) hX (dk DX11_spare 5 rfl) (by decide) ?_
  refine wp_iconst (v := 1) hX (dk DX11_spare 6 rfl) (by decide) ?_
  refine w_callS (As := [_, _, _]) lkX11_116 hX (dk DX11_spare 7 rfl) rfl (by decide) (k_wi1 (d + 109) w 1 1 _ rfl (by decide) (by omega)) ?_
  show WP _ _ _ 14 [_, _, _, _, _, _, _] [_] _
  refine wp_if_ne (tgt := 19) hX (dk DX11_spare 8 rfl) (by decide) (fun _ => ?_) (fun h_ => absurd h_ (by decide))
  refine wp_aload_n hX (dk DX11_spare 11 rfl) rfl ?_
  refine wp_aload_n hX (dk DX11_spare 12 rfl) rfl ?_
  refine w_getr hX flX11_24 (dk DX11_spare 13 rfl) rfl rfl ?_
  refine wp_iload_n hX (dk DX11_spare 14 rfl) rfl ?_
  refine w_iald (j := _) hX (dk DX11_spare 15 rfl) rfl rfl (show _ < 6 by omega) ?_
  refine w_callVQ (As := [_]) lkX11_287 hX (dk DX11_spare 16 rfl) rfl rfl (by decide) hN (k_looks (d + 103) sw f g n sh _ hF) (fun v_a sw_a f_a g_a hq_a => ?_)
  obtain ⟨rfl, rfl, rfl, e1, e2⟩ := hq_a
  show WP _ _ _ 29 [_, _, _, _, _, _, _] [] _
  refine wp_bipush (v := -2) hX (dk DX11_spare 17 rfl) (by decide) ?_
  refine wp_istore_n hX (dk DX11_spare 18 rfl) rfl rfl hN (Nat.le_of_ble_eq_true rfl) ?_
  show WP _ _ _ 32 [_, _, _, _, _, _, _] [] _
  refine wp_bipush (v := -2) hX (dk DX11_spare 19 rfl) (by decide) ?_
  refine wp_istore hX (dk DX11_spare 20 rfl) rfl hN (Nat.le_of_ble_eq_true rfl) ?_
  show WP _ _ _ 36 [_, _, _, _, _, _, _] [] _
  refine wp_iconst (v := 0) hX (dk DX11_spare 21 rfl) (by decide) ?_
  refine wp_istore hX (dk DX11_spare 22 rfl) rfl hN (Nat.le_of_ble_eq_true rfl) ?_
  show WP _ _ _ 39 [_, _, _, _, _, _, _] [] _
  skip
  refine wp_iload hX (dk DX11_spare 23 rfl) rfl ?_
  refine wp_aload_n hX (dk DX11_spare 24 rfl) rfl ?_
  refine w_geti hX flX11_112 (dk DX11_spare 25 rfl) (by decide) rfl ?_
  rw [show f_a 81 0 = nI n by rw [e1 81 (by decide)]; exact hF.1]
  refine wp_icmp_ge (tgt := 92) hX (dk DX11_spare 26 rfl) (by decide) (fun h_ => absurd h_ (nI_ge (a := 0) (by omega) (by omega))) (fun _ => ?_)
  refine wp_aload_n hX (dk DX11_spare 27 rfl) rfl ?_
  refine wp_ldc hX (dk DX11_spare 28 rfl) kcX11_130 ?_
  refine wp_iconst (v := 1) hX (dk DX11_spare 29 rfl) (by decide) ?_
  refine wp_iload hX (dk DX11_spare 30 rfl) rfl ?_
  refine wp_ishl hX (dk DX11_spare 31 rfl) ?_
  refine wp_iconst (v := -1) hX (dk DX11_spare 32 rfl) (by decide) ?_
  refine wp_ixor hX (dk DX11_spare 33 rfl) ?_
  refine wp_iand hX (dk DX11_spare 34 rfl) ?_
  refine w_callVQ (As := [_]) lkX11_291 hX (dk DX11_spare 35 rfl) rfl rfl (by decide) hN (call 0 f_a (fun c h1 _ => e1 c h1) e2) (fun v_b sw_b f_b g_b hq_b => ?_)
  obtain ⟨rfl, rfl, rfl, e3⟩ := hq_b
  show WP _ _ _ 61 [_, _, _, _, _, _, _] [_] _
  refine wp_istore hX (dk DX11_spare 36 rfl) rfl hN (Nat.le_of_ble_eq_true rfl) ?_
  show WP _ _ _ 63 [_, _, _, _, _, _, _] [] _
  refine wp_iload_n hX (dk DX11_spare 37 rfl) rfl ?_
  refine wp_bipush (v := -2) hX (dk DX11_spare 38 rfl) (by decide) ?_
  refine wp_icmp_eq (tgt := 79) hX (dk DX11_spare 39 rfl) (by decide) (fun _ => ?_) (fun h_ => absurd (rfl) h_)
  refine wp_iload hX (dk DX11_spare 44 rfl) rfl ?_
  refine wp_istore hX (dk DX11_spare 45 rfl) rfl hN (Nat.le_of_ble_eq_true rfl) ?_
  show WP _ _ _ 83 [_, _, _, _, _, _, _] [] _
  refine wp_iload hX (dk DX11_spare 46 rfl) rfl ?_
  refine wp_istore_n hX (dk DX11_spare 47 rfl) rfl rfl hN (Nat.le_of_ble_eq_true rfl) ?_
  show WP _ _ _ 86 [_, _, _, _, _, _, _] [] _
  refine wp_iinc hX (dk DX11_spare 48 rfl) rfl (nI_inc _) rfl hN ?_
  show WP _ _ _ 89 [_, _, _, _, _, _, _] [] _
  refine wp_goto (tgt := 39) hX (dk DX11_spare 49 rfl) (by decide) ?_
  exact lo (n - 1) 0 f_b _ (by omega) (fun c h1 h2 => by rw [e3 c h2, e1 c h1]) ⟨fun j hj => by rw [e3 109 (by decide)]; exact e2.1 j hj, by rw [e3 109 (by decide)]; exact e2.2⟩
