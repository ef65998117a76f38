/-! REFERENCE: with -/
/-- from x over a to b, and on -/
def TH (sh : Nat → Int32) (n : Nat) (x : Int32) (mo : Nat → Int32) (a b : Nat) : Int32 :=
  if BW (BB sh n) n a 27 x = -2 ∨ BW (BB sh n) n b 27 (BB sh n a) = -2 then -2 else BW (BB sh n) n a 27 x + BW (BB sh n) n b 27 (BB sh n a) + mo b
theorem k_mthr (d : Nat) (sw : Bool) (f : Nat → Nat → Int32) (g : Nat → Nat → Int64) (n a b : Nat) (sh : Nat → Int32) (x : Int32) (hF : mFg f n sh) (ho : ofO f n sh x) (ha : a < n) (hb : b < n) : CT (d + 28) 0 0 iX11_through [.ref 81, .int (nI a), .int (nI b)] (S sw f g) (QR (some (.int (TH sh n (jfo sh n x) (f 110) a b))) (S sw f g)) := by
  have hn10 := hF.2.1
  have p25 : ∀ j, j < n → pct (sh j) < 26 := fun j hj => by have := pct_25 (shp_Sq (hF.2.2 j hj).2).1; omega
  have c1 := k_mbtw sw f g n a sh x hF ho ha 26 d 10 (by decide) (fun j hj _ => p25 j hj)
  have c2 := k_mbtw sw f g n b sh x hF ho hb 26 d a (by omega) (fun j hj _ => p25 j hj)
  rw [ho.2] at c1
  rw [ho.1 a ha] at c2
  obtain ⟨u, hu⟩ : ∃ u, u = BW (BB sh n) n a 27 (jfo sh n x) := ⟨_, rfl⟩
  obtain ⟨v, hv⟩ : ∃ v, v = BW (BB sh n) n b 27 (BB sh n a) := ⟨_, rfl⟩
  have c1 : CT (d + 27) 0 0 iX11_between [.ref 81, .int (nI 10), .int (nI a)] (S sw f g) (QR (some (.int u)) (S sw f g)) := by rw [hu]; exact c1
  have c2 : CT (d + 27) 0 0 iX11_between [.ref 81, .int (nI a), .int (nI b)] (S sw f g) (QR (some (.int v)) (S sw f g)) := by rw [hv]; exact c2
  rw [TH, ← hu, ← hv]
  refine CT.of rfl (Nat.le_of_ble_eq_true rfl) (fun X hX hR hN _ => ?_)
  have hX : Good X RX11 cX11_through (d + 28) 0 0 := hX
  have hN : x_nl X = 5 := hN
  show WP X 0 0 0 [_, _, _, _, _] [] _
  by_cases h1 : u = -2
  · rw [if_pos (Or.inl h1)] at hR
    refine wp_aload_n hX (dk DX11_through 0 rfl) rfl ?_
    refine wp_bipush (v := 10) hX (dk DX11_through 1 rfl) (by decide) ?_
    refine wp_iload_n hX (dk DX11_through 2 rfl) rfl ?_
    refine w_callV (As := [_, _]) lkX11_303 hX (dk DX11_through 3 rfl) rfl rfl (by decide) hN (c1) ?_
    show WP _ _ _ 7 [_, _, _, _, _] [_] _
    refine wp_istore_n hX (dk DX11_through 4 rfl) rfl rfl hN (Nat.le_of_ble_eq_true rfl) ?_
    show WP _ _ _ 8 [_, _, _, _, _] [] _
    refine wp_aload_n hX (dk DX11_through 5 rfl) rfl ?_
    refine wp_iload_n hX (dk DX11_through 6 rfl) rfl ?_
    refine wp_iload_n hX (dk DX11_through 7 rfl) rfl ?_
    refine w_callV (As := [_, _]) lkX11_303 hX (dk DX11_through 8 rfl) rfl rfl (by decide) hN (c2) ?_
    show WP _ _ _ 14 [_, _, _, _, _] [_] _
    refine wp_istore hX (dk DX11_through 9 rfl) rfl hN (Nat.le_of_ble_eq_true rfl) ?_
    show WP _ _ _ 16 [_, _, _, _, _] [] _
    refine wp_iload_n hX (dk DX11_through 10 rfl) rfl ?_
    refine wp_bipush (v := -2) hX (dk DX11_through 11 rfl) (by decide) ?_
    refine wp_icmp_eq (tgt := 29) hX (dk DX11_through 12 rfl) (by decide) (fun _ => ?_) (fun h_ => absurd (h1) h_)
    refine wp_bipush (v := -2) hX (dk DX11_through 16 rfl) (by decide) ?_
    refine wp_goto (tgt := 45) hX (dk DX11_through 17 rfl) (by decide) ?_
    exact wp_ireturn hX hR (dk DX11_through 26 rfl) rfl (Nat.le_refl _) (Nat.le_refl _) (⟨rfl, rfl⟩)
  · by_cases h2 : v = -2
    · rw [if_pos (Or.inr h2)] at hR
      refine wp_aload_n hX (dk DX11_through 0 rfl) rfl ?_
      refine wp_bipush (v := 10) hX (dk DX11_through 1 rfl) (by decide) ?_
      refine wp_iload_n hX (dk DX11_through 2 rfl) rfl ?_
      refine w_callV (As := [_, _]) lkX11_303 hX (dk DX11_through 3 rfl) rfl rfl (by decide) hN (c1) ?_
      show WP _ _ _ 7 [_, _, _, _, _] [_] _
      refine wp_istore_n hX (dk DX11_through 4 rfl) rfl rfl hN (Nat.le_of_ble_eq_true rfl) ?_
      show WP _ _ _ 8 [_, _, _, _, _] [] _
      refine wp_aload_n hX (dk DX11_through 5 rfl) rfl ?_
      refine wp_iload_n hX (dk DX11_through 6 rfl) rfl ?_
      refine wp_iload_n hX (dk DX11_through 7 rfl) rfl ?_
      refine w_callV (As := [_, _]) lkX11_303 hX (dk DX11_through 8 rfl) rfl rfl (by decide) hN (c2) ?_
      show WP _ _ _ 14 [_, _, _, _, _] [_] _
      refine wp_istore hX (dk DX11_through 9 rfl) rfl hN (Nat.le_of_ble_eq_true rfl) ?_
      show WP _ _ _ 16 [_, _, _, _, _] [] _
      refine wp_iload_n hX (dk DX11_through 10 rfl) rfl ?_
      refine wp_bipush (v := -2) hX (dk DX11_through 11 rfl) (by decide) ?_
      refine wp_icmp_eq (tgt := 29) hX (dk DX11_through 12 rfl) (by decide) (fun h_ => absurd h_ (h1)) (fun _ => ?_)
      refine wp_iload hX (dk DX11_through 13 rfl) rfl ?_
      refine wp_bipush (v := -2) hX (dk DX11_through 14 rfl) (by decide) ?_
      refine wp_icmp_ne (tgt := 34) hX (dk DX11_through 15 rfl) (by decide) (fun h_ => absurd (h2) h_) (fun _ => ?_)
      refine wp_bipush (v := -2) hX (dk DX11_through 16 rfl) (by decide) ?_
      refine wp_goto (tgt := 45) hX (dk DX11_through 17 rfl) (by decide) ?_
      exact wp_ireturn hX hR (dk DX11_through 26 rfl) rfl (Nat.le_refl _) (Nat.le_refl _) (⟨rfl, rfl⟩)
    · rw [if_neg (fun q => q.elim h1 h2)] at hR
      refine wp_aload_n hX (dk DX11_through 0 rfl) rfl ?_
      refine wp_bipush (v := 10) hX (dk DX11_through 1 rfl) (by decide) ?_
      refine wp_iload_n hX (dk DX11_through 2 rfl) rfl ?_
      refine w_callV (As := [_, _]) lkX11_303 hX (dk DX11_through 3 rfl) rfl rfl (by decide) hN (c1) ?_
      show WP _ _ _ 7 [_, _, _, _, _] [_] _
      refine wp_istore_n hX (dk DX11_through 4 rfl) rfl rfl hN (Nat.le_of_ble_eq_true rfl) ?_
      show WP _ _ _ 8 [_, _, _, _, _] [] _
      refine wp_aload_n hX (dk DX11_through 5 rfl) rfl ?_
      refine wp_iload_n hX (dk DX11_through 6 rfl) rfl ?_
      refine wp_iload_n hX (dk DX11_through 7 rfl) rfl ?_
      refine w_callV (As := [_, _]) lkX11_303 hX (dk DX11_through 8 rfl) rfl rfl (by decide) hN (c2) ?_
      show WP _ _ _ 14 [_, _, _, _, _] [_] _
      refine wp_istore hX (dk DX11_through 9 rfl) rfl hN (Nat.le_of_ble_eq_true rfl) ?_
      show WP _ _ _ 16 [_, _, _, _, _] [] _
      refine wp_iload_n hX (dk DX11_through 10 rfl) rfl ?_
      refine wp_bipush (v := -2) hX (dk DX11_through 11 rfl) (by decide) ?_
      refine wp_icmp_eq (tgt := 29) hX (dk DX11_through 12 rfl) (by decide) (fun h_ => absurd h_ (h1)) (fun _ => ?_)
      refine wp_iload hX (dk DX11_through 13 rfl) rfl ?_
      refine wp_bipush (v := -2) hX (dk DX11_through 14 rfl) (by decide) ?_
      refine wp_icmp_ne (tgt := 34) hX (dk DX11_through 15 rfl) (by decide) (fun _ => ?_) (fun h_ => absurd h_ (h2))
      refine wp_iload_n hX (dk DX11_through 18 rfl) rfl ?_
      refine wp_iload hX (dk DX11_through 19 rfl) rfl ?_
      refine wp_iadd hX (dk DX11_through 20 rfl) ?_
      refine wp_aload_n hX (dk DX11_through 21 rfl) rfl ?_
      refine w_getr hX flX11_97 (dk DX11_through 22 rfl) rfl rfl ?_
      refine wp_iload_n hX (dk DX11_through 23 rfl) rfl ?_
      refine w_iald (j := _) hX (dk DX11_through 24 rfl) rfl rfl (show _ < 11 by omega) ?_
      refine wp_iadd hX (dk DX11_through 25 rfl) ?_
      exact wp_ireturn hX hR (dk DX11_through 26 rfl) rfl (Nat.le_refl _) (Nat.le_refl _) (⟨rfl, rfl⟩)
theorem TH_cg {sh : Nat → Int32} {n : Nat} {x : Int32} {mo mo2 : Nat → Int32} {a b : Nat} (h : mo b = mo2 b) : TH sh n x mo a b = TH sh n x mo2 a b := by rw [TH, TH, h]
theorem u_with1 (d : Nat) (sw : Bool) (f : Nat → Nat → Int32) (g : Nat → Nat → Int64) (n m q a b : Nat) (sh : Nat → Int32) (hF : mFg f n sh) (hm : f 81 5 = nI m) (hm6 : m ≤ 6) (hq : q < m) (ha : a < n) (hb : b < n) (hab : a ≠ b) : CT (d + 110) 0 0 iX11_with [.ref 81, .int (nI q), .int (nI (10 * a + b))] (S sw f g) (rdM g f (imx (TH sh n (jfo sh n (f 86 q)) (MN (BB sh n) n 33554431 26) a b) (TH sh n (jfo sh n (f 86 q)) (MN (BB sh n) n 33554431 26) b a))) := by
  have hn10 := hF.2.1
  have er : nI (10 * a + b) - nI (10 * a + b) / 10 * 10 = nI b := rm10 (by omega) (by omega)
  have ed : nI (10 * a + b) / 10 = nI a := dv10 (by omega) (by omega)
  refine CT.of rfl (Nat.le_of_ble_eq_true rfl) (fun X hX hR hN _ => ?_)
  have hX : Good X RX11 cX11_with (d + 110) 0 0 := hX
  have hN : x_nl X = 3 := hN
  show WP X 0 0 0 [_, _, _] [] _
  refine wp_aload_n hX (dk DX11_with 0 rfl) rfl ?_
  refine wp_iload_n hX (dk DX11_with 1 rfl) rfl ?_
  refine w_callV (As := [_]) lkX11_123 hX (dk DX11_with 2 rfl) rfl rfl (by decide) hN (k_mB1 (d + 108) sw f g m q hm hm6 hq) ?_
  show WP _ _ _ 5 [_, _, _] [_] _
  refine wp_if_eq (tgt := 16) hX (dk DX11_with 3 rfl) (by decide) (fun h_ => absurd h_ (by decide)) (fun _ => ?_)
  refine wp_aload_n hX (dk DX11_with 4 rfl) rfl ?_
  refine wp_iload_n hX (dk DX11_with 5 rfl) rfl ?_
  refine w_callV (As := [_]) lkX11_281 hX (dk DX11_with 6 rfl) rfl rfl (by decide) hN (k_mT1 (d + 107) sw f g n a b hF.1 hn10 ha hb hab) ?_
  show WP _ _ _ 13 [_, _, _] [_] _
  refine wp_if_ne (tgt := 18) hX (dk DX11_with 7 rfl) (by decide) (fun _ => ?_) (fun h_ => absurd h_ (by decide))
  refine wp_aload_n hX (dk DX11_with 10 rfl) rfl ?_
  refine wp_aload_n hX (dk DX11_with 11 rfl) rfl ?_
  refine w_getr hX flX11_24 (dk DX11_with 12 rfl) rfl rfl ?_
  refine wp_iload_n hX (dk DX11_with 13 rfl) rfl ?_
  refine w_iald (j := _) hX (dk DX11_with 14 rfl) rfl rfl (show _ < 6 by omega) ?_
  refine w_callVQ (As := [_]) lkX11_287 hX (dk DX11_with 15 rfl) rfl rfl (by decide) hN (k_looks (d + 103) sw f g n sh _ hF) (fun v_a sw_a f_a g_a hq_a => ?_)
  obtain ⟨rfl, rfl, rfl, e1, e2⟩ := hq_a
  have hF2 : mFg f_a n sh := ⟨by rw [e1 81 (by decide)]; exact hF.1, hn10, fun j hj => by rw [e1 82 (by decide)]; exact hF.2.2 j hj⟩
  show WP _ _ _ 28 [_, _, _] [] _
  refine wp_aload_n hX (dk DX11_with 16 rfl) rfl ?_
  refine wp_ldc hX (dk DX11_with 17 rfl) kcX11_130 ?_
  refine w_callVQ (As := [_]) lkX11_291 hX (dk DX11_with 18 rfl) rfl rfl (by decide) hN (k_mlongOf (d + 106) _ f_a _ n sh _ _ hF2 e2) (fun v_b sw_b f_b g_b hq_b => ?_)
  obtain ⟨rfl, rfl, rfl, e3, e4, e5⟩ := hq_b
  have hF3 : mFg f_b n sh := ⟨by rw [e3 81 (by decide)]; exact hF2.1, hn10, fun j hj => by rw [e3 82 (by decide)]; exact hF2.2.2 j hj⟩
  have ho3 : ofO f_b n sh (f 86 q) := ⟨fun j hj => by rw [e3 109 (by decide)]; exact e2.1 j hj, by rw [e3 109 (by decide)]; exact e2.2⟩
  show WP _ _ _ 34 [_, _, _] [_] _
  refine wp_pop hX (dk DX11_with 19 rfl) rfl ?_
  refine wp_aload_n hX (dk DX11_with 20 rfl) rfl ?_
  refine wp_iload_n hX (dk DX11_with 21 rfl) rfl ?_
  refine wp_bipush (v := 10) hX (dk DX11_with 22 rfl) (by decide) ?_
  refine wp_idiv hX (dk DX11_with 23 rfl) (by decide) ?_
  rw [ed]
  refine wp_iload_n hX (dk DX11_with 24 rfl) rfl ?_
  refine wp_bipush (v := 10) hX (dk DX11_with 25 rfl) (by decide) ?_
  refine wp_irem hX (dk DX11_with 26 rfl) (by decide) ?_
  rw [er]
  refine w_callV (As := [_, _]) lkX11_306 hX (dk DX11_with 27 rfl) rfl rfl (by decide) hN (k_mthr (d + 81) _ f_b _ n a b sh _ hF3 ho3 ha hb) ?_
  show WP _ _ _ 47 [_, _, _] [_] _
  rw [TH_cg (e4 b hb)]
  refine wp_aload_n hX (dk DX11_with 28 rfl) rfl ?_
  refine wp_iload_n hX (dk DX11_with 29 rfl) rfl ?_
  refine wp_bipush (v := 10) hX (dk DX11_with 30 rfl) (by decide) ?_
  refine wp_irem hX (dk DX11_with 31 rfl) (by decide) ?_
  rw [er]
  refine wp_iload_n hX (dk DX11_with 32 rfl) rfl ?_
  refine wp_bipush (v := 10) hX (dk DX11_with 33 rfl) (by decide) ?_
  refine wp_idiv hX (dk DX11_with 34 rfl) (by decide) ?_
  rw [ed]
  refine w_callV (As := [_, _]) lkX11_306 hX (dk DX11_with 35 rfl) rfl rfl (by simp [Value.category]) hN (k_mthr (d + 81) _ f_b _ n b a sh _ hF3 ho3 hb ha) ?_
  show WP _ _ _ 59 [_, _, _] [_, _] _
  rw [TH_cg (e4 a ha)]
  refine w_max hX lkX11_263 (dk DX11_with 36 rfl) (by decide) ?_
  exact wp_ireturn hX hR (dk DX11_with 37 rfl) rfl (Nat.le_refl _) (Nat.le_refl _) (⟨_, _, _, rfl, rfl, rfl, ⟨fun b2 h1 h2 h3 => by rw [e3 b2 (by omega), e1 b2 (by omega)], fun i _ => by rw [e3 81 (by decide), e1 81 (by decide)]⟩⟩)
