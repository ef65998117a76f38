/-! REFERENCE: in deed -/
theorem jW_P {s : Int32} (h : Sq s) (hn : Ne s) {j : Nat} (hj : j < jn s) : ∃ q, q < 1000 ∧ jW s j = nI q ∧ jmv (jturn s (q / 100)) (q % 10) (q / 10 % 10) = jP s j := by
  have hj' : j < (jpl s 4).length := hj
  have hm : (jpl s 4).getD j (0, 0) ∈ jpl s 4 := by
    rw [show (jpl s 4).getD j (0, 0) = (jpl s 4)[j] by simp [hj']]
    exact List.getElem_mem hj'
  obtain ⟨t, ht, h2⟩ := List.mem_flatMap.mp hm
  obtain ⟨dy, hdy, h3⟩ := List.mem_flatMap.mp h2
  obtain ⟨dx, hdx, h4⟩ := List.mem_map.mp h3
  have t1 := List.mem_range.mp ht
  have t2 := List.mem_range.mp hdy
  have t3 := List.mem_range.mp hdx
  have d1 := jdn_le (jturn s t)
  have d2 := jr_le (jturn s t)
  refine ⟨100 * t + 10 * dy + dx, by omega, ?_, ?_⟩
  · unfold jW
    rw [← h4]
    show (100 : Int32) * nI t + 10 * nI dy + nI dx = _
    rw [show (100 : Int32) = nI 100 from rfl, show (10 : Int32) = nI 10 from rfl, pk_mul, pk_mul, nI_add, nI_add]
  · unfold jP
    rw [← h4, show (100 * t + 10 * dy + dx) % 10 = dx by omega, show (100 * t + 10 * dy + dx) / 10 % 10 = dy by omega, show (100 * t + 10 * dy + dx) / 100 = t by omega, jmv_eq (jturn_SN h hn t).1 (jturn_Cn h hn t) (by omega) (by omega), if_pos ⟨by omega, by omega⟩]
    rfl
/-- what a cut does to LED -/
def mcl (f : Nat → Nat → Int32) (b : Nat) (s br : Int32) : Nat → Nat → Int32 :=
  let f1 := u2 f 99 0 (f 99 0 + 1)
  let f2 := u2 f1 99 1 (f1 99 1 + (jpc (f1 86 b) - jpc s))
  u2 f2 99 2 (f2 99 2 + br)
def mcu (f : Nat → Nat → Int32) (b : Nat) (P s br : Int32) : Nat → Nat → Int32 :=
  let f4 := u2 (mcl f b s br) 86 b P
  u2 f4 87 b (f4 87 b + 1)
theorem mcl_ne {f : Nat → Nat → Int32} {b : Nat} {s br : Int32} {c : Nat} (h : c ≠ 99) : mcl f b s br c = f c := by
  unfold mcl
  rw [u2_ne _ _ _ h, u2_ne _ _ _ h, u2_ne _ _ _ h]
theorem u_cut0 (d : Nat) (sw : Bool) (f : Nat → Nat → Int32) (g : Nat → Nat → Int64) (n m : Nat) (x : Int32) (hn : f 81 0 = nI n) (hn10 : n ≤ 10) (hm : f 81 5 = nI m) (hm6 : m ≤ 6) (h : ¬ ∃ b i, b < m ∧ i < n ∧ i < 10 ∧ x = nI (10 * b + i)) : CT (d + 110) 0 0 iX11_cut [.ref 81, .int x] (S sw f g) (rdM g f (-1)) := by
  refine CT.rdM ?_
  refine CT.of rfl (Nat.le_of_ble_eq_true rfl) (fun X hX hR hN _ => ?_)
  have hX : Good X RX11 cX11_cut (d + 110) 0 0 := hX
  have hN : x_nl X = 5 := hN
  show WP X 0 0 0 [_, _, _, _, _] [] _
  refine wp_aload_n hX (dk DX11_cut 0 rfl) rfl ?_
  refine wp_iload_n hX (dk DX11_cut 1 rfl) rfl ?_
  refine w_callV (As := [_]) lkX11_278 hX (dk DX11_cut 2 rfl) rfl rfl (by decide) hN (k_mI0 (d + 107) sw f g n m x hn hn10 hm hm6 h) ?_
  show WP _ _ _ 5 [_, _, _, _, _] [_] _
  refine wp_if_ne (tgt := 10) hX (dk DX11_cut 3 rfl) (by decide) (fun h_ => absurd (rfl) h_) (fun _ => ?_)
  refine wp_iconst (v := -1) hX (dk DX11_cut 4 rfl) (by decide) ?_
  exact wp_ireturn hX hR (dk DX11_cut 5 rfl) rfl (Nat.le_refl _) (Nat.le_refl _) (⟨rfl, rfl⟩)
theorem u_cutS (d : Nat) (sw : Bool) (f : Nat → Nat → Int32) (g : Nat → Nat → Int64) (n m b i : Nat) (sh : Nat → Int32) (hF : mFg f n sh) (hm : f 81 5 = nI m) (hm6 : m ≤ 6) (hb : b < m) (hi : i < n) (h : jct (sh i) (f 86 b) = 0) : CT (d + 110) 0 0 iX11_cut [.ref 81, .int (nI (10 * b + i))] (S sw f g) (rdM g f (-5)) := by
  have hn10 := hF.2.1
  refine CT.rdM ?_
  refine CT.of rfl (Nat.le_of_ble_eq_true rfl) (fun X hX hR hN _ => ?_)
  have hX : Good X RX11 cX11_cut (d + 110) 0 0 := hX
  have hN : x_nl X = 5 := hN
  show WP X 0 0 0 [_, _, _, _, _] [] _
  refine wp_aload_n hX (dk DX11_cut 0 rfl) rfl ?_
  refine wp_iload_n hX (dk DX11_cut 1 rfl) rfl ?_
  refine w_callV (As := [_]) lkX11_278 hX (dk DX11_cut 2 rfl) rfl rfl (by decide) hN (k_mI1 (d + 107) sw f g n m b i hF.1 hn10 hm hm6 hb hi) ?_
  show WP _ _ _ 5 [_, _, _, _, _] [_] _
  refine wp_if_ne (tgt := 10) hX (dk DX11_cut 3 rfl) (by decide) (fun _ => ?_) (fun h_ => absurd h_ (by decide))
  refine wp_iload_n hX (dk DX11_cut 6 rfl) rfl ?_
  refine wp_bipush (v := 10) hX (dk DX11_cut 7 rfl) (by decide) ?_
  refine wp_idiv hX (dk DX11_cut 8 rfl) (by decide) ?_
  rw [dv10 (by omega) (by omega)]
  refine wp_istore_n hX (dk DX11_cut 9 rfl) rfl rfl hN (Nat.le_of_ble_eq_true rfl) ?_
  show WP _ _ _ 15 [_, _, _, _, _] [] _
  refine wp_iload_n hX (dk DX11_cut 10 rfl) rfl ?_
  refine wp_bipush (v := 10) hX (dk DX11_cut 11 rfl) (by decide) ?_
  refine wp_irem hX (dk DX11_cut 12 rfl) (by decide) ?_
  rw [show nI (10 * b + i) - nI (10 * b + i) / 10 * 10 = nI i from rm10 (by omega) (by omega)]
  refine wp_istore_n hX (dk DX11_cut 13 rfl) rfl rfl hN (Nat.le_of_ble_eq_true rfl) ?_
  show WP _ _ _ 20 [_, _, _, _, _] [] _
  refine wp_aload_n hX (dk DX11_cut 14 rfl) rfl ?_
  refine w_getr hX flX11_9 (dk DX11_cut 15 rfl) rfl rfl ?_
  refine wp_iload_n hX (dk DX11_cut 16 rfl) rfl ?_
  refine w_iald (j := _) hX (dk DX11_cut 17 rfl) rfl rfl (show _ < 10 by omega) ?_
  rw [(hF.2.2 i hi).1]
  refine wp_aload_n hX (dk DX11_cut 18 rfl) rfl ?_
  refine w_getr hX flX11_24 (dk DX11_cut 19 rfl) rfl rfl ?_
  refine wp_iload_n hX (dk DX11_cut 20 rfl) rfl ?_
  refine w_iald (j := _) hX (dk DX11_cut 21 rfl) rfl rfl (show _ < 6 by omega) ?_
  refine w_callS (As := [_, _]) lkX11_162 hX (dk DX11_cut 22 rfl) rfl (by decide) (k_mcut (d + 105) sw f g (sh i) _ (hF.2.2 i hi).2) ?_
  show WP _ _ _ 35 [_, _, _, _, _] [_] _
  refine wp_if_ne (tgt := 41) hX (dk DX11_cut 23 rfl) (by decide) (fun h_ => absurd (h) h_) (fun _ => ?_)
  refine wp_bipush (v := -5) hX (dk DX11_cut 24 rfl) (by decide) ?_
  exact wp_ireturn hX hR (dk DX11_cut 25 rfl) rfl (Nat.le_refl _) (Nat.le_refl _) (⟨rfl, rfl⟩)
theorem u_cut1 (d : Nat) (sw : Bool) (f : Nat → Nat → Int32) (g : Nat → Nat → Int64) (n m b i : Nat) (sh : Nat → Int32) (L : List (List Nat × List Nat)) (hF : mFg f n sh) (hml : mlOk f L) (hw : ∀ l ∈ L, jwl l) (hm : f 81 5 = nI m) (hm6 : m ≤ 6) (hb : b < m) (hi : i < n) (h : ¬ jct (sh i) (f 86 b) = 0) : CT (d + 110) 0 0 iX11_cut [.ref 81, .int (nI (10 * b + i))] (S sw f g) (QS (fun r _ f2 g2 => r = some (.int (jbr L (f 83 i) (f 84 i) (f 85 i) (sh i) (nI i) (f 81 8) (f 87 b))) ∧ g2 = g ∧ ∃ f1, (∀ c, c ≠ 97 → c ≠ 98 → f1 c = f c) ∧ f2 = mcu f1 b (jP (sh i) (jfp (sh i) (f 86 b)).toNatClampNeg) (sh i) (jbr L (f 83 i) (f 84 i) (f 85 i) (sh i) (nI i) (f 81 8) (f 87 b)))) := by
  have hn10 := hF.2.1
  obtain ⟨e82, hsh⟩ := hF.2.2 i hi
  obtain ⟨Ss, Ns⟩ := shp_Sq hsh
  obtain ⟨j, hj, e⟩ : ∃ j, j < jn (sh i) ∧ jfp (sh i) (f 86 b) = nI j := by
    rcases jfp_in (sh i) (f 86 b) with e | e
    · exfalso
      apply h
      unfold jct jcan
      rw [if_neg (fun q => q.2 e)]
    · exact e
  have hj100 := jn_le (sh i)
  obtain ⟨q, q1, q2, q3⟩ := jW_P Ss Ns hj
  have ew : wyR (sh i) (f 86 b) 1 100 0 0 = nI q := by
    rw [wyR_1 Ss Ns]
    unfold jwy
    rw [if_neg (by decide), if_pos rfl, e, if_neg (rE_ne j (by omega)), nI_clamp (by omega), q2]
  obtain ⟨br, hbr⟩ : ∃ br, br = jbr L (f 83 i) (f 84 i) (f 85 i) (sh i) (nI i) (f 81 8) (f 87 b) := ⟨_, rfl⟩
  rw [e, nI_clamp (by omega), ← hbr]
  refine CT.of rfl (Nat.le_of_ble_eq_true rfl) (fun X hX hR hN _ => ?_)
  have hX : Good X RX11 cX11_cut (d + 110) 0 0 := hX
  have hN : x_nl X = 5 := hN
  show WP X 0 0 0 [_, _, _, _, _] [] _
  refine wp_aload_n hX (dk DX11_cut 0 rfl) rfl ?_
  refine wp_iload_n hX (dk DX11_cut 1 rfl) rfl ?_
  refine w_callV (As := [_]) lkX11_278 hX (dk DX11_cut 2 rfl) rfl rfl (by decide) hN (k_mI1 (d + 107) sw f g n m b i hF.1 hn10 hm hm6 hb hi) ?_
  show WP _ _ _ 5 [_, _, _, _, _] [_] _
  refine wp_if_ne (tgt := 10) hX (dk DX11_cut 3 rfl) (by decide) (fun _ => ?_) (fun h_ => absurd h_ (by decide))
  refine wp_iload_n hX (dk DX11_cut 6 rfl) rfl ?_
  refine wp_bipush (v := 10) hX (dk DX11_cut 7 rfl) (by decide) ?_
  refine wp_idiv hX (dk DX11_cut 8 rfl) (by decide) ?_
  rw [dv10 (by omega) (by omega)]
  refine wp_istore_n hX (dk DX11_cut 9 rfl) rfl rfl hN (Nat.le_of_ble_eq_true rfl) ?_
  show WP _ _ _ 15 [_, _, _, _, _] [] _
  refine wp_iload_n hX (dk DX11_cut 10 rfl) rfl ?_
  refine wp_bipush (v := 10) hX (dk DX11_cut 11 rfl) (by decide) ?_
  refine wp_irem hX (dk DX11_cut 12 rfl) (by decide) ?_
  rw [show nI (10 * b + i) - nI (10 * b + i) / 10 * 10 = nI i from rm10 (by omega) (by omega)]
  refine wp_istore_n hX (dk DX11_cut 13 rfl) rfl rfl hN (Nat.le_of_ble_eq_true rfl) ?_
  show WP _ _ _ 20 [_, _, _, _, _] [] _
  refine wp_aload_n hX (dk DX11_cut 14 rfl) rfl ?_
  refine w_getr hX flX11_9 (dk DX11_cut 15 rfl) rfl rfl ?_
  refine wp_iload_n hX (dk DX11_cut 16 rfl) rfl ?_
  refine w_iald (j := _) hX (dk DX11_cut 17 rfl) rfl rfl (show _ < 10 by omega) ?_
  rw [e82]
  refine wp_aload_n hX (dk DX11_cut 18 rfl) rfl ?_
  refine w_getr hX flX11_24 (dk DX11_cut 19 rfl) rfl rfl ?_
  refine wp_iload_n hX (dk DX11_cut 20 rfl) rfl ?_
  refine w_iald (j := _) hX (dk DX11_cut 21 rfl) rfl rfl (show _ < 6 by omega) ?_
  refine w_callS (As := [_, _]) lkX11_162 hX (dk DX11_cut 22 rfl) rfl (by decide) (k_mcut (d + 105) sw f g (sh i) _ hsh) ?_
  show WP _ _ _ 35 [_, _, _, _, _] [_] _
  refine wp_if_ne (tgt := 41) hX (dk DX11_cut 23 rfl) (by decide) (fun _ => ?_) (fun h_ => absurd h_ (h))
  refine wp_aload_n hX (dk DX11_cut 26 rfl) rfl ?_
  refine wp_iload_n hX (dk DX11_cut 27 rfl) rfl ?_
  refine wp_aload_n hX (dk DX11_cut 28 rfl) rfl ?_
  refine w_geti hX flX11_192 (dk DX11_cut 29 rfl) (by decide) rfl ?_
  refine wp_aload_n hX (dk DX11_cut 30 rfl) rfl ?_
  refine w_getr hX flX11_27 (dk DX11_cut 31 rfl) rfl rfl ?_
  refine wp_iload_n hX (dk DX11_cut 32 rfl) rfl ?_
  refine w_iald (j := _) hX (dk DX11_cut 33 rfl) rfl rfl (show _ < 6 by omega) ?_
  refine w_callVQ (As := [_, _, _]) lkX11_275 hX (dk DX11_cut 34 rfl) rfl rfl (by decide) hN (k_mbrings (d + 107) sw f g n i sh L _ _ hF hi hml hw) (fun v_a sw_a f_a g_a hq_a => ?_)
  obtain ⟨rfl, rfl, rfl, e1⟩ := hq_a
  rw [← hbr]
  show WP _ _ _ 56 [_, _, _, _, _] [_] _
  refine wp_istore hX (dk DX11_cut 35 rfl) rfl hN (Nat.le_of_ble_eq_true rfl) ?_
  show WP _ _ _ 58 [_, _, _, _, _] [] _
  skip
  have fin3 : ∀ f3 : Nat → Nat → Int32, f3 = mcl f_a b (sh i) br → WP X 0 0 107 [some (.ref 81), some (.int (nI (10 * b + i))), some (.int (nI b)), some (.int (nI i)), some (.int br)] [] (S sw_a f3 g_a) := by
    intro f3 hf3
    have k3 : ∀ c, c ≠ 97 → c ≠ 98 → c ≠ 99 → f3 c = f c := fun c h1 h2 h3 => by rw [hf3, mcl_ne h3, e1 c h1 h2]
    have s82 : f3 82 i = sh i := by rw [k3 82 (by decide) (by decide) (by decide)]; exact e82
    have s86 : f3 86 b = f 86 b := by rw [k3 86 (by decide) (by decide) (by decide)]
    refine wp_aload_n hX (dk DX11_cut_1 10 rfl) rfl ?_
    refine w_getr hX flX11_24 (dk DX11_cut_1 11 rfl) rfl rfl ?_
    refine wp_iload_n hX (dk DX11_cut_1 12 rfl) rfl ?_
    refine wp_aload_n hX (dk DX11_cut_1 13 rfl) rfl ?_
    refine w_getr hX flX11_9 (dk DX11_cut_1 14 rfl) rfl rfl ?_
    refine wp_iload_n hX (dk DX11_cut_1 15 rfl) rfl ?_
    refine w_iald (j := _) hX (dk DX11_cut_1 16 rfl) rfl rfl (show _ < 10 by omega) ?_
    rw [s82]
    refine wp_aload_n hX (dk DX11_cut_1 17 rfl) rfl ?_
    refine w_getr hX flX11_9 (dk DX11_cut_1 18 rfl) rfl rfl ?_
    refine wp_iload_n hX (dk DX11_cut_1 19 rfl) rfl ?_
    refine w_iald (j := _) hX (dk DX11_cut_1 20 rfl) rfl rfl (show _ < 10 by omega) ?_
    rw [s82]
    refine wp_aload_n hX (dk DX11_cut_1 21 rfl) rfl ?_
    refine w_getr hX flX11_24 (dk DX11_cut_1 22 rfl) rfl rfl ?_
    refine wp_iload_n hX (dk DX11_cut_1 23 rfl) rfl ?_
    refine w_iald (j := _) hX (dk DX11_cut_1 24 rfl) rfl rfl (show _ < 6 by omega) ?_
    rw [s86]
    refine wp_iconst (v := 1) hX (dk DX11_cut_1 25 rfl) (by decide) ?_
    refine w_callS (As := [_, _, _]) lkX11_159 hX (dk DX11_cut_1 26 rfl) rfl (by simp [Value.category]) (k_waysIn (d + 106) _ f3 _ (sh i) (f 86 b) 1 Ss Ns) ?_
    show WP _ _ _ 134 [_, _, _, _, _] [_, _, _, _] _
    rw [ew]
    refine w_callS (As := [_, _]) lkX11_312 hX (dk DX11_cut_1 27 rfl) rfl (by simp [Value.category]) (k_placed (d + 106) _ f3 _ (sh i) q Ss Ns q1) ?_
    show WP _ _ _ 137 [_, _, _, _, _] [_, _, _] _
    rw [q3]
    refine w_iast (j := _) hX (dk DX11_cut_1 28 rfl) rfl rfl (show _ < 6 by omega) ?_
    refine wp_aload_n hX (dk DX11_cut_1 29 rfl) rfl ?_
    refine w_getr hX flX11_27 (dk DX11_cut_1 30 rfl) rfl rfl ?_
    refine wp_iload_n hX (dk DX11_cut_1 31 rfl) rfl ?_
    refine wp_dup2 hX (dk DX11_cut_1 32 rfl) rfl rfl ?_
    refine w_iald (j := _) hX (dk DX11_cut_1 33 rfl) rfl rfl (show _ < 6 by omega) ?_
    refine wp_iconst (v := 1) hX (dk DX11_cut_1 34 rfl) (by decide) ?_
    refine wp_iadd hX (dk DX11_cut_1 35 rfl) ?_
    refine w_iast (j := _) hX (dk DX11_cut_1 36 rfl) rfl rfl (show _ < 6 by omega) ?_
    refine wp_iload hX (dk DX11_cut_1 37 rfl) rfl ?_
    exact wp_ireturn hX hR (dk DX11_cut_1 38 rfl) rfl (Nat.le_refl _) (Nat.le_refl _) (⟨_, _, _, rfl, rfl, rfl, f_a, e1, by rw [hf3]; rfl⟩)
  refine wp_aload_n hX (dk DX11_cut 36 rfl) rfl ?_
  refine w_getr hX flX11_63 (dk DX11_cut 37 rfl) rfl rfl ?_
  refine wp_iconst (v := 0) hX (dk DX11_cut 38 rfl) (by decide) ?_
  refine wp_dup2 hX (dk DX11_cut 39 rfl) rfl rfl ?_
  refine w_iald (j := 0) hX (dk DX11_cut 40 rfl) rfl rfl (by decide) ?_
  refine wp_iconst (v := 1) hX (dk DX11_cut 41 rfl) (by decide) ?_
  refine wp_iadd hX (dk DX11_cut 42 rfl) ?_
  refine w_iast (j := 0) hX (dk DX11_cut 43 rfl) rfl rfl (by decide) ?_
  refine wp_aload_n hX (dk DX11_cut 44 rfl) rfl ?_
  refine w_getr hX flX11_63 (dk DX11_cut 45 rfl) rfl rfl ?_
  refine wp_iconst (v := 1) hX (dk DX11_cut 46 rfl) (by decide) ?_
  refine wp_dup2 hX (dk DX11_cut 47 rfl) rfl rfl ?_
  refine w_iald (j := 1) hX (dk DX11_cut 48 rfl) rfl rfl (by decide) ?_
  refine wp_aload_n hX (dk DX11_cut 49 rfl) rfl ?_
  refine w_getr hX flX11_24 (dk DX11_cut 50 rfl) rfl rfl ?_
  refine wp_iload_n hX (dk DX11_cut 51 rfl) rfl ?_
  refine w_iald (j := _) hX (dk DX11_cut 52 rfl) rfl rfl (show _ < 6 by omega) ?_
  refine w_callS (As := [_]) lkX11_156 hX (dk DX11_cut 53 rfl) rfl (by simp [Value.category]) (k_mcells (d + 108) _ _ _ _) ?_
  show WP _ _ _ 84 [_, _, _, _, _] [_, _, _, _] _
  refine wp_aload_n hX (dk DX11_cut 54 rfl) rfl ?_
  refine w_getr hX flX11_9 (dk DX11_cut 55 rfl) rfl rfl ?_
  refine wp_iload_n hX (dk DX11_cut 56 rfl) rfl ?_
  refine w_iald (j := _) hX (dk DX11_cut 57 rfl) rfl rfl (show _ < 10 by omega) ?_
  rw [show u2 f_a 99 0 (f_a 99 0 + 1) 82 i = sh i by rw [u2_ne _ _ _ (by decide), e1 82 (by decide) (by decide)]; exact e82]
  refine w_callS (As := [_]) lkX11_156 hX (dk DX11_cut 58 rfl) rfl (by simp [Value.category]) (k_mcells (d + 108) _ _ _ _) ?_
  show WP _ _ _ 93 [_, _, _, _, _] [_, _, _, _, _] _
  refine wp_isub hX (dk DX11_cut 59 rfl) ?_
  refine wp_iadd hX (dk DX11_cut_1 0 rfl) ?_
  refine w_iast (j := 1) hX (dk DX11_cut_1 1 rfl) rfl rfl (by decide) ?_
  refine wp_aload_n hX (dk DX11_cut_1 2 rfl) rfl ?_
  refine w_getr hX flX11_63 (dk DX11_cut_1 3 rfl) rfl rfl ?_
  refine wp_iconst (v := 2) hX (dk DX11_cut_1 4 rfl) (by decide) ?_
  refine wp_dup2 hX (dk DX11_cut_1 5 rfl) rfl rfl ?_
  refine w_iald (j := 2) hX (dk DX11_cut_1 6 rfl) rfl rfl (by decide) ?_
  refine wp_iload hX (dk DX11_cut_1 7 rfl) rfl ?_
  refine wp_iadd hX (dk DX11_cut_1 8 rfl) ?_
  refine w_iast (j := 2) hX (dk DX11_cut_1 9 rfl) rfl rfl (by decide) ?_
  exact fin3 _ rfl
theorem u_pass0 (d : Nat) (sw : Bool) (f : Nat → Nat → Int32) (g : Nat → Nat → Int64) (x : Int32) (h : ¬ ∃ k, 1 ≤ k ∧ k < 100 ∧ x = nI k) : CT (d + 110) 0 0 iX11_pass [.ref 81, .int x] (S sw f g) (rdM g f (-1)) := by
  refine CT.rdM ?_
  have c : ¬ (¬ x < 1 ∧ ¬ 99 < x) := by
    rintro ⟨h1, h2⟩
    rw [k99] at h2
    obtain ⟨k, k1, rfl⟩ := rg_le (x := x) (by decide) (fun e => h1 (Int32.lt_trans e (by decide))) h2
    exact h ⟨k, Nat.le_of_not_lt (fun c => h1 (nI_lt (a := k) (b := 1) c (by decide))), by omega, rfl⟩
  refine CT.of rfl (Nat.le_of_ble_eq_true rfl) (fun X hX hR hN _ => ?_)
  have hX : Good X RX11 cX11_pass (d + 110) 0 0 := hX
  have hN : x_nl X = 2 := hN
  show WP X 0 0 0 [_, _] [] _
  refine wp_iload_n hX (dk DX11_pass 0 rfl) rfl ?_
  refine wp_iconst (v := 1) hX (dk DX11_pass 1 rfl) (by decide) ?_
  refine wp_bipush (v := 99) hX (dk DX11_pass 2 rfl) (by decide) ?_
  refine w_callS (As := [_, _, _]) lkX11_116 hX (dk DX11_pass 3 rfl) rfl (by decide) (k_within (d + 109) _ _ _ _) ?_
  show WP _ _ _ 7 [_, _] [_] _
  rw [if_neg c]
  refine wp_if_ne (tgt := 12) hX (dk DX11_pass 4 rfl) (by decide) (fun h_ => absurd (rfl) h_) (fun _ => ?_)
  refine wp_iconst (v := -1) hX (dk DX11_pass 5 rfl) (by decide) ?_
  exact wp_ireturn hX hR (dk DX11_pass 6 rfl) rfl (Nat.le_refl _) (Nat.le_refl _) (⟨rfl, rfl⟩)
theorem u_pass1 (d : Nat) (sw : Bool) (f : Nat → Nat → Int32) (g : Nat → Nat → Int64) (k : Nat) (hk1 : 1 ≤ k) (hk : k < 100) : CT (d + 110) 0 0 iX11_pass [.ref 81, .int (nI k)] (S sw f g) (QR (some (.int (if f 81 8 + nI k ≤ 99 then f 81 8 + nI k else -5))) (S sw (if f 81 8 + nI k ≤ 99 then u2 f 81 8 (f 81 8 + nI k) else f) g)) := by
  refine CT.of rfl (Nat.le_of_ble_eq_true rfl) (fun X hX hR hN _ => ?_)
  have hX : Good X RX11 cX11_pass (d + 110) 0 0 := hX
  have hN : x_nl X = 2 := hN
  show WP X 0 0 0 [_, _] [] _
  by_cases c : f 81 8 + nI k ≤ 99
  · rw [if_pos c, if_pos c] at hR
    refine wp_iload_n hX (dk DX11_pass 0 rfl) rfl ?_
    refine wp_iconst (v := 1) hX (dk DX11_pass 1 rfl) (by decide) ?_
    refine wp_bipush (v := 99) hX (dk DX11_pass 2 rfl) (by decide) ?_
    refine w_callS (As := [_, _, _]) lkX11_116 hX (dk DX11_pass 3 rfl) rfl (by decide) (k_within (d + 109) _ _ _ _) ?_
    show WP _ _ _ 7 [_, _] [_] _
    rw [k99, if_pos ⟨nI_nlt (b := 1) (by omega) (by omega), nI_nlt (by omega) (by omega)⟩]
    refine wp_if_ne (tgt := 12) hX (dk DX11_pass 4 rfl) (by decide) (fun _ => ?_) (fun h_ => absurd h_ (by decide))
    refine wp_aload_n hX (dk DX11_pass 7 rfl) rfl ?_
    refine w_geti hX flX11_192 (dk DX11_pass 8 rfl) (by decide) rfl ?_
    refine wp_iload_n hX (dk DX11_pass 9 rfl) rfl ?_
    refine wp_iadd hX (dk DX11_pass 10 rfl) ?_
    refine wp_bipush (v := 99) hX (dk DX11_pass 11 rfl) (by decide) ?_
    refine wp_icmp_le (tgt := 26) hX (dk DX11_pass 12 rfl) (by decide) (fun _ => ?_) (fun h_ => absurd (c) h_)
    refine wp_aload_n hX (dk DX11_pass 15 rfl) rfl ?_
    refine wp_dup hX (dk DX11_pass 16 rfl) rfl ?_
    refine w_geti hX flX11_192 (dk DX11_pass 17 rfl) (by decide) rfl ?_
    refine wp_iload_n hX (dk DX11_pass 18 rfl) rfl ?_
    refine wp_iadd hX (dk DX11_pass 19 rfl) ?_
    refine w_puti hX fpX11_192 (dk DX11_pass 20 rfl) rfl ?_
    refine wp_aload_n hX (dk DX11_pass 21 rfl) rfl ?_
    refine w_geti hX flX11_192 (dk DX11_pass 22 rfl) (by decide) rfl ?_
    rw [u2_at]
    exact wp_ireturn hX hR (dk DX11_pass 23 rfl) rfl (Nat.le_refl _) (Nat.le_refl _) (⟨rfl, rfl⟩)
  · rw [if_neg c, if_neg c] at hR
    refine wp_iload_n hX (dk DX11_pass 0 rfl) rfl ?_
    refine wp_iconst (v := 1) hX (dk DX11_pass 1 rfl) (by decide) ?_
    refine wp_bipush (v := 99) hX (dk DX11_pass 2 rfl) (by decide) ?_
    refine w_callS (As := [_, _, _]) lkX11_116 hX (dk DX11_pass 3 rfl) rfl (by decide) (k_within (d + 109) _ _ _ _) ?_
    show WP _ _ _ 7 [_, _] [_] _
    rw [k99, if_pos ⟨nI_nlt (b := 1) (by omega) (by omega), nI_nlt (by omega) (by omega)⟩]
    refine wp_if_ne (tgt := 12) hX (dk DX11_pass 4 rfl) (by decide) (fun _ => ?_) (fun h_ => absurd h_ (by decide))
    refine wp_aload_n hX (dk DX11_pass 7 rfl) rfl ?_
    refine w_geti hX flX11_192 (dk DX11_pass 8 rfl) (by decide) rfl ?_
    refine wp_iload_n hX (dk DX11_pass 9 rfl) rfl ?_
    refine wp_iadd hX (dk DX11_pass 10 rfl) ?_
    refine wp_bipush (v := 99) hX (dk DX11_pass 11 rfl) (by decide) ?_
    refine wp_icmp_le (tgt := 26) hX (dk DX11_pass 12 rfl) (by decide) (fun h_ => absurd h_ (c)) (fun _ => ?_)
    refine wp_bipush (v := -5) hX (dk DX11_pass 13 rfl) (by decide) ?_
    exact wp_ireturn hX hR (dk DX11_pass 14 rfl) rfl (Nat.le_refl _) (Nat.le_refl _) (⟨rfl, rfl⟩)
theorem u_led0 (d : Nat) (sw : Bool) (f : Nat → Nat → Int32) (g : Nat → Nat → Int64) (x : Int32) (h : ¬ ∃ k, k < 4 ∧ x = nI k) : CT (d + 110) 0 0 iX11_led [.ref 81, .int x] (S sw f g) (rdM g f (-1)) := by
  refine CT.rdM ?_
  refine CT.of rfl (Nat.le_of_ble_eq_true rfl) (fun X hX hR hN _ => ?_)
  have hX : Good X RX11 cX11_led (d + 110) 0 0 := hX
  have hN : x_nl X = 2 := hN
  show WP X 0 0 0 [_, _] [] _
  refine wp_iload_n hX (dk DX11_led 0 rfl) rfl ?_
  refine wp_iconst (v := 3) hX (dk DX11_led 1 rfl) (by decide) ?_
  refine wp_icmp_ne (tgt := 12) hX (dk DX11_led 2 rfl) (by decide) (fun _ => ?_) (fun h_ => absurd h_ (fun e => h ⟨3, by decide, e⟩))
  refine wp_iload_n hX (dk DX11_led 6 rfl) rfl ?_
  refine wp_iconst (v := 0) hX (dk DX11_led 7 rfl) (by decide) ?_
  refine wp_iconst (v := 2) hX (dk DX11_led 8 rfl) (by decide) ?_
  refine w_callS (As := [_, _, _]) lkX11_116 hX (dk DX11_led 9 rfl) rfl (by decide) (k_wi0 (d + 109) 2 x 2 _ rfl (by decide) (fun ⟨i, h1, h2⟩ => h ⟨i, by omega, h2⟩)) ?_
  show WP _ _ _ 18 [_, _] [_] _
  refine wp_if_eq (tgt := 30) hX (dk DX11_led 10 rfl) (by decide) (fun _ => ?_) (fun h_ => absurd (rfl) h_)
  refine wp_iconst (v := -1) hX (dk DX11_led 16 rfl) (by decide) ?_
  exact wp_ireturn hX hR (dk DX11_led 17 rfl) rfl (Nat.le_refl _) (Nat.le_refl _) (⟨rfl, rfl⟩)
theorem u_led1 (d : Nat) (sw : Bool) (f : Nat → Nat → Int32) (g : Nat → Nat → Int64) (k : Nat) (hk : k < 4) : CT (d + 110) 0 0 iX11_led [.ref 81, .int (nI k)] (S sw f g) (rdM g f (if k = 3 then f 81 8 else f 99 k)) := by
  refine CT.rdM ?_
  refine CT.of rfl (Nat.le_of_ble_eq_true rfl) (fun X hX hR hN _ => ?_)
  have hX : Good X RX11 cX11_led (d + 110) 0 0 := hX
  have hN : x_nl X = 2 := hN
  show WP X 0 0 0 [_, _] [] _
  by_cases c : k = 3
  · subst c
    rw [if_pos rfl] at hR
    refine wp_iload_n hX (dk DX11_led 0 rfl) rfl ?_
    refine wp_iconst (v := 3) hX (dk DX11_led 1 rfl) (by decide) ?_
    refine wp_icmp_ne (tgt := 12) hX (dk DX11_led 2 rfl) (by decide) (fun h_ => absurd (rfl) h_) (fun _ => ?_)
    refine wp_aload_n hX (dk DX11_led 3 rfl) rfl ?_
    refine w_geti hX flX11_192 (dk DX11_led 4 rfl) (by decide) rfl ?_
    refine wp_goto (tgt := 31) hX (dk DX11_led 5 rfl) (by decide) ?_
    exact wp_ireturn hX hR (dk DX11_led 17 rfl) rfl (Nat.le_refl _) (Nat.le_refl _) (⟨rfl, rfl⟩)
  · rw [if_neg c] at hR
    refine wp_iload_n hX (dk DX11_led 0 rfl) rfl ?_
    refine wp_iconst (v := 3) hX (dk DX11_led 1 rfl) (by decide) ?_
    refine wp_icmp_ne (tgt := 12) hX (dk DX11_led 2 rfl) (by decide) (fun _ => ?_) (fun h_ => absurd h_ (fun e => c ((nI_eq (b := 3) (by omega) (by omega)).mp e)))
    refine wp_iload_n hX (dk DX11_led 6 rfl) rfl ?_
    refine wp_iconst (v := 0) hX (dk DX11_led 7 rfl) (by decide) ?_
    refine wp_iconst (v := 2) hX (dk DX11_led 8 rfl) (by decide) ?_
    refine w_callS (As := [_, _, _]) lkX11_116 hX (dk DX11_led 9 rfl) rfl (by decide) (k_wi1 (d + 109) k 2 2 _ rfl (by decide) (by omega)) ?_
    show WP _ _ _ 18 [_, _] [_] _
    refine wp_if_eq (tgt := 30) hX (dk DX11_led 10 rfl) (by decide) (fun h_ => absurd h_ (by decide)) (fun _ => ?_)
    refine wp_aload_n hX (dk DX11_led 11 rfl) rfl ?_
    refine w_getr hX flX11_63 (dk DX11_led 12 rfl) rfl rfl ?_
    refine wp_iload_n hX (dk DX11_led 13 rfl) rfl ?_
    refine w_iald (j := _) hX (dk DX11_led 14 rfl) rfl rfl (show _ < 3 by omega) ?_
    refine wp_goto (tgt := 31) hX (dk DX11_led 15 rfl) (by decide) ?_
    exact wp_ireturn hX hR (dk DX11_led 17 rfl) rfl (Nat.le_refl _) (Nat.le_refl _) (⟨rfl, rfl⟩)
theorem u_image (d : Nat) (sw : Bool) (f : Nat → Nat → Int32) (g : Nat → Nat → Int64) : CT (d + 110) 0 0 iX11_image [.ref 81] (S sw f g) (QS (fun r _ f2 g2 => r = some (.int (f 99 0)) ∧ g2 = g ∧ (∀ b, b ≠ 81 → b ≠ 100 → b ≠ 101 → b ≠ 102 → f2 b = f b) ∧ (∀ i, i ≠ 28 → i ≠ 29 → i ≠ 30 → f2 81 i = f 81 i) ∧ f2 81 28 = 1 ∧ f2 81 29 = f 81 5 ∧ f2 81 30 = f 81 8 ∧ (∀ j, j < 6 → f2 100 j = f 86 j ∧ f2 101 j = f 87 j) ∧ ∀ j, j < 3 → f2 102 j = f 99 j)) := by
  refine CT.of rfl (Nat.le_of_ble_eq_true rfl) (fun X hX hR hN _ => ?_)
  have hX : Good X RX11 cX11_image (d + 110) 0 0 := hX
  have hN : x_nl X = 2 := hN
  show WP X 0 0 0 [_, _] [] _
  have l2 : ∀ (q j : Nat) (f2 : Nat → Nat → Int32), j + q = 3 → (∀ b, b ≠ 81 → b ≠ 100 → b ≠ 101 → b ≠ 102 → f2 b = f b) → (∀ i, i ≠ 28 → i ≠ 29 → i ≠ 30 → f2 81 i = f 81 i) → f2 81 28 = 1 ∧ f2 81 29 = f 81 5 ∧ f2 81 30 = f 81 8 → (∀ j, j < 6 → f2 100 j = f 86 j ∧ f2 101 j = f 87 j) → (∀ k, k < j → f2 102 k = f 99 k) → WP X 0 0 61 [some (.ref 81), some (.int (nI j))] [] (S sw f2 g) := by
    intro q
    induction q with
    | zero =>
      intro j f2 hj h1 h2 h3 h4 h5
      obtain rfl : j = 3 := by omega
      refine wp_iload_n hX (dk DX11_image 36 rfl) rfl ?_
      refine wp_iconst (v := 3) hX (dk DX11_image 37 rfl) (by decide) ?_
      refine wp_icmp_ge (tgt := 84) hX (dk DX11_image 38 rfl) (by decide) (fun _ => ?_) (fun h_ => absurd (by decide) h_)
      refine wp_aload_n hX (dk DX11_image 49 rfl) rfl ?_
      refine w_getr hX flX11_63 (dk DX11_image 50 rfl) rfl rfl ?_
      refine wp_iconst (v := 0) hX (dk DX11_image 51 rfl) (by decide) ?_
      refine w_iald (j := 0) hX (dk DX11_image 52 rfl) rfl rfl (by decide) ?_
      rw [h1 99 (by decide) (by decide) (by decide) (by decide)]
      exact wp_ireturn hX hR (dk DX11_image 53 rfl) rfl (Nat.le_refl _) (Nat.le_refl _) (⟨_, _, _, rfl, rfl, rfl, h1, h2, h3.1, h3.2.1, h3.2.2, h4, h5⟩)
    | succ q ih =>
      intro j f2 hj h1 h2 h3 h4 h5
      refine wp_iload_n hX (dk DX11_image 36 rfl) rfl ?_
      refine wp_iconst (v := 3) hX (dk DX11_image 37 rfl) (by decide) ?_
      refine wp_icmp_ge (tgt := 84) hX (dk DX11_image 38 rfl) (by decide) (fun h_ => absurd h_ (nI_ge (b := 3) (by omega) (by omega))) (fun _ => ?_)
      refine wp_aload_n hX (dk DX11_image 39 rfl) rfl ?_
      refine w_getr hX flX11_72 (dk DX11_image 40 rfl) rfl rfl ?_
      refine wp_iload_n hX (dk DX11_image 41 rfl) rfl ?_
      refine wp_aload_n hX (dk DX11_image 42 rfl) rfl ?_
      refine w_getr hX flX11_63 (dk DX11_image 43 rfl) rfl rfl ?_
      refine wp_iload_n hX (dk DX11_image 44 rfl) rfl ?_
      refine w_iald (j := _) hX (dk DX11_image 45 rfl) rfl rfl (show _ < 3 by omega) ?_
      refine w_iast (j := _) hX (dk DX11_image 46 rfl) rfl rfl (show _ < 3 by omega) ?_
      refine wp_iinc hX (dk DX11_image 47 rfl) rfl (nI_inc _) rfl hN ?_
      show WP _ _ _ 81 [_, _] [] _
      refine wp_goto (tgt := 61) hX (dk DX11_image 48 rfl) (by decide) ?_
      exact ih (j + 1) _ (by omega) (fun b a1 a2 a3 a4 => by rw [u2_ne _ _ _ a4]; exact h1 b a1 a2 a3 a4) (fun i a1 a2 a3 => by rw [u2_ne _ _ _ (show (81 : Nat) ≠ 102 by decide)]; exact h2 i a1 a2 a3) (by rw [u2_ne _ _ _ (show (81 : Nat) ≠ 102 by decide)]; exact h3) (fun k hk => by rw [u2_ne _ _ _ (show (100 : Nat) ≠ 102 by decide), u2_ne _ _ _ (show (101 : Nat) ≠ 102 by decide)]; exact h4 k hk) (fun k hk => (Classical.em (k = j)).elim (fun e => by rw [e, u2_at, h1 99 (by decide) (by decide) (by decide) (by decide)]) (fun e => by rw [u2_off _ _ _ e]; exact h5 k (by omega)))
  have l1 : ∀ (q j : Nat) (f2 : Nat → Nat → Int32), j + q = 6 → (∀ b, b ≠ 81 → b ≠ 100 → b ≠ 101 → b ≠ 102 → f2 b = f b) → (∀ i, i ≠ 28 → i ≠ 29 → i ≠ 30 → f2 81 i = f 81 i) → f2 81 28 = 1 ∧ f2 81 29 = f 81 5 ∧ f2 81 30 = f 81 8 → (∀ k, k < j → f2 100 k = f 86 k ∧ f2 101 k = f 87 k) → WP X 0 0 23 [some (.ref 81), some (.int (nI j))] [] (S sw f2 g) := by
    intro q
    induction q with
    | zero =>
      intro j f2 hj h1 h2 h3 h4
      obtain rfl : j = 6 := by omega
      refine wp_iload_n hX (dk DX11_image 13 rfl) rfl ?_
      refine wp_bipush (v := 6) hX (dk DX11_image 14 rfl) (by decide) ?_
      refine wp_icmp_ge (tgt := 59) hX (dk DX11_image 15 rfl) (by decide) (fun _ => ?_) (fun h_ => absurd (by decide) h_)
      refine wp_iconst (v := 0) hX (dk DX11_image 34 rfl) (by decide) ?_
      refine wp_istore_n hX (dk DX11_image 35 rfl) rfl rfl hN (Nat.le_of_ble_eq_true rfl) ?_
      show WP _ _ _ 61 [_, _] [] _
      exact l2 3 0 f2 (by decide) h1 h2 h3 h4 (fun k hk => absurd hk (Nat.not_lt_zero _))
    | succ q ih =>
      intro j f2 hj h1 h2 h3 h4
      refine wp_iload_n hX (dk DX11_image 13 rfl) rfl ?_
      refine wp_bipush (v := 6) hX (dk DX11_image 14 rfl) (by decide) ?_
      refine wp_icmp_ge (tgt := 59) hX (dk DX11_image 15 rfl) (by decide) (fun h_ => absurd h_ (nI_ge (b := 6) (by omega) (by omega))) (fun _ => ?_)
      refine wp_aload_n hX (dk DX11_image 16 rfl) rfl ?_
      refine w_getr hX flX11_66 (dk DX11_image 17 rfl) rfl rfl ?_
      refine wp_iload_n hX (dk DX11_image 18 rfl) rfl ?_
      refine wp_aload_n hX (dk DX11_image 19 rfl) rfl ?_
      refine w_getr hX flX11_24 (dk DX11_image 20 rfl) rfl rfl ?_
      refine wp_iload_n hX (dk DX11_image 21 rfl) rfl ?_
      refine w_iald (j := _) hX (dk DX11_image 22 rfl) rfl rfl (show _ < 6 by omega) ?_
      refine w_iast (j := _) hX (dk DX11_image 23 rfl) rfl rfl (show _ < 6 by omega) ?_
      refine wp_aload_n hX (dk DX11_image 24 rfl) rfl ?_
      refine w_getr hX flX11_69 (dk DX11_image 25 rfl) rfl rfl ?_
      refine wp_iload_n hX (dk DX11_image 26 rfl) rfl ?_
      refine wp_aload_n hX (dk DX11_image 27 rfl) rfl ?_
      refine w_getr hX flX11_27 (dk DX11_image 28 rfl) rfl rfl ?_
      refine wp_iload_n hX (dk DX11_image 29 rfl) rfl ?_
      refine w_iald (j := _) hX (dk DX11_image 30 rfl) rfl rfl (show _ < 6 by omega) ?_
      refine w_iast (j := _) hX (dk DX11_image 31 rfl) rfl rfl (show _ < 6 by omega) ?_
      refine wp_iinc hX (dk DX11_image 32 rfl) rfl (nI_inc _) rfl hN ?_
      show WP _ _ _ 56 [_, _] [] _
      refine wp_goto (tgt := 23) hX (dk DX11_image 33 rfl) (by decide) ?_
      exact ih (j + 1) _ (by omega) (fun b a1 a2 a3 a4 => by rw [u2_ne _ _ _ a3, u2_ne _ _ _ a2]; exact h1 b a1 a2 a3 a4) (fun i a1 a2 a3 => by rw [u2_ne _ _ _ (show (81 : Nat) ≠ 101 by decide), u2_ne _ _ _ (show (81 : Nat) ≠ 100 by decide)]; exact h2 i a1 a2 a3) (by rw [u2_ne _ _ _ (show (81 : Nat) ≠ 101 by decide), u2_ne _ _ _ (show (81 : Nat) ≠ 100 by decide)]; exact h3) (fun k hk => (Classical.em (k = j)).elim (fun e => ⟨by rw [e, u2_ne _ _ _ (show (100 : Nat) ≠ 101 by decide), u2_at, h1 86 (by decide) (by decide) (by decide) (by decide)], by rw [e, u2_at, u2_ne _ _ _ (show (87 : Nat) ≠ 100 by decide), h1 87 (by decide) (by decide) (by decide) (by decide)]⟩) (fun e => ⟨by rw [u2_ne _ _ _ (show (100 : Nat) ≠ 101 by decide), u2_off _ _ _ e]; exact (h4 k (by omega)).1, by rw [u2_off _ _ _ e, u2_ne _ _ _ (show (101 : Nat) ≠ 100 by decide)]; exact (h4 k (by omega)).2⟩))
  refine wp_aload_n hX (dk DX11_image 0 rfl) rfl ?_
  refine wp_iconst (v := 1) hX (dk DX11_image 1 rfl) (by decide) ?_
  refine w_putz hX fpX11_343 (dk DX11_image 2 rfl) (by decide) rfl ?_
  refine wp_aload_n hX (dk DX11_image 3 rfl) rfl ?_
  refine wp_aload_n hX (dk DX11_image 4 rfl) rfl ?_
  refine w_geti hX flX11_120 (dk DX11_image 5 rfl) (by decide) rfl ?_
  refine w_puti hX fpX11_346 (dk DX11_image 6 rfl) rfl ?_
  refine wp_aload_n hX (dk DX11_image 7 rfl) rfl ?_
  refine wp_aload_n hX (dk DX11_image 8 rfl) rfl ?_
  refine w_geti hX flX11_192 (dk DX11_image 9 rfl) (by decide) rfl ?_
  refine w_puti hX fpX11_349 (dk DX11_image 10 rfl) rfl ?_
  refine wp_iconst (v := 0) hX (dk DX11_image 11 rfl) (by decide) ?_
  refine wp_istore_n hX (dk DX11_image 12 rfl) rfl rfl hN (Nat.le_of_ble_eq_true rfl) ?_
  show WP _ _ _ 23 [_, _] [] _
  exact l1 6 0 _ (by decide) (fun b a1 a2 a3 a4 => by rw [u2_ne _ _ _ a1, u2_ne _ _ _ a1, u2_ne _ _ _ a1]) (fun i a1 a2 a3 => by rw [u2_off _ _ _ a3, u2_off _ _ _ a2, u2_off _ _ _ a1]) ⟨by rw [u2_off _ _ _ (by decide), u2_off _ _ _ (by decide), u2_at], by rw [u2_off _ _ _ (by decide), u2_at, u2_off _ _ _ (by decide)], by rw [u2_at, u2_off _ _ _ (by decide), u2_off _ _ _ (by decide)]⟩ (fun k hk => absurd hk (Nat.not_lt_zero _))
theorem u_back0 (d : Nat) (sw : Bool) (f : Nat → Nat → Int32) (g : Nat → Nat → Int64) (h : f 81 28 = 0) : CT (d + 110) 0 0 iX11_back [.ref 81] (S sw f g) (rdM g f (-5)) := by
  refine CT.rdM ?_
  refine CT.of rfl (Nat.le_of_ble_eq_true rfl) (fun X hX hR hN _ => ?_)
  have hX : Good X RX11 cX11_back (d + 110) 0 0 := hX
  have hN : x_nl X = 2 := hN
  show WP X 0 0 0 [_, _] [] _
  refine wp_aload_n hX (dk DX11_back 0 rfl) rfl ?_
  refine w_geti hX flX11_343 (dk DX11_back 1 rfl) (by decide) rfl ?_
  refine wp_if_ne (tgt := 10) hX (dk DX11_back 2 rfl) (by decide) (fun h_ => absurd (h) h_) (fun _ => ?_)
  refine wp_bipush (v := -5) hX (dk DX11_back 3 rfl) (by decide) ?_
  exact wp_ireturn hX hR (dk DX11_back 4 rfl) rfl (Nat.le_refl _) (Nat.le_refl _) (⟨rfl, rfl⟩)
theorem u_back1 (d : Nat) (sw : Bool) (f : Nat → Nat → Int32) (g : Nat → Nat → Int64) (m : Nat) (hm6 : m ≤ 6) (h : ¬ f 81 28 = 0) (hm : f 81 29 = nI m) : CT (d + 110) 0 0 iX11_back [.ref 81] (S sw f g) (QS (fun r _ f2 g2 => r = some (.int (f 102 0)) ∧ g2 = g ∧ (∀ b, b ≠ 81 → b ≠ 86 → b ≠ 87 → b ≠ 99 → f2 b = f b) ∧ (∀ i, i ≠ 8 → f2 81 i = f 81 i) ∧ f2 81 8 = f 81 30 ∧ (∀ j, f2 86 j = (if j < m then f 100 j else f 86 j) ∧ f2 87 j = (if j < m then f 101 j else f 87 j)) ∧ ∀ j, j < 3 → f2 99 j = f 102 j)) := by
  refine CT.of rfl (Nat.le_of_ble_eq_true rfl) (fun X hX hR hN _ => ?_)
  have hX : Good X RX11 cX11_back (d + 110) 0 0 := hX
  have hN : x_nl X = 2 := hN
  show WP X 0 0 0 [_, _] [] _
  have l2 : ∀ (q j : Nat) (f2 : Nat → Nat → Int32), j + q = 3 → (∀ b, b ≠ 81 → b ≠ 86 → b ≠ 87 → b ≠ 99 → f2 b = f b) → (∀ i, i ≠ 8 → f2 81 i = f 81 i) → f2 81 8 = f 81 30 → (∀ j, f2 86 j = (if j < m then f 100 j else f 86 j) ∧ f2 87 j = (if j < m then f 101 j else f 87 j)) → (∀ k, k < j → f2 99 k = f 102 k) → WP X 0 0 60 [some (.ref 81), some (.int (nI j))] [] (S sw f2 g) := by
    intro q
    induction q with
    | zero =>
      intro j f2 hj h1 h2 h3 h4 h5
      obtain rfl : j = 3 := by omega
      refine wp_iload_n hX (dk DX11_back 35 rfl) rfl ?_
      refine wp_iconst (v := 3) hX (dk DX11_back 36 rfl) (by decide) ?_
      refine wp_icmp_ge (tgt := 83) hX (dk DX11_back 37 rfl) (by decide) (fun _ => ?_) (fun h_ => absurd (by decide) h_)
      refine wp_aload_n hX (dk DX11_back 48 rfl) rfl ?_
      refine w_getr hX flX11_63 (dk DX11_back 49 rfl) rfl rfl ?_
      refine wp_iconst (v := 0) hX (dk DX11_back 50 rfl) (by decide) ?_
      refine w_iald (j := 0) hX (dk DX11_back 51 rfl) rfl rfl (by decide) ?_
      rw [h5 0 (by decide)]
      exact wp_ireturn hX hR (dk DX11_back 52 rfl) rfl (Nat.le_refl _) (Nat.le_refl _) (⟨_, _, _, rfl, rfl, rfl, h1, h2, h3, h4, h5⟩)
    | succ q ih =>
      intro j f2 hj h1 h2 h3 h4 h5
      refine wp_iload_n hX (dk DX11_back 35 rfl) rfl ?_
      refine wp_iconst (v := 3) hX (dk DX11_back 36 rfl) (by decide) ?_
      refine wp_icmp_ge (tgt := 83) hX (dk DX11_back 37 rfl) (by decide) (fun h_ => absurd h_ (nI_ge (b := 3) (by omega) (by omega))) (fun _ => ?_)
      refine wp_aload_n hX (dk DX11_back 38 rfl) rfl ?_
      refine w_getr hX flX11_63 (dk DX11_back 39 rfl) rfl rfl ?_
      refine wp_iload_n hX (dk DX11_back 40 rfl) rfl ?_
      refine wp_aload_n hX (dk DX11_back 41 rfl) rfl ?_
      refine w_getr hX flX11_72 (dk DX11_back 42 rfl) rfl rfl ?_
      refine wp_iload_n hX (dk DX11_back 43 rfl) rfl ?_
      refine w_iald (j := _) hX (dk DX11_back 44 rfl) rfl rfl (show _ < 3 by omega) ?_
      refine w_iast (j := _) hX (dk DX11_back 45 rfl) rfl rfl (show _ < 3 by omega) ?_
      refine wp_iinc hX (dk DX11_back 46 rfl) rfl (nI_inc _) rfl hN ?_
      show WP _ _ _ 80 [_, _] [] _
      refine wp_goto (tgt := 60) hX (dk DX11_back 47 rfl) (by decide) ?_
      exact ih (j + 1) _ (by omega) (fun b a1 a2 a3 a4 => by rw [u2_ne _ _ _ a4]; exact h1 b a1 a2 a3 a4) (fun i a1 => by rw [u2_ne _ _ _ (show (81 : Nat) ≠ 99 by decide)]; exact h2 i a1) (by rw [u2_ne _ _ _ (show (81 : Nat) ≠ 99 by decide)]; exact h3) (fun k => by rw [u2_ne _ _ _ (show (86 : Nat) ≠ 99 by decide), u2_ne _ _ _ (show (87 : Nat) ≠ 99 by decide)]; exact h4 k) (fun k hk => (Classical.em (k = j)).elim (fun e => by rw [e, u2_at, h1 102 (by decide) (by decide) (by decide) (by decide)]) (fun e => by rw [u2_off _ _ _ e]; exact h5 k (by omega)))
  have l1 : ∀ (q j : Nat) (f2 : Nat → Nat → Int32), j + q = m → (∀ b, b ≠ 81 → b ≠ 86 → b ≠ 87 → b ≠ 99 → f2 b = f b) → (∀ i, i ≠ 8 → f2 81 i = f 81 i) → f2 81 8 = f 81 30 → (∀ k, f2 86 k = (if k < j then f 100 k else f 86 k) ∧ f2 87 k = (if k < j then f 101 k else f 87 k)) → f2 99 = f 99 → WP X 0 0 20 [some (.ref 81), some (.int (nI j))] [] (S sw f2 g) := by
    intro q
    induction q with
    | zero =>
      intro j f2 hj h1 h2 h3 h4 h5
      obtain rfl : j = m := by omega
      refine wp_iload_n hX (dk DX11_back 11 rfl) rfl ?_
      refine wp_aload_n hX (dk DX11_back 12 rfl) rfl ?_
      refine w_geti hX flX11_346 (dk DX11_back 13 rfl) (by decide) rfl ?_
      rw [h2 29 (by decide), hm]
      refine wp_icmp_ge (tgt := 58) hX (dk DX11_back 14 rfl) (by decide) (fun _ => ?_) (fun h_ => absurd (nI_le (by omega) (by omega)) h_)
      refine wp_iconst (v := 0) hX (dk DX11_back 33 rfl) (by decide) ?_
      refine wp_istore_n hX (dk DX11_back 34 rfl) rfl rfl hN (Nat.le_of_ble_eq_true rfl) ?_
      show WP _ _ _ 60 [_, _] [] _
      exact l2 3 0 f2 (by decide) h1 h2 h3 h4 (fun k hk => absurd hk (Nat.not_lt_zero _))
    | succ q ih =>
      intro j f2 hj h1 h2 h3 h4 h5
      refine wp_iload_n hX (dk DX11_back 11 rfl) rfl ?_
      refine wp_aload_n hX (dk DX11_back 12 rfl) rfl ?_
      refine w_geti hX flX11_346 (dk DX11_back 13 rfl) (by decide) rfl ?_
      rw [h2 29 (by decide), hm]
      refine wp_icmp_ge (tgt := 58) hX (dk DX11_back 14 rfl) (by decide) (fun h_ => absurd h_ (nI_ge (by omega) (by omega))) (fun _ => ?_)
      refine wp_aload_n hX (dk DX11_back 15 rfl) rfl ?_
      refine w_getr hX flX11_24 (dk DX11_back 16 rfl) rfl rfl ?_
      refine wp_iload_n hX (dk DX11_back 17 rfl) rfl ?_
      refine wp_aload_n hX (dk DX11_back 18 rfl) rfl ?_
      refine w_getr hX flX11_66 (dk DX11_back 19 rfl) rfl rfl ?_
      refine wp_iload_n hX (dk DX11_back 20 rfl) rfl ?_
      refine w_iald (j := _) hX (dk DX11_back 21 rfl) rfl rfl (show _ < 6 by omega) ?_
      refine w_iast (j := _) hX (dk DX11_back 22 rfl) rfl rfl (show _ < 6 by omega) ?_
      refine wp_aload_n hX (dk DX11_back 23 rfl) rfl ?_
      refine w_getr hX flX11_27 (dk DX11_back 24 rfl) rfl rfl ?_
      refine wp_iload_n hX (dk DX11_back 25 rfl) rfl ?_
      refine wp_aload_n hX (dk DX11_back 26 rfl) rfl ?_
      refine w_getr hX flX11_69 (dk DX11_back 27 rfl) rfl rfl ?_
      refine wp_iload_n hX (dk DX11_back 28 rfl) rfl ?_
      refine w_iald (j := _) hX (dk DX11_back 29 rfl) rfl rfl (show _ < 6 by omega) ?_
      refine w_iast (j := _) hX (dk DX11_back 30 rfl) rfl rfl (show _ < 6 by omega) ?_
      refine wp_iinc hX (dk DX11_back 31 rfl) rfl (nI_inc _) rfl hN ?_
      show WP _ _ _ 55 [_, _] [] _
      refine wp_goto (tgt := 20) hX (dk DX11_back 32 rfl) (by decide) ?_
      exact ih (j + 1) _ (by omega) (fun b a1 a2 a3 a4 => by rw [u2_ne _ _ _ a3, u2_ne _ _ _ a2]; exact h1 b a1 a2 a3 a4) (fun i a1 => by rw [u2_ne _ _ _ (show (81 : Nat) ≠ 87 by decide), u2_ne _ _ _ (show (81 : Nat) ≠ 86 by decide)]; exact h2 i a1) (by rw [u2_ne _ _ _ (show (81 : Nat) ≠ 87 by decide), u2_ne _ _ _ (show (81 : Nat) ≠ 86 by decide)]; exact h3) (fun k => (Classical.em (k = j)).elim (fun e => ⟨by rw [e, u2_ne _ _ _ (show (86 : Nat) ≠ 87 by decide), u2_at, if_pos (by omega), h1 100 (by decide) (by decide) (by decide) (by decide)], by rw [e, u2_at, if_pos (by omega), u2_ne _ _ _ (show (101 : Nat) ≠ 86 by decide), h1 101 (by decide) (by decide) (by decide) (by decide)]⟩) (fun e => ⟨by rw [u2_ne _ _ _ (show (86 : Nat) ≠ 87 by decide), u2_off _ _ _ e, (h4 k).1]; simp only [show (k < j) = (k < j + 1) from propext ⟨fun _ => by omega, fun _ => by omega⟩], by rw [u2_off _ _ _ e, u2_ne _ _ _ (show (87 : Nat) ≠ 86 by decide), (h4 k).2]; simp only [show (k < j) = (k < j + 1) from propext ⟨fun _ => by omega, fun _ => by omega⟩]⟩)) (by rw [u2_ne _ _ _ (show (99 : Nat) ≠ 87 by decide), u2_ne _ _ _ (show (99 : Nat) ≠ 86 by decide)]; exact h5)
  refine wp_aload_n hX (dk DX11_back 0 rfl) rfl ?_
  refine w_geti hX flX11_343 (dk DX11_back 1 rfl) (by decide) rfl ?_
  refine wp_if_ne (tgt := 10) hX (dk DX11_back 2 rfl) (by decide) (fun _ => ?_) (fun h_ => absurd h_ (h))
  refine wp_aload_n hX (dk DX11_back 5 rfl) rfl ?_
  refine wp_aload_n hX (dk DX11_back 6 rfl) rfl ?_
  refine w_geti hX flX11_349 (dk DX11_back 7 rfl) (by decide) rfl ?_
  refine w_puti hX fpX11_192 (dk DX11_back 8 rfl) rfl ?_
  refine wp_iconst (v := 0) hX (dk DX11_back 9 rfl) (by decide) ?_
  refine wp_istore_n hX (dk DX11_back 10 rfl) rfl rfl hN (Nat.le_of_ble_eq_true rfl) ?_
  show WP _ _ _ 20 [_, _] [] _
  exact l1 m 0 _ (by omega) (fun b a1 a2 a3 a4 => u2_ne _ _ _ a1) (fun i a1 => u2_off _ _ _ a1) (u2_at _ _ _ _) (fun k => ⟨by rw [if_neg (by omega), u2_ne _ _ _ (show (86 : Nat) ≠ 81 by decide)], by rw [if_neg (by omega), u2_ne _ _ _ (show (87 : Nat) ≠ 81 by decide)]⟩) (u2_ne _ _ _ (show (99 : Nat) ≠ 81 by decide))
