/-! THE LAW: its cases, its loop -/
theorem vp_nI {j n : Nat} (hn : n ≤ 3072) (hj : j < n) : vp_in (nI j) n := by
  rintro (h | h)
  · exact nI_pos (by omega) h
  · rw [nI_clamp (by omega)] at h; omega
theorem law_end {n i : Nat} (hn : n ≤ 3072) (hi : i ≤ n) : (nI n - 6 < nI i) ↔ n < i + 6 := by
  by_cases c : n < 6
  · have key : ∀ n, n < 6 → ∀ i, i < 6 → nI n - 6 < nI i := by decide +kernel
    exact ⟨fun _ => by omega, fun _ => key n c i (by omega)⟩
  · obtain ⟨k, rfl⟩ : ∃ k, n = k + 6 := ⟨n - 6, by omega⟩
    have e : nI (k + 6) - 6 = nI k := by rw [← nI_add]; exact Int32.add_sub_cancel _ _
    rw [e, nI_ltI (by omega) (by omega)]
    omega
section LAW
variable {X : cxT} {C Sl n i d : Nat} {xs : Nat → Int32} {sw : Bool} {f : Nat → Nat → Int32} {g : Nat → Nat → Int64}
/-- where the law goes on -/
def lwK (X : cxT) (C Sl i : Nat) : Prop := ∀ (sw : Bool) (f : Nat → Nat → Int32) (g : Nat → Nat → Int64), IVe f g → WP X C Sl 1627 [some (.ref 1000), some (.ref 0), some (.ref 81), some (.int (nI i))] [] (S sw f g)
theorem lc_224 (hX : Good X RL cL_law (d + 110 + 1) C Sl) (hN : x_nl X = 4) (hs : x_scr X n xs) (hi : i + 6 ≤ n) (hn : n ≤ 3072) (hI : IVe f g) (kk : lwK X C Sl i) : WP X C Sl 224 [some (.ref 1000), some (.ref 0), some (.ref 81), some (.int (nI i))] [] (S sw f g) := by
  obtain ⟨v, hC⟩ := s_figure (xs (nI i + 1).toNatClampNeg) d sw f g hI
  have i1 : vp_in (nI i + 1) n := by rw [show nI i + 1 = nI (i + 1) from nI_add i 1]; exact vp_nI hn (by omega)
  refine wp_aload_n hX (dk DL_law 22 rfl) rfl ?_
  refine wp_aload_n hX (dk DL_law 23 rfl) rfl ?_
  refine wp_iload_n hX (dk DL_law 24 rfl) rfl ?_
  refine wp_iconst (v := 1) hX (dk DL_law 25 rfl) (by decide) ?_
  refine wp_iadd hX (dk DL_law 26 rfl) ?_
  refine wp_sld hX hs (dk DL_law 27 rfl) i1 ?_
  refine w_callVQ (As := [_]) lkL_13 hX (dk DL_law 28 rfl) rfl rfl (by decide) hN (hC) (fun v_a sw_a f_a g_a hq_a => ?_)
  obtain ⟨rfl, hM⟩ := hq_a
  show WP _ _ _ 233 [_, _, _, _] [_] _
  refine wp_aload_n hX (dk DL_law 29 rfl) rfl ?_
  refine wp_aload_n hX (dk DL_law 30 rfl) rfl ?_
  refine wp_iload_n hX (dk DL_law 31 rfl) rfl ?_
  refine wp_iconst (v := 1) hX (dk DL_law 32 rfl) (by decide) ?_
  refine wp_iadd hX (dk DL_law 33 rfl) ?_
  refine wp_sld hX hs (dk DL_law 34 rfl) i1 ?_
  refine w_callVQ (As := [_]) lkL_17 hX (dk DL_law 35 rfl) rfl rfl (by simp [Value.category]) hN (hM) (fun v_b sw_b f_b g_b hq_b => ?_)
  obtain ⟨rfl, hJ⟩ := hq_b
  show WP _ _ _ 242 [_, _, _, _] [_, _] _
  refine wp_icmp_eq (tgt := 1627) hX (dk DL_law 36 rfl) (by decide) (fun _ => ?_) (fun h_ => absurd (rfl) h_)
  exact kk _ _ _ hJ
theorem lc_247 (hX : Good X RL cL_law (d + 110 + 1) C Sl) (hN : x_nl X = 4) (hs : x_scr X n xs) (hi : i + 6 ≤ n) (hn : n ≤ 3072) (hI : IVe f g) (kk : lwK X C Sl i) : WP X C Sl 247 [some (.ref 1000), some (.ref 0), some (.ref 81), some (.int (nI i))] [] (S sw f g) := by
  obtain ⟨v, hC⟩ := s_figures (xs (nI i + 1).toNatClampNeg) (xs (nI i + 2).toNatClampNeg) (xs (nI i + 3).toNatClampNeg) d sw f g hI
  have i1 : vp_in (nI i + 1) n := by rw [show nI i + 1 = nI (i + 1) from nI_add i 1]; exact vp_nI hn (by omega)
  have i2 : vp_in (nI i + 2) n := by rw [show nI i + 2 = nI (i + 2) from nI_add i 2]; exact vp_nI hn (by omega)
  have i3 : vp_in (nI i + 3) n := by rw [show nI i + 3 = nI (i + 3) from nI_add i 3]; exact vp_nI hn (by omega)
  refine wp_aload_n hX (dk DL_law 39 rfl) rfl ?_
  refine wp_aload_n hX (dk DL_law 40 rfl) rfl ?_
  refine wp_iload_n hX (dk DL_law 41 rfl) rfl ?_
  refine wp_iconst (v := 1) hX (dk DL_law 42 rfl) (by decide) ?_
  refine wp_iadd hX (dk DL_law 43 rfl) ?_
  refine wp_sld hX hs (dk DL_law 44 rfl) i1 ?_
  refine wp_aload_n hX (dk DL_law 45 rfl) rfl ?_
  refine wp_iload_n hX (dk DL_law 46 rfl) rfl ?_
  refine wp_iconst (v := 2) hX (dk DL_law 47 rfl) (by decide) ?_
  refine wp_iadd hX (dk DL_law 48 rfl) ?_
  refine wp_sld hX hs (dk DL_law 49 rfl) i2 ?_
  refine wp_aload_n hX (dk DL_law 50 rfl) rfl ?_
  refine wp_iload_n hX (dk DL_law 51 rfl) rfl ?_
  refine wp_iconst (v := 3) hX (dk DL_law 52 rfl) (by decide) ?_
  refine wp_iadd hX (dk DL_law 53 rfl) ?_
  refine wp_sld hX hs (dk DL_law 54 rfl) i3 ?_
  refine w_callVQ (As := [_, _, _]) lkL_18 hX (dk DL_law 55 rfl) rfl rfl (by decide) hN (hC) (fun v_a sw_a f_a g_a hq_a => ?_)
  obtain ⟨rfl, hM⟩ := hq_a
  show WP _ _ _ 266 [_, _, _, _] [_] _
  refine wp_aload_n hX (dk DL_law 56 rfl) rfl ?_
  refine wp_aload_n hX (dk DL_law 57 rfl) rfl ?_
  refine wp_iload_n hX (dk DL_law 58 rfl) rfl ?_
  refine wp_iconst (v := 1) hX (dk DL_law 59 rfl) (by decide) ?_
  refine wp_iadd hX (dk DL_law_1 0 rfl) ?_
  refine wp_sld hX hs (dk DL_law_1 1 rfl) i1 ?_
  refine wp_aload_n hX (dk DL_law_1 2 rfl) rfl ?_
  refine wp_iload_n hX (dk DL_law_1 3 rfl) rfl ?_
  refine wp_iconst (v := 2) hX (dk DL_law_1 4 rfl) (by decide) ?_
  refine wp_iadd hX (dk DL_law_1 5 rfl) ?_
  refine wp_sld hX hs (dk DL_law_1 6 rfl) i2 ?_
  refine wp_aload_n hX (dk DL_law_1 7 rfl) rfl ?_
  refine wp_iload_n hX (dk DL_law_1 8 rfl) rfl ?_
  refine wp_iconst (v := 3) hX (dk DL_law_1 9 rfl) (by decide) ?_
  refine wp_iadd hX (dk DL_law_1 10 rfl) ?_
  refine wp_sld hX hs (dk DL_law_1 11 rfl) i3 ?_
  refine w_callVQ (As := [_, _, _]) lkL_22 hX (dk DL_law_1 12 rfl) rfl rfl (by simp [Value.category]) hN (hM) (fun v_b sw_b f_b g_b hq_b => ?_)
  obtain ⟨rfl, hJ⟩ := hq_b
  show WP _ _ _ 285 [_, _, _, _] [_, _] _
  refine wp_icmp_eq (tgt := 1627) hX (dk DL_law_1 13 rfl) (by decide) (fun _ => ?_) (fun h_ => absurd (rfl) h_)
  exact kk _ _ _ hJ
theorem lc_290 (hX : Good X RL cL_law (d + 110 + 1) C Sl) (hN : x_nl X = 4) (hs : x_scr X n xs) (hi : i + 6 ≤ n) (hn : n ≤ 3072) (hI : IVe f g) (kk : lwK X C Sl i) : WP X C Sl 290 [some (.ref 1000), some (.ref 0), some (.ref 81), some (.int (nI i))] [] (S sw f g) := by
  obtain ⟨v, hC⟩ := s_block (xs (nI i + 1).toNatClampNeg) d sw f g hI
  have i1 : vp_in (nI i + 1) n := by rw [show nI i + 1 = nI (i + 1) from nI_add i 1]; exact vp_nI hn (by omega)
  refine wp_aload_n hX (dk DL_law_1 16 rfl) rfl ?_
  refine wp_aload_n hX (dk DL_law_1 17 rfl) rfl ?_
  refine wp_iload_n hX (dk DL_law_1 18 rfl) rfl ?_
  refine wp_iconst (v := 1) hX (dk DL_law_1 19 rfl) (by decide) ?_
  refine wp_iadd hX (dk DL_law_1 20 rfl) ?_
  refine wp_sld hX hs (dk DL_law_1 21 rfl) i1 ?_
  refine w_callVQ (As := [_]) lkL_23 hX (dk DL_law_1 22 rfl) rfl rfl (by decide) hN (hC) (fun v_a sw_a f_a g_a hq_a => ?_)
  obtain ⟨rfl, hM⟩ := hq_a
  show WP _ _ _ 299 [_, _, _, _] [_] _
  refine wp_aload_n hX (dk DL_law_1 23 rfl) rfl ?_
  refine wp_aload_n hX (dk DL_law_1 24 rfl) rfl ?_
  refine wp_iload_n hX (dk DL_law_1 25 rfl) rfl ?_
  refine wp_iconst (v := 1) hX (dk DL_law_1 26 rfl) (by decide) ?_
  refine wp_iadd hX (dk DL_law_1 27 rfl) ?_
  refine wp_sld hX hs (dk DL_law_1 28 rfl) i1 ?_
  refine w_callVQ (As := [_]) lkL_26 hX (dk DL_law_1 29 rfl) rfl rfl (by simp [Value.category]) hN (hM) (fun v_b sw_b f_b g_b hq_b => ?_)
  obtain ⟨rfl, hJ⟩ := hq_b
  show WP _ _ _ 308 [_, _, _, _] [_, _] _
  refine wp_icmp_eq (tgt := 1627) hX (dk DL_law_1 30 rfl) (by decide) (fun _ => ?_) (fun h_ => absurd (rfl) h_)
  exact kk _ _ _ hJ
theorem lc_313 (hX : Good X RL cL_law (d + 110 + 1) C Sl) (hN : x_nl X = 4) (hs : x_scr X n xs) (hi : i + 6 ≤ n) (hn : n ≤ 3072) (hI : IVe f g) (kk : lwK X C Sl i) : WP X C Sl 313 [some (.ref 1000), some (.ref 0), some (.ref 81), some (.int (nI i))] [] (S sw f g) := by
  obtain ⟨v, hC⟩ := s_mend (xs (nI i + 1).toNatClampNeg) (xs (nI i + 2).toNatClampNeg) (xs (nI i + 3).toNatClampNeg) d sw f g hI
  have i1 : vp_in (nI i + 1) n := by rw [show nI i + 1 = nI (i + 1) from nI_add i 1]; exact vp_nI hn (by omega)
  have i2 : vp_in (nI i + 2) n := by rw [show nI i + 2 = nI (i + 2) from nI_add i 2]; exact vp_nI hn (by omega)
  have i3 : vp_in (nI i + 3) n := by rw [show nI i + 3 = nI (i + 3) from nI_add i 3]; exact vp_nI hn (by omega)
  refine wp_aload_n hX (dk DL_law_1 33 rfl) rfl ?_
  refine wp_aload_n hX (dk DL_law_1 34 rfl) rfl ?_
  refine wp_iload_n hX (dk DL_law_1 35 rfl) rfl ?_
  refine wp_iconst (v := 1) hX (dk DL_law_1 36 rfl) (by decide) ?_
  refine wp_iadd hX (dk DL_law_1 37 rfl) ?_
  refine wp_sld hX hs (dk DL_law_1 38 rfl) i1 ?_
  refine wp_aload_n hX (dk DL_law_1 39 rfl) rfl ?_
  refine wp_iload_n hX (dk DL_law_1 40 rfl) rfl ?_
  refine wp_iconst (v := 2) hX (dk DL_law_1 41 rfl) (by decide) ?_
  refine wp_iadd hX (dk DL_law_1 42 rfl) ?_
  refine wp_sld hX hs (dk DL_law_1 43 rfl) i2 ?_
  refine wp_aload_n hX (dk DL_law_1 44 rfl) rfl ?_
  refine wp_iload_n hX (dk DL_law_1 45 rfl) rfl ?_
  refine wp_iconst (v := 3) hX (dk DL_law_1 46 rfl) (by decide) ?_
  refine wp_iadd hX (dk DL_law_1 47 rfl) ?_
  refine wp_sld hX hs (dk DL_law_1 48 rfl) i3 ?_
  refine w_callVQ (As := [_, _, _]) lkL_27 hX (dk DL_law_1 49 rfl) rfl rfl (by decide) hN (hC) (fun v_a sw_a f_a g_a hq_a => ?_)
  obtain ⟨rfl, hM⟩ := hq_a
  show WP _ _ _ 332 [_, _, _, _] [_] _
  refine wp_aload_n hX (dk DL_law_1 50 rfl) rfl ?_
  refine wp_aload_n hX (dk DL_law_1 51 rfl) rfl ?_
  refine wp_iload_n hX (dk DL_law_1 52 rfl) rfl ?_
  refine wp_iconst (v := 1) hX (dk DL_law_1 53 rfl) (by decide) ?_
  refine wp_iadd hX (dk DL_law_1 54 rfl) ?_
  refine wp_sld hX hs (dk DL_law_1 55 rfl) i1 ?_
  refine wp_aload_n hX (dk DL_law_1 56 rfl) rfl ?_
  refine wp_iload_n hX (dk DL_law_1 57 rfl) rfl ?_
  refine wp_iconst (v := 2) hX (dk DL_law_1 58 rfl) (by decide) ?_
  refine wp_iadd hX (dk DL_law_1 59 rfl) ?_
  refine wp_sld hX hs (dk DL_law_2 0 rfl) i2 ?_
  refine wp_aload_n hX (dk DL_law_2 1 rfl) rfl ?_
  refine wp_iload_n hX (dk DL_law_2 2 rfl) rfl ?_
  refine wp_iconst (v := 3) hX (dk DL_law_2 3 rfl) (by decide) ?_
  refine wp_iadd hX (dk DL_law_2 4 rfl) ?_
  refine wp_sld hX hs (dk DL_law_2 5 rfl) i3 ?_
  refine w_callVQ (As := [_, _, _]) lkL_30 hX (dk DL_law_2 6 rfl) rfl rfl (by simp [Value.category]) hN (hM) (fun v_b sw_b f_b g_b hq_b => ?_)
  obtain ⟨rfl, hJ⟩ := hq_b
  show WP _ _ _ 351 [_, _, _, _] [_, _] _
  refine wp_icmp_eq (tgt := 1627) hX (dk DL_law_2 7 rfl) (by decide) (fun _ => ?_) (fun h_ => absurd (rfl) h_)
  exact kk _ _ _ hJ
theorem lc_356 (hX : Good X RL cL_law (d + 110 + 1) C Sl) (hN : x_nl X = 4) (hs : x_scr X n xs) (hi : i + 6 ≤ n) (hn : n ≤ 3072) (hI : IVe f g) (kk : lwK X C Sl i) : WP X C Sl 356 [some (.ref 1000), some (.ref 0), some (.ref 81), some (.int (nI i))] [] (S sw f g) := by
  obtain ⟨v, hC⟩ := s_of (xs (nI i + 1).toNatClampNeg) (xs (nI i + 2).toNatClampNeg) d sw f g hI
  have i1 : vp_in (nI i + 1) n := by rw [show nI i + 1 = nI (i + 1) from nI_add i 1]; exact vp_nI hn (by omega)
  have i2 : vp_in (nI i + 2) n := by rw [show nI i + 2 = nI (i + 2) from nI_add i 2]; exact vp_nI hn (by omega)
  refine wp_aload_n hX (dk DL_law_2 10 rfl) rfl ?_
  refine wp_aload_n hX (dk DL_law_2 11 rfl) rfl ?_
  refine wp_iload_n hX (dk DL_law_2 12 rfl) rfl ?_
  refine wp_iconst (v := 1) hX (dk DL_law_2 13 rfl) (by decide) ?_
  refine wp_iadd hX (dk DL_law_2 14 rfl) ?_
  refine wp_sld hX hs (dk DL_law_2 15 rfl) i1 ?_
  refine wp_aload_n hX (dk DL_law_2 16 rfl) rfl ?_
  refine wp_iload_n hX (dk DL_law_2 17 rfl) rfl ?_
  refine wp_iconst (v := 2) hX (dk DL_law_2 18 rfl) (by decide) ?_
  refine wp_iadd hX (dk DL_law_2 19 rfl) ?_
  refine wp_sld hX hs (dk DL_law_2 20 rfl) i2 ?_
  refine w_callVQ (As := [_, _]) lkL_31 hX (dk DL_law_2 21 rfl) rfl rfl (by decide) hN (hC) (fun v_a sw_a f_a g_a hq_a => ?_)
  obtain ⟨rfl, hM⟩ := hq_a
  show WP _ _ _ 370 [_, _, _, _] [_] _
  refine wp_aload_n hX (dk DL_law_2 22 rfl) rfl ?_
  refine wp_aload_n hX (dk DL_law_2 23 rfl) rfl ?_
  refine wp_iload_n hX (dk DL_law_2 24 rfl) rfl ?_
  refine wp_iconst (v := 1) hX (dk DL_law_2 25 rfl) (by decide) ?_
  refine wp_iadd hX (dk DL_law_2 26 rfl) ?_
  refine wp_sld hX hs (dk DL_law_2 27 rfl) i1 ?_
  refine wp_aload_n hX (dk DL_law_2 28 rfl) rfl ?_
  refine wp_iload_n hX (dk DL_law_2 29 rfl) rfl ?_
  refine wp_iconst (v := 2) hX (dk DL_law_2 30 rfl) (by decide) ?_
  refine wp_iadd hX (dk DL_law_2 31 rfl) ?_
  refine wp_sld hX hs (dk DL_law_2 32 rfl) i2 ?_
  refine w_callVQ (As := [_, _]) lkL_35 hX (dk DL_law_2 33 rfl) rfl rfl (by simp [Value.category]) hN (hM) (fun v_b sw_b f_b g_b hq_b => ?_)
  obtain ⟨rfl, hJ⟩ := hq_b
  show WP _ _ _ 384 [_, _, _, _] [_, _] _
  refine wp_icmp_eq (tgt := 1627) hX (dk DL_law_2 34 rfl) (by decide) (fun _ => ?_) (fun h_ => absurd (rfl) h_)
  exact kk _ _ _ hJ
theorem lc_389 (hX : Good X RL cL_law (d + 110 + 1) C Sl) (hN : x_nl X = 4) (hs : x_scr X n xs) (hi : i + 6 ≤ n) (hn : n ≤ 3072) (hI : IVe f g) (kk : lwK X C Sl i) : WP X C Sl 389 [some (.ref 1000), some (.ref 0), some (.ref 81), some (.int (nI i))] [] (S sw f g) := by
  obtain ⟨v, hC⟩ := s_feed (xs (nI i + 1).toNatClampNeg) d sw f g hI
  have i1 : vp_in (nI i + 1) n := by rw [show nI i + 1 = nI (i + 1) from nI_add i 1]; exact vp_nI hn (by omega)
  refine wp_aload_n hX (dk DL_law_2 37 rfl) rfl ?_
  refine wp_aload_n hX (dk DL_law_2 38 rfl) rfl ?_
  refine wp_iload_n hX (dk DL_law_2 39 rfl) rfl ?_
  refine wp_iconst (v := 1) hX (dk DL_law_2 40 rfl) (by decide) ?_
  refine wp_iadd hX (dk DL_law_2 41 rfl) ?_
  refine wp_sld hX hs (dk DL_law_2 42 rfl) i1 ?_
  refine w_callVQ (As := [_]) lkL_36 hX (dk DL_law_2 43 rfl) rfl rfl (by decide) hN (hC) (fun v_a sw_a f_a g_a hq_a => ?_)
  obtain ⟨rfl, hM⟩ := hq_a
  show WP _ _ _ 398 [_, _, _, _] [_] _
  refine wp_aload_n hX (dk DL_law_2 44 rfl) rfl ?_
  refine wp_aload_n hX (dk DL_law_2 45 rfl) rfl ?_
  refine wp_iload_n hX (dk DL_law_2 46 rfl) rfl ?_
  refine wp_iconst (v := 1) hX (dk DL_law_2 47 rfl) (by decide) ?_
  refine wp_iadd hX (dk DL_law_2 48 rfl) ?_
  refine wp_sld hX hs (dk DL_law_2 49 rfl) i1 ?_
  refine w_callVQ (As := [_]) lkL_39 hX (dk DL_law_2 50 rfl) rfl rfl (by simp [Value.category]) hN (hM) (fun v_b sw_b f_b g_b hq_b => ?_)
  obtain ⟨rfl, hJ⟩ := hq_b
  show WP _ _ _ 407 [_, _, _, _] [_, _] _
  refine wp_icmp_eq (tgt := 1627) hX (dk DL_law_2 51 rfl) (by decide) (fun _ => ?_) (fun h_ => absurd (rfl) h_)
  exact kk _ _ _ hJ
theorem lc_412 (hX : Good X RL cL_law (d + 110 + 1) C Sl) (hN : x_nl X = 4) (hs : x_scr X n xs) (hi : i + 6 ≤ n) (hn : n ≤ 3072) (hI : IVe f g) (kk : lwK X C Sl i) : WP X C Sl 412 [some (.ref 1000), some (.ref 0), some (.ref 81), some (.int (nI i))] [] (S sw f g) := by
  obtain ⟨v, hC⟩ := s_law  d sw f g hI
  refine wp_aload_n hX (dk DL_law_2 54 rfl) rfl ?_
  refine w_callVQ (As := []) lkL_40 hX (dk DL_law_2 55 rfl) rfl rfl (by decide) hN (hC) (fun v_a sw_a f_a g_a hq_a => ?_)
  obtain ⟨rfl, hM⟩ := hq_a
  show WP _ _ _ 416 [_, _, _, _] [_] _
  refine wp_aload_n hX (dk DL_law_2 56 rfl) rfl ?_
  refine w_callVQ (As := []) lkL_44 hX (dk DL_law_2 57 rfl) rfl rfl (by simp [Value.category]) hN (hM) (fun v_b sw_b f_b g_b hq_b => ?_)
  obtain ⟨rfl, hJ⟩ := hq_b
  show WP _ _ _ 420 [_, _, _, _] [_, _] _
  refine wp_icmp_eq (tgt := 1627) hX (dk DL_law_2 58 rfl) (by decide) (fun _ => ?_) (fun h_ => absurd (rfl) h_)
  exact kk _ _ _ hJ
theorem lc_425 (hX : Good X RL cL_law (d + 110 + 1) C Sl) (hN : x_nl X = 4) (hs : x_scr X n xs) (hi : i + 6 ≤ n) (hn : n ≤ 3072) (hI : IVe f g) (kk : lwK X C Sl i) : WP X C Sl 425 [some (.ref 1000), some (.ref 0), some (.ref 81), some (.int (nI i))] [] (S sw f g) := by
  obtain ⟨v, hC⟩ := s_brings (xs (nI i + 1).toNatClampNeg) (xs (nI i + 2).toNatClampNeg) (xs (nI i + 3).toNatClampNeg) d sw f g hI
  have i1 : vp_in (nI i + 1) n := by rw [show nI i + 1 = nI (i + 1) from nI_add i 1]; exact vp_nI hn (by omega)
  have i2 : vp_in (nI i + 2) n := by rw [show nI i + 2 = nI (i + 2) from nI_add i 2]; exact vp_nI hn (by omega)
  have i3 : vp_in (nI i + 3) n := by rw [show nI i + 3 = nI (i + 3) from nI_add i 3]; exact vp_nI hn (by omega)
  refine wp_aload_n hX (dk DL_law_3 1 rfl) rfl ?_
  refine wp_aload_n hX (dk DL_law_3 2 rfl) rfl ?_
  refine wp_iload_n hX (dk DL_law_3 3 rfl) rfl ?_
  refine wp_iconst (v := 1) hX (dk DL_law_3 4 rfl) (by decide) ?_
  refine wp_iadd hX (dk DL_law_3 5 rfl) ?_
  refine wp_sld hX hs (dk DL_law_3 6 rfl) i1 ?_
  refine wp_aload_n hX (dk DL_law_3 7 rfl) rfl ?_
  refine wp_iload_n hX (dk DL_law_3 8 rfl) rfl ?_
  refine wp_iconst (v := 2) hX (dk DL_law_3 9 rfl) (by decide) ?_
  refine wp_iadd hX (dk DL_law_3 10 rfl) ?_
  refine wp_sld hX hs (dk DL_law_3 11 rfl) i2 ?_
  refine wp_aload_n hX (dk DL_law_3 12 rfl) rfl ?_
  refine wp_iload_n hX (dk DL_law_3 13 rfl) rfl ?_
  refine wp_iconst (v := 3) hX (dk DL_law_3 14 rfl) (by decide) ?_
  refine wp_iadd hX (dk DL_law_3 15 rfl) ?_
  refine wp_sld hX hs (dk DL_law_3 16 rfl) i3 ?_
  refine w_callVQ (As := [_, _, _]) lkL_45 hX (dk DL_law_3 17 rfl) rfl rfl (by decide) hN (hC) (fun v_a sw_a f_a g_a hq_a => ?_)
  obtain ⟨rfl, hM⟩ := hq_a
  show WP _ _ _ 444 [_, _, _, _] [_] _
  refine wp_aload_n hX (dk DL_law_3 18 rfl) rfl ?_
  refine wp_aload_n hX (dk DL_law_3 19 rfl) rfl ?_
  refine wp_iload_n hX (dk DL_law_3 20 rfl) rfl ?_
  refine wp_iconst (v := 1) hX (dk DL_law_3 21 rfl) (by decide) ?_
  refine wp_iadd hX (dk DL_law_3 22 rfl) ?_
  refine wp_sld hX hs (dk DL_law_3 23 rfl) i1 ?_
  refine wp_aload_n hX (dk DL_law_3 24 rfl) rfl ?_
  refine wp_iload_n hX (dk DL_law_3 25 rfl) rfl ?_
  refine wp_iconst (v := 2) hX (dk DL_law_3 26 rfl) (by decide) ?_
  refine wp_iadd hX (dk DL_law_3 27 rfl) ?_
  refine wp_sld hX hs (dk DL_law_3 28 rfl) i2 ?_
  refine wp_aload_n hX (dk DL_law_3 29 rfl) rfl ?_
  refine wp_iload_n hX (dk DL_law_3 30 rfl) rfl ?_
  refine wp_iconst (v := 3) hX (dk DL_law_3 31 rfl) (by decide) ?_
  refine wp_iadd hX (dk DL_law_3 32 rfl) ?_
  refine wp_sld hX hs (dk DL_law_3 33 rfl) i3 ?_
  refine w_callVQ (As := [_, _, _]) lkL_48 hX (dk DL_law_3 34 rfl) rfl rfl (by simp [Value.category]) hN (hM) (fun v_b sw_b f_b g_b hq_b => ?_)
  obtain ⟨rfl, hJ⟩ := hq_b
  show WP _ _ _ 463 [_, _, _, _] [_, _] _
  refine wp_icmp_eq (tgt := 1627) hX (dk DL_law_3 35 rfl) (by decide) (fun _ => ?_) (fun h_ => absurd (rfl) h_)
  exact kk _ _ _ hJ
theorem lc_468 (hX : Good X RL cL_law (d + 110 + 1) C Sl) (hN : x_nl X = 4) (hs : x_scr X n xs) (hi : i + 6 ≤ n) (hn : n ≤ 3072) (hI : IVe f g) (kk : lwK X C Sl i) : WP X C Sl 468 [some (.ref 1000), some (.ref 0), some (.ref 81), some (.int (nI i))] [] (S sw f g) := by
  obtain ⟨v, hC⟩ := s_size (xs (nI i + 1).toNatClampNeg) (xs (nI i + 2).toNatClampNeg) d sw f g hI
  have i1 : vp_in (nI i + 1) n := by rw [show nI i + 1 = nI (i + 1) from nI_add i 1]; exact vp_nI hn (by omega)
  have i2 : vp_in (nI i + 2) n := by rw [show nI i + 2 = nI (i + 2) from nI_add i 2]; exact vp_nI hn (by omega)
  refine wp_aload_n hX (dk DL_law_3 38 rfl) rfl ?_
  refine wp_aload_n hX (dk DL_law_3 39 rfl) rfl ?_
  refine wp_iload_n hX (dk DL_law_3 40 rfl) rfl ?_
  refine wp_iconst (v := 1) hX (dk DL_law_3 41 rfl) (by decide) ?_
  refine wp_iadd hX (dk DL_law_3 42 rfl) ?_
  refine wp_sld hX hs (dk DL_law_3 43 rfl) i1 ?_
  refine wp_aload_n hX (dk DL_law_3 44 rfl) rfl ?_
  refine wp_iload_n hX (dk DL_law_3 45 rfl) rfl ?_
  refine wp_iconst (v := 2) hX (dk DL_law_3 46 rfl) (by decide) ?_
  refine wp_iadd hX (dk DL_law_3 47 rfl) ?_
  refine wp_sld hX hs (dk DL_law_3 48 rfl) i2 ?_
  refine w_callVQ (As := [_, _]) lkL_49 hX (dk DL_law_3 49 rfl) rfl rfl (by decide) hN (hC) (fun v_a sw_a f_a g_a hq_a => ?_)
  obtain ⟨rfl, hM⟩ := hq_a
  show WP _ _ _ 482 [_, _, _, _] [_] _
  refine wp_aload_n hX (dk DL_law_3 50 rfl) rfl ?_
  refine wp_aload_n hX (dk DL_law_3 51 rfl) rfl ?_
  refine wp_iload_n hX (dk DL_law_3 52 rfl) rfl ?_
  refine wp_iconst (v := 1) hX (dk DL_law_3 53 rfl) (by decide) ?_
  refine wp_iadd hX (dk DL_law_3 54 rfl) ?_
  refine wp_sld hX hs (dk DL_law_3 55 rfl) i1 ?_
  refine wp_aload_n hX (dk DL_law_3 56 rfl) rfl ?_
  refine wp_iload_n hX (dk DL_law_3 57 rfl) rfl ?_
  refine wp_iconst (v := 2) hX (dk DL_law_3 58 rfl) (by decide) ?_
  refine wp_iadd hX (dk DL_law_3 59 rfl) ?_
  refine wp_sld hX hs (dk DL_law_4 0 rfl) i2 ?_
  refine w_callVQ (As := [_, _]) lkL_52 hX (dk DL_law_4 1 rfl) rfl rfl (by simp [Value.category]) hN (hM) (fun v_b sw_b f_b g_b hq_b => ?_)
  obtain ⟨rfl, hJ⟩ := hq_b
  show WP _ _ _ 496 [_, _, _, _] [_, _] _
  refine wp_icmp_eq (tgt := 1627) hX (dk DL_law_4 2 rfl) (by decide) (fun _ => ?_) (fun h_ => absurd (rfl) h_)
  exact kk _ _ _ hJ
theorem lc_501 (hX : Good X RL cL_law (d + 110 + 1) C Sl) (hN : x_nl X = 4) (hs : x_scr X n xs) (hi : i + 6 ≤ n) (hn : n ≤ 3072) (hI : IVe f g) (kk : lwK X C Sl i) : WP X C Sl 501 [some (.ref 1000), some (.ref 0), some (.ref 81), some (.int (nI i))] [] (S sw f g) := by
  obtain ⟨v, hC⟩ := s_turned (xs (nI i + 1).toNatClampNeg) (xs (nI i + 2).toNatClampNeg) d sw f g hI
  have i1 : vp_in (nI i + 1) n := by rw [show nI i + 1 = nI (i + 1) from nI_add i 1]; exact vp_nI hn (by omega)
  have i2 : vp_in (nI i + 2) n := by rw [show nI i + 2 = nI (i + 2) from nI_add i 2]; exact vp_nI hn (by omega)
  refine wp_aload_n hX (dk DL_law_4 5 rfl) rfl ?_
  refine wp_aload_n hX (dk DL_law_4 6 rfl) rfl ?_
  refine wp_iload_n hX (dk DL_law_4 7 rfl) rfl ?_
  refine wp_iconst (v := 1) hX (dk DL_law_4 8 rfl) (by decide) ?_
  refine wp_iadd hX (dk DL_law_4 9 rfl) ?_
  refine wp_sld hX hs (dk DL_law_4 10 rfl) i1 ?_
  refine wp_aload_n hX (dk DL_law_4 11 rfl) rfl ?_
  refine wp_iload_n hX (dk DL_law_4 12 rfl) rfl ?_
  refine wp_iconst (v := 2) hX (dk DL_law_4 13 rfl) (by decide) ?_
  refine wp_iadd hX (dk DL_law_4 14 rfl) ?_
  refine wp_sld hX hs (dk DL_law_4 15 rfl) i2 ?_
  refine w_callVQ (As := [_, _]) lkL_53 hX (dk DL_law_4 16 rfl) rfl rfl (by decide) hN (hC) (fun v_a sw_a f_a g_a hq_a => ?_)
  obtain ⟨rfl, hM⟩ := hq_a
  show WP _ _ _ 515 [_, _, _, _] [_] _
  refine wp_aload_n hX (dk DL_law_4 17 rfl) rfl ?_
  refine wp_aload_n hX (dk DL_law_4 18 rfl) rfl ?_
  refine wp_iload_n hX (dk DL_law_4 19 rfl) rfl ?_
  refine wp_iconst (v := 1) hX (dk DL_law_4 20 rfl) (by decide) ?_
  refine wp_iadd hX (dk DL_law_4 21 rfl) ?_
  refine wp_sld hX hs (dk DL_law_4 22 rfl) i1 ?_
  refine wp_aload_n hX (dk DL_law_4 23 rfl) rfl ?_
  refine wp_iload_n hX (dk DL_law_4 24 rfl) rfl ?_
  refine wp_iconst (v := 2) hX (dk DL_law_4 25 rfl) (by decide) ?_
  refine wp_iadd hX (dk DL_law_4 26 rfl) ?_
  refine wp_sld hX hs (dk DL_law_4 27 rfl) i2 ?_
  refine w_callVQ (As := [_, _]) lkL_56 hX (dk DL_law_4 28 rfl) rfl rfl (by simp [Value.category]) hN (hM) (fun v_b sw_b f_b g_b hq_b => ?_)
  obtain ⟨rfl, hJ⟩ := hq_b
  show WP _ _ _ 529 [_, _, _, _] [_, _] _
  refine wp_icmp_eq (tgt := 1627) hX (dk DL_law_4 29 rfl) (by decide) (fun _ => ?_) (fun h_ => absurd (rfl) h_)
  exact kk _ _ _ hJ
theorem lc_534 (hX : Good X RL cL_law (d + 110 + 1) C Sl) (hN : x_nl X = 4) (hs : x_scr X n xs) (hi : i + 6 ≤ n) (hn : n ≤ 3072) (hI : IVe f g) (kk : lwK X C Sl i) : WP X C Sl 534 [some (.ref 1000), some (.ref 0), some (.ref 81), some (.int (nI i))] [] (S sw f g) := by
  obtain ⟨v, hC⟩ := s_ways (xs (nI i + 1).toNatClampNeg) (xs (nI i + 2).toNatClampNeg) d sw f g hI
  have i1 : vp_in (nI i + 1) n := by rw [show nI i + 1 = nI (i + 1) from nI_add i 1]; exact vp_nI hn (by omega)
  have i2 : vp_in (nI i + 2) n := by rw [show nI i + 2 = nI (i + 2) from nI_add i 2]; exact vp_nI hn (by omega)
  refine wp_aload_n hX (dk DL_law_4 32 rfl) rfl ?_
  refine wp_aload_n hX (dk DL_law_4 33 rfl) rfl ?_
  refine wp_iload_n hX (dk DL_law_4 34 rfl) rfl ?_
  refine wp_iconst (v := 1) hX (dk DL_law_4 35 rfl) (by decide) ?_
  refine wp_iadd hX (dk DL_law_4 36 rfl) ?_
  refine wp_sld hX hs (dk DL_law_4 37 rfl) i1 ?_
  refine wp_aload_n hX (dk DL_law_4 38 rfl) rfl ?_
  refine wp_iload_n hX (dk DL_law_4 39 rfl) rfl ?_
  refine wp_iconst (v := 2) hX (dk DL_law_4 40 rfl) (by decide) ?_
  refine wp_iadd hX (dk DL_law_4 41 rfl) ?_
  refine wp_sld hX hs (dk DL_law_4 42 rfl) i2 ?_
  refine w_callVQ (As := [_, _]) lkL_57 hX (dk DL_law_4 43 rfl) rfl rfl (by decide) hN (hC) (fun v_a sw_a f_a g_a hq_a => ?_)
  obtain ⟨rfl, hM⟩ := hq_a
  show WP _ _ _ 548 [_, _, _, _] [_] _
  refine wp_aload_n hX (dk DL_law_4 44 rfl) rfl ?_
  refine wp_aload_n hX (dk DL_law_4 45 rfl) rfl ?_
  refine wp_iload_n hX (dk DL_law_4 46 rfl) rfl ?_
  refine wp_iconst (v := 1) hX (dk DL_law_4 47 rfl) (by decide) ?_
  refine wp_iadd hX (dk DL_law_4 48 rfl) ?_
  refine wp_sld hX hs (dk DL_law_4 49 rfl) i1 ?_
  refine wp_aload_n hX (dk DL_law_4 50 rfl) rfl ?_
  refine wp_iload_n hX (dk DL_law_4 51 rfl) rfl ?_
  refine wp_iconst (v := 2) hX (dk DL_law_4 52 rfl) (by decide) ?_
  refine wp_iadd hX (dk DL_law_4 53 rfl) ?_
  refine wp_sld hX hs (dk DL_law_4 54 rfl) i2 ?_
  refine w_callVQ (As := [_, _]) lkL_60 hX (dk DL_law_4 55 rfl) rfl rfl (by simp [Value.category]) hN (hM) (fun v_b sw_b f_b g_b hq_b => ?_)
  obtain ⟨rfl, hJ⟩ := hq_b
  show WP _ _ _ 562 [_, _, _, _] [_, _] _
  refine wp_icmp_eq (tgt := 1627) hX (dk DL_law_4 56 rfl) (by decide) (fun _ => ?_) (fun h_ => absurd (rfl) h_)
  exact kk _ _ _ hJ
theorem lc_567 (hX : Good X RL cL_law (d + 110 + 1) C Sl) (hN : x_nl X = 4) (hs : x_scr X n xs) (hi : i + 6 ≤ n) (hn : n ≤ 3072) (hI : IVe f g) (kk : lwK X C Sl i) : WP X C Sl 567 [some (.ref 1000), some (.ref 0), some (.ref 81), some (.int (nI i))] [] (S sw f g) := by
  obtain ⟨v, hC⟩ := s_inside (xs (nI i + 1).toNatClampNeg) d sw f g hI
  have i1 : vp_in (nI i + 1) n := by rw [show nI i + 1 = nI (i + 1) from nI_add i 1]; exact vp_nI hn (by omega)
  refine wp_aload_n hX (dk DL_law_4 59 rfl) rfl ?_
  refine wp_aload_n hX (dk DL_law_5 0 rfl) rfl ?_
  refine wp_iload_n hX (dk DL_law_5 1 rfl) rfl ?_
  refine wp_iconst (v := 1) hX (dk DL_law_5 2 rfl) (by decide) ?_
  refine wp_iadd hX (dk DL_law_5 3 rfl) ?_
  refine wp_sld hX hs (dk DL_law_5 4 rfl) i1 ?_
  refine w_callVQ (As := [_]) lkL_61 hX (dk DL_law_5 5 rfl) rfl rfl (by decide) hN (hC) (fun v_a sw_a f_a g_a hq_a => ?_)
  obtain ⟨rfl, hM⟩ := hq_a
  show WP _ _ _ 576 [_, _, _, _] [_] _
  refine wp_aload_n hX (dk DL_law_5 6 rfl) rfl ?_
  refine wp_aload_n hX (dk DL_law_5 7 rfl) rfl ?_
  refine wp_iload_n hX (dk DL_law_5 8 rfl) rfl ?_
  refine wp_iconst (v := 1) hX (dk DL_law_5 9 rfl) (by decide) ?_
  refine wp_iadd hX (dk DL_law_5 10 rfl) ?_
  refine wp_sld hX hs (dk DL_law_5 11 rfl) i1 ?_
  refine w_callVQ (As := [_]) lkL_64 hX (dk DL_law_5 12 rfl) rfl rfl (by simp [Value.category]) hN (hM) (fun v_b sw_b f_b g_b hq_b => ?_)
  obtain ⟨rfl, hJ⟩ := hq_b
  show WP _ _ _ 585 [_, _, _, _] [_, _] _
  refine wp_icmp_eq (tgt := 1627) hX (dk DL_law_5 13 rfl) (by decide) (fun _ => ?_) (fun h_ => absurd (rfl) h_)
  exact kk _ _ _ hJ
theorem lc_590 (hX : Good X RL cL_law (d + 110 + 1) C Sl) (hN : x_nl X = 4) (hs : x_scr X n xs) (hi : i + 6 ≤ n) (hn : n ≤ 3072) (hI : IVe f g) (kk : lwK X C Sl i) : WP X C Sl 590 [some (.ref 1000), some (.ref 0), some (.ref 81), some (.int (nI i))] [] (S sw f g) := by
  obtain ⟨v, hC⟩ := s_around (xs (nI i + 1).toNatClampNeg) (xs (nI i + 2).toNatClampNeg) d sw f g hI
  have i1 : vp_in (nI i + 1) n := by rw [show nI i + 1 = nI (i + 1) from nI_add i 1]; exact vp_nI hn (by omega)
  have i2 : vp_in (nI i + 2) n := by rw [show nI i + 2 = nI (i + 2) from nI_add i 2]; exact vp_nI hn (by omega)
  refine wp_aload_n hX (dk DL_law_5 16 rfl) rfl ?_
  refine wp_aload_n hX (dk DL_law_5 17 rfl) rfl ?_
  refine wp_iload_n hX (dk DL_law_5 18 rfl) rfl ?_
  refine wp_iconst (v := 1) hX (dk DL_law_5 19 rfl) (by decide) ?_
  refine wp_iadd hX (dk DL_law_5 20 rfl) ?_
  refine wp_sld hX hs (dk DL_law_5 21 rfl) i1 ?_
  refine wp_aload_n hX (dk DL_law_5 22 rfl) rfl ?_
  refine wp_iload_n hX (dk DL_law_5 23 rfl) rfl ?_
  refine wp_iconst (v := 2) hX (dk DL_law_5 24 rfl) (by decide) ?_
  refine wp_iadd hX (dk DL_law_5 25 rfl) ?_
  refine wp_sld hX hs (dk DL_law_5 26 rfl) i2 ?_
  refine w_callVQ (As := [_, _]) lkL_65 hX (dk DL_law_5 27 rfl) rfl rfl (by decide) hN (hC) (fun v_a sw_a f_a g_a hq_a => ?_)
  obtain ⟨rfl, hM⟩ := hq_a
  show WP _ _ _ 604 [_, _, _, _] [_] _
  refine wp_aload_n hX (dk DL_law_5 28 rfl) rfl ?_
  refine wp_aload_n hX (dk DL_law_5 29 rfl) rfl ?_
  refine wp_iload_n hX (dk DL_law_5 30 rfl) rfl ?_
  refine wp_iconst (v := 1) hX (dk DL_law_5 31 rfl) (by decide) ?_
  refine wp_iadd hX (dk DL_law_5 32 rfl) ?_
  refine wp_sld hX hs (dk DL_law_5 33 rfl) i1 ?_
  refine wp_aload_n hX (dk DL_law_5 34 rfl) rfl ?_
  refine wp_iload_n hX (dk DL_law_5 35 rfl) rfl ?_
  refine wp_iconst (v := 2) hX (dk DL_law_5 36 rfl) (by decide) ?_
  refine wp_iadd hX (dk DL_law_5 37 rfl) ?_
  refine wp_sld hX hs (dk DL_law_5 38 rfl) i2 ?_
  refine w_callVQ (As := [_, _]) lkL_68 hX (dk DL_law_5 39 rfl) rfl rfl (by simp [Value.category]) hN (hM) (fun v_b sw_b f_b g_b hq_b => ?_)
  obtain ⟨rfl, hJ⟩ := hq_b
  show WP _ _ _ 618 [_, _, _, _] [_, _] _
  refine wp_icmp_eq (tgt := 1627) hX (dk DL_law_5 40 rfl) (by decide) (fun _ => ?_) (fun h_ => absurd (rfl) h_)
  exact kk _ _ _ hJ
theorem lc_623 (hX : Good X RL cL_law (d + 110 + 1) C Sl) (hN : x_nl X = 4) (hs : x_scr X n xs) (hi : i + 6 ≤ n) (hn : n ≤ 3072) (hI : IVe f g) (kk : lwK X C Sl i) : WP X C Sl 623 [some (.ref 1000), some (.ref 0), some (.ref 81), some (.int (nI i))] [] (S sw f g) := by
  obtain ⟨v, hC⟩ := s_common (xs (nI i + 1).toNatClampNeg) d sw f g hI
  have i1 : vp_in (nI i + 1) n := by rw [show nI i + 1 = nI (i + 1) from nI_add i 1]; exact vp_nI hn (by omega)
  refine wp_aload_n hX (dk DL_law_5 43 rfl) rfl ?_
  refine wp_aload_n hX (dk DL_law_5 44 rfl) rfl ?_
  refine wp_iload_n hX (dk DL_law_5 45 rfl) rfl ?_
  refine wp_iconst (v := 1) hX (dk DL_law_5 46 rfl) (by decide) ?_
  refine wp_iadd hX (dk DL_law_5 47 rfl) ?_
  refine wp_sld hX hs (dk DL_law_5 48 rfl) i1 ?_
  refine w_callVQ (As := [_]) lkL_69 hX (dk DL_law_5 49 rfl) rfl rfl (by decide) hN (hC) (fun v_a sw_a f_a g_a hq_a => ?_)
  obtain ⟨rfl, hM⟩ := hq_a
  show WP _ _ _ 632 [_, _, _, _] [_] _
  refine wp_aload_n hX (dk DL_law_5 50 rfl) rfl ?_
  refine wp_aload_n hX (dk DL_law_5 51 rfl) rfl ?_
  refine wp_iload_n hX (dk DL_law_5 52 rfl) rfl ?_
  refine wp_iconst (v := 1) hX (dk DL_law_5 53 rfl) (by decide) ?_
  refine wp_iadd hX (dk DL_law_5 54 rfl) ?_
  refine wp_sld hX hs (dk DL_law_5 55 rfl) i1 ?_
  refine w_callVQ (As := [_]) lkL_72 hX (dk DL_law_5 56 rfl) rfl rfl (by simp [Value.category]) hN (hM) (fun v_b sw_b f_b g_b hq_b => ?_)
  obtain ⟨rfl, hJ⟩ := hq_b
  show WP _ _ _ 641 [_, _, _, _] [_, _] _
  refine wp_icmp_eq (tgt := 1627) hX (dk DL_law_5 57 rfl) (by decide) (fun _ => ?_) (fun h_ => absurd (rfl) h_)
  exact kk _ _ _ hJ
theorem lc_646 (hX : Good X RL cL_law (d + 110 + 1) C Sl) (hN : x_nl X = 4) (hs : x_scr X n xs) (hi : i + 6 ≤ n) (hn : n ≤ 3072) (hI : IVe f g) (kk : lwK X C Sl i) : WP X C Sl 646 [some (.ref 1000), some (.ref 0), some (.ref 81), some (.int (nI i))] [] (S sw f g) := by
  obtain ⟨v, hC⟩ := s_longest (xs (nI i + 1).toNatClampNeg) (xs (nI i + 2).toNatClampNeg) d sw f g hI
  have i1 : vp_in (nI i + 1) n := by rw [show nI i + 1 = nI (i + 1) from nI_add i 1]; exact vp_nI hn (by omega)
  have i2 : vp_in (nI i + 2) n := by rw [show nI i + 2 = nI (i + 2) from nI_add i 2]; exact vp_nI hn (by omega)
  refine wp_aload_n hX (dk DL_law_6 0 rfl) rfl ?_
  refine wp_aload_n hX (dk DL_law_6 1 rfl) rfl ?_
  refine wp_iload_n hX (dk DL_law_6 2 rfl) rfl ?_
  refine wp_iconst (v := 1) hX (dk DL_law_6 3 rfl) (by decide) ?_
  refine wp_iadd hX (dk DL_law_6 4 rfl) ?_
  refine wp_sld hX hs (dk DL_law_6 5 rfl) i1 ?_
  refine wp_aload_n hX (dk DL_law_6 6 rfl) rfl ?_
  refine wp_iload_n hX (dk DL_law_6 7 rfl) rfl ?_
  refine wp_iconst (v := 2) hX (dk DL_law_6 8 rfl) (by decide) ?_
  refine wp_iadd hX (dk DL_law_6 9 rfl) ?_
  refine wp_sld hX hs (dk DL_law_6 10 rfl) i2 ?_
  refine w_callVQ (As := [_, _]) lkL_73 hX (dk DL_law_6 11 rfl) rfl rfl (by decide) hN (hC) (fun v_a sw_a f_a g_a hq_a => ?_)
  obtain ⟨rfl, hM⟩ := hq_a
  show WP _ _ _ 660 [_, _, _, _] [_] _
  refine wp_aload_n hX (dk DL_law_6 12 rfl) rfl ?_
  refine wp_aload_n hX (dk DL_law_6 13 rfl) rfl ?_
  refine wp_iload_n hX (dk DL_law_6 14 rfl) rfl ?_
  refine wp_iconst (v := 1) hX (dk DL_law_6 15 rfl) (by decide) ?_
  refine wp_iadd hX (dk DL_law_6 16 rfl) ?_
  refine wp_sld hX hs (dk DL_law_6 17 rfl) i1 ?_
  refine wp_aload_n hX (dk DL_law_6 18 rfl) rfl ?_
  refine wp_iload_n hX (dk DL_law_6 19 rfl) rfl ?_
  refine wp_iconst (v := 2) hX (dk DL_law_6 20 rfl) (by decide) ?_
  refine wp_iadd hX (dk DL_law_6 21 rfl) ?_
  refine wp_sld hX hs (dk DL_law_6 22 rfl) i2 ?_
  refine w_callVQ (As := [_, _]) lkL_76 hX (dk DL_law_6 23 rfl) rfl rfl (by simp [Value.category]) hN (hM) (fun v_b sw_b f_b g_b hq_b => ?_)
  obtain ⟨rfl, hJ⟩ := hq_b
  show WP _ _ _ 674 [_, _, _, _] [_, _] _
  refine wp_icmp_eq (tgt := 1627) hX (dk DL_law_6 24 rfl) (by decide) (fun _ => ?_) (fun h_ => absurd (rfl) h_)
  exact kk _ _ _ hJ
theorem lc_679 (hX : Good X RL cL_law (d + 110 + 1) C Sl) (hN : x_nl X = 4) (hs : x_scr X n xs) (hi : i + 6 ≤ n) (hn : n ≤ 3072) (hI : IVe f g) (kk : lwK X C Sl i) : WP X C Sl 679 [some (.ref 1000), some (.ref 0), some (.ref 81), some (.int (nI i))] [] (S sw f g) := by
  obtain ⟨v, hC⟩ := s_richest (xs (nI i + 1).toNatClampNeg) (xs (nI i + 2).toNatClampNeg) (xs (nI i + 3).toNatClampNeg) d sw f g hI
  have i1 : vp_in (nI i + 1) n := by rw [show nI i + 1 = nI (i + 1) from nI_add i 1]; exact vp_nI hn (by omega)
  have i2 : vp_in (nI i + 2) n := by rw [show nI i + 2 = nI (i + 2) from nI_add i 2]; exact vp_nI hn (by omega)
  have i3 : vp_in (nI i + 3) n := by rw [show nI i + 3 = nI (i + 3) from nI_add i 3]; exact vp_nI hn (by omega)
  refine wp_aload_n hX (dk DL_law_6 27 rfl) rfl ?_
  refine wp_aload_n hX (dk DL_law_6 28 rfl) rfl ?_
  refine wp_iload_n hX (dk DL_law_6 29 rfl) rfl ?_
  refine wp_iconst (v := 1) hX (dk DL_law_6 30 rfl) (by decide) ?_
  refine wp_iadd hX (dk DL_law_6 31 rfl) ?_
  refine wp_sld hX hs (dk DL_law_6 32 rfl) i1 ?_
  refine wp_aload_n hX (dk DL_law_6 33 rfl) rfl ?_
  refine wp_iload_n hX (dk DL_law_6 34 rfl) rfl ?_
  refine wp_iconst (v := 2) hX (dk DL_law_6 35 rfl) (by decide) ?_
  refine wp_iadd hX (dk DL_law_6 36 rfl) ?_
  refine wp_sld hX hs (dk DL_law_6 37 rfl) i2 ?_
  refine wp_aload_n hX (dk DL_law_6 38 rfl) rfl ?_
  refine wp_iload_n hX (dk DL_law_6 39 rfl) rfl ?_
  refine wp_iconst (v := 3) hX (dk DL_law_6 40 rfl) (by decide) ?_
  refine wp_iadd hX (dk DL_law_6 41 rfl) ?_
  refine wp_sld hX hs (dk DL_law_6 42 rfl) i3 ?_
  refine w_callVQ (As := [_, _, _]) lkL_77 hX (dk DL_law_6 43 rfl) rfl rfl (by decide) hN (hC) (fun v_a sw_a f_a g_a hq_a => ?_)
  obtain ⟨rfl, hM⟩ := hq_a
  show WP _ _ _ 698 [_, _, _, _] [_] _
  refine wp_aload_n hX (dk DL_law_6 44 rfl) rfl ?_
  refine wp_aload_n hX (dk DL_law_6 45 rfl) rfl ?_
  refine wp_iload_n hX (dk DL_law_6 46 rfl) rfl ?_
  refine wp_iconst (v := 1) hX (dk DL_law_6 47 rfl) (by decide) ?_
  refine wp_iadd hX (dk DL_law_6 48 rfl) ?_
  refine wp_sld hX hs (dk DL_law_6 49 rfl) i1 ?_
  refine wp_aload_n hX (dk DL_law_6 50 rfl) rfl ?_
  refine wp_iload_n hX (dk DL_law_6 51 rfl) rfl ?_
  refine wp_iconst (v := 2) hX (dk DL_law_6 52 rfl) (by decide) ?_
  refine wp_iadd hX (dk DL_law_6 53 rfl) ?_
  refine wp_sld hX hs (dk DL_law_6 54 rfl) i2 ?_
  refine wp_aload_n hX (dk DL_law_6 55 rfl) rfl ?_
  refine wp_iload_n hX (dk DL_law_6 56 rfl) rfl ?_
  refine wp_iconst (v := 3) hX (dk DL_law_6 57 rfl) (by decide) ?_
  refine wp_iadd hX (dk DL_law_6 58 rfl) ?_
  refine wp_sld hX hs (dk DL_law_6 59 rfl) i3 ?_
  refine w_callVQ (As := [_, _, _]) lkL_80 hX (dk DL_law_7 0 rfl) rfl rfl (by simp [Value.category]) hN (hM) (fun v_b sw_b f_b g_b hq_b => ?_)
  obtain ⟨rfl, hJ⟩ := hq_b
  show WP _ _ _ 717 [_, _, _, _] [_, _] _
  refine wp_icmp_eq (tgt := 1627) hX (dk DL_law_7 1 rfl) (by decide) (fun _ => ?_) (fun h_ => absurd (rfl) h_)
  exact kk _ _ _ hJ
theorem lc_722 (hX : Good X RL cL_law (d + 110 + 1) C Sl) (hN : x_nl X = 4) (hs : x_scr X n xs) (hi : i + 6 ≤ n) (hn : n ≤ 3072) (hI : IVe f g) (kk : lwK X C Sl i) : WP X C Sl 722 [some (.ref 1000), some (.ref 0), some (.ref 81), some (.int (nI i))] [] (S sw f g) := by
  obtain ⟨v, hC⟩ := s_with (xs (nI i + 1).toNatClampNeg) (xs (nI i + 2).toNatClampNeg) d sw f g hI
  have i1 : vp_in (nI i + 1) n := by rw [show nI i + 1 = nI (i + 1) from nI_add i 1]; exact vp_nI hn (by omega)
  have i2 : vp_in (nI i + 2) n := by rw [show nI i + 2 = nI (i + 2) from nI_add i 2]; exact vp_nI hn (by omega)
  refine wp_aload_n hX (dk DL_law_7 4 rfl) rfl ?_
  refine wp_aload_n hX (dk DL_law_7 5 rfl) rfl ?_
  refine wp_iload_n hX (dk DL_law_7 6 rfl) rfl ?_
  refine wp_iconst (v := 1) hX (dk DL_law_7 7 rfl) (by decide) ?_
  refine wp_iadd hX (dk DL_law_7 8 rfl) ?_
  refine wp_sld hX hs (dk DL_law_7 9 rfl) i1 ?_
  refine wp_aload_n hX (dk DL_law_7 10 rfl) rfl ?_
  refine wp_iload_n hX (dk DL_law_7 11 rfl) rfl ?_
  refine wp_iconst (v := 2) hX (dk DL_law_7 12 rfl) (by decide) ?_
  refine wp_iadd hX (dk DL_law_7 13 rfl) ?_
  refine wp_sld hX hs (dk DL_law_7 14 rfl) i2 ?_
  refine w_callVQ (As := [_, _]) lkL_81 hX (dk DL_law_7 15 rfl) rfl rfl (by decide) hN (hC) (fun v_a sw_a f_a g_a hq_a => ?_)
  obtain ⟨rfl, hM⟩ := hq_a
  show WP _ _ _ 736 [_, _, _, _] [_] _
  refine wp_aload_n hX (dk DL_law_7 16 rfl) rfl ?_
  refine wp_aload_n hX (dk DL_law_7 17 rfl) rfl ?_
  refine wp_iload_n hX (dk DL_law_7 18 rfl) rfl ?_
  refine wp_iconst (v := 1) hX (dk DL_law_7 19 rfl) (by decide) ?_
  refine wp_iadd hX (dk DL_law_7 20 rfl) ?_
  refine wp_sld hX hs (dk DL_law_7 21 rfl) i1 ?_
  refine wp_aload_n hX (dk DL_law_7 22 rfl) rfl ?_
  refine wp_iload_n hX (dk DL_law_7 23 rfl) rfl ?_
  refine wp_iconst (v := 2) hX (dk DL_law_7 24 rfl) (by decide) ?_
  refine wp_iadd hX (dk DL_law_7 25 rfl) ?_
  refine wp_sld hX hs (dk DL_law_7 26 rfl) i2 ?_
  refine w_callVQ (As := [_, _]) lkL_84 hX (dk DL_law_7 27 rfl) rfl rfl (by simp [Value.category]) hN (hM) (fun v_b sw_b f_b g_b hq_b => ?_)
  obtain ⟨rfl, hJ⟩ := hq_b
  show WP _ _ _ 750 [_, _, _, _] [_, _] _
  refine wp_icmp_eq (tgt := 1627) hX (dk DL_law_7 28 rfl) (by decide) (fun _ => ?_) (fun h_ => absurd (rfl) h_)
  exact kk _ _ _ hJ
theorem lc_755 (hX : Good X RL cL_law (d + 110 + 1) C Sl) (hN : x_nl X = 4) (hs : x_scr X n xs) (hi : i + 6 ≤ n) (hn : n ≤ 3072) (hI : IVe f g) (kk : lwK X C Sl i) : WP X C Sl 755 [some (.ref 1000), some (.ref 0), some (.ref 81), some (.int (nI i))] [] (S sw f g) := by
  obtain ⟨v, hC⟩ := s_spare (xs (nI i + 1).toNatClampNeg) (xs (nI i + 2).toNatClampNeg) d sw f g hI
  have i1 : vp_in (nI i + 1) n := by rw [show nI i + 1 = nI (i + 1) from nI_add i 1]; exact vp_nI hn (by omega)
  have i2 : vp_in (nI i + 2) n := by rw [show nI i + 2 = nI (i + 2) from nI_add i 2]; exact vp_nI hn (by omega)
  refine wp_aload_n hX (dk DL_law_7 31 rfl) rfl ?_
  refine wp_aload_n hX (dk DL_law_7 32 rfl) rfl ?_
  refine wp_iload_n hX (dk DL_law_7 33 rfl) rfl ?_
  refine wp_iconst (v := 1) hX (dk DL_law_7 34 rfl) (by decide) ?_
  refine wp_iadd hX (dk DL_law_7 35 rfl) ?_
  refine wp_sld hX hs (dk DL_law_7 36 rfl) i1 ?_
  refine wp_aload_n hX (dk DL_law_7 37 rfl) rfl ?_
  refine wp_iload_n hX (dk DL_law_7 38 rfl) rfl ?_
  refine wp_iconst (v := 2) hX (dk DL_law_7 39 rfl) (by decide) ?_
  refine wp_iadd hX (dk DL_law_7 40 rfl) ?_
  refine wp_sld hX hs (dk DL_law_7 41 rfl) i2 ?_
  refine w_callVQ (As := [_, _]) lkL_85 hX (dk DL_law_7 42 rfl) rfl rfl (by decide) hN (hC) (fun v_a sw_a f_a g_a hq_a => ?_)
  obtain ⟨rfl, hM⟩ := hq_a
  show WP _ _ _ 769 [_, _, _, _] [_] _
  refine wp_aload_n hX (dk DL_law_7 43 rfl) rfl ?_
  refine wp_aload_n hX (dk DL_law_7 44 rfl) rfl ?_
  refine wp_iload_n hX (dk DL_law_7 45 rfl) rfl ?_
  refine wp_iconst (v := 1) hX (dk DL_law_7 46 rfl) (by decide) ?_
  refine wp_iadd hX (dk DL_law_7 47 rfl) ?_
  refine wp_sld hX hs (dk DL_law_7 48 rfl) i1 ?_
  refine wp_aload_n hX (dk DL_law_7 49 rfl) rfl ?_
  refine wp_iload_n hX (dk DL_law_7 50 rfl) rfl ?_
  refine wp_iconst (v := 2) hX (dk DL_law_7 51 rfl) (by decide) ?_
  refine wp_iadd hX (dk DL_law_7 52 rfl) ?_
  refine wp_sld hX hs (dk DL_law_7 53 rfl) i2 ?_
  refine w_callVQ (As := [_, _]) lkL_88 hX (dk DL_law_7 54 rfl) rfl rfl (by simp [Value.category]) hN (hM) (fun v_b sw_b f_b g_b hq_b => ?_)
  obtain ⟨rfl, hJ⟩ := hq_b
  show WP _ _ _ 783 [_, _, _, _] [_, _] _
  refine wp_icmp_eq (tgt := 1627) hX (dk DL_law_7 55 rfl) (by decide) (fun _ => ?_) (fun h_ => absurd (rfl) h_)
  exact kk _ _ _ hJ
theorem lc_788 (hX : Good X RL cL_law (d + 110 + 1) C Sl) (hN : x_nl X = 4) (hs : x_scr X n xs) (hi : i + 6 ≤ n) (hn : n ≤ 3072) (hI : IVe f g) (kk : lwK X C Sl i) : WP X C Sl 788 [some (.ref 1000), some (.ref 0), some (.ref 81), some (.int (nI i))] [] (S sw f g) := by
  obtain ⟨v, hC⟩ := s_when (xs (nI i + 1).toNatClampNeg) (xs (nI i + 2).toNatClampNeg) d sw f g hI
  have i1 : vp_in (nI i + 1) n := by rw [show nI i + 1 = nI (i + 1) from nI_add i 1]; exact vp_nI hn (by omega)
  have i2 : vp_in (nI i + 2) n := by rw [show nI i + 2 = nI (i + 2) from nI_add i 2]; exact vp_nI hn (by omega)
  refine wp_aload_n hX (dk DL_law_7 58 rfl) rfl ?_
  refine wp_aload_n hX (dk DL_law_7 59 rfl) rfl ?_
  refine wp_iload_n hX (dk DL_law_8 0 rfl) rfl ?_
  refine wp_iconst (v := 1) hX (dk DL_law_8 1 rfl) (by decide) ?_
  refine wp_iadd hX (dk DL_law_8 2 rfl) ?_
  refine wp_sld hX hs (dk DL_law_8 3 rfl) i1 ?_
  refine wp_aload_n hX (dk DL_law_8 4 rfl) rfl ?_
  refine wp_iload_n hX (dk DL_law_8 5 rfl) rfl ?_
  refine wp_iconst (v := 2) hX (dk DL_law_8 6 rfl) (by decide) ?_
  refine wp_iadd hX (dk DL_law_8 7 rfl) ?_
  refine wp_sld hX hs (dk DL_law_8 8 rfl) i2 ?_
  refine w_callVQ (As := [_, _]) lkL_89 hX (dk DL_law_8 9 rfl) rfl rfl (by decide) hN (hC) (fun v_a sw_a f_a g_a hq_a => ?_)
  obtain ⟨rfl, hM⟩ := hq_a
  show WP _ _ _ 802 [_, _, _, _] [_] _
  refine wp_aload_n hX (dk DL_law_8 10 rfl) rfl ?_
  refine wp_aload_n hX (dk DL_law_8 11 rfl) rfl ?_
  refine wp_iload_n hX (dk DL_law_8 12 rfl) rfl ?_
  refine wp_iconst (v := 1) hX (dk DL_law_8 13 rfl) (by decide) ?_
  refine wp_iadd hX (dk DL_law_8 14 rfl) ?_
  refine wp_sld hX hs (dk DL_law_8 15 rfl) i1 ?_
  refine wp_aload_n hX (dk DL_law_8 16 rfl) rfl ?_
  refine wp_iload_n hX (dk DL_law_8 17 rfl) rfl ?_
  refine wp_iconst (v := 2) hX (dk DL_law_8 18 rfl) (by decide) ?_
  refine wp_iadd hX (dk DL_law_8 19 rfl) ?_
  refine wp_sld hX hs (dk DL_law_8 20 rfl) i2 ?_
  refine w_callVQ (As := [_, _]) lkL_92 hX (dk DL_law_8 21 rfl) rfl rfl (by simp [Value.category]) hN (hM) (fun v_b sw_b f_b g_b hq_b => ?_)
  obtain ⟨rfl, hJ⟩ := hq_b
  show WP _ _ _ 816 [_, _, _, _] [_, _] _
  refine wp_icmp_eq (tgt := 1627) hX (dk DL_law_8 22 rfl) (by decide) (fun _ => ?_) (fun h_ => absurd (rfl) h_)
  exact kk _ _ _ hJ
theorem lc_821 (hX : Good X RL cL_law (d + 110 + 1) C Sl) (hN : x_nl X = 4) (hs : x_scr X n xs) (hi : i + 6 ≤ n) (hn : n ≤ 3072) (hI : IVe f g) (kk : lwK X C Sl i) : WP X C Sl 821 [some (.ref 1000), some (.ref 0), some (.ref 81), some (.int (nI i))] [] (S sw f g) := by
  obtain ⟨v, hC⟩ := s_smallest (xs (nI i + 1).toNatClampNeg) (xs (nI i + 2).toNatClampNeg) d sw f g hI
  have i1 : vp_in (nI i + 1) n := by rw [show nI i + 1 = nI (i + 1) from nI_add i 1]; exact vp_nI hn (by omega)
  have i2 : vp_in (nI i + 2) n := by rw [show nI i + 2 = nI (i + 2) from nI_add i 2]; exact vp_nI hn (by omega)
  refine wp_aload_n hX (dk DL_law_8 25 rfl) rfl ?_
  refine wp_aload_n hX (dk DL_law_8 26 rfl) rfl ?_
  refine wp_iload_n hX (dk DL_law_8 27 rfl) rfl ?_
  refine wp_iconst (v := 1) hX (dk DL_law_8 28 rfl) (by decide) ?_
  refine wp_iadd hX (dk DL_law_8 29 rfl) ?_
  refine wp_sld hX hs (dk DL_law_8 30 rfl) i1 ?_
  refine wp_aload_n hX (dk DL_law_8 31 rfl) rfl ?_
  refine wp_iload_n hX (dk DL_law_8 32 rfl) rfl ?_
  refine wp_iconst (v := 2) hX (dk DL_law_8 33 rfl) (by decide) ?_
  refine wp_iadd hX (dk DL_law_8 34 rfl) ?_
  refine wp_sld hX hs (dk DL_law_8 35 rfl) i2 ?_
  refine w_callVQ (As := [_, _]) lkL_93 hX (dk DL_law_8 36 rfl) rfl rfl (by decide) hN (hC) (fun v_a sw_a f_a g_a hq_a => ?_)
  obtain ⟨rfl, hM⟩ := hq_a
  show WP _ _ _ 835 [_, _, _, _] [_] _
  refine wp_aload_n hX (dk DL_law_8 37 rfl) rfl ?_
  refine wp_aload_n hX (dk DL_law_8 38 rfl) rfl ?_
  refine wp_iload_n hX (dk DL_law_8 39 rfl) rfl ?_
  refine wp_iconst (v := 1) hX (dk DL_law_8 40 rfl) (by decide) ?_
  refine wp_iadd hX (dk DL_law_8 41 rfl) ?_
  refine wp_sld hX hs (dk DL_law_8 42 rfl) i1 ?_
  refine wp_aload_n hX (dk DL_law_8 43 rfl) rfl ?_
  refine wp_iload_n hX (dk DL_law_8 44 rfl) rfl ?_
  refine wp_iconst (v := 2) hX (dk DL_law_8 45 rfl) (by decide) ?_
  refine wp_iadd hX (dk DL_law_8 46 rfl) ?_
  refine wp_sld hX hs (dk DL_law_8 47 rfl) i2 ?_
  refine w_callVQ (As := [_, _]) lkL_96 hX (dk DL_law_8 48 rfl) rfl rfl (by simp [Value.category]) hN (hM) (fun v_b sw_b f_b g_b hq_b => ?_)
  obtain ⟨rfl, hJ⟩ := hq_b
  show WP _ _ _ 849 [_, _, _, _] [_, _] _
  refine wp_icmp_eq (tgt := 1627) hX (dk DL_law_8 49 rfl) (by decide) (fun _ => ?_) (fun h_ => absurd (rfl) h_)
  exact kk _ _ _ hJ
theorem lc_854 (hX : Good X RL cL_law (d + 110 + 1) C Sl) (hN : x_nl X = 4) (hs : x_scr X n xs) (hi : i + 6 ≤ n) (hn : n ≤ 3072) (hI : IVe f g) (kk : lwK X C Sl i) : WP X C Sl 854 [some (.ref 1000), some (.ref 0), some (.ref 81), some (.int (nI i))] [] (S sw f g) := by
  obtain ⟨v, hC⟩ := s_leave (xs (nI i + 1).toNatClampNeg) (xs (nI i + 2).toNatClampNeg) d sw f g hI
  have i1 : vp_in (nI i + 1) n := by rw [show nI i + 1 = nI (i + 1) from nI_add i 1]; exact vp_nI hn (by omega)
  have i2 : vp_in (nI i + 2) n := by rw [show nI i + 2 = nI (i + 2) from nI_add i 2]; exact vp_nI hn (by omega)
  refine wp_aload_n hX (dk DL_law_8 52 rfl) rfl ?_
  refine wp_aload_n hX (dk DL_law_8 53 rfl) rfl ?_
  refine wp_iload_n hX (dk DL_law_8 54 rfl) rfl ?_
  refine wp_iconst (v := 1) hX (dk DL_law_8 55 rfl) (by decide) ?_
  refine wp_iadd hX (dk DL_law_8 56 rfl) ?_
  refine wp_sld hX hs (dk DL_law_8 57 rfl) i1 ?_
  refine wp_aload_n hX (dk DL_law_8 58 rfl) rfl ?_
  refine wp_iload_n hX (dk DL_law_8 59 rfl) rfl ?_
  refine wp_iconst (v := 2) hX (dk DL_law_9 0 rfl) (by decide) ?_
  refine wp_iadd hX (dk DL_law_9 1 rfl) ?_
  refine wp_sld hX hs (dk DL_law_9 2 rfl) i2 ?_
  refine w_callVQ (As := [_, _]) lkL_97 hX (dk DL_law_9 3 rfl) rfl rfl (by decide) hN (hC) (fun v_a sw_a f_a g_a hq_a => ?_)
  obtain ⟨rfl, hM⟩ := hq_a
  show WP _ _ _ 868 [_, _, _, _] [_] _
  refine wp_aload_n hX (dk DL_law_9 4 rfl) rfl ?_
  refine wp_aload_n hX (dk DL_law_9 5 rfl) rfl ?_
  refine wp_iload_n hX (dk DL_law_9 6 rfl) rfl ?_
  refine wp_iconst (v := 1) hX (dk DL_law_9 7 rfl) (by decide) ?_
  refine wp_iadd hX (dk DL_law_9 8 rfl) ?_
  refine wp_sld hX hs (dk DL_law_9 9 rfl) i1 ?_
  refine wp_aload_n hX (dk DL_law_9 10 rfl) rfl ?_
  refine wp_iload_n hX (dk DL_law_9 11 rfl) rfl ?_
  refine wp_iconst (v := 2) hX (dk DL_law_9 12 rfl) (by decide) ?_
  refine wp_iadd hX (dk DL_law_9 13 rfl) ?_
  refine wp_sld hX hs (dk DL_law_9 14 rfl) i2 ?_
  refine w_callVQ (As := [_, _]) lkL_100 hX (dk DL_law_9 15 rfl) rfl rfl (by simp [Value.category]) hN (hM) (fun v_b sw_b f_b g_b hq_b => ?_)
  obtain ⟨rfl, hJ⟩ := hq_b
  show WP _ _ _ 882 [_, _, _, _] [_, _] _
  refine wp_icmp_eq (tgt := 1627) hX (dk DL_law_9 16 rfl) (by decide) (fun _ => ?_) (fun h_ => absurd (rfl) h_)
  exact kk _ _ _ hJ
theorem lc_887 (hX : Good X RL cL_law (d + 110 + 1) C Sl) (hN : x_nl X = 4) (hs : x_scr X n xs) (hi : i + 6 ≤ n) (hn : n ≤ 3072) (hI : IVe f g) (kk : lwK X C Sl i) : WP X C Sl 887 [some (.ref 1000), some (.ref 0), some (.ref 81), some (.int (nI i))] [] (S sw f g) := by
  obtain ⟨v, hC⟩ := s_byTurns (xs (nI i + 1).toNatClampNeg) (xs (nI i + 2).toNatClampNeg) d sw f g hI
  have i1 : vp_in (nI i + 1) n := by rw [show nI i + 1 = nI (i + 1) from nI_add i 1]; exact vp_nI hn (by omega)
  have i2 : vp_in (nI i + 2) n := by rw [show nI i + 2 = nI (i + 2) from nI_add i 2]; exact vp_nI hn (by omega)
  refine wp_aload_n hX (dk DL_law_9 19 rfl) rfl ?_
  refine wp_aload_n hX (dk DL_law_9 20 rfl) rfl ?_
  refine wp_iload_n hX (dk DL_law_9 21 rfl) rfl ?_
  refine wp_iconst (v := 1) hX (dk DL_law_9 22 rfl) (by decide) ?_
  refine wp_iadd hX (dk DL_law_9 23 rfl) ?_
  refine wp_sld hX hs (dk DL_law_9 24 rfl) i1 ?_
  refine wp_aload_n hX (dk DL_law_9 25 rfl) rfl ?_
  refine wp_iload_n hX (dk DL_law_9 26 rfl) rfl ?_
  refine wp_iconst (v := 2) hX (dk DL_law_9 27 rfl) (by decide) ?_
  refine wp_iadd hX (dk DL_law_9 28 rfl) ?_
  refine wp_sld hX hs (dk DL_law_9 29 rfl) i2 ?_
  refine w_callVQ (As := [_, _]) lkL_101 hX (dk DL_law_9 30 rfl) rfl rfl (by decide) hN (hC) (fun v_a sw_a f_a g_a hq_a => ?_)
  obtain ⟨rfl, hM⟩ := hq_a
  show WP _ _ _ 901 [_, _, _, _] [_] _
  refine wp_aload_n hX (dk DL_law_9 31 rfl) rfl ?_
  refine wp_aload_n hX (dk DL_law_9 32 rfl) rfl ?_
  refine wp_iload_n hX (dk DL_law_9 33 rfl) rfl ?_
  refine wp_iconst (v := 1) hX (dk DL_law_9 34 rfl) (by decide) ?_
  refine wp_iadd hX (dk DL_law_9 35 rfl) ?_
  refine wp_sld hX hs (dk DL_law_9 36 rfl) i1 ?_
  refine wp_aload_n hX (dk DL_law_9 37 rfl) rfl ?_
  refine wp_iload_n hX (dk DL_law_9 38 rfl) rfl ?_
  refine wp_iconst (v := 2) hX (dk DL_law_9 39 rfl) (by decide) ?_
  refine wp_iadd hX (dk DL_law_9 40 rfl) ?_
  refine wp_sld hX hs (dk DL_law_9 41 rfl) i2 ?_
  refine w_callVQ (As := [_, _]) lkL_104 hX (dk DL_law_9 42 rfl) rfl rfl (by simp [Value.category]) hN (hM) (fun v_b sw_b f_b g_b hq_b => ?_)
  obtain ⟨rfl, hJ⟩ := hq_b
  show WP _ _ _ 915 [_, _, _, _] [_, _] _
  refine wp_icmp_eq (tgt := 1627) hX (dk DL_law_9 43 rfl) (by decide) (fun _ => ?_) (fun h_ => absurd (rfl) h_)
  exact kk _ _ _ hJ
theorem lc_920 (hX : Good X RL cL_law (d + 110 + 1) C Sl) (hN : x_nl X = 4) (hs : x_scr X n xs) (hi : i + 6 ≤ n) (hn : n ≤ 3072) (hI : IVe f g) (kk : lwK X C Sl i) : WP X C Sl 920 [some (.ref 1000), some (.ref 0), some (.ref 81), some (.int (nI i))] [] (S sw f g) := by
  obtain ⟨v, hC⟩ := s_egg (xs (nI i + 1).toNatClampNeg) (xs (nI i + 2).toNatClampNeg) d sw f g hI
  have i1 : vp_in (nI i + 1) n := by rw [show nI i + 1 = nI (i + 1) from nI_add i 1]; exact vp_nI hn (by omega)
  have i2 : vp_in (nI i + 2) n := by rw [show nI i + 2 = nI (i + 2) from nI_add i 2]; exact vp_nI hn (by omega)
  refine wp_aload_n hX (dk DL_law_9 46 rfl) rfl ?_
  refine wp_aload_n hX (dk DL_law_9 47 rfl) rfl ?_
  refine wp_iload_n hX (dk DL_law_9 48 rfl) rfl ?_
  refine wp_iconst (v := 1) hX (dk DL_law_9 49 rfl) (by decide) ?_
  refine wp_iadd hX (dk DL_law_9 50 rfl) ?_
  refine wp_sld hX hs (dk DL_law_9 51 rfl) i1 ?_
  refine wp_aload_n hX (dk DL_law_9 52 rfl) rfl ?_
  refine wp_iload_n hX (dk DL_law_9 53 rfl) rfl ?_
  refine wp_iconst (v := 2) hX (dk DL_law_9 54 rfl) (by decide) ?_
  refine wp_iadd hX (dk DL_law_9 55 rfl) ?_
  refine wp_sld hX hs (dk DL_law_9 56 rfl) i2 ?_
  refine w_callVQ (As := [_, _]) lkL_105 hX (dk DL_law_9 57 rfl) rfl rfl (by decide) hN (hC) (fun v_a sw_a f_a g_a hq_a => ?_)
  obtain ⟨rfl, hM⟩ := hq_a
  show WP _ _ _ 934 [_, _, _, _] [_] _
  refine wp_aload_n hX (dk DL_law_9 58 rfl) rfl ?_
  refine wp_aload_n hX (dk DL_law_9 59 rfl) rfl ?_
  refine wp_iload_n hX (dk DL_law_10 0 rfl) rfl ?_
  refine wp_iconst (v := 1) hX (dk DL_law_10 1 rfl) (by decide) ?_
  refine wp_iadd hX (dk DL_law_10 2 rfl) ?_
  refine wp_sld hX hs (dk DL_law_10 3 rfl) i1 ?_
  refine wp_aload_n hX (dk DL_law_10 4 rfl) rfl ?_
  refine wp_iload_n hX (dk DL_law_10 5 rfl) rfl ?_
  refine wp_iconst (v := 2) hX (dk DL_law_10 6 rfl) (by decide) ?_
  refine wp_iadd hX (dk DL_law_10 7 rfl) ?_
  refine wp_sld hX hs (dk DL_law_10 8 rfl) i2 ?_
  refine w_callVQ (As := [_, _]) lkL_108 hX (dk DL_law_10 9 rfl) rfl rfl (by simp [Value.category]) hN (hM) (fun v_b sw_b f_b g_b hq_b => ?_)
  obtain ⟨rfl, hJ⟩ := hq_b
  show WP _ _ _ 948 [_, _, _, _] [_, _] _
  refine wp_icmp_eq (tgt := 1627) hX (dk DL_law_10 10 rfl) (by decide) (fun _ => ?_) (fun h_ => absurd (rfl) h_)
  exact kk _ _ _ hJ
theorem lc_953 (hX : Good X RL cL_law (d + 110 + 1) C Sl) (hN : x_nl X = 4) (hs : x_scr X n xs) (hi : i + 6 ≤ n) (hn : n ≤ 3072) (hI : IVe f g) (kk : lwK X C Sl i) : WP X C Sl 953 [some (.ref 1000), some (.ref 0), some (.ref 81), some (.int (nI i))] [] (S sw f g) := by
  obtain ⟨v, hC⟩ := s_judge (xs (nI i + 1).toNatClampNeg) (xs (nI i + 2).toNatClampNeg) d sw f g hI
  have i1 : vp_in (nI i + 1) n := by rw [show nI i + 1 = nI (i + 1) from nI_add i 1]; exact vp_nI hn (by omega)
  have i2 : vp_in (nI i + 2) n := by rw [show nI i + 2 = nI (i + 2) from nI_add i 2]; exact vp_nI hn (by omega)
  refine wp_aload_n hX (dk DL_law_10 13 rfl) rfl ?_
  refine wp_aload_n hX (dk DL_law_10 14 rfl) rfl ?_
  refine wp_iload_n hX (dk DL_law_10 15 rfl) rfl ?_
  refine wp_iconst (v := 1) hX (dk DL_law_10 16 rfl) (by decide) ?_
  refine wp_iadd hX (dk DL_law_10 17 rfl) ?_
  refine wp_sld hX hs (dk DL_law_10 18 rfl) i1 ?_
  refine wp_aload_n hX (dk DL_law_10 19 rfl) rfl ?_
  refine wp_iload_n hX (dk DL_law_10 20 rfl) rfl ?_
  refine wp_iconst (v := 2) hX (dk DL_law_10 21 rfl) (by decide) ?_
  refine wp_iadd hX (dk DL_law_10 22 rfl) ?_
  refine wp_sld hX hs (dk DL_law_10 23 rfl) i2 ?_
  refine w_callVQ (As := [_, _]) lkL_109 hX (dk DL_law_10 24 rfl) rfl rfl (by decide) hN (hC) (fun v_a sw_a f_a g_a hq_a => ?_)
  obtain ⟨rfl, hM⟩ := hq_a
  show WP _ _ _ 967 [_, _, _, _] [_] _
  refine wp_aload_n hX (dk DL_law_10 25 rfl) rfl ?_
  refine wp_aload_n hX (dk DL_law_10 26 rfl) rfl ?_
  refine wp_iload_n hX (dk DL_law_10 27 rfl) rfl ?_
  refine wp_iconst (v := 1) hX (dk DL_law_10 28 rfl) (by decide) ?_
  refine wp_iadd hX (dk DL_law_10 29 rfl) ?_
  refine wp_sld hX hs (dk DL_law_10 30 rfl) i1 ?_
  refine wp_aload_n hX (dk DL_law_10 31 rfl) rfl ?_
  refine wp_iload_n hX (dk DL_law_10 32 rfl) rfl ?_
  refine wp_iconst (v := 2) hX (dk DL_law_10 33 rfl) (by decide) ?_
  refine wp_iadd hX (dk DL_law_10 34 rfl) ?_
  refine wp_sld hX hs (dk DL_law_10 35 rfl) i2 ?_
  refine w_callVQ (As := [_, _]) lkL_112 hX (dk DL_law_10 36 rfl) rfl rfl (by simp [Value.category]) hN (hM) (fun v_b sw_b f_b g_b hq_b => ?_)
  obtain ⟨rfl, hJ⟩ := hq_b
  show WP _ _ _ 981 [_, _, _, _] [_, _] _
  refine wp_icmp_eq (tgt := 1627) hX (dk DL_law_10 37 rfl) (by decide) (fun _ => ?_) (fun h_ => absurd (rfl) h_)
  exact kk _ _ _ hJ
theorem lc_986 (hX : Good X RL cL_law (d + 110 + 1) C Sl) (hN : x_nl X = 4) (hs : x_scr X n xs) (hi : i + 6 ≤ n) (hn : n ≤ 3072) (hI : IVe f g) (kk : lwK X C Sl i) : WP X C Sl 986 [some (.ref 1000), some (.ref 0), some (.ref 81), some (.int (nI i))] [] (S sw f g) := by
  obtain ⟨v, hC⟩ := s_filled (xs (nI i + 1).toNatClampNeg) (xs (nI i + 2).toNatClampNeg) (xs (nI i + 3).toNatClampNeg) d sw f g hI
  have i1 : vp_in (nI i + 1) n := by rw [show nI i + 1 = nI (i + 1) from nI_add i 1]; exact vp_nI hn (by omega)
  have i2 : vp_in (nI i + 2) n := by rw [show nI i + 2 = nI (i + 2) from nI_add i 2]; exact vp_nI hn (by omega)
  have i3 : vp_in (nI i + 3) n := by rw [show nI i + 3 = nI (i + 3) from nI_add i 3]; exact vp_nI hn (by omega)
  refine wp_aload_n hX (dk DL_law_10 40 rfl) rfl ?_
  refine wp_aload_n hX (dk DL_law_10 41 rfl) rfl ?_
  refine wp_iload_n hX (dk DL_law_10 42 rfl) rfl ?_
  refine wp_iconst (v := 1) hX (dk DL_law_10 43 rfl) (by decide) ?_
  refine wp_iadd hX (dk DL_law_10 44 rfl) ?_
  refine wp_sld hX hs (dk DL_law_10 45 rfl) i1 ?_
  refine wp_aload_n hX (dk DL_law_10 46 rfl) rfl ?_
  refine wp_iload_n hX (dk DL_law_10 47 rfl) rfl ?_
  refine wp_iconst (v := 2) hX (dk DL_law_10 48 rfl) (by decide) ?_
  refine wp_iadd hX (dk DL_law_10 49 rfl) ?_
  refine wp_sld hX hs (dk DL_law_10 50 rfl) i2 ?_
  refine wp_aload_n hX (dk DL_law_10 51 rfl) rfl ?_
  refine wp_iload_n hX (dk DL_law_10 52 rfl) rfl ?_
  refine wp_iconst (v := 3) hX (dk DL_law_10 53 rfl) (by decide) ?_
  refine wp_iadd hX (dk DL_law_10 54 rfl) ?_
  refine wp_sld hX hs (dk DL_law_10 55 rfl) i3 ?_
  refine w_callVQ (As := [_, _, _]) lkL_113 hX (dk DL_law_10 56 rfl) rfl rfl (by decide) hN (hC) (fun v_a sw_a f_a g_a hq_a => ?_)
  obtain ⟨rfl, hM⟩ := hq_a
  show WP _ _ _ 1005 [_, _, _, _] [_] _
  refine wp_aload_n hX (dk DL_law_10 57 rfl) rfl ?_
  refine wp_aload_n hX (dk DL_law_10 58 rfl) rfl ?_
  refine wp_iload_n hX (dk DL_law_10 59 rfl) rfl ?_
  refine wp_iconst (v := 1) hX (dk DL_law_11 0 rfl) (by decide) ?_
  refine wp_iadd hX (dk DL_law_11 1 rfl) ?_
  refine wp_sld hX hs (dk DL_law_11 2 rfl) i1 ?_
  refine wp_aload_n hX (dk DL_law_11 3 rfl) rfl ?_
  refine wp_iload_n hX (dk DL_law_11 4 rfl) rfl ?_
  refine wp_iconst (v := 2) hX (dk DL_law_11 5 rfl) (by decide) ?_
  refine wp_iadd hX (dk DL_law_11 6 rfl) ?_
  refine wp_sld hX hs (dk DL_law_11 7 rfl) i2 ?_
  refine wp_aload_n hX (dk DL_law_11 8 rfl) rfl ?_
  refine wp_iload_n hX (dk DL_law_11 9 rfl) rfl ?_
  refine wp_iconst (v := 3) hX (dk DL_law_11 10 rfl) (by decide) ?_
  refine wp_iadd hX (dk DL_law_11 11 rfl) ?_
  refine wp_sld hX hs (dk DL_law_11 12 rfl) i3 ?_
  refine w_callVQ (As := [_, _, _]) lkL_116 hX (dk DL_law_11 13 rfl) rfl rfl (by simp [Value.category]) hN (hM) (fun v_b sw_b f_b g_b hq_b => ?_)
  obtain ⟨rfl, hJ⟩ := hq_b
  show WP _ _ _ 1024 [_, _, _, _] [_, _] _
  refine wp_icmp_eq (tgt := 1627) hX (dk DL_law_11 14 rfl) (by decide) (fun _ => ?_) (fun h_ => absurd (rfl) h_)
  exact kk _ _ _ hJ
theorem lc_1029 (hX : Good X RL cL_law (d + 110 + 1) C Sl) (hN : x_nl X = 4) (hs : x_scr X n xs) (hi : i + 6 ≤ n) (hn : n ≤ 3072) (hI : IVe f g) (kk : lwK X C Sl i) : WP X C Sl 1029 [some (.ref 1000), some (.ref 0), some (.ref 81), some (.int (nI i))] [] (S sw f g) := by
  obtain ⟨v, hC⟩ := s_last (xs (nI i + 1).toNatClampNeg) (xs (nI i + 2).toNatClampNeg) d sw f g hI
  have i1 : vp_in (nI i + 1) n := by rw [show nI i + 1 = nI (i + 1) from nI_add i 1]; exact vp_nI hn (by omega)
  have i2 : vp_in (nI i + 2) n := by rw [show nI i + 2 = nI (i + 2) from nI_add i 2]; exact vp_nI hn (by omega)
  refine wp_aload_n hX (dk DL_law_11 17 rfl) rfl ?_
  refine wp_aload_n hX (dk DL_law_11 18 rfl) rfl ?_
  refine wp_iload_n hX (dk DL_law_11 19 rfl) rfl ?_
  refine wp_iconst (v := 1) hX (dk DL_law_11 20 rfl) (by decide) ?_
  refine wp_iadd hX (dk DL_law_11 21 rfl) ?_
  refine wp_sld hX hs (dk DL_law_11 22 rfl) i1 ?_
  refine wp_aload_n hX (dk DL_law_11 23 rfl) rfl ?_
  refine wp_iload_n hX (dk DL_law_11 24 rfl) rfl ?_
  refine wp_iconst (v := 2) hX (dk DL_law_11 25 rfl) (by decide) ?_
  refine wp_iadd hX (dk DL_law_11 26 rfl) ?_
  refine wp_sld hX hs (dk DL_law_11 27 rfl) i2 ?_
  refine w_callVQ (As := [_, _]) lkL_117 hX (dk DL_law_11 28 rfl) rfl rfl (by decide) hN (hC) (fun v_a sw_a f_a g_a hq_a => ?_)
  obtain ⟨rfl, hM⟩ := hq_a
  show WP _ _ _ 1043 [_, _, _, _] [_] _
  refine wp_aload_n hX (dk DL_law_11 29 rfl) rfl ?_
  refine wp_aload_n hX (dk DL_law_11 30 rfl) rfl ?_
  refine wp_iload_n hX (dk DL_law_11 31 rfl) rfl ?_
  refine wp_iconst (v := 1) hX (dk DL_law_11 32 rfl) (by decide) ?_
  refine wp_iadd hX (dk DL_law_11 33 rfl) ?_
  refine wp_sld hX hs (dk DL_law_11 34 rfl) i1 ?_
  refine wp_aload_n hX (dk DL_law_11 35 rfl) rfl ?_
  refine wp_iload_n hX (dk DL_law_11 36 rfl) rfl ?_
  refine wp_iconst (v := 2) hX (dk DL_law_11 37 rfl) (by decide) ?_
  refine wp_iadd hX (dk DL_law_11 38 rfl) ?_
  refine wp_sld hX hs (dk DL_law_11 39 rfl) i2 ?_
  refine w_callVQ (As := [_, _]) lkL_120 hX (dk DL_law_11 40 rfl) rfl rfl (by simp [Value.category]) hN (hM) (fun v_b sw_b f_b g_b hq_b => ?_)
  obtain ⟨rfl, hJ⟩ := hq_b
  show WP _ _ _ 1057 [_, _, _, _] [_, _] _
  refine wp_icmp_eq (tgt := 1627) hX (dk DL_law_11 41 rfl) (by decide) (fun _ => ?_) (fun h_ => absurd (rfl) h_)
  exact kk _ _ _ hJ
theorem lc_1062 (hX : Good X RL cL_law (d + 110 + 1) C Sl) (hN : x_nl X = 4) (hs : x_scr X n xs) (hi : i + 6 ≤ n) (hn : n ≤ 3072) (hI : IVe f g) (kk : lwK X C Sl i) : WP X C Sl 1062 [some (.ref 1000), some (.ref 0), some (.ref 81), some (.int (nI i))] [] (S sw f g) := by
  obtain ⟨v, hC⟩ := s_drawn (xs (nI i + 1).toNatClampNeg) (xs (nI i + 2).toNatClampNeg) (xs (nI i + 3).toNatClampNeg) (xs (nI i + 4).toNatClampNeg) d sw f g hI
  have i1 : vp_in (nI i + 1) n := by rw [show nI i + 1 = nI (i + 1) from nI_add i 1]; exact vp_nI hn (by omega)
  have i2 : vp_in (nI i + 2) n := by rw [show nI i + 2 = nI (i + 2) from nI_add i 2]; exact vp_nI hn (by omega)
  have i3 : vp_in (nI i + 3) n := by rw [show nI i + 3 = nI (i + 3) from nI_add i 3]; exact vp_nI hn (by omega)
  have i4 : vp_in (nI i + 4) n := by rw [show nI i + 4 = nI (i + 4) from nI_add i 4]; exact vp_nI hn (by omega)
  refine wp_aload_n hX (dk DL_law_11 44 rfl) rfl ?_
  refine wp_aload_n hX (dk DL_law_11 45 rfl) rfl ?_
  refine wp_iload_n hX (dk DL_law_11 46 rfl) rfl ?_
  refine wp_iconst (v := 1) hX (dk DL_law_11 47 rfl) (by decide) ?_
  refine wp_iadd hX (dk DL_law_11 48 rfl) ?_
  refine wp_sld hX hs (dk DL_law_11 49 rfl) i1 ?_
  refine wp_aload_n hX (dk DL_law_11 50 rfl) rfl ?_
  refine wp_iload_n hX (dk DL_law_11 51 rfl) rfl ?_
  refine wp_iconst (v := 2) hX (dk DL_law_11 52 rfl) (by decide) ?_
  refine wp_iadd hX (dk DL_law_11 53 rfl) ?_
  refine wp_sld hX hs (dk DL_law_11 54 rfl) i2 ?_
  refine wp_aload_n hX (dk DL_law_11 55 rfl) rfl ?_
  refine wp_iload_n hX (dk DL_law_11 56 rfl) rfl ?_
  refine wp_iconst (v := 3) hX (dk DL_law_11 57 rfl) (by decide) ?_
  refine wp_iadd hX (dk DL_law_11 58 rfl) ?_
  refine wp_sld hX hs (dk DL_law_11 59 rfl) i3 ?_
  refine wp_aload_n hX (dk DL_law_12 0 rfl) rfl ?_
  refine wp_iload_n hX (dk DL_law_12 1 rfl) rfl ?_
  refine wp_iconst (v := 4) hX (dk DL_law_12 2 rfl) (by decide) ?_
  refine wp_iadd hX (dk DL_law_12 3 rfl) ?_
  refine wp_sld hX hs (dk DL_law_12 4 rfl) i4 ?_
  refine w_callVQ (As := [_, _, _, _]) lkL_121 hX (dk DL_law_12 5 rfl) rfl rfl (by decide) hN (hC) (fun v_a sw_a f_a g_a hq_a => ?_)
  obtain ⟨rfl, hM⟩ := hq_a
  show WP _ _ _ 1086 [_, _, _, _] [_] _
  refine wp_aload_n hX (dk DL_law_12 6 rfl) rfl ?_
  refine wp_aload_n hX (dk DL_law_12 7 rfl) rfl ?_
  refine wp_iload_n hX (dk DL_law_12 8 rfl) rfl ?_
  refine wp_iconst (v := 1) hX (dk DL_law_12 9 rfl) (by decide) ?_
  refine wp_iadd hX (dk DL_law_12 10 rfl) ?_
  refine wp_sld hX hs (dk DL_law_12 11 rfl) i1 ?_
  refine wp_aload_n hX (dk DL_law_12 12 rfl) rfl ?_
  refine wp_iload_n hX (dk DL_law_12 13 rfl) rfl ?_
  refine wp_iconst (v := 2) hX (dk DL_law_12 14 rfl) (by decide) ?_
  refine wp_iadd hX (dk DL_law_12 15 rfl) ?_
  refine wp_sld hX hs (dk DL_law_12 16 rfl) i2 ?_
  refine wp_aload_n hX (dk DL_law_12 17 rfl) rfl ?_
  refine wp_iload_n hX (dk DL_law_12 18 rfl) rfl ?_
  refine wp_iconst (v := 3) hX (dk DL_law_12 19 rfl) (by decide) ?_
  refine wp_iadd hX (dk DL_law_12 20 rfl) ?_
  refine wp_sld hX hs (dk DL_law_12 21 rfl) i3 ?_
  refine wp_aload_n hX (dk DL_law_12 22 rfl) rfl ?_
  refine wp_iload_n hX (dk DL_law_12 23 rfl) rfl ?_
  refine wp_iconst (v := 4) hX (dk DL_law_12 24 rfl) (by decide) ?_
  refine wp_iadd hX (dk DL_law_12 25 rfl) ?_
  refine wp_sld hX hs (dk DL_law_12 26 rfl) i4 ?_
  refine w_callVQ (As := [_, _, _, _]) lkL_125 hX (dk DL_law_12 27 rfl) rfl rfl (by simp [Value.category]) hN (hM) (fun v_b sw_b f_b g_b hq_b => ?_)
  obtain ⟨rfl, hJ⟩ := hq_b
  show WP _ _ _ 1110 [_, _, _, _] [_, _] _
  refine wp_icmp_eq (tgt := 1627) hX (dk DL_law_12 28 rfl) (by decide) (fun _ => ?_) (fun h_ => absurd (rfl) h_)
  exact kk _ _ _ hJ
theorem lc_1115 (hX : Good X RL cL_law (d + 110 + 1) C Sl) (hN : x_nl X = 4) (hs : x_scr X n xs) (hi : i + 6 ≤ n) (hn : n ≤ 3072) (hI : IVe f g) (kk : lwK X C Sl i) : WP X C Sl 1115 [some (.ref 1000), some (.ref 0), some (.ref 81), some (.int (nI i))] [] (S sw f g) := by
  obtain ⟨v, hC⟩ := s_cut (xs (nI i + 1).toNatClampNeg) d sw f g hI
  have i1 : vp_in (nI i + 1) n := by rw [show nI i + 1 = nI (i + 1) from nI_add i 1]; exact vp_nI hn (by omega)
  refine wp_aload_n hX (dk DL_law_12 31 rfl) rfl ?_
  refine wp_aload_n hX (dk DL_law_12 32 rfl) rfl ?_
  refine wp_iload_n hX (dk DL_law_12 33 rfl) rfl ?_
  refine wp_iconst (v := 1) hX (dk DL_law_12 34 rfl) (by decide) ?_
  refine wp_iadd hX (dk DL_law_12 35 rfl) ?_
  refine wp_sld hX hs (dk DL_law_12 36 rfl) i1 ?_
  refine w_callVQ (As := [_]) lkL_126 hX (dk DL_law_12 37 rfl) rfl rfl (by decide) hN (hC) (fun v_a sw_a f_a g_a hq_a => ?_)
  obtain ⟨rfl, hM⟩ := hq_a
  show WP _ _ _ 1124 [_, _, _, _] [_] _
  refine wp_aload_n hX (dk DL_law_12 38 rfl) rfl ?_
  refine wp_aload_n hX (dk DL_law_12 39 rfl) rfl ?_
  refine wp_iload_n hX (dk DL_law_12 40 rfl) rfl ?_
  refine wp_iconst (v := 1) hX (dk DL_law_12 41 rfl) (by decide) ?_
  refine wp_iadd hX (dk DL_law_12 42 rfl) ?_
  refine wp_sld hX hs (dk DL_law_12 43 rfl) i1 ?_
  refine w_callVQ (As := [_]) lkL_129 hX (dk DL_law_12 44 rfl) rfl rfl (by simp [Value.category]) hN (hM) (fun v_b sw_b f_b g_b hq_b => ?_)
  obtain ⟨rfl, hJ⟩ := hq_b
  show WP _ _ _ 1133 [_, _, _, _] [_, _] _
  refine wp_icmp_eq (tgt := 1627) hX (dk DL_law_12 45 rfl) (by decide) (fun _ => ?_) (fun h_ => absurd (rfl) h_)
  exact kk _ _ _ hJ
theorem lc_1138 (hX : Good X RL cL_law (d + 110 + 1) C Sl) (hN : x_nl X = 4) (hs : x_scr X n xs) (hi : i + 6 ≤ n) (hn : n ≤ 3072) (hI : IVe f g) (kk : lwK X C Sl i) : WP X C Sl 1138 [some (.ref 1000), some (.ref 0), some (.ref 81), some (.int (nI i))] [] (S sw f g) := by
  obtain ⟨v, hC⟩ := s_pass (xs (nI i + 1).toNatClampNeg) d sw f g hI
  have i1 : vp_in (nI i + 1) n := by rw [show nI i + 1 = nI (i + 1) from nI_add i 1]; exact vp_nI hn (by omega)
  refine wp_aload_n hX (dk DL_law_12 48 rfl) rfl ?_
  refine wp_aload_n hX (dk DL_law_12 49 rfl) rfl ?_
  refine wp_iload_n hX (dk DL_law_12 50 rfl) rfl ?_
  refine wp_iconst (v := 1) hX (dk DL_law_12 51 rfl) (by decide) ?_
  refine wp_iadd hX (dk DL_law_12 52 rfl) ?_
  refine wp_sld hX hs (dk DL_law_12 53 rfl) i1 ?_
  refine w_callVQ (As := [_]) lkL_130 hX (dk DL_law_12 54 rfl) rfl rfl (by decide) hN (hC) (fun v_a sw_a f_a g_a hq_a => ?_)
  obtain ⟨rfl, hM⟩ := hq_a
  show WP _ _ _ 1147 [_, _, _, _] [_] _
  refine wp_aload_n hX (dk DL_law_12 55 rfl) rfl ?_
  refine wp_aload_n hX (dk DL_law_12 56 rfl) rfl ?_
  refine wp_iload_n hX (dk DL_law_12 57 rfl) rfl ?_
  refine wp_iconst (v := 1) hX (dk DL_law_12 58 rfl) (by decide) ?_
  refine wp_iadd hX (dk DL_law_12 59 rfl) ?_
  refine wp_sld hX hs (dk DL_law_13 0 rfl) i1 ?_
  refine w_callVQ (As := [_]) lkL_133 hX (dk DL_law_13 1 rfl) rfl rfl (by simp [Value.category]) hN (hM) (fun v_b sw_b f_b g_b hq_b => ?_)
  obtain ⟨rfl, hJ⟩ := hq_b
  show WP _ _ _ 1156 [_, _, _, _] [_, _] _
  refine wp_icmp_eq (tgt := 1627) hX (dk DL_law_13 2 rfl) (by decide) (fun _ => ?_) (fun h_ => absurd (rfl) h_)
  exact kk _ _ _ hJ
theorem lc_1161 (hX : Good X RL cL_law (d + 110 + 1) C Sl) (hN : x_nl X = 4) (hs : x_scr X n xs) (hi : i + 6 ≤ n) (hn : n ≤ 3072) (hI : IVe f g) (kk : lwK X C Sl i) : WP X C Sl 1161 [some (.ref 1000), some (.ref 0), some (.ref 81), some (.int (nI i))] [] (S sw f g) := by
  obtain ⟨v, hC⟩ := s_led (xs (nI i + 1).toNatClampNeg) d sw f g hI
  have i1 : vp_in (nI i + 1) n := by rw [show nI i + 1 = nI (i + 1) from nI_add i 1]; exact vp_nI hn (by omega)
  refine wp_aload_n hX (dk DL_law_13 5 rfl) rfl ?_
  refine wp_aload_n hX (dk DL_law_13 6 rfl) rfl ?_
  refine wp_iload_n hX (dk DL_law_13 7 rfl) rfl ?_
  refine wp_iconst (v := 1) hX (dk DL_law_13 8 rfl) (by decide) ?_
  refine wp_iadd hX (dk DL_law_13 9 rfl) ?_
  refine wp_sld hX hs (dk DL_law_13 10 rfl) i1 ?_
  refine w_callVQ (As := [_]) lkL_134 hX (dk DL_law_13 11 rfl) rfl rfl (by decide) hN (hC) (fun v_a sw_a f_a g_a hq_a => ?_)
  obtain ⟨rfl, hM⟩ := hq_a
  show WP _ _ _ 1170 [_, _, _, _] [_] _
  refine wp_aload_n hX (dk DL_law_13 12 rfl) rfl ?_
  refine wp_aload_n hX (dk DL_law_13 13 rfl) rfl ?_
  refine wp_iload_n hX (dk DL_law_13 14 rfl) rfl ?_
  refine wp_iconst (v := 1) hX (dk DL_law_13 15 rfl) (by decide) ?_
  refine wp_iadd hX (dk DL_law_13 16 rfl) ?_
  refine wp_sld hX hs (dk DL_law_13 17 rfl) i1 ?_
  refine w_callVQ (As := [_]) lkL_137 hX (dk DL_law_13 18 rfl) rfl rfl (by simp [Value.category]) hN (hM) (fun v_b sw_b f_b g_b hq_b => ?_)
  obtain ⟨rfl, hJ⟩ := hq_b
  show WP _ _ _ 1179 [_, _, _, _] [_, _] _
  refine wp_icmp_eq (tgt := 1627) hX (dk DL_law_13 19 rfl) (by decide) (fun _ => ?_) (fun h_ => absurd (rfl) h_)
  exact kk _ _ _ hJ
theorem lc_1184 (hX : Good X RL cL_law (d + 110 + 1) C Sl) (hN : x_nl X = 4) (hs : x_scr X n xs) (hi : i + 6 ≤ n) (hn : n ≤ 3072) (hI : IVe f g) (kk : lwK X C Sl i) : WP X C Sl 1184 [some (.ref 1000), some (.ref 0), some (.ref 81), some (.int (nI i))] [] (S sw f g) := by
  obtain ⟨v, hC⟩ := s_image  d sw f g hI
  refine wp_aload_n hX (dk DL_law_13 22 rfl) rfl ?_
  refine w_callVQ (As := []) lkL_138 hX (dk DL_law_13 23 rfl) rfl rfl (by decide) hN (hC) (fun v_a sw_a f_a g_a hq_a => ?_)
  obtain ⟨rfl, hM⟩ := hq_a
  show WP _ _ _ 1188 [_, _, _, _] [_] _
  refine wp_aload_n hX (dk DL_law_13 24 rfl) rfl ?_
  refine w_callVQ (As := []) lkL_141 hX (dk DL_law_13 25 rfl) rfl rfl (by simp [Value.category]) hN (hM) (fun v_b sw_b f_b g_b hq_b => ?_)
  obtain ⟨rfl, hJ⟩ := hq_b
  show WP _ _ _ 1192 [_, _, _, _] [_, _] _
  refine wp_icmp_eq (tgt := 1627) hX (dk DL_law_13 26 rfl) (by decide) (fun _ => ?_) (fun h_ => absurd (rfl) h_)
  exact kk _ _ _ hJ
theorem lc_1197 (hX : Good X RL cL_law (d + 110 + 1) C Sl) (hN : x_nl X = 4) (hs : x_scr X n xs) (hi : i + 6 ≤ n) (hn : n ≤ 3072) (hI : IVe f g) (kk : lwK X C Sl i) : WP X C Sl 1197 [some (.ref 1000), some (.ref 0), some (.ref 81), some (.int (nI i))] [] (S sw f g) := by
  obtain ⟨v, hC⟩ := s_back  d sw f g hI
  refine wp_aload_n hX (dk DL_law_13 29 rfl) rfl ?_
  refine w_callVQ (As := []) lkL_142 hX (dk DL_law_13 30 rfl) rfl rfl (by decide) hN (hC) (fun v_a sw_a f_a g_a hq_a => ?_)
  obtain ⟨rfl, hM⟩ := hq_a
  show WP _ _ _ 1201 [_, _, _, _] [_] _
  refine wp_aload_n hX (dk DL_law_13 31 rfl) rfl ?_
  refine w_callVQ (As := []) lkL_145 hX (dk DL_law_13 32 rfl) rfl rfl (by simp [Value.category]) hN (hM) (fun v_b sw_b f_b g_b hq_b => ?_)
  obtain ⟨rfl, hJ⟩ := hq_b
  show WP _ _ _ 1205 [_, _, _, _] [_, _] _
  refine wp_icmp_eq (tgt := 1627) hX (dk DL_law_13 33 rfl) (by decide) (fun _ => ?_) (fun h_ => absurd (rfl) h_)
  exact kk _ _ _ hJ
theorem lc_1210 (hX : Good X RL cL_law (d + 110 + 1) C Sl) (hN : x_nl X = 4) (hs : x_scr X n xs) (hi : i + 6 ≤ n) (hn : n ≤ 3072) (hI : IVe f g) (kk : lwK X C Sl i) : WP X C Sl 1210 [some (.ref 1000), some (.ref 0), some (.ref 81), some (.int (nI i))] [] (S sw f g) := by
  obtain ⟨v, hC⟩ := s_undo  d sw f g hI
  refine wp_aload_n hX (dk DL_law_13 36 rfl) rfl ?_
  refine w_callVQ (As := []) lkL_146 hX (dk DL_law_13 37 rfl) rfl rfl (by decide) hN (hC) (fun v_a sw_a f_a g_a hq_a => ?_)
  obtain ⟨rfl, hM⟩ := hq_a
  show WP _ _ _ 1214 [_, _, _, _] [_] _
  refine wp_aload_n hX (dk DL_law_13 38 rfl) rfl ?_
  refine w_callVQ (As := []) lkL_149 hX (dk DL_law_13 39 rfl) rfl rfl (by simp [Value.category]) hN (hM) (fun v_b sw_b f_b g_b hq_b => ?_)
  obtain ⟨rfl, hJ⟩ := hq_b
  show WP _ _ _ 1218 [_, _, _, _] [_, _] _
  refine wp_icmp_eq (tgt := 1627) hX (dk DL_law_13 40 rfl) (by decide) (fun _ => ?_) (fun h_ => absurd (rfl) h_)
  exact kk _ _ _ hJ
theorem lc_1223 (hX : Good X RL cL_law (d + 110 + 1) C Sl) (hN : x_nl X = 4) (hs : x_scr X n xs) (hi : i + 6 ≤ n) (hn : n ≤ 3072) (hI : IVe f g) (kk : lwK X C Sl i) : WP X C Sl 1223 [some (.ref 1000), some (.ref 0), some (.ref 81), some (.int (nI i))] [] (S sw f g) := by
  obtain ⟨v, hC⟩ := s_redo  d sw f g hI
  refine wp_aload_n hX (dk DL_law_13 43 rfl) rfl ?_
  refine w_callVQ (As := []) lkL_150 hX (dk DL_law_13 44 rfl) rfl rfl (by decide) hN (hC) (fun v_a sw_a f_a g_a hq_a => ?_)
  obtain ⟨rfl, hM⟩ := hq_a
  show WP _ _ _ 1227 [_, _, _, _] [_] _
  refine wp_aload_n hX (dk DL_law_13 45 rfl) rfl ?_
  refine w_callVQ (As := []) lkL_153 hX (dk DL_law_13 46 rfl) rfl rfl (by simp [Value.category]) hN (hM) (fun v_b sw_b f_b g_b hq_b => ?_)
  obtain ⟨rfl, hJ⟩ := hq_b
  show WP _ _ _ 1231 [_, _, _, _] [_, _] _
  refine wp_icmp_eq (tgt := 1627) hX (dk DL_law_13 47 rfl) (by decide) (fun _ => ?_) (fun h_ => absurd (rfl) h_)
  exact kk _ _ _ hJ
theorem lc_1236 (hX : Good X RL cL_law (d + 110 + 1) C Sl) (hN : x_nl X = 4) (hs : x_scr X n xs) (hi : i + 6 ≤ n) (hn : n ≤ 3072) (hI : IVe f g) (kk : lwK X C Sl i) : WP X C Sl 1236 [some (.ref 1000), some (.ref 0), some (.ref 81), some (.int (nI i))] [] (S sw f g) := by
  obtain ⟨v, hC⟩ := s_body (xs (nI i + 1).toNatClampNeg) d sw f g hI
  have i1 : vp_in (nI i + 1) n := by rw [show nI i + 1 = nI (i + 1) from nI_add i 1]; exact vp_nI hn (by omega)
  refine wp_aload_n hX (dk DL_law_13 50 rfl) rfl ?_
  refine wp_aload_n hX (dk DL_law_13 51 rfl) rfl ?_
  refine wp_iload_n hX (dk DL_law_13 52 rfl) rfl ?_
  refine wp_iconst (v := 1) hX (dk DL_law_13 53 rfl) (by decide) ?_
  refine wp_iadd hX (dk DL_law_13 54 rfl) ?_
  refine wp_sld hX hs (dk DL_law_13 55 rfl) i1 ?_
  refine w_callVQ (As := [_]) lkL_154 hX (dk DL_law_13 56 rfl) rfl rfl (by decide) hN (hC) (fun v_a sw_a f_a g_a hq_a => ?_)
  obtain ⟨rfl, hM⟩ := hq_a
  show WP _ _ _ 1245 [_, _, _, _] [_] _
  refine wp_aload_n hX (dk DL_law_13 57 rfl) rfl ?_
  refine wp_aload_n hX (dk DL_law_13 58 rfl) rfl ?_
  refine wp_iload_n hX (dk DL_law_13 59 rfl) rfl ?_
  refine wp_iconst (v := 1) hX (dk DL_law_14 0 rfl) (by decide) ?_
  refine wp_iadd hX (dk DL_law_14 1 rfl) ?_
  refine wp_sld hX hs (dk DL_law_14 2 rfl) i1 ?_
  refine w_callVQ (As := [_]) lkL_157 hX (dk DL_law_14 3 rfl) rfl rfl (by simp [Value.category]) hN (hM) (fun v_b sw_b f_b g_b hq_b => ?_)
  obtain ⟨rfl, hJ⟩ := hq_b
  show WP _ _ _ 1254 [_, _, _, _] [_, _] _
  refine wp_icmp_eq (tgt := 1627) hX (dk DL_law_14 4 rfl) (by decide) (fun _ => ?_) (fun h_ => absurd (rfl) h_)
  exact kk _ _ _ hJ
theorem lc_1259 (hX : Good X RL cL_law (d + 110 + 1) C Sl) (hN : x_nl X = 4) (hs : x_scr X n xs) (hi : i + 6 ≤ n) (hn : n ≤ 3072) (hI : IVe f g) (kk : lwK X C Sl i) : WP X C Sl 1259 [some (.ref 1000), some (.ref 0), some (.ref 81), some (.int (nI i))] [] (S sw f g) := by
  obtain ⟨v, hC⟩ := s_act (xs (nI i + 1).toNatClampNeg) (xs (nI i + 2).toNatClampNeg) (xs (nI i + 3).toNatClampNeg) d sw f g hI
  have i1 : vp_in (nI i + 1) n := by rw [show nI i + 1 = nI (i + 1) from nI_add i 1]; exact vp_nI hn (by omega)
  have i2 : vp_in (nI i + 2) n := by rw [show nI i + 2 = nI (i + 2) from nI_add i 2]; exact vp_nI hn (by omega)
  have i3 : vp_in (nI i + 3) n := by rw [show nI i + 3 = nI (i + 3) from nI_add i 3]; exact vp_nI hn (by omega)
  refine wp_aload_n hX (dk DL_law_14 7 rfl) rfl ?_
  refine wp_aload_n hX (dk DL_law_14 8 rfl) rfl ?_
  refine wp_iload_n hX (dk DL_law_14 9 rfl) rfl ?_
  refine wp_iconst (v := 1) hX (dk DL_law_14 10 rfl) (by decide) ?_
  refine wp_iadd hX (dk DL_law_14 11 rfl) ?_
  refine wp_sld hX hs (dk DL_law_14 12 rfl) i1 ?_
  refine wp_aload_n hX (dk DL_law_14 13 rfl) rfl ?_
  refine wp_iload_n hX (dk DL_law_14 14 rfl) rfl ?_
  refine wp_iconst (v := 2) hX (dk DL_law_14 15 rfl) (by decide) ?_
  refine wp_iadd hX (dk DL_law_14 16 rfl) ?_
  refine wp_sld hX hs (dk DL_law_14 17 rfl) i2 ?_
  refine wp_aload_n hX (dk DL_law_14 18 rfl) rfl ?_
  refine wp_iload_n hX (dk DL_law_14 19 rfl) rfl ?_
  refine wp_iconst (v := 3) hX (dk DL_law_14 20 rfl) (by decide) ?_
  refine wp_iadd hX (dk DL_law_14 21 rfl) ?_
  refine wp_sld hX hs (dk DL_law_14 22 rfl) i3 ?_
  refine w_callVQ (As := [_, _, _]) lkL_158 hX (dk DL_law_14 23 rfl) rfl rfl (by decide) hN (hC) (fun v_a sw_a f_a g_a hq_a => ?_)
  obtain ⟨rfl, hM⟩ := hq_a
  show WP _ _ _ 1278 [_, _, _, _] [_] _
  refine wp_aload_n hX (dk DL_law_14 24 rfl) rfl ?_
  refine wp_aload_n hX (dk DL_law_14 25 rfl) rfl ?_
  refine wp_iload_n hX (dk DL_law_14 26 rfl) rfl ?_
  refine wp_iconst (v := 1) hX (dk DL_law_14 27 rfl) (by decide) ?_
  refine wp_iadd hX (dk DL_law_14 28 rfl) ?_
  refine wp_sld hX hs (dk DL_law_14 29 rfl) i1 ?_
  refine wp_aload_n hX (dk DL_law_14 30 rfl) rfl ?_
  refine wp_iload_n hX (dk DL_law_14 31 rfl) rfl ?_
  refine wp_iconst (v := 2) hX (dk DL_law_14 32 rfl) (by decide) ?_
  refine wp_iadd hX (dk DL_law_14 33 rfl) ?_
  refine wp_sld hX hs (dk DL_law_14 34 rfl) i2 ?_
  refine wp_aload_n hX (dk DL_law_14 35 rfl) rfl ?_
  refine wp_iload_n hX (dk DL_law_14 36 rfl) rfl ?_
  refine wp_iconst (v := 3) hX (dk DL_law_14 37 rfl) (by decide) ?_
  refine wp_iadd hX (dk DL_law_14 38 rfl) ?_
  refine wp_sld hX hs (dk DL_law_14 39 rfl) i3 ?_
  refine w_callVQ (As := [_, _, _]) lkL_161 hX (dk DL_law_14 40 rfl) rfl rfl (by simp [Value.category]) hN (hM) (fun v_b sw_b f_b g_b hq_b => ?_)
  obtain ⟨rfl, hJ⟩ := hq_b
  show WP _ _ _ 1297 [_, _, _, _] [_, _] _
  refine wp_icmp_eq (tgt := 1627) hX (dk DL_law_14 41 rfl) (by decide) (fun _ => ?_) (fun h_ => absurd (rfl) h_)
  exact kk _ _ _ hJ
theorem lc_1302 (hX : Good X RL cL_law (d + 110 + 1) C Sl) (hN : x_nl X = 4) (hs : x_scr X n xs) (hi : i + 6 ≤ n) (hn : n ≤ 3072) (hI : IVe f g) (kk : lwK X C Sl i) : WP X C Sl 1302 [some (.ref 1000), some (.ref 0), some (.ref 81), some (.int (nI i))] [] (S sw f g) := by
  obtain ⟨v, hC⟩ := s_trace (xs (nI i + 1).toNatClampNeg) d sw f g hI
  have i1 : vp_in (nI i + 1) n := by rw [show nI i + 1 = nI (i + 1) from nI_add i 1]; exact vp_nI hn (by omega)
  refine wp_aload_n hX (dk DL_law_14 44 rfl) rfl ?_
  refine wp_aload_n hX (dk DL_law_14 45 rfl) rfl ?_
  refine wp_iload_n hX (dk DL_law_14 46 rfl) rfl ?_
  refine wp_iconst (v := 1) hX (dk DL_law_14 47 rfl) (by decide) ?_
  refine wp_iadd hX (dk DL_law_14 48 rfl) ?_
  refine wp_sld hX hs (dk DL_law_14 49 rfl) i1 ?_
  refine w_callVQ (As := [_]) lkL_162 hX (dk DL_law_14 50 rfl) rfl rfl (by decide) hN (hC) (fun v_a sw_a f_a g_a hq_a => ?_)
  obtain ⟨rfl, hM⟩ := hq_a
  show WP _ _ _ 1311 [_, _, _, _] [_] _
  refine wp_aload_n hX (dk DL_law_14 51 rfl) rfl ?_
  refine wp_aload_n hX (dk DL_law_14 52 rfl) rfl ?_
  refine wp_iload_n hX (dk DL_law_14 53 rfl) rfl ?_
  refine wp_iconst (v := 1) hX (dk DL_law_14 54 rfl) (by decide) ?_
  refine wp_iadd hX (dk DL_law_14 55 rfl) ?_
  refine wp_sld hX hs (dk DL_law_14 56 rfl) i1 ?_
  refine w_callVQ (As := [_]) lkL_165 hX (dk DL_law_14 57 rfl) rfl rfl (by simp [Value.category]) hN (hM) (fun v_b sw_b f_b g_b hq_b => ?_)
  obtain ⟨rfl, hJ⟩ := hq_b
  show WP _ _ _ 1320 [_, _, _, _] [_, _] _
  refine wp_icmp_eq (tgt := 1627) hX (dk DL_law_14 58 rfl) (by decide) (fun _ => ?_) (fun h_ => absurd (rfl) h_)
  exact kk _ _ _ hJ
theorem lc_1325 (hX : Good X RL cL_law (d + 110 + 1) C Sl) (hN : x_nl X = 4) (hs : x_scr X n xs) (hi : i + 6 ≤ n) (hn : n ≤ 3072) (hI : IVe f g) (kk : lwK X C Sl i) : WP X C Sl 1325 [some (.ref 1000), some (.ref 0), some (.ref 81), some (.int (nI i))] [] (S sw f g) := by
  obtain ⟨v, hC⟩ := s_keep (xs (nI i + 1).toNatClampNeg) (xs (nI i + 2).toNatClampNeg) d sw f g hI
  have i1 : vp_in (nI i + 1) n := by rw [show nI i + 1 = nI (i + 1) from nI_add i 1]; exact vp_nI hn (by omega)
  have i2 : vp_in (nI i + 2) n := by rw [show nI i + 2 = nI (i + 2) from nI_add i 2]; exact vp_nI hn (by omega)
  refine wp_aload_n hX (dk DL_law_15 1 rfl) rfl ?_
  refine wp_aload_n hX (dk DL_law_15 2 rfl) rfl ?_
  refine wp_iload_n hX (dk DL_law_15 3 rfl) rfl ?_
  refine wp_iconst (v := 1) hX (dk DL_law_15 4 rfl) (by decide) ?_
  refine wp_iadd hX (dk DL_law_15 5 rfl) ?_
  refine wp_sld hX hs (dk DL_law_15 6 rfl) i1 ?_
  refine wp_aload_n hX (dk DL_law_15 7 rfl) rfl ?_
  refine wp_iload_n hX (dk DL_law_15 8 rfl) rfl ?_
  refine wp_iconst (v := 2) hX (dk DL_law_15 9 rfl) (by decide) ?_
  refine wp_iadd hX (dk DL_law_15 10 rfl) ?_
  refine wp_sld hX hs (dk DL_law_15 11 rfl) i2 ?_
  refine w_callVQ (As := [_, _]) lkL_166 hX (dk DL_law_15 12 rfl) rfl rfl (by decide) hN (hC) (fun v_a sw_a f_a g_a hq_a => ?_)
  obtain ⟨rfl, hM⟩ := hq_a
  show WP _ _ _ 1339 [_, _, _, _] [_] _
  refine wp_aload_n hX (dk DL_law_15 13 rfl) rfl ?_
  refine wp_aload_n hX (dk DL_law_15 14 rfl) rfl ?_
  refine wp_iload_n hX (dk DL_law_15 15 rfl) rfl ?_
  refine wp_iconst (v := 1) hX (dk DL_law_15 16 rfl) (by decide) ?_
  refine wp_iadd hX (dk DL_law_15 17 rfl) ?_
  refine wp_sld hX hs (dk DL_law_15 18 rfl) i1 ?_
  refine wp_aload_n hX (dk DL_law_15 19 rfl) rfl ?_
  refine wp_iload_n hX (dk DL_law_15 20 rfl) rfl ?_
  refine wp_iconst (v := 2) hX (dk DL_law_15 21 rfl) (by decide) ?_
  refine wp_iadd hX (dk DL_law_15 22 rfl) ?_
  refine wp_sld hX hs (dk DL_law_15 23 rfl) i2 ?_
  refine w_callVQ (As := [_, _]) lkL_169 hX (dk DL_law_15 24 rfl) rfl rfl (by simp [Value.category]) hN (hM) (fun v_b sw_b f_b g_b hq_b => ?_)
  obtain ⟨rfl, hJ⟩ := hq_b
  show WP _ _ _ 1353 [_, _, _, _] [_, _] _
  refine wp_icmp_eq (tgt := 1627) hX (dk DL_law_15 25 rfl) (by decide) (fun _ => ?_) (fun h_ => absurd (rfl) h_)
  exact kk _ _ _ hJ
theorem lc_1358 (hX : Good X RL cL_law (d + 110 + 1) C Sl) (hN : x_nl X = 4) (hs : x_scr X n xs) (hi : i + 6 ≤ n) (hn : n ≤ 3072) (hI : IVe f g) (kk : lwK X C Sl i) : WP X C Sl 1358 [some (.ref 1000), some (.ref 0), some (.ref 81), some (.int (nI i))] [] (S sw f g) := by
  obtain ⟨v, hC⟩ := s_row (xs (nI i + 1).toNatClampNeg) (xs (nI i + 2).toNatClampNeg) (xs (nI i + 3).toNatClampNeg) d sw f g hI
  have i1 : vp_in (nI i + 1) n := by rw [show nI i + 1 = nI (i + 1) from nI_add i 1]; exact vp_nI hn (by omega)
  have i2 : vp_in (nI i + 2) n := by rw [show nI i + 2 = nI (i + 2) from nI_add i 2]; exact vp_nI hn (by omega)
  have i3 : vp_in (nI i + 3) n := by rw [show nI i + 3 = nI (i + 3) from nI_add i 3]; exact vp_nI hn (by omega)
  refine wp_aload_n hX (dk DL_law_15 28 rfl) rfl ?_
  refine wp_aload_n hX (dk DL_law_15 29 rfl) rfl ?_
  refine wp_iload_n hX (dk DL_law_15 30 rfl) rfl ?_
  refine wp_iconst (v := 1) hX (dk DL_law_15 31 rfl) (by decide) ?_
  refine wp_iadd hX (dk DL_law_15 32 rfl) ?_
  refine wp_sld hX hs (dk DL_law_15 33 rfl) i1 ?_
  refine wp_aload_n hX (dk DL_law_15 34 rfl) rfl ?_
  refine wp_iload_n hX (dk DL_law_15 35 rfl) rfl ?_
  refine wp_iconst (v := 2) hX (dk DL_law_15 36 rfl) (by decide) ?_
  refine wp_iadd hX (dk DL_law_15 37 rfl) ?_
  refine wp_sld hX hs (dk DL_law_15 38 rfl) i2 ?_
  refine wp_aload_n hX (dk DL_law_15 39 rfl) rfl ?_
  refine wp_iload_n hX (dk DL_law_15 40 rfl) rfl ?_
  refine wp_iconst (v := 3) hX (dk DL_law_15 41 rfl) (by decide) ?_
  refine wp_iadd hX (dk DL_law_15 42 rfl) ?_
  refine wp_sld hX hs (dk DL_law_15 43 rfl) i3 ?_
  refine w_callVQ (As := [_, _, _]) lkL_170 hX (dk DL_law_15 44 rfl) rfl rfl (by decide) hN (hC) (fun v_a sw_a f_a g_a hq_a => ?_)
  obtain ⟨rfl, hM⟩ := hq_a
  show WP _ _ _ 1377 [_, _, _, _] [_] _
  refine wp_aload_n hX (dk DL_law_15 45 rfl) rfl ?_
  refine wp_aload_n hX (dk DL_law_15 46 rfl) rfl ?_
  refine wp_iload_n hX (dk DL_law_15 47 rfl) rfl ?_
  refine wp_iconst (v := 1) hX (dk DL_law_15 48 rfl) (by decide) ?_
  refine wp_iadd hX (dk DL_law_15 49 rfl) ?_
  refine wp_sld hX hs (dk DL_law_15 50 rfl) i1 ?_
  refine wp_aload_n hX (dk DL_law_15 51 rfl) rfl ?_
  refine wp_iload_n hX (dk DL_law_15 52 rfl) rfl ?_
  refine wp_iconst (v := 2) hX (dk DL_law_15 53 rfl) (by decide) ?_
  refine wp_iadd hX (dk DL_law_15 54 rfl) ?_
  refine wp_sld hX hs (dk DL_law_15 55 rfl) i2 ?_
  refine wp_aload_n hX (dk DL_law_15 56 rfl) rfl ?_
  refine wp_iload_n hX (dk DL_law_15 57 rfl) rfl ?_
  refine wp_iconst (v := 3) hX (dk DL_law_15 58 rfl) (by decide) ?_
  refine wp_iadd hX (dk DL_law_15 59 rfl) ?_
  refine wp_sld hX hs (dk DL_law_16 0 rfl) i3 ?_
  refine w_callVQ (As := [_, _, _]) lkL_173 hX (dk DL_law_16 1 rfl) rfl rfl (by simp [Value.category]) hN (hM) (fun v_b sw_b f_b g_b hq_b => ?_)
  obtain ⟨rfl, hJ⟩ := hq_b
  show WP _ _ _ 1396 [_, _, _, _] [_, _] _
  refine wp_icmp_eq (tgt := 1627) hX (dk DL_law_16 2 rfl) (by decide) (fun _ => ?_) (fun h_ => absurd (rfl) h_)
  exact kk _ _ _ hJ
theorem lc_1401 (hX : Good X RL cL_law (d + 110 + 1) C Sl) (hN : x_nl X = 4) (hs : x_scr X n xs) (hi : i + 6 ≤ n) (hn : n ≤ 3072) (hI : IVe f g) (kk : lwK X C Sl i) : WP X C Sl 1401 [some (.ref 1000), some (.ref 0), some (.ref 81), some (.int (nI i))] [] (S sw f g) := by
  obtain ⟨v, hC⟩ := s_put (xs (nI i + 1).toNatClampNeg) (xs (nI i + 2).toNatClampNeg) (((xs (nI i + 3).toNatClampNeg).toInt64 <<< ((32 : Int32).toInt64 &&& 63)) ||| ((xs (nI i + 4).toNatClampNeg).toInt64 &&& 4294967295)) d sw f g hI
  have i1 : vp_in (nI i + 1) n := by rw [show nI i + 1 = nI (i + 1) from nI_add i 1]; exact vp_nI hn (by omega)
  have i2 : vp_in (nI i + 2) n := by rw [show nI i + 2 = nI (i + 2) from nI_add i 2]; exact vp_nI hn (by omega)
  have i3 : vp_in (nI i + 3) n := by rw [show nI i + 3 = nI (i + 3) from nI_add i 3]; exact vp_nI hn (by omega)
  have i4 : vp_in (nI i + 4) n := by rw [show nI i + 4 = nI (i + 4) from nI_add i 4]; exact vp_nI hn (by omega)
  refine wp_aload_n hX (dk DL_law_16 5 rfl) rfl ?_
  refine wp_aload_n hX (dk DL_law_16 6 rfl) rfl ?_
  refine wp_iload_n hX (dk DL_law_16 7 rfl) rfl ?_
  refine wp_iconst (v := 1) hX (dk DL_law_16 8 rfl) (by decide) ?_
  refine wp_iadd hX (dk DL_law_16 9 rfl) ?_
  refine wp_sld hX hs (dk DL_law_16 10 rfl) i1 ?_
  refine wp_aload_n hX (dk DL_law_16 11 rfl) rfl ?_
  refine wp_iload_n hX (dk DL_law_16 12 rfl) rfl ?_
  refine wp_iconst (v := 2) hX (dk DL_law_16 13 rfl) (by decide) ?_
  refine wp_iadd hX (dk DL_law_16 14 rfl) ?_
  refine wp_sld hX hs (dk DL_law_16 15 rfl) i2 ?_
  refine wp_aload_n hX (dk DL_law_16 16 rfl) rfl ?_
  refine wp_iload_n hX (dk DL_law_16 17 rfl) rfl ?_
  refine wp_iconst (v := 3) hX (dk DL_law_16 18 rfl) (by decide) ?_
  refine wp_iadd hX (dk DL_law_16 19 rfl) ?_
  refine wp_sld hX hs (dk DL_law_16 20 rfl) i3 ?_
  refine wp_i2l hX (dk DL_law_16 21 rfl) ?_
  refine wp_bipush (v := 32) hX (dk DL_law_16 22 rfl) (by decide) ?_
  refine wp_lshl hX (dk DL_law_16 23 rfl) ?_
  refine wp_aload_n hX (dk DL_law_16 24 rfl) rfl ?_
  refine wp_iload_n hX (dk DL_law_16 25 rfl) rfl ?_
  refine wp_iconst (v := 4) hX (dk DL_law_16 26 rfl) (by decide) ?_
  refine wp_iadd hX (dk DL_law_16 27 rfl) ?_
  refine wp_sld hX hs (dk DL_law_16 28 rfl) i4 ?_
  refine wp_i2l hX (dk DL_law_16 29 rfl) ?_
  refine wp_ldc2 hX (dk DL_law_16 30 rfl) kcL_174 ?_
  refine wp_land hX (dk DL_law_16 31 rfl) ?_
  refine wp_lor hX (dk DL_law_16 32 rfl) ?_
  refine w_callVQ (As := [_, _, _]) lkL_176 hX (dk DL_law_16 33 rfl) rfl rfl (by decide) hN (hC) (fun v_a sw_a f_a g_a hq_a => ?_)
  obtain ⟨rfl, hM⟩ := hq_a
  show WP _ _ _ 1435 [_, _, _, _] [_] _
  refine wp_aload_n hX (dk DL_law_16 34 rfl) rfl ?_
  refine wp_aload_n hX (dk DL_law_16 35 rfl) rfl ?_
  refine wp_iload_n hX (dk DL_law_16 36 rfl) rfl ?_
  refine wp_iconst (v := 1) hX (dk DL_law_16 37 rfl) (by decide) ?_
  refine wp_iadd hX (dk DL_law_16 38 rfl) ?_
  refine wp_sld hX hs (dk DL_law_16 39 rfl) i1 ?_
  refine wp_aload_n hX (dk DL_law_16 40 rfl) rfl ?_
  refine wp_iload_n hX (dk DL_law_16 41 rfl) rfl ?_
  refine wp_iconst (v := 2) hX (dk DL_law_16 42 rfl) (by decide) ?_
  refine wp_iadd hX (dk DL_law_16 43 rfl) ?_
  refine wp_sld hX hs (dk DL_law_16 44 rfl) i2 ?_
  refine wp_aload_n hX (dk DL_law_16 45 rfl) rfl ?_
  refine wp_iload_n hX (dk DL_law_16 46 rfl) rfl ?_
  refine wp_iconst (v := 3) hX (dk DL_law_16 47 rfl) (by decide) ?_
  refine wp_iadd hX (dk DL_law_16 48 rfl) ?_
  refine wp_sld hX hs (dk DL_law_16 49 rfl) i3 ?_
  refine wp_i2l hX (dk DL_law_16 50 rfl) ?_
  refine wp_bipush (v := 32) hX (dk DL_law_16 51 rfl) (by decide) ?_
  refine wp_lshl hX (dk DL_law_16 52 rfl) ?_
  refine wp_aload_n hX (dk DL_law_16 53 rfl) rfl ?_
  refine wp_iload_n hX (dk DL_law_16 54 rfl) rfl ?_
  refine wp_iconst (v := 4) hX (dk DL_law_16 55 rfl) (by decide) ?_
  refine wp_iadd hX (dk DL_law_16 56 rfl) ?_
  refine wp_sld hX hs (dk DL_law_16 57 rfl) i4 ?_
  refine wp_i2l hX (dk DL_law_16 58 rfl) ?_
  refine wp_ldc2 hX (dk DL_law_16 59 rfl) kcL_174 ?_
  refine wp_land hX (dk DL_law_17 0 rfl) ?_
  refine wp_lor hX (dk DL_law_17 1 rfl) ?_
  refine w_callVQ (As := [_, _, _]) lkL_180 hX (dk DL_law_17 2 rfl) rfl rfl (by simp [Value.category]) hN (hM) (fun v_b sw_b f_b g_b hq_b => ?_)
  obtain ⟨rfl, hJ⟩ := hq_b
  show WP _ _ _ 1469 [_, _, _, _] [_, _] _
  refine wp_icmp_eq (tgt := 1627) hX (dk DL_law_17 3 rfl) (by decide) (fun _ => ?_) (fun h_ => absurd (rfl) h_)
  exact kk _ _ _ hJ
theorem lc_1474 (hX : Good X RL cL_law (d + 110 + 1) C Sl) (hN : x_nl X = 4) (hs : x_scr X n xs) (hi : i + 6 ≤ n) (hn : n ≤ 3072) (hI : IVe f g) (kk : lwK X C Sl i) : WP X C Sl 1474 [some (.ref 1000), some (.ref 0), some (.ref 81), some (.int (nI i))] [] (S sw f g) := by
  obtain ⟨v, hC⟩ := s_element (xs (nI i + 1).toNatClampNeg) (xs (nI i + 2).toNatClampNeg) d sw f g hI
  have i1 : vp_in (nI i + 1) n := by rw [show nI i + 1 = nI (i + 1) from nI_add i 1]; exact vp_nI hn (by omega)
  have i2 : vp_in (nI i + 2) n := by rw [show nI i + 2 = nI (i + 2) from nI_add i 2]; exact vp_nI hn (by omega)
  refine wp_aload_n hX (dk DL_law_17 6 rfl) rfl ?_
  refine wp_aload_n hX (dk DL_law_17 7 rfl) rfl ?_
  refine wp_iload_n hX (dk DL_law_17 8 rfl) rfl ?_
  refine wp_iconst (v := 1) hX (dk DL_law_17 9 rfl) (by decide) ?_
  refine wp_iadd hX (dk DL_law_17 10 rfl) ?_
  refine wp_sld hX hs (dk DL_law_17 11 rfl) i1 ?_
  refine wp_aload_n hX (dk DL_law_17 12 rfl) rfl ?_
  refine wp_iload_n hX (dk DL_law_17 13 rfl) rfl ?_
  refine wp_iconst (v := 2) hX (dk DL_law_17 14 rfl) (by decide) ?_
  refine wp_iadd hX (dk DL_law_17 15 rfl) ?_
  refine wp_sld hX hs (dk DL_law_17 16 rfl) i2 ?_
  refine w_callVQ (As := [_, _]) lkL_181 hX (dk DL_law_17 17 rfl) rfl rfl (by decide) hN (hC) (fun v_a sw_a f_a g_a hq_a => ?_)
  obtain ⟨rfl, hM⟩ := hq_a
  show WP _ _ _ 1488 [_, _, _, _] [_] _
  refine wp_aload_n hX (dk DL_law_17 18 rfl) rfl ?_
  refine wp_aload_n hX (dk DL_law_17 19 rfl) rfl ?_
  refine wp_iload_n hX (dk DL_law_17 20 rfl) rfl ?_
  refine wp_iconst (v := 1) hX (dk DL_law_17 21 rfl) (by decide) ?_
  refine wp_iadd hX (dk DL_law_17 22 rfl) ?_
  refine wp_sld hX hs (dk DL_law_17 23 rfl) i1 ?_
  refine wp_aload_n hX (dk DL_law_17 24 rfl) rfl ?_
  refine wp_iload_n hX (dk DL_law_17 25 rfl) rfl ?_
  refine wp_iconst (v := 2) hX (dk DL_law_17 26 rfl) (by decide) ?_
  refine wp_iadd hX (dk DL_law_17 27 rfl) ?_
  refine wp_sld hX hs (dk DL_law_17 28 rfl) i2 ?_
  refine w_callVQ (As := [_, _]) lkL_185 hX (dk DL_law_17 29 rfl) rfl rfl (by simp [Value.category]) hN (hM) (fun v_b sw_b f_b g_b hq_b => ?_)
  obtain ⟨rfl, hJ⟩ := hq_b
  show WP _ _ _ 1502 [_, _, _, _] [_, _] _
  refine wp_lcmp hX (dk DL_law_17 30 rfl) ?_
  refine wp_if_eq (tgt := 1627) hX (dk DL_law_17 31 rfl) (by decide) (fun _ => ?_) (fun h_ => absurd ((lg_cmp_eq _ _).mpr rfl) h_)
  exact kk _ _ _ hJ
theorem lc_1508 (hX : Good X RL cL_law (d + 110 + 1) C Sl) (hN : x_nl X = 4) (hs : x_scr X n xs) (hi : i + 6 ≤ n) (hn : n ≤ 3072) (hI : IVe f g) (kk : lwK X C Sl i) : WP X C Sl 1508 [some (.ref 1000), some (.ref 0), some (.ref 81), some (.int (nI i))] [] (S sw f g) := by
  obtain ⟨v, hC⟩ := s_shift (xs (nI i + 1).toNatClampNeg) (xs (nI i + 2).toNatClampNeg) (xs (nI i + 3).toNatClampNeg) (xs (nI i + 4).toNatClampNeg) (xs (nI i + 5).toNatClampNeg) d sw f g hI
  have i1 : vp_in (nI i + 1) n := by rw [show nI i + 1 = nI (i + 1) from nI_add i 1]; exact vp_nI hn (by omega)
  have i2 : vp_in (nI i + 2) n := by rw [show nI i + 2 = nI (i + 2) from nI_add i 2]; exact vp_nI hn (by omega)
  have i3 : vp_in (nI i + 3) n := by rw [show nI i + 3 = nI (i + 3) from nI_add i 3]; exact vp_nI hn (by omega)
  have i4 : vp_in (nI i + 4) n := by rw [show nI i + 4 = nI (i + 4) from nI_add i 4]; exact vp_nI hn (by omega)
  have i5 : vp_in (nI i + 5) n := by rw [show nI i + 5 = nI (i + 5) from nI_add i 5]; exact vp_nI hn (by omega)
  refine wp_aload_n hX (dk DL_law_17 34 rfl) rfl ?_
  refine wp_aload_n hX (dk DL_law_17 35 rfl) rfl ?_
  refine wp_iload_n hX (dk DL_law_17 36 rfl) rfl ?_
  refine wp_iconst (v := 1) hX (dk DL_law_17 37 rfl) (by decide) ?_
  refine wp_iadd hX (dk DL_law_17 38 rfl) ?_
  refine wp_sld hX hs (dk DL_law_17 39 rfl) i1 ?_
  refine wp_aload_n hX (dk DL_law_17 40 rfl) rfl ?_
  refine wp_iload_n hX (dk DL_law_17 41 rfl) rfl ?_
  refine wp_iconst (v := 2) hX (dk DL_law_17 42 rfl) (by decide) ?_
  refine wp_iadd hX (dk DL_law_17 43 rfl) ?_
  refine wp_sld hX hs (dk DL_law_17 44 rfl) i2 ?_
  refine wp_aload_n hX (dk DL_law_17 45 rfl) rfl ?_
  refine wp_iload_n hX (dk DL_law_17 46 rfl) rfl ?_
  refine wp_iconst (v := 3) hX (dk DL_law_17 47 rfl) (by decide) ?_
  refine wp_iadd hX (dk DL_law_17 48 rfl) ?_
  refine wp_sld hX hs (dk DL_law_17 49 rfl) i3 ?_
  refine wp_aload_n hX (dk DL_law_17 50 rfl) rfl ?_
  refine wp_iload_n hX (dk DL_law_17 51 rfl) rfl ?_
  refine wp_iconst (v := 4) hX (dk DL_law_17 52 rfl) (by decide) ?_
  refine wp_iadd hX (dk DL_law_17 53 rfl) ?_
  refine wp_sld hX hs (dk DL_law_17 54 rfl) i4 ?_
  refine wp_aload_n hX (dk DL_law_17 55 rfl) rfl ?_
  refine wp_iload_n hX (dk DL_law_17 56 rfl) rfl ?_
  refine wp_iconst (v := 5) hX (dk DL_law_17 57 rfl) (by decide) ?_
  refine wp_iadd hX (dk DL_law_17 58 rfl) ?_
  refine wp_sld hX hs (dk DL_law_17 59 rfl) i5 ?_
  refine w_callVQ (As := [_, _, _, _, _]) lkL_186 hX (dk DL_law_18 0 rfl) rfl rfl (by decide) hN (hC) (fun v_a sw_a f_a g_a hq_a => ?_)
  obtain ⟨rfl, hM⟩ := hq_a
  show WP _ _ _ 1537 [_, _, _, _] [_] _
  refine wp_aload_n hX (dk DL_law_18 1 rfl) rfl ?_
  refine wp_aload_n hX (dk DL_law_18 2 rfl) rfl ?_
  refine wp_iload_n hX (dk DL_law_18 3 rfl) rfl ?_
  refine wp_iconst (v := 1) hX (dk DL_law_18 4 rfl) (by decide) ?_
  refine wp_iadd hX (dk DL_law_18 5 rfl) ?_
  refine wp_sld hX hs (dk DL_law_18 6 rfl) i1 ?_
  refine wp_aload_n hX (dk DL_law_18 7 rfl) rfl ?_
  refine wp_iload_n hX (dk DL_law_18 8 rfl) rfl ?_
  refine wp_iconst (v := 2) hX (dk DL_law_18 9 rfl) (by decide) ?_
  refine wp_iadd hX (dk DL_law_18 10 rfl) ?_
  refine wp_sld hX hs (dk DL_law_18 11 rfl) i2 ?_
  refine wp_aload_n hX (dk DL_law_18 12 rfl) rfl ?_
  refine wp_iload_n hX (dk DL_law_18 13 rfl) rfl ?_
  refine wp_iconst (v := 3) hX (dk DL_law_18 14 rfl) (by decide) ?_
  refine wp_iadd hX (dk DL_law_18 15 rfl) ?_
  refine wp_sld hX hs (dk DL_law_18 16 rfl) i3 ?_
  refine wp_aload_n hX (dk DL_law_18 17 rfl) rfl ?_
  refine wp_iload_n hX (dk DL_law_18 18 rfl) rfl ?_
  refine wp_iconst (v := 4) hX (dk DL_law_18 19 rfl) (by decide) ?_
  refine wp_iadd hX (dk DL_law_18 20 rfl) ?_
  refine wp_sld hX hs (dk DL_law_18 21 rfl) i4 ?_
  refine wp_aload_n hX (dk DL_law_18 22 rfl) rfl ?_
  refine wp_iload_n hX (dk DL_law_18 23 rfl) rfl ?_
  refine wp_iconst (v := 5) hX (dk DL_law_18 24 rfl) (by decide) ?_
  refine wp_iadd hX (dk DL_law_18 25 rfl) ?_
  refine wp_sld hX hs (dk DL_law_18 26 rfl) i5 ?_
  refine w_callVQ (As := [_, _, _, _, _]) lkL_190 hX (dk DL_law_18 27 rfl) rfl rfl (by simp [Value.category]) hN (hM) (fun v_b sw_b f_b g_b hq_b => ?_)
  obtain ⟨rfl, hJ⟩ := hq_b
  show WP _ _ _ 1566 [_, _, _, _] [_, _] _
  refine wp_icmp_eq (tgt := 1627) hX (dk DL_law_18 28 rfl) (by decide) (fun _ => ?_) (fun h_ => absurd (rfl) h_)
  exact kk _ _ _ hJ
theorem lc_1571 (hX : Good X RL cL_law (d + 110 + 1) C Sl) (hN : x_nl X = 4) (hs : x_scr X n xs) (hi : i + 6 ≤ n) (hn : n ≤ 3072) (hI : IVe f g) (kk : lwK X C Sl i) : WP X C Sl 1571 [some (.ref 1000), some (.ref 0), some (.ref 81), some (.int (nI i))] [] (S sw f g) := by
  obtain ⟨v, hC⟩ := s_taken (xs (nI i + 1).toNatClampNeg) (xs (nI i + 2).toNatClampNeg) d sw f g hI
  have i1 : vp_in (nI i + 1) n := by rw [show nI i + 1 = nI (i + 1) from nI_add i 1]; exact vp_nI hn (by omega)
  have i2 : vp_in (nI i + 2) n := by rw [show nI i + 2 = nI (i + 2) from nI_add i 2]; exact vp_nI hn (by omega)
  refine wp_aload_n hX (dk DL_law_18 31 rfl) rfl ?_
  refine wp_aload_n hX (dk DL_law_18 32 rfl) rfl ?_
  refine wp_iload_n hX (dk DL_law_18 33 rfl) rfl ?_
  refine wp_iconst (v := 1) hX (dk DL_law_18 34 rfl) (by decide) ?_
  refine wp_iadd hX (dk DL_law_18 35 rfl) ?_
  refine wp_sld hX hs (dk DL_law_18 36 rfl) i1 ?_
  refine wp_aload_n hX (dk DL_law_18 37 rfl) rfl ?_
  refine wp_iload_n hX (dk DL_law_18 38 rfl) rfl ?_
  refine wp_iconst (v := 2) hX (dk DL_law_18 39 rfl) (by decide) ?_
  refine wp_iadd hX (dk DL_law_18 40 rfl) ?_
  refine wp_sld hX hs (dk DL_law_18 41 rfl) i2 ?_
  refine w_callVQ (As := [_, _]) lkL_191 hX (dk DL_law_18 42 rfl) rfl rfl (by decide) hN (hC) (fun v_a sw_a f_a g_a hq_a => ?_)
  obtain ⟨rfl, hM⟩ := hq_a
  show WP _ _ _ 1585 [_, _, _, _] [_] _
  refine wp_aload_n hX (dk DL_law_18 43 rfl) rfl ?_
  refine wp_aload_n hX (dk DL_law_18 44 rfl) rfl ?_
  refine wp_iload_n hX (dk DL_law_18 45 rfl) rfl ?_
  refine wp_iconst (v := 1) hX (dk DL_law_18 46 rfl) (by decide) ?_
  refine wp_iadd hX (dk DL_law_18 47 rfl) ?_
  refine wp_sld hX hs (dk DL_law_18 48 rfl) i1 ?_
  refine wp_aload_n hX (dk DL_law_18 49 rfl) rfl ?_
  refine wp_iload_n hX (dk DL_law_18 50 rfl) rfl ?_
  refine wp_iconst (v := 2) hX (dk DL_law_18 51 rfl) (by decide) ?_
  refine wp_iadd hX (dk DL_law_18 52 rfl) ?_
  refine wp_sld hX hs (dk DL_law_18 53 rfl) i2 ?_
  refine w_callVQ (As := [_, _]) lkL_194 hX (dk DL_law_18 54 rfl) rfl rfl (by simp [Value.category]) hN (hM) (fun v_b sw_b f_b g_b hq_b => ?_)
  obtain ⟨rfl, hJ⟩ := hq_b
  show WP _ _ _ 1599 [_, _, _, _] [_, _] _
  refine wp_icmp_eq (tgt := 1627) hX (dk DL_law_18 55 rfl) (by decide) (fun _ => ?_) (fun h_ => absurd (rfl) h_)
  exact kk _ _ _ hJ
theorem lc_1604 (hX : Good X RL cL_law (d + 110 + 1) C Sl) (hN : x_nl X = 4) (hs : x_scr X n xs) (hi : i + 6 ≤ n) (hn : n ≤ 3072) (hI : IVe f g) (kk : lwK X C Sl i) : WP X C Sl 1604 [some (.ref 1000), some (.ref 0), some (.ref 81), some (.int (nI i))] [] (S sw f g) := by
  obtain ⟨v, hC⟩ := s_count (xs (nI i + 1).toNatClampNeg) d sw f g hI
  have i1 : vp_in (nI i + 1) n := by rw [show nI i + 1 = nI (i + 1) from nI_add i 1]; exact vp_nI hn (by omega)
  refine wp_aload_n hX (dk DL_law_18 58 rfl) rfl ?_
  refine wp_aload_n hX (dk DL_law_18 59 rfl) rfl ?_
  refine wp_iload_n hX (dk DL_law_19 0 rfl) rfl ?_
  refine wp_iconst (v := 1) hX (dk DL_law_19 1 rfl) (by decide) ?_
  refine wp_iadd hX (dk DL_law_19 2 rfl) ?_
  refine wp_sld hX hs (dk DL_law_19 3 rfl) i1 ?_
  refine w_callVQ (As := [_]) lkL_195 hX (dk DL_law_19 4 rfl) rfl rfl (by decide) hN (hC) (fun v_a sw_a f_a g_a hq_a => ?_)
  obtain ⟨rfl, hM⟩ := hq_a
  show WP _ _ _ 1613 [_, _, _, _] [_] _
  refine wp_aload_n hX (dk DL_law_19 5 rfl) rfl ?_
  refine wp_aload_n hX (dk DL_law_19 6 rfl) rfl ?_
  refine wp_iload_n hX (dk DL_law_19 7 rfl) rfl ?_
  refine wp_iconst (v := 1) hX (dk DL_law_19 8 rfl) (by decide) ?_
  refine wp_iadd hX (dk DL_law_19 9 rfl) ?_
  refine wp_sld hX hs (dk DL_law_19 10 rfl) i1 ?_
  refine w_callVQ (As := [_]) lkL_198 hX (dk DL_law_19 11 rfl) rfl rfl (by simp [Value.category]) hN (hM) (fun v_b sw_b f_b g_b hq_b => ?_)
  obtain ⟨rfl, hJ⟩ := hq_b
  show WP _ _ _ 1622 [_, _, _, _] [_, _] _
  refine wp_icmp_eq (tgt := 1627) hX (dk DL_law_19 12 rfl) (by decide) (fun _ => ?_) (fun h_ => absurd (rfl) h_)
  exact kk _ _ _ hJ
/-- the law's loop -/
theorem law_loop (hX : Good X RL cL_law (d + 110 + 1) C Sl) (hN : x_nl X = 4) (hs : x_scr X n xs) (hn : n ≤ 3072) (kend : ∀ (sw : Bool) (f : Nat → Nat → Int32) (g : Nat → Nat → Int64) (i : Nat), WP X C Sl 1633 [some (.ref 1000), some (.ref 0), some (.ref 81), some (.int (nI i))] [] (S sw f g)) : ∀ (k i : Nat) (sw : Bool) (f : Nat → Nat → Int32) (g : Nat → Nat → Int64), n < i + k → i ≤ n → IVe f g → WP X C Sl 18 [some (.ref 1000), some (.ref 0), some (.ref 81), some (.int (nI i))] [] (S sw f g) := by
  intro k
  induction k with
  | zero => intro i sw f g h1 h2 _; omega
  | succ k ih =>
    intro i sw f g h1 h2 hI
    by_cases c : n < i + 6
    · refine wp_iload_n hX (dk DL_law 10 rfl) rfl ?_
      refine wp_aload_n hX (dk DL_law 11 rfl) rfl ?_
      refine wp_sln hX hs (dk DL_law 12 rfl) ?_
      refine wp_bipush (v := 6) hX (dk DL_law 13 rfl) (by decide) ?_
      refine wp_isub hX (dk DL_law 14 rfl) ?_
      refine wp_icmp_gt (tgt := 1633) hX (dk DL_law 15 rfl) (by decide) (fun _ => ?_) (fun h_ => absurd ((law_end hn h2).mpr c) h_)
      exact kend _ _ _ _
    · have hi : i + 6 ≤ n := by omega
      have i0 : vp_in (nI i) n := vp_nI hn (by omega)
      have kk : lwK X C Sl i := by
        intro sw f g hJ
        refine wp_iinc hX (dk DL_law_19 15 rfl) rfl (show nI i + Int32.ofInt 6 = nI (i + 6) from nI_add i 6) rfl hN ?_
        show WP _ _ _ 1630 [_, _, _, _] [] _
        refine wp_goto (tgt := 18) hX (dk DL_law_19 16 rfl) (by decide) ?_
        exact ih (i + 6) _ _ _ (by omega) (by omega) hJ
      obtain ⟨w, hw⟩ : ∃ w, w = xs (nI i).toNatClampNeg &&& 63 := ⟨_, rfl⟩
      refine wp_iload_n hX (dk DL_law 10 rfl) rfl ?_
      refine wp_aload_n hX (dk DL_law 11 rfl) rfl ?_
      refine wp_sln hX hs (dk DL_law 12 rfl) ?_
      refine wp_bipush (v := 6) hX (dk DL_law 13 rfl) (by decide) ?_
      refine wp_isub hX (dk DL_law 14 rfl) ?_
      refine wp_icmp_gt (tgt := 1633) hX (dk DL_law 15 rfl) (by decide) (fun h_ => absurd h_ (fun q => c ((law_end hn h2).mp q))) (fun _ => ?_)
      refine wp_aload_n hX (dk DL_law 16 rfl) rfl ?_
      refine wp_iload_n hX (dk DL_law 17 rfl) rfl ?_
      refine wp_sld hX hs (dk DL_law 18 rfl) i0 ?_
      refine wp_bipush (v := 63) hX (dk DL_law 19 rfl) (by decide) ?_
      refine wp_iand hX (dk DL_law 20 rfl) ?_
      rw [← hw]
      refine wp_eqc 0 (fun h33_0 => ?_) (fun h33_0 => ?_)
      · refine wp_tabAt (c := 0) (off := 191) (tgt := 224) hX (dk DL_law 21 rfl) h33_0 (by decide) (by decide) (by decide) (by decide) ?_
        exact lc_224 hX hN hs hi hn hI kk
      refine wp_eqc 1 (fun h33_1 => ?_) (fun h33_1 => ?_)
      · refine wp_tabAt (c := 1) (off := 214) (tgt := 247) hX (dk DL_law 21 rfl) h33_1 (by decide) (by decide) (by decide) (by decide) ?_
        exact lc_247 hX hN hs hi hn hI kk
      refine wp_eqc 2 (fun h33_2 => ?_) (fun h33_2 => ?_)
      · refine wp_tabAt (c := 2) (off := 257) (tgt := 290) hX (dk DL_law 21 rfl) h33_2 (by decide) (by decide) (by decide) (by decide) ?_
        exact lc_290 hX hN hs hi hn hI kk
      refine wp_eqc 3 (fun h33_3 => ?_) (fun h33_3 => ?_)
      · refine wp_tabAt (c := 3) (off := 280) (tgt := 313) hX (dk DL_law 21 rfl) h33_3 (by decide) (by decide) (by decide) (by decide) ?_
        exact lc_313 hX hN hs hi hn hI kk
      refine wp_eqc 4 (fun h33_4 => ?_) (fun h33_4 => ?_)
      · refine wp_tabAt (c := 4) (off := 323) (tgt := 356) hX (dk DL_law 21 rfl) h33_4 (by decide) (by decide) (by decide) (by decide) ?_
        exact lc_356 hX hN hs hi hn hI kk
      refine wp_eqc 5 (fun h33_5 => ?_) (fun h33_5 => ?_)
      · refine wp_tabAt (c := 5) (off := 356) (tgt := 389) hX (dk DL_law 21 rfl) h33_5 (by decide) (by decide) (by decide) (by decide) ?_
        exact lc_389 hX hN hs hi hn hI kk
      refine wp_eqc 6 (fun h33_6 => ?_) (fun h33_6 => ?_)
      · refine wp_tabAt (c := 6) (off := 379) (tgt := 412) hX (dk DL_law 21 rfl) h33_6 (by decide) (by decide) (by decide) (by decide) ?_
        exact lc_412 hX hN hs hi hn hI kk
      refine wp_eqc 7 (fun h33_7 => ?_) (fun h33_7 => ?_)
      · refine wp_tabAt (c := 7) (off := 392) (tgt := 425) hX (dk DL_law 21 rfl) h33_7 (by decide) (by decide) (by decide) (by decide) ?_
        exact lc_425 hX hN hs hi hn hI kk
      refine wp_eqc 8 (fun h33_8 => ?_) (fun h33_8 => ?_)
      · refine wp_tabAt (c := 8) (off := 435) (tgt := 468) hX (dk DL_law 21 rfl) h33_8 (by decide) (by decide) (by decide) (by decide) ?_
        exact lc_468 hX hN hs hi hn hI kk
      refine wp_eqc 9 (fun h33_9 => ?_) (fun h33_9 => ?_)
      · refine wp_tabAt (c := 9) (off := 468) (tgt := 501) hX (dk DL_law 21 rfl) h33_9 (by decide) (by decide) (by decide) (by decide) ?_
        exact lc_501 hX hN hs hi hn hI kk
      refine wp_eqc 10 (fun h33_10 => ?_) (fun h33_10 => ?_)
      · refine wp_tabAt (c := 10) (off := 501) (tgt := 534) hX (dk DL_law 21 rfl) h33_10 (by decide) (by decide) (by decide) (by decide) ?_
        exact lc_534 hX hN hs hi hn hI kk
      refine wp_eqc 11 (fun h33_11 => ?_) (fun h33_11 => ?_)
      · refine wp_tabAt (c := 11) (off := 534) (tgt := 567) hX (dk DL_law 21 rfl) h33_11 (by decide) (by decide) (by decide) (by decide) ?_
        exact lc_567 hX hN hs hi hn hI kk
      refine wp_eqc 12 (fun h33_12 => ?_) (fun h33_12 => ?_)
      · refine wp_tabAt (c := 12) (off := 557) (tgt := 590) hX (dk DL_law 21 rfl) h33_12 (by decide) (by decide) (by decide) (by decide) ?_
        exact lc_590 hX hN hs hi hn hI kk
      refine wp_eqc 13 (fun h33_13 => ?_) (fun h33_13 => ?_)
      · refine wp_tabAt (c := 13) (off := 590) (tgt := 623) hX (dk DL_law 21 rfl) h33_13 (by decide) (by decide) (by decide) (by decide) ?_
        exact lc_623 hX hN hs hi hn hI kk
      refine wp_eqc 14 (fun h33_14 => ?_) (fun h33_14 => ?_)
      · refine wp_tabAt (c := 14) (off := 613) (tgt := 646) hX (dk DL_law 21 rfl) h33_14 (by decide) (by decide) (by decide) (by decide) ?_
        exact lc_646 hX hN hs hi hn hI kk
      refine wp_eqc 15 (fun h33_15 => ?_) (fun h33_15 => ?_)
      · refine wp_tabAt (c := 15) (off := 646) (tgt := 679) hX (dk DL_law 21 rfl) h33_15 (by decide) (by decide) (by decide) (by decide) ?_
        exact lc_679 hX hN hs hi hn hI kk
      refine wp_eqc 16 (fun h33_16 => ?_) (fun h33_16 => ?_)
      · refine wp_tabAt (c := 16) (off := 689) (tgt := 722) hX (dk DL_law 21 rfl) h33_16 (by decide) (by decide) (by decide) (by decide) ?_
        exact lc_722 hX hN hs hi hn hI kk
      refine wp_eqc 17 (fun h33_17 => ?_) (fun h33_17 => ?_)
      · refine wp_tabAt (c := 17) (off := 722) (tgt := 755) hX (dk DL_law 21 rfl) h33_17 (by decide) (by decide) (by decide) (by decide) ?_
        exact lc_755 hX hN hs hi hn hI kk
      refine wp_eqc 18 (fun h33_18 => ?_) (fun h33_18 => ?_)
      · refine wp_tabAt (c := 18) (off := 755) (tgt := 788) hX (dk DL_law 21 rfl) h33_18 (by decide) (by decide) (by decide) (by decide) ?_
        exact lc_788 hX hN hs hi hn hI kk
      refine wp_eqc 19 (fun h33_19 => ?_) (fun h33_19 => ?_)
      · refine wp_tabAt (c := 19) (off := 788) (tgt := 821) hX (dk DL_law 21 rfl) h33_19 (by decide) (by decide) (by decide) (by decide) ?_
        exact lc_821 hX hN hs hi hn hI kk
      refine wp_eqc 20 (fun h33_20 => ?_) (fun h33_20 => ?_)
      · refine wp_tabAt (c := 20) (off := 821) (tgt := 854) hX (dk DL_law 21 rfl) h33_20 (by decide) (by decide) (by decide) (by decide) ?_
        exact lc_854 hX hN hs hi hn hI kk
      refine wp_eqc 21 (fun h33_21 => ?_) (fun h33_21 => ?_)
      · refine wp_tabAt (c := 21) (off := 854) (tgt := 887) hX (dk DL_law 21 rfl) h33_21 (by decide) (by decide) (by decide) (by decide) ?_
        exact lc_887 hX hN hs hi hn hI kk
      refine wp_eqc 22 (fun h33_22 => ?_) (fun h33_22 => ?_)
      · refine wp_tabAt (c := 22) (off := 887) (tgt := 920) hX (dk DL_law 21 rfl) h33_22 (by decide) (by decide) (by decide) (by decide) ?_
        exact lc_920 hX hN hs hi hn hI kk
      refine wp_eqc 23 (fun h33_23 => ?_) (fun h33_23 => ?_)
      · refine wp_tabAt (c := 23) (off := 920) (tgt := 953) hX (dk DL_law 21 rfl) h33_23 (by decide) (by decide) (by decide) (by decide) ?_
        exact lc_953 hX hN hs hi hn hI kk
      refine wp_eqc 24 (fun h33_24 => ?_) (fun h33_24 => ?_)
      · refine wp_tabAt (c := 24) (off := 953) (tgt := 986) hX (dk DL_law 21 rfl) h33_24 (by decide) (by decide) (by decide) (by decide) ?_
        exact lc_986 hX hN hs hi hn hI kk
      refine wp_eqc 25 (fun h33_25 => ?_) (fun h33_25 => ?_)
      · refine wp_tabAt (c := 25) (off := 996) (tgt := 1029) hX (dk DL_law 21 rfl) h33_25 (by decide) (by decide) (by decide) (by decide) ?_
        exact lc_1029 hX hN hs hi hn hI kk
      refine wp_eqc 26 (fun h33_26 => ?_) (fun h33_26 => ?_)
      · refine wp_tabAt (c := 26) (off := 1029) (tgt := 1062) hX (dk DL_law 21 rfl) h33_26 (by decide) (by decide) (by decide) (by decide) ?_
        exact lc_1062 hX hN hs hi hn hI kk
      refine wp_eqc 27 (fun h33_27 => ?_) (fun h33_27 => ?_)
      · refine wp_tabAt (c := 27) (off := 1082) (tgt := 1115) hX (dk DL_law 21 rfl) h33_27 (by decide) (by decide) (by decide) (by decide) ?_
        exact lc_1115 hX hN hs hi hn hI kk
      refine wp_eqc 28 (fun h33_28 => ?_) (fun h33_28 => ?_)
      · refine wp_tabAt (c := 28) (off := 1105) (tgt := 1138) hX (dk DL_law 21 rfl) h33_28 (by decide) (by decide) (by decide) (by decide) ?_
        exact lc_1138 hX hN hs hi hn hI kk
      refine wp_eqc 29 (fun h33_29 => ?_) (fun h33_29 => ?_)
      · refine wp_tabAt (c := 29) (off := 1128) (tgt := 1161) hX (dk DL_law 21 rfl) h33_29 (by decide) (by decide) (by decide) (by decide) ?_
        exact lc_1161 hX hN hs hi hn hI kk
      refine wp_eqc 30 (fun h33_30 => ?_) (fun h33_30 => ?_)
      · refine wp_tabAt (c := 30) (off := 1151) (tgt := 1184) hX (dk DL_law 21 rfl) h33_30 (by decide) (by decide) (by decide) (by decide) ?_
        exact lc_1184 hX hN hs hi hn hI kk
      refine wp_eqc 31 (fun h33_31 => ?_) (fun h33_31 => ?_)
      · refine wp_tabAt (c := 31) (off := 1164) (tgt := 1197) hX (dk DL_law 21 rfl) h33_31 (by decide) (by decide) (by decide) (by decide) ?_
        exact lc_1197 hX hN hs hi hn hI kk
      refine wp_eqc 32 (fun h33_32 => ?_) (fun h33_32 => ?_)
      · refine wp_tabAt (c := 32) (off := 1177) (tgt := 1210) hX (dk DL_law 21 rfl) h33_32 (by decide) (by decide) (by decide) (by decide) ?_
        exact lc_1210 hX hN hs hi hn hI kk
      refine wp_eqc 33 (fun h33_33 => ?_) (fun h33_33 => ?_)
      · refine wp_tabAt (c := 33) (off := 1190) (tgt := 1223) hX (dk DL_law 21 rfl) h33_33 (by decide) (by decide) (by decide) (by decide) ?_
        exact lc_1223 hX hN hs hi hn hI kk
      refine wp_eqc 34 (fun h33_34 => ?_) (fun h33_34 => ?_)
      · refine wp_tabAt (c := 34) (off := 1203) (tgt := 1236) hX (dk DL_law 21 rfl) h33_34 (by decide) (by decide) (by decide) (by decide) ?_
        exact lc_1236 hX hN hs hi hn hI kk
      refine wp_eqc 35 (fun h33_35 => ?_) (fun h33_35 => ?_)
      · refine wp_tabAt (c := 35) (off := 1226) (tgt := 1259) hX (dk DL_law 21 rfl) h33_35 (by decide) (by decide) (by decide) (by decide) ?_
        exact lc_1259 hX hN hs hi hn hI kk
      refine wp_eqc 36 (fun h33_36 => ?_) (fun h33_36 => ?_)
      · refine wp_tabAt (c := 36) (off := 1269) (tgt := 1302) hX (dk DL_law 21 rfl) h33_36 (by decide) (by decide) (by decide) (by decide) ?_
        exact lc_1302 hX hN hs hi hn hI kk
      refine wp_eqc 37 (fun h33_37 => ?_) (fun h33_37 => ?_)
      · refine wp_tabAt (c := 37) (off := 1292) (tgt := 1325) hX (dk DL_law 21 rfl) h33_37 (by decide) (by decide) (by decide) (by decide) ?_
        exact lc_1325 hX hN hs hi hn hI kk
      refine wp_eqc 38 (fun h33_38 => ?_) (fun h33_38 => ?_)
      · refine wp_tabAt (c := 38) (off := 1325) (tgt := 1358) hX (dk DL_law 21 rfl) h33_38 (by decide) (by decide) (by decide) (by decide) ?_
        exact lc_1358 hX hN hs hi hn hI kk
      refine wp_eqc 39 (fun h33_39 => ?_) (fun h33_39 => ?_)
      · refine wp_tabAt (c := 39) (off := 1368) (tgt := 1401) hX (dk DL_law 21 rfl) h33_39 (by decide) (by decide) (by decide) (by decide) ?_
        exact lc_1401 hX hN hs hi hn hI kk
      refine wp_eqc 40 (fun h33_40 => ?_) (fun h33_40 => ?_)
      · refine wp_tabAt (c := 40) (off := 1441) (tgt := 1474) hX (dk DL_law 21 rfl) h33_40 (by decide) (by decide) (by decide) (by decide) ?_
        exact lc_1474 hX hN hs hi hn hI kk
      refine wp_eqc 41 (fun h33_41 => ?_) (fun h33_41 => ?_)
      · refine wp_tabAt (c := 41) (off := 1475) (tgt := 1508) hX (dk DL_law 21 rfl) h33_41 (by decide) (by decide) (by decide) (by decide) ?_
        exact lc_1508 hX hN hs hi hn hI kk
      refine wp_eqc 42 (fun h33_42 => ?_) (fun h33_42 => ?_)
      · refine wp_tabAt (c := 42) (off := 1538) (tgt := 1571) hX (dk DL_law 21 rfl) h33_42 (by decide) (by decide) (by decide) (by decide) ?_
        exact lc_1571 hX hN hs hi hn hI kk
      refine wp_eqc 43 (fun h33_43 => ?_) (fun h33_43 => ?_)
      · refine wp_tabAt (c := 43) (off := 1571) (tgt := 1604) hX (dk DL_law 21 rfl) h33_43 (by decide) (by decide) (by decide) (by decide) ?_
        exact lc_1604 hX hN hs hi hn hI kk
      · refine wp_tabOut (tgt := 1627) hX (dk DL_law 21 rfl) (by have := ne_toI h33_0 (k := 0) (by decide); have := ne_toI h33_1 (k := 1) (by decide); have := ne_toI h33_2 (k := 2) (by decide); have := ne_toI h33_3 (k := 3) (by decide); have := ne_toI h33_4 (k := 4) (by decide); have := ne_toI h33_5 (k := 5) (by decide); have := ne_toI h33_6 (k := 6) (by decide); have := ne_toI h33_7 (k := 7) (by decide); have := ne_toI h33_8 (k := 8) (by decide); have := ne_toI h33_9 (k := 9) (by decide); have := ne_toI h33_10 (k := 10) (by decide); have := ne_toI h33_11 (k := 11) (by decide); have := ne_toI h33_12 (k := 12) (by decide); have := ne_toI h33_13 (k := 13) (by decide); have := ne_toI h33_14 (k := 14) (by decide); have := ne_toI h33_15 (k := 15) (by decide); have := ne_toI h33_16 (k := 16) (by decide); have := ne_toI h33_17 (k := 17) (by decide); have := ne_toI h33_18 (k := 18) (by decide); have := ne_toI h33_19 (k := 19) (by decide); have := ne_toI h33_20 (k := 20) (by decide); have := ne_toI h33_21 (k := 21) (by decide); have := ne_toI h33_22 (k := 22) (by decide); have := ne_toI h33_23 (k := 23) (by decide); have := ne_toI h33_24 (k := 24) (by decide); have := ne_toI h33_25 (k := 25) (by decide); have := ne_toI h33_26 (k := 26) (by decide); have := ne_toI h33_27 (k := 27) (by decide); have := ne_toI h33_28 (k := 28) (by decide); have := ne_toI h33_29 (k := 29) (by decide); have := ne_toI h33_30 (k := 30) (by decide); have := ne_toI h33_31 (k := 31) (by decide); have := ne_toI h33_32 (k := 32) (by decide); have := ne_toI h33_33 (k := 33) (by decide); have := ne_toI h33_34 (k := 34) (by decide); have := ne_toI h33_35 (k := 35) (by decide); have := ne_toI h33_36 (k := 36) (by decide); have := ne_toI h33_37 (k := 37) (by decide); have := ne_toI h33_38 (k := 38) (by decide); have := ne_toI h33_39 (k := 39) (by decide); have := ne_toI h33_40 (k := 40) (by decide); have := ne_toI h33_41 (k := 41) (by decide); have := ne_toI h33_42 (k := 42) (by decide); have := ne_toI h33_43 (k := 43) (by decide); omega) (by decide) ?_
        exact kk _ _ _ hI
end LAW
