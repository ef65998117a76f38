/-! REFERENCE: the longest row -/
theorem jfo_pct {sh : Nat → Int32} {n : Nat} {x : Int32} (hn : n ≤ 10) {j : Nat} (hj : j < 32) (h : bt (jfo sh n x) j = true) : j < n ∧ pct (sh j) < pct x := by
  unfold jfo at h
  rw [bt_jbs _ n j (by omega) hj] at h
  obtain ⟨h1, h2⟩ := of_decide_eq_true h
  exact ⟨h1, jpc_lt.mp (jct_lt h2)⟩
/-- how many figures can come out of i in a row, those in s; k deep -/
def MN (B : Nat → Int32) (n : Nat) (s : Int32) : Nat → Nat → Int32
  | 0, _ => 0
  | k + 1, i => jmx (fun j => MN B n s k j + 1) (B i &&& s) n
/-- what comes out of each figure -/
def BB (sh : Nat → Int32) (n i : Nat) : Int32 := jfo sh n (sh i)
theorem MN_st {sh : Nat → Int32} {n : Nat} {s : Int32} (hn : n ≤ 10) : ∀ (k q i : Nat), pct (sh i) < k → pct (sh i) < q → MN (BB sh n) n s k i = MN (BB sh n) n s q i
  | 0, _, _, h, _ => absurd h (Nat.not_lt_zero _)
  | _, 0, _, _, h => absurd h (Nat.not_lt_zero _)
  | k + 1, q + 1, i, h1, h2 => by
    rw [MN, MN]
    refine jmx_cong n (by omega) (fun j hj hb => ?_)
    rw [b_and, Bool.and_eq_true] at hb
    have hb2 : bt (jfo sh n (sh i)) j = true := hb.1
    have := (jfo_pct hn (by omega) hb2).2
    rw [MN_st hn k q j (by omega) (by omega)]
/-- the longest row out of x -/
def MG (sh : Nat → Int32) (n : Nat) (s x : Int32) : Int32 := jmx (fun j => MN (BB sh n) n s 26 j + 1) (x &&& s) n
theorem MN_lt {sh : Nat → Int32} {n i j : Nat} {s : Int32} (hn : n ≤ 10) (hj : j < n) (hb : bt (jfo sh n (sh i) &&& s) j = true) : pct (sh j) < pct (sh i) := by
  rw [b_and, Bool.and_eq_true] at hb
  exact (jfo_pct hn (by omega) hb.1).2
theorem MN_26 {sh : Nat → Int32} {n i : Nat} {s : Int32} (hn : n ≤ 10) (hp : pct (sh i) < 26) : jmx (fun j => MN (BB sh n) n s 26 j + 1) (jfo sh n (sh i) &&& s) n = MN (BB sh n) n s 26 i := by
  rw [MN_st hn 26 27 i hp (by omega)]
  rfl
theorem kx_pi {P : Nat → Nat} {i j a : Nat} (c : ¬ P i = a) (h : P j < a ∨ (P j = a ∧ j < i + 1)) : P j < a ∨ (P j = a ∧ j < i) := by
  by_cases q : j = i
  · subst q; omega
  · omega
theorem k_mlongOf (d : Nat) (sw : Bool) (f : Nat → Nat → Int32) (g : Nat → Nat → Int64) (n : Nat) (sh : Nat → Int32) (s x : Int32) (hF : mFg f n sh) (ho : ofO f n sh x) : CT (d + 3) 0 0 iX11_longestOf [.ref 81, .int s] (S sw f g) (QS (fun r sw2 f2 g2 => r = some (.int (MG sh n s (jfo sh n x))) ∧ sw2 = sw ∧ g2 = g ∧ (∀ b, b ≠ 110 → f2 b = f b) ∧ (∀ i, i < n → f2 110 i = MN (BB sh n) n s 26 i) ∧ f2 110 10 = MG sh n s (jfo sh n x))) := by
  obtain ⟨hn, hn10, hsh⟩ := hF
  refine CT.of rfl (Nat.le_of_ble_eq_true rfl) (fun X hX hR hN _ => ?_)
  have hX : Good X RX11 cX11_longestOf (d + 3) 0 0 := hX
  have hN : x_nl X = 4 := hN
  show WP X 0 0 0 [_, _, _, _] [] _
  have lo1 : ∀ (m i a : Nat) (f2 : Nat → Nat → Int32), i + m = n → a < 26 → (∀ b, b ≠ 110 → f2 b = f b) → (∀ j, j < n → (pct (sh j) < a ∨ (pct (sh j) = a ∧ j < i)) → f2 110 j = MN (BB sh n) n s 26 j) → (∀ f3, (∀ b, b ≠ 110 → f3 b = f b) → (∀ j, j < n → pct (sh j) < a + 1 → f3 110 j = MN (BB sh n) n s 26 j) → WP X 0 0 49 [some (.ref 81), some (.int s), some (.int (nI a)), some (.int (nI n))] [] (S sw f3 g)) → WP X 0 0 10 [some (.ref 81), some (.int s), some (.int (nI a)), some (.int (nI i))] [] (S sw f2 g) := by
    intro m
    induction m with
    | zero =>
      intro i a f2 hi ha hf hd k
      obtain rfl : i = n := by omega
      refine wp_iload_n hX (dk DX11_longestOf 7 rfl) rfl ?_
      refine wp_aload_n hX (dk DX11_longestOf 8 rfl) rfl ?_
      refine w_geti hX flX11_112 (dk DX11_longestOf 9 rfl) (by decide) rfl ?_
      rw [hf 81 (by decide), hn]
      refine wp_icmp_ge (tgt := 49) hX (dk DX11_longestOf 10 rfl) (by decide) (fun _ => ?_) (fun h_ => absurd (nI_le (by omega) (by omega)) h_)
      exact k f2 hf (fun j hj hp => hd j hj (by omega))
    | succ m ih =>
      intro i a f2 hi ha hf hd k
      have hin : i < n := by omega
      by_cases c : pct (sh i) = a
      · refine wp_iload_n hX (dk DX11_longestOf 7 rfl) rfl ?_
        refine wp_aload_n hX (dk DX11_longestOf 8 rfl) rfl ?_
        refine w_geti hX flX11_112 (dk DX11_longestOf 9 rfl) (by decide) rfl ?_
        rw [hf 81 (by decide), hn]
        refine wp_icmp_ge (tgt := 49) hX (dk DX11_longestOf 10 rfl) (by decide) (fun h_ => absurd h_ (nI_ge (by omega) (by omega))) (fun _ => ?_)
        refine wp_aload_n hX (dk DX11_longestOf 11 rfl) rfl ?_
        refine w_getr hX flX11_9 (dk DX11_longestOf 12 rfl) rfl rfl ?_
        refine wp_iload_n hX (dk DX11_longestOf 13 rfl) rfl ?_
        refine w_iald (j := _) hX (dk DX11_longestOf 14 rfl) rfl rfl (show _ < 10 by omega) ?_
        rw [hf 82 (by decide), (hsh i hin).1]
        refine w_callS (As := [_]) lkX11_156 hX (dk DX11_longestOf 15 rfl) rfl (by decide) (k_mcells (d + 1) sw f2 g _) ?_
        show WP _ _ _ 27 [_, _, _, _] [_] _
        rw [jpc_pct, c]
        refine wp_iload_n hX (dk DX11_longestOf 16 rfl) rfl ?_
        refine wp_icmp_ne (tgt := 43) hX (dk DX11_longestOf 17 rfl) (by decide) (fun h_ => absurd (rfl) h_) (fun _ => ?_)
        refine wp_aload_n hX (dk DX11_longestOf 18 rfl) rfl ?_
        refine w_getr hX flX11_97 (dk DX11_longestOf 19 rfl) rfl rfl ?_
        refine wp_iload_n hX (dk DX11_longestOf 20 rfl) rfl ?_
        refine wp_aload_n hX (dk DX11_longestOf 21 rfl) rfl ?_
        refine wp_iload_n hX (dk DX11_longestOf 22 rfl) rfl ?_
        refine wp_iload_n hX (dk DX11_longestOf 23 rfl) rfl ?_
        refine w_callV (As := [_, _]) lkX11_284 hX (dk DX11_longestOf 24 rfl) rfl rfl (by simp [Value.category]) hN (k_mmost d sw f2 g n i s (by rw [hf 81 (by decide)]; exact hn) hn10 (by omega)) ?_
        show WP _ _ _ 42 [_, _, _, _] [_, _, _] _
        refine w_iast (j := _) hX (dk DX11_longestOf 25 rfl) rfl rfl (show _ < 11 by omega) ?_
        refine wp_iinc hX (dk DX11_longestOf 26 rfl) rfl (nI_inc _) rfl hN ?_
        show WP _ _ _ 46 [_, _, _, _] [] _
        refine wp_goto (tgt := 10) hX (dk DX11_longestOf 27 rfl) (by decide) ?_
        refine ih (i + 1) a _ (by omega) ha (fun b hb => by rw [u2_ne _ _ _ hb]; exact hf b hb) (fun j hj hp => ?_) k
        by_cases q : j = i
        · rw [q, u2_at, hf 109 (by decide), ho.1 i hin, ← MN_26 hn10 (by omega)]; exact jmx_cong n (by omega) (fun j2 hj2 hb2 => by rw [hd j2 hj2 (Or.inl (by have := MN_lt hn10 hj2 hb2; omega))])
        · rw [u2_off _ _ _ q]; exact hd j hj (by omega)
      · refine wp_iload_n hX (dk DX11_longestOf 7 rfl) rfl ?_
        refine wp_aload_n hX (dk DX11_longestOf 8 rfl) rfl ?_
        refine w_geti hX flX11_112 (dk DX11_longestOf 9 rfl) (by decide) rfl ?_
        rw [hf 81 (by decide), hn]
        refine wp_icmp_ge (tgt := 49) hX (dk DX11_longestOf 10 rfl) (by decide) (fun h_ => absurd h_ (nI_ge (by omega) (by omega))) (fun _ => ?_)
        refine wp_aload_n hX (dk DX11_longestOf 11 rfl) rfl ?_
        refine w_getr hX flX11_9 (dk DX11_longestOf 12 rfl) rfl rfl ?_
        refine wp_iload_n hX (dk DX11_longestOf 13 rfl) rfl ?_
        refine w_iald (j := _) hX (dk DX11_longestOf 14 rfl) rfl rfl (show _ < 10 by omega) ?_
        rw [hf 82 (by decide), (hsh i hin).1]
        refine w_callS (As := [_]) lkX11_156 hX (dk DX11_longestOf 15 rfl) rfl (by decide) (k_mcells (d + 1) sw f2 g _) ?_
        show WP _ _ _ 27 [_, _, _, _] [_] _
        rw [jpc_pct]
        refine wp_iload_n hX (dk DX11_longestOf 16 rfl) rfl ?_
        refine wp_icmp_ne (tgt := 43) hX (dk DX11_longestOf 17 rfl) (by decide) (fun _ => ?_) (fun h_ => absurd h_ (fun q => c ((nI_eq (by have := pct_25 (shp_Sq (hsh i hin).2).1; omega) (by omega)).mp q)))
        refine wp_iinc hX (dk DX11_longestOf 26 rfl) rfl (nI_inc _) rfl hN ?_
        show WP _ _ _ 46 [_, _, _, _] [] _
        refine wp_goto (tgt := 10) hX (dk DX11_longestOf 27 rfl) (by decide) ?_
        exact ih (i + 1) a f2 (by omega) ha hf (fun j hj hp => hd j hj (kx_pi (P := fun j => pct (sh j)) c hp)) k
  have lo2 : ∀ (m a : Nat) (f2 : Nat → Nat → Int32) (z : Option Value), a + m = 26 → (∀ b, b ≠ 110 → f2 b = f b) → (∀ j, j < n → pct (sh j) < a → f2 110 j = MN (BB sh n) n s 26 j) → WP X 0 0 2 [some (.ref 81), some (.int s), some (.int (nI a)), z] [] (S sw f2 g) := by
    intro m
    induction m with
    | zero =>
      intro a f2 z ha hf hd
      obtain rfl : a = 26 := by omega
      have e10 : jmx (fun j => f2 110 j + 1) (f2 109 10 &&& s) n = MG sh n s (jfo sh n x) := by
        rw [hf 109 (by decide), ho.2]
        exact jmx_cong n (by omega) (fun j hj _ => by rw [hd j hj (by have := pct_25 (shp_Sq (hsh j hj).2).1; omega)])
      refine wp_iload_n hX (dk DX11_longestOf 2 rfl) rfl ?_
      refine wp_bipush (v := 26) hX (dk DX11_longestOf 3 rfl) (by decide) ?_
      refine wp_icmp_ge (tgt := 55) hX (dk DX11_longestOf 4 rfl) (by decide) (fun _ => ?_) (fun h_ => absurd (by decide) h_)
      refine wp_aload_n hX (dk DX11_longestOf 30 rfl) rfl ?_
      refine w_getr hX flX11_97 (dk DX11_longestOf 31 rfl) rfl rfl ?_
      refine wp_bipush (v := 10) hX (dk DX11_longestOf 32 rfl) (by decide) ?_
      refine wp_aload_n hX (dk DX11_longestOf 33 rfl) rfl ?_
      refine wp_bipush (v := 10) hX (dk DX11_longestOf 34 rfl) (by decide) ?_
      refine wp_iload_n hX (dk DX11_longestOf 35 rfl) rfl ?_
      refine w_callV (As := [_, _]) lkX11_284 hX (dk DX11_longestOf 36 rfl) rfl rfl (by simp [Value.category]) hN (k_mmost d sw f2 g n 10 s (by rw [hf 81 (by decide)]; exact hn) hn10 (by decide)) ?_
      show WP _ _ _ 68 [_, _, _, _] [_, _, _] _
      rw [e10]
      refine w_iast (j := 10) hX (dk DX11_longestOf 37 rfl) rfl rfl (by decide) ?_
      refine wp_aload_n hX (dk DX11_longestOf 38 rfl) rfl ?_
      refine w_getr hX flX11_97 (dk DX11_longestOf 39 rfl) rfl rfl ?_
      refine wp_bipush (v := 10) hX (dk DX11_longestOf 40 rfl) (by decide) ?_
      refine w_iald (j := 10) hX (dk DX11_longestOf 41 rfl) rfl rfl (by decide) ?_
      rw [u2_at]
      exact wp_ireturn hX hR (dk DX11_longestOf 42 rfl) rfl (Nat.le_refl _) (Nat.le_refl _) (⟨_, _, _, rfl, rfl, rfl, rfl, fun b hb => by rw [u2_ne _ _ _ hb]; exact hf b hb, fun i hi => by rw [u2_off _ _ _ (by omega)]; exact hd i hi (by have := pct_25 (shp_Sq (hsh i hi).2).1; omega), u2_at _ _ _ _⟩)
    | succ m ih =>
      intro a f2 z ha hf hd
      refine wp_iload_n hX (dk DX11_longestOf 2 rfl) rfl ?_
      refine wp_bipush (v := 26) hX (dk DX11_longestOf 3 rfl) (by decide) ?_
      refine wp_icmp_ge (tgt := 55) hX (dk DX11_longestOf 4 rfl) (by decide) (fun h_ => absurd h_ (nI_ge (b := 26) (by omega) (by omega))) (fun _ => ?_)
      refine wp_iconst (v := 0) hX (dk DX11_longestOf 5 rfl) (by decide) ?_
      refine wp_istore_n hX (dk DX11_longestOf 6 rfl) rfl rfl hN (Nat.le_of_ble_eq_true rfl) ?_
      show WP _ _ _ 10 [_, _, _, _] [] _
      refine lo1 n 0 a f2 (by omega) (by omega) hf (fun j hj hp => hd j hj (by omega)) (fun f3 h1 h2 => ?_)
      refine wp_iinc hX (dk DX11_longestOf 28 rfl) rfl (nI_inc _) rfl hN ?_
      show WP _ _ _ 52 [_, _, _, _] [] _
      refine wp_goto (tgt := 2) hX (dk DX11_longestOf 29 rfl) (by decide) ?_
      exact ih (a + 1) f3 _ (by omega) h1 h2
  refine wp_iconst (v := 0) hX (dk DX11_longestOf 0 rfl) (by decide) ?_
  refine wp_istore_n hX (dk DX11_longestOf 1 rfl) rfl rfl hN (Nat.le_of_ble_eq_true rfl) ?_
  show WP _ _ _ 2 [_, _, _, _] [] _
  exact lo2 26 0 f _ (by decide) (fun _ _ => rfl) (fun j _ h => absurd h (Nat.not_lt_zero _))
