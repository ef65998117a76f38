/-! REFERENCE: longest -/
/-- an order in which what is cut out comes first -/
def pOk (B : Nat → Int32) (n : Nat) (ρ : Nat → Nat) : Prop := (∀ i, i < n → ρ i < n) ∧ ∀ i j, i < n → j < n → bt (B i) j = true → ρ j < ρ i
theorem jmx_at {r : Nat → Int32} {s : Int32} : ∀ n, n ≤ 32 → jmx r s n = 0 ∨ ∃ j, j < n ∧ bt s j = true ∧ r j = jmx r s n
  | 0, _ => Or.inl rfl
  | n + 1, hn => by
    have ih := jmx_at (r := r) (s := s) n (by omega)
    rw [jmx]
    by_cases c1 : jb s n = 0
    · rw [if_pos c1]
      exact ih.imp_right (fun ⟨j, a, b⟩ => ⟨j, by omega, b⟩)
    · rw [if_neg c1, imx]
      by_cases c2 : jmx r s n < r n
      · rw [if_pos c2]
        exact Or.inr ⟨n, by omega, (jb_ne s (by omega)).mp c1, rfl⟩
      · rw [if_neg c2]
        exact ih.imp_right (fun ⟨j, a, b⟩ => ⟨j, by omega, b⟩)
theorem jmx_le {r : Nat → Int32} {s : Int32} {c : Nat} : ∀ n, n ≤ 32 → (∀ k, k < n → bt s k = true → ∃ m, m ≤ c ∧ r k = nI m) → ∃ m, m ≤ c ∧ jmx r s n = nI m
  | 0, _, _ => ⟨0, Nat.zero_le _, nI_0.symm⟩
  | n + 1, hn, h => by
    rcases jmx_at (r := r) (s := s) (n + 1) hn with e | ⟨j, a, b, e⟩
    · exact ⟨0, Nat.zero_le _, by rw [e, nI_0]⟩
    · obtain ⟨m, m1, m2⟩ := h j a b
      exact ⟨m, m1, by rw [← e, m2]⟩
theorem MN_pos {B : Nat → Int32} {n : Nat} {s : Int32} {ρ : Nat → Nat} (hn : n ≤ 10) (hp : pOk B n ρ) : ∀ k i, i < n → ∃ m, m ≤ ρ i ∧ MN B n s k i = nI m
  | 0, i, _ => ⟨0, Nat.zero_le _, nI_0.symm⟩
  | k + 1, i, hi => by
    rw [MN]
    refine jmx_le n (by omega) (fun j hj hb => ?_)
    rw [b_and, Bool.and_eq_true] at hb
    obtain ⟨m, m1, m2⟩ := MN_pos (s := s) hn hp k j hj
    have := hp.2 i j hi hj hb.1
    exact ⟨m + 1, by omega, by rw [m2, nI_1]⟩
theorem b_sq {i : Nat} (hi : i < 32) : bt 33554431 i = decide (i < 25) := by
  rw [show (33554431 : Int32) = jall (nI 25) by decide +kernel]
  exact bt_all (by decide) hi
theorem jfo_sq {sh : Nat → Int32} {n : Nat} {x : Int32} (hn : n ≤ 10) : jfo sh n x &&& 33554431 = jfo sh n x := by
  refine b_ext (fun i hi => ?_)
  rw [b_and, b_sq hi, jfo, bt_jbs _ n i (by omega) hi]
  by_cases c : i < n
  · rw [show decide (i < 25) = true from decide_eq_true (by omega), Bool.and_true]
  · rw [decide_eq_false (fun q => c q.1), Bool.false_and]
theorem mfl_jfl {mo r : Nat → Int32} {s l : Int32} (hl : ¬ l ≤ 0) : ∀ (k i : Nat), (∀ j, i ≤ j → j < i + k → r j = mo j + 1) → mfl mo s (l - 1) k i = jfl r s l k i
  | 0, _, _ => rfl
  | k + 1, i, h => by
    rw [mfl, jfl, mfl_jfl hl k (i + 1) (fun j h1 h2 => h j (by omega) (by omega)), h i (Nat.le_refl _) (by omega)]
    have e : mo i + 1 = l ↔ mo i = l - 1 := ⟨fun q => by rw [← q, Int32.add_sub_cancel], fun q => by rw [q, Int32.sub_add_cancel]⟩
    by_cases c : ¬ jb s i = 0 ∧ mo i = l - 1
    · rw [if_pos c, if_pos ⟨hl, c.1, e.mpr c.2⟩]
    · rw [if_neg c, if_neg (fun q => c ⟨q.2.1, e.mp q.2.2⟩)]
theorem jfl_ex {r : Nat → Int32} {s l : Int32} (hl : ¬ l ≤ 0) : ∀ (k i j : Nat), i ≤ j → j < i + k → ¬ jb s j = 0 → r j = l → ∃ q, i ≤ q ∧ q < i + k ∧ jfl r s l k i = nI q ∧ ¬ jb s q = 0 ∧ r q = l
  | 0, i, j, h1, h2, _, _ => absurd h2 (by omega)
  | k + 1, i, j, h1, h2, h3, h4 => by
    rw [jfl]
    by_cases c : ¬ l ≤ 0 ∧ ¬ jb s i = 0 ∧ r i = l
    · rw [if_pos c]
      exact ⟨i, Nat.le_refl _, by omega, rfl, c.2⟩
    · rw [if_neg c]
      have hij : i ≠ j := fun q => c ⟨hl, by rw [q]; exact h3, by rw [q]; exact h4⟩
      obtain ⟨q, q1, q2, q3⟩ := jfl_ex hl k (i + 1) j (by omega) (by omega) h3 h4
      exact ⟨q, by omega, by omega, q3⟩
theorem jfl_0 {r : Nat → Int32} {s : Int32} : ∀ (k i : Nat), jfl r s 0 k i = -2
  | 0, _ => rfl
  | k + 1, i => by rw [jfl, if_neg (fun q => q.1 (by decide)), jfl_0 k]
/-- one step of the k-th of a longest row -/
theorem jil_st {r B : Nat → Int32} {n : Nat} (hn : n ≤ 10) (hr : ∀ j, j < n → r j = jmx r (B j) n + 1) {s : Int32} {v : Nat} (hv : v < 100) (h : jmx r s n = nI (v + 1)) : ∃ q, q < n ∧ jfl r s (jmx r s n) n 0 = nI q ∧ jmx r (B q) n = nI v := by
  have hl : ¬ nI (v + 1) ≤ 0 := nI_nle (by omega) (by omega)
  rcases jmx_at (r := r) (s := s) n (by omega) with e | ⟨j, j1, j2, j3⟩
  · rw [h] at e
    exact absurd e (nI_ne0 (by omega) (by omega))
  · rw [h] at j3 ⊢
    obtain ⟨q, q1, q2, q3, q4, q5⟩ := jfl_ex (r := r) hl n 0 j (by omega) (by omega) ((jb_ne s (by omega)).mpr j2) j3
    refine ⟨q, by omega, q3, ?_⟩
    have := hr q (by omega)
    rw [q5, ← nI_1] at this
    have e2 := congrArg (fun z => z - 1) this
    simpa only [Int32.add_sub_cancel] using e2.symm
theorem jil_end {r B : Nat → Int32} {n : Nat} {k : Int32} (hn : n ≤ 10) (hr : ∀ j, j < n → r j = jmx r (B j) n + 1) : ∀ (v i m : Nat) (s : Int32), jmx r s n = nI v → v < 100 → (∀ q, i ≤ q → q < i + v → ¬ nI q = k) → jil r B n k m i s = -2
  | _, _, 0, _, _, _, _ => rfl
  | 0, i, m + 1, s, h, _, _ => by
    have e : jfl r s (jmx r s n) n 0 = -2 := by rw [h, nI_0, jfl_0]
    rw [jil, if_pos (Or.inl e), e]
  | v + 1, i, m + 1, s, h, hv, hk => by
    obtain ⟨q, q1, q2, q3⟩ := jil_st hn hr (by omega) h
    rw [jil, q2, if_neg (fun c => c.elim (rE_ne q (by omega)) (hk i (Nat.le_refl _) (by omega))), nI_clamp (by omega)]
    exact jil_end hn hr v (i + 1) m _ q3 (by omega) (fun q a b => hk q (by omega) (by omega))
/-- -1 or a number -/
theorem m1_of {k : Int32} (h : -1 ≤ k) (h2 : ¬ k = -1) : ∃ j, j < 2 ^ 31 ∧ k = nI j := nI_of (fun q => h2 (by
  have a := Int32.le_iff_toInt_le.mp h
  have b := Int32.lt_iff_toInt_lt.mp q
  have c : (-1 : Int32).toInt = -1 := by decide
  have e : (0 : Int32).toInt = 0 := by decide
  exact Int32.toInt_inj.mp (by omega)))
/-- the row by which the reference goes on -/
def MLn (sh : Nat → Int32) (n : Nat) : Nat → Int32 := fun j => MN (BB sh n) n 33554431 26 j + 1
theorem ML_r {sh : Nat → Int32} {n : Nat} (hn : n ≤ 10) (hs : ∀ j, j < n → pct (sh j) < 26) : ∀ j, j < n → MLn sh n j = jmx (MLn sh n) (BB sh n j) n + 1 := by
  intro j hj
  have e := MN_26 (s := 33554431) (i := j) hn (hs j hj)
  rw [jfo_sq hn] at e
  show MN (BB sh n) n 33554431 26 j + 1 = _
  rw [← e]
  rfl
theorem MG_ML {sh : Nat → Int32} {n : Nat} {x : Int32} (hn : n ≤ 10) : MG sh n 33554431 (jfo sh n x) = jmx (MLn sh n) (jfo sh n x) n := by
  rw [MG, jfo_sq hn]
  rfl
theorem u_longest1 (d : Nat) (sw : Bool) (f : Nat → Nat → Int32) (g : Nat → Nat → Int64) (n m b : Nat) (sh : Nat → Int32) (ρ : Nat → Nat) (k : Int32) (hF : mFg f n sh) (hp : pOk (BB sh n) n ρ) (hm : f 81 5 = nI m) (hm6 : m ≤ 6) (hb : b < m) (hk : -1 ≤ k) : CT (d + 110) 0 0 iX11_longest [.ref 81, .int (nI b), .int k] (S sw f g) (rdM g f (if k = -1 then MG sh n 33554431 (jfo sh n (f 86 b)) else jil (MLn sh n) (BB sh n) n k 10 0 (jfo sh n (f 86 b)))) := by
  have hn10 := hF.2.1
  have p25 : ∀ j, j < n → pct (sh j) < 26 := fun j hj => by have := pct_25 (shp_Sq (hF.2.2 j hj).2).1; omega
  have hr := ML_r hn10 p25
  have e0 := MG_ML (sh := sh) (x := f 86 b) hn10
  obtain ⟨M, M1, M2⟩ : ∃ M, M ≤ n ∧ jmx (MLn sh n) (jfo sh n (f 86 b)) n = nI M := jmx_le n (by omega) (fun j hj _ => by
    obtain ⟨m, m1, m2⟩ := MN_pos (s := 33554431) hn10 hp 26 j hj
    have := hp.1 j hj
    exact ⟨m + 1, by omega, by show MN (BB sh n) n 33554431 26 j + 1 = _; rw [m2, nI_1]⟩)
  rw [M2] at e0
  by_cases c : k = -1
  · rw [if_pos c, e0]
    refine CT.of rfl (Nat.le_of_ble_eq_true rfl) (fun X hX hR hN _ => ?_)
    have hX : Good X RX11 cX11_longest (d + 110) 0 0 := hX
    have hN : x_nl X = 6 := hN
    show WP X 0 0 0 [_, _, _, _, _, _] [] _
    refine wp_aload_n hX (dk DX11_longest 0 rfl) rfl ?_
    refine wp_iload_n hX (dk DX11_longest 1 rfl) rfl ?_
    refine w_callV (As := [_]) lkX11_123 hX (dk DX11_longest 2 rfl) rfl rfl (by decide) hN (k_mB1 (d + 108) sw f g m b hm hm6 hb) ?_
    show WP _ _ _ 5 [_, _, _, _, _, _] [_] _
    refine wp_if_eq (tgt := 13) hX (dk DX11_longest 3 rfl) (by decide) (fun h_ => absurd h_ (by decide)) (fun _ => ?_)
    refine wp_iload_n hX (dk DX11_longest 4 rfl) rfl ?_
    refine wp_iconst (v := -1) hX (dk DX11_longest 5 rfl) (by decide) ?_
    refine wp_icmp_ge (tgt := 15) hX (dk DX11_longest 6 rfl) (by decide) (fun _ => ?_) (fun h_ => absurd (hk) h_)
    refine wp_aload_n hX (dk DX11_longest 9 rfl) rfl ?_
    refine wp_aload_n hX (dk DX11_longest 10 rfl) rfl ?_
    refine w_getr hX flX11_24 (dk DX11_longest 11 rfl) rfl rfl ?_
    refine wp_iload_n hX (dk DX11_longest 12 rfl) rfl ?_
    refine w_iald (j := _) hX (dk DX11_longest 13 rfl) rfl rfl (show _ < 6 by omega) ?_
    refine w_callVQ (As := [_]) lkX11_287 hX (dk DX11_longest 14 rfl) rfl rfl (by decide) hN (k_looks (d + 103) sw f g n sh _ hF) (fun v_a sw_a f_a g_a hq_a => ?_)
    obtain ⟨rfl, rfl, rfl, e1, e2⟩ := hq_a
    have hF2 : mFg f_a n sh := ⟨by rw [e1 81 (by decide)]; exact hF.1, hn10, fun j hj => by rw [e1 82 (by decide)]; exact hF.2.2 j hj⟩
    show WP _ _ _ 25 [_, _, _, _, _, _] [] _
    refine wp_aload_n hX (dk DX11_longest 15 rfl) rfl ?_
    refine wp_ldc hX (dk DX11_longest 16 rfl) kcX11_130 ?_
    refine w_callVQ (As := [_]) lkX11_291 hX (dk DX11_longest 17 rfl) rfl rfl (by decide) hN (k_mlongOf (d + 106) _ f_a _ n sh _ _ hF2 e2) (fun v_b sw_b f_b g_b hq_b => ?_)
    obtain ⟨rfl, rfl, rfl, e3, e4, e5⟩ := hq_b
    show WP _ _ _ 31 [_, _, _, _, _, _] [_] _
    rw [e0]
    refine wp_istore_n hX (dk DX11_longest 18 rfl) rfl rfl hN (Nat.le_of_ble_eq_true rfl) ?_
    show WP _ _ _ 32 [_, _, _, _, _, _] [] _
    refine wp_iload_n hX (dk DX11_longest 19 rfl) rfl ?_
    refine wp_if_ge (tgt := 38) hX (dk DX11_longest 20 rfl) (by decide) (fun h_ => absurd h_ (by rw [c]; decide)) (fun _ => ?_)
    refine wp_iload_n hX (dk DX11_longest 21 rfl) rfl ?_
    exact wp_ireturn hX hR (dk DX11_longest 22 rfl) rfl (Nat.le_refl _) (Nat.le_refl _) (⟨_, _, _, rfl, rfl, rfl, ⟨fun b2 h1 h2 h3 => by rw [e3 b2 (by omega), e1 b2 (by omega)], fun i _ => by rw [e3 81 (by decide), e1 81 (by decide)]⟩⟩)
  · rw [if_neg c]
    obtain ⟨kk, k1, rfl⟩ := m1_of hk c
    obtain ⟨ans, hans⟩ : ∃ a, a = jil (MLn sh n) (BB sh n) n (nI kk) 10 0 (jfo sh n (f 86 b)) := ⟨_, rfl⟩
    rw [← hans]
    refine CT.of rfl (Nat.le_of_ble_eq_true rfl) (fun X hX hR hN _ => ?_)
    have hX : Good X RX11 cX11_longest (d + 110) 0 0 := hX
    have hN : x_nl X = 6 := hN
    show WP X 0 0 0 [_, _, _, _, _, _] [] _
    refine wp_aload_n hX (dk DX11_longest 0 rfl) rfl ?_
    refine wp_iload_n hX (dk DX11_longest 1 rfl) rfl ?_
    refine w_callV (As := [_]) lkX11_123 hX (dk DX11_longest 2 rfl) rfl rfl (by decide) hN (k_mB1 (d + 108) sw f g m b hm hm6 hb) ?_
    show WP _ _ _ 5 [_, _, _, _, _, _] [_] _
    refine wp_if_eq (tgt := 13) hX (dk DX11_longest 3 rfl) (by decide) (fun h_ => absurd h_ (by decide)) (fun _ => ?_)
    refine wp_iload_n hX (dk DX11_longest 4 rfl) rfl ?_
    refine wp_iconst (v := -1) hX (dk DX11_longest 5 rfl) (by decide) ?_
    refine wp_icmp_ge (tgt := 15) hX (dk DX11_longest 6 rfl) (by decide) (fun _ => ?_) (fun h_ => absurd (hk) h_)
    refine wp_aload_n hX (dk DX11_longest 9 rfl) rfl ?_
    refine wp_aload_n hX (dk DX11_longest 10 rfl) rfl ?_
    refine w_getr hX flX11_24 (dk DX11_longest 11 rfl) rfl rfl ?_
    refine wp_iload_n hX (dk DX11_longest 12 rfl) rfl ?_
    refine w_iald (j := _) hX (dk DX11_longest 13 rfl) rfl rfl (show _ < 6 by omega) ?_
    refine w_callVQ (As := [_]) lkX11_287 hX (dk DX11_longest 14 rfl) rfl rfl (by decide) hN (k_looks (d + 103) sw f g n sh _ hF) (fun v_a sw_a f_a g_a hq_a => ?_)
    obtain ⟨rfl, rfl, rfl, e1, e2⟩ := hq_a
    have hF2 : mFg f_a n sh := ⟨by rw [e1 81 (by decide)]; exact hF.1, hn10, fun j hj => by rw [e1 82 (by decide)]; exact hF.2.2 j hj⟩
    show WP _ _ _ 25 [_, _, _, _, _, _] [] _
    refine wp_aload_n hX (dk DX11_longest 15 rfl) rfl ?_
    refine wp_ldc hX (dk DX11_longest 16 rfl) kcX11_130 ?_
    refine w_callVQ (As := [_]) lkX11_291 hX (dk DX11_longest 17 rfl) rfl rfl (by decide) hN (k_mlongOf (d + 106) _ f_a _ n sh _ _ hF2 e2) (fun v_b sw_b f_b g_b hq_b => ?_)
    obtain ⟨rfl, rfl, rfl, e3, e4, e5⟩ := hq_b
    show WP _ _ _ 31 [_, _, _, _, _, _] [_] _
    rw [e0]
    refine wp_istore_n hX (dk DX11_longest 18 rfl) rfl rfl hN (Nat.le_of_ble_eq_true rfl) ?_
    show WP _ _ _ 32 [_, _, _, _, _, _] [] _
    refine wp_iload_n hX (dk DX11_longest 19 rfl) rfl ?_
    refine wp_if_ge (tgt := 38) hX (dk DX11_longest 20 rfl) (by decide) (fun _ => ?_) (fun h_ => absurd (nI_pos' k1) h_)
    skip
    have hF3 : f_b 81 0 = nI n := by rw [e3 81 (by decide)]; exact hF2.1
    have mo : ∀ j, j < n → MLn sh n j = f_b 110 j + 1 := fun j hj => by rw [e4 j hj]; rfl
    rw [e0] at e5
    by_cases c2 : kk < M
    · have lo : ∀ (q i h v : Nat) (s : Int32), i + q = kk → i + (v + 1) = M → h < 11 → f_b 109 h = s → f_b 110 h = nI (v + 1) → jmx (MLn sh n) s n = nI (v + 1) → ans = jil (MLn sh n) (BB sh n) n (nI kk) (10 - i) i s → WP X 0 0 53 [some (.ref 81), some (.int (nI b)), some (.int (nI kk)), some (.int (nI M)), some (.int (nI h)), some (.int (nI i))] [] (S sw_b f_b g_b) := by
        intro q
        induction q with
        | zero =>
          intro i h v s hi hM hh h1 h2 h3 ha
          obtain rfl : i = kk := by omega
          obtain ⟨j, j1, j2, j3⟩ := jil_st hn10 hr (by omega) h3
          have es : mfl (f_b 110) (f_b 109 h) (f_b 110 h - 1) n 0 = nI j := by
            rw [h1, h2, mfl_jfl (r := MLn sh n) (nI_nle (by omega) (by omega)) n 0 (fun j _ hj => mo j (by omega)), ← h3, j2]
          rw [show 10 - i = (9 - i) + 1 by omega, jil, if_pos (Or.inr rfl), j2] at ha
          rw [ha] at hR
          refine wp_iload hX (dk DX11_longest 32 rfl) rfl ?_
          refine wp_iload_n hX (dk DX11_longest 33 rfl) rfl ?_
          refine wp_icmp_gt (tgt := 82) hX (dk DX11_longest 34 rfl) (by decide) (fun h_ => absurd h_ (nI_nlt (by omega) (by omega))) (fun _ => ?_)
          refine wp_aload_n hX (dk DX11_longest 35 rfl) rfl ?_
          refine wp_iload hX (dk DX11_longest 36 rfl) rfl ?_
          refine wp_aload_n hX (dk DX11_longest 37 rfl) rfl ?_
          refine w_getr hX flX11_97 (dk DX11_longest 38 rfl) rfl rfl ?_
          refine wp_iload hX (dk DX11_longest 39 rfl) rfl ?_
          refine w_iald (j := _) hX (dk DX11_longest 40 rfl) rfl rfl (show _ < 11 by omega) ?_
          refine wp_iconst (v := 1) hX (dk DX11_longest 41 rfl) (by decide) ?_
          refine wp_isub hX (dk DX11_longest 42 rfl) ?_
          refine w_callV (As := [_, _]) lkX11_294 hX (dk DX11_longest 43 rfl) rfl rfl (by decide) hN (k_mfirst (d + 107) _ f_b _ n h _ hF3 hn10 hh) ?_
          show WP _ _ _ 74 [_, _, _, _, _, _] [_] _
          rw [es]
          refine wp_istore hX (dk DX11_longest 44 rfl) rfl hN (Nat.le_of_ble_eq_true rfl) ?_
          show WP _ _ _ 76 [_, _, _, _, _, _] [] _
          refine wp_iinc hX (dk DX11_longest 45 rfl) rfl (nI_inc _) rfl hN ?_
          show WP _ _ _ 79 [_, _, _, _, _, _] [] _
          refine wp_goto (tgt := 53) hX (dk DX11_longest 46 rfl) (by decide) ?_
          skip
          refine wp_iload hX (dk DX11_longest 32 rfl) rfl ?_
          refine wp_iload_n hX (dk DX11_longest 33 rfl) rfl ?_
          refine wp_icmp_gt (tgt := 82) hX (dk DX11_longest 34 rfl) (by decide) (fun _ => ?_) (fun h_ => absurd (nI_lt (by omega) (by omega)) h_)
          refine wp_iload hX (dk DX11_longest 47 rfl) rfl ?_
          exact wp_ireturn hX hR (dk DX11_longest 48 rfl) rfl (Nat.le_refl _) (Nat.le_refl _) (⟨_, _, _, rfl, rfl, rfl, ⟨fun b2 h1 h2 h3 => by rw [e3 b2 (by omega), e1 b2 (by omega)], fun i _ => by rw [e3 81 (by decide), e1 81 (by decide)]⟩⟩)
        | succ q ih =>
          intro i h v s hi hM hh h1 h2 h3 ha
          obtain ⟨j, j1, j2, j3⟩ := jil_st hn10 hr (by omega) h3
          have es : mfl (f_b 110) (f_b 109 h) (f_b 110 h - 1) n 0 = nI j := by
            rw [h1, h2, mfl_jfl (r := MLn sh n) (nI_nle (by omega) (by omega)) n 0 (fun j _ hj => mo j (by omega)), ← h3, j2]
          rw [show 10 - i = (10 - (i + 1)) + 1 by omega, jil, j2, if_neg (fun c => c.elim (rE_ne j (by omega)) (fun q => by have := (nI_eq (by omega) (by omega)).mp q; omega)), nI_clamp (by omega)] at ha
          obtain ⟨w, rfl⟩ : ∃ w, v = w + 1 := ⟨v - 1, by omega⟩
          have mj := mo j j1
          rw [hr j j1, j3] at mj
          have next := ih (i + 1) j w (BB sh n j) (by omega) (by omega) (by omega) (by rw [e3 109 (by decide)]; exact e2.1 j j1) (by have := congrArg (fun z => z - 1) mj; simpa only [Int32.add_sub_cancel] using this.symm) j3 ha
          refine wp_iload hX (dk DX11_longest 32 rfl) rfl ?_
          refine wp_iload_n hX (dk DX11_longest 33 rfl) rfl ?_
          refine wp_icmp_gt (tgt := 82) hX (dk DX11_longest 34 rfl) (by decide) (fun h_ => absurd h_ (nI_nlt (by omega) (by omega))) (fun _ => ?_)
          refine wp_aload_n hX (dk DX11_longest 35 rfl) rfl ?_
          refine wp_iload hX (dk DX11_longest 36 rfl) rfl ?_
          refine wp_aload_n hX (dk DX11_longest 37 rfl) rfl ?_
          refine w_getr hX flX11_97 (dk DX11_longest 38 rfl) rfl rfl ?_
          refine wp_iload hX (dk DX11_longest 39 rfl) rfl ?_
          refine w_iald (j := _) hX (dk DX11_longest 40 rfl) rfl rfl (show _ < 11 by omega) ?_
          refine wp_iconst (v := 1) hX (dk DX11_longest 41 rfl) (by decide) ?_
          refine wp_isub hX (dk DX11_longest 42 rfl) ?_
          refine w_callV (As := [_, _]) lkX11_294 hX (dk DX11_longest 43 rfl) rfl rfl (by decide) hN (k_mfirst (d + 107) _ f_b _ n h _ hF3 hn10 hh) ?_
          show WP _ _ _ 74 [_, _, _, _, _, _] [_] _
          rw [es]
          refine wp_istore hX (dk DX11_longest 44 rfl) rfl hN (Nat.le_of_ble_eq_true rfl) ?_
          show WP _ _ _ 76 [_, _, _, _, _, _] [] _
          refine wp_iinc hX (dk DX11_longest 45 rfl) rfl (nI_inc _) rfl hN ?_
          show WP _ _ _ 79 [_, _, _, _, _, _] [] _
          refine wp_goto (tgt := 53) hX (dk DX11_longest 46 rfl) (by decide) ?_
          exact next
      obtain ⟨w, rfl⟩ : ∃ w, M = w + 1 := ⟨M - 1, by omega⟩
      refine wp_iload_n hX (dk DX11_longest 23 rfl) rfl ?_
      refine wp_iload_n hX (dk DX11_longest 24 rfl) rfl ?_
      refine wp_icmp_lt (tgt := 46) hX (dk DX11_longest 25 rfl) (by decide) (fun _ => ?_) (fun h_ => absurd (nI_lt (by omega) (by omega)) h_)
      refine wp_bipush (v := 10) hX (dk DX11_longest 28 rfl) (by decide) ?_
      refine wp_istore hX (dk DX11_longest 29 rfl) rfl hN (Nat.le_of_ble_eq_true rfl) ?_
      show WP _ _ _ 50 [_, _, _, _, _, _] [] _
      refine wp_iconst (v := 0) hX (dk DX11_longest 30 rfl) (by decide) ?_
      refine wp_istore hX (dk DX11_longest 31 rfl) rfl hN (Nat.le_of_ble_eq_true rfl) ?_
      show WP _ _ _ 53 [_, _, _, _, _, _] [] _
      exact lo kk 0 10 w _ (by omega) (by omega) (by omega) (by rw [e3 109 (by decide)]; exact e2.2) e5 M2 hans
    · rw [hans, jil_end hn10 hr M 0 10 _ M2 (by omega) (fun q _ a e => by have := (nI_eq (by omega) (by omega)).mp e; omega)] at hR
      refine wp_iload_n hX (dk DX11_longest 23 rfl) rfl ?_
      refine wp_iload_n hX (dk DX11_longest 24 rfl) rfl ?_
      refine wp_icmp_lt (tgt := 46) hX (dk DX11_longest 25 rfl) (by decide) (fun h_ => absurd h_ (nI_nlt (by omega) (by omega))) (fun _ => ?_)
      refine wp_bipush (v := -2) hX (dk DX11_longest 26 rfl) (by decide) ?_
      exact wp_ireturn hX hR (dk DX11_longest 27 rfl) rfl (Nat.le_refl _) (Nat.le_refl _) (⟨_, _, _, rfl, rfl, rfl, ⟨fun b2 h1 h2 h3 => by rw [e3 b2 (by omega), e1 b2 (by omega)], fun i _ => by rw [e3 81 (by decide), e1 81 (by decide)]⟩⟩)
