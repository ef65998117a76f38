/-! REFERENCE: byTurns -/
/-- one place, out of those behind it -/
theorem pl_one {B : Nat → Int32} {n : Nat} {ρ : Nat → Nat} (hn : n ≤ 10) (hp : pOk B n ρ) {s : Int32} (hs : ∀ j, n ≤ j → j < 32 → bt s j = false) : plF (fun j => (pN B n 10 j).1) (fun j => (pN B n 10 j).2) s n = (if jfw (s &&& pL B n) n 0 = -2 then 0 else 1, jcp (fun j => (pN B n 10 j).1) s (pL B n) n) :=
  plF_eq (by omega) (fun j hj => by rw [pL, bt_lose (p := fun j => (pN B n 10 j).2) (by omega) hj]) (fun j hj _ => by
    obtain ⟨m, m1, m2⟩ := pN_nI hn hp 10 j hj
    have := hp.1 j hj
    exact ⟨m, by omega, m2⟩) hs
/-- the reference's rows hold place i -/
def wnO (f : Nat → Nat → Int32) (B : Nat → Int32) (n i : Nat) : Prop := f 113 i = (if (pN B n 10 i).2 then 0 else 1) ∧ f 114 i = (pN B n 10 i).1
theorem BB_hi {sh : Nat → Int32} {n : Nat} (hn : n ≤ 10) : ∀ i j, i < n → n ≤ j → j < 32 → bt (BB sh n i) j = false := fun i j _ h1 h2 => jfo_hi hn h1 h2
theorem wn_one {sh : Nat → Int32} {n i : Nat} {ρ : Nat → Nat} {f : Nat → Nat → Int32} (hn : n ≤ 10) (hp : pOk (BB sh n) n ρ) (hi : i < n) (h1 : f 113 i = (plF (fun j => (pN (BB sh n) n 10 j).1) (fun j => (pN (BB sh n) n 10 j).2) (BB sh n i) n).1) (h2 : f 114 i = (plF (fun j => (pN (BB sh n) n 10 j).1) (fun j => (pN (BB sh n) n 10 j).2) (BB sh n i) n).2) : wnO f (BB sh n) n i := by
  rw [pl_one hn hp (fun j h1 h2 => BB_hi hn i j hi h1 h2)] at h1 h2
  have e := pN_fx hn hp (BB_hi hn) hi
  refine ⟨?_, ?_⟩
  · rw [h1, e]
    show (if jfw (BB sh n i &&& pL (BB sh n) n) n 0 = -2 then (0 : Int32) else 1) = (if decide (jfw (BB sh n i &&& pL (BB sh n) n) n 0 = -2) = true then 0 else 1)
    by_cases c : jfw (BB sh n i &&& pL (BB sh n) n) n 0 = -2
    · rw [if_pos c, if_pos (decide_eq_true c)]
    · rw [if_neg c, if_neg (by rw [decide_eq_false c]; decide)]
  · rw [h2, e]
theorem u_turns0 (d : Nat) (sw : Bool) (f : Nat → Nat → Int32) (g : Nat → Nat → Int64) (m : Nat) (x y : Int32) (hm : f 81 5 = nI m) (hm6 : m ≤ 6) (h : ¬ ((∃ b, b < m ∧ x = nI b) ∧ ∃ w, w < 3 ∧ y = nI w)) : CT (d + 110) 0 0 iX11_byTurns [.ref 81, .int x, .int y] (S sw f g) (rdM g f (-1)) := by
  refine CT.rdM ?_
  refine CT.of rfl (Nat.le_of_ble_eq_true rfl) (fun X hX hR hN _ => ?_)
  have hX : Good X RX11 cX11_byTurns (d + 110) 0 0 := hX
  have hN : x_nl X = 5 := hN
  show WP X 0 0 0 [_, _, _, _, _] [] _
  by_cases c1 : ∃ b, b < m ∧ x = nI b
  · obtain ⟨b, hb, rfl⟩ := c1
    refine wp_aload_n hX (dk DX11_byTurns 0 rfl) rfl ?_
    refine wp_iload_n hX (dk DX11_byTurns 1 rfl) rfl ?_
    refine w_callV (As := [_]) lkX11_123 hX (dk DX11_byTurns 2 rfl) rfl rfl (by decide) hN (k_mB1 (d + 108) sw f g m b hm hm6 hb) ?_
    show WP _ _ _ 5 [_, _, _, _, _] [_] _
    refine wp_if_eq (tgt := 17) hX (dk DX11_byTurns 3 rfl) (by decide) (fun h_ => absurd h_ (by decide)) (fun _ => ?_)
    refine wp_iload_n hX (dk DX11_byTurns 4 rfl) rfl ?_
    refine wp_iconst (v := 0) hX (dk DX11_byTurns 5 rfl) (by decide) ?_
    refine wp_iconst (v := 2) hX (dk DX11_byTurns 6 rfl) (by decide) ?_
    refine w_callS (As := [_, _, _]) lkX11_116 hX (dk DX11_byTurns 7 rfl) rfl (by decide) (k_wi0 (d + 109) 2 y 2 _ rfl (by decide) (fun ⟨i, h1, h2⟩ => h ⟨⟨b, hb, rfl⟩, i, by omega, h2⟩)) ?_
    show WP _ _ _ 14 [_, _, _, _, _] [_] _
    refine wp_if_ne (tgt := 19) hX (dk DX11_byTurns 8 rfl) (by decide) (fun h_ => absurd (rfl) h_) (fun _ => ?_)
    refine wp_iconst (v := -1) hX (dk DX11_byTurns 9 rfl) (by decide) ?_
    exact wp_ireturn hX hR (dk DX11_byTurns 10 rfl) rfl (Nat.le_refl _) (Nat.le_refl _) (⟨rfl, rfl⟩)
  · refine wp_aload_n hX (dk DX11_byTurns 0 rfl) rfl ?_
    refine wp_iload_n hX (dk DX11_byTurns 1 rfl) rfl ?_
    refine w_callV (As := [_]) lkX11_123 hX (dk DX11_byTurns 2 rfl) rfl rfl (by decide) hN (k_mB0 (d + 108) sw f g m x hm hm6 c1) ?_
    show WP _ _ _ 5 [_, _, _, _, _] [_] _
    refine wp_if_eq (tgt := 17) hX (dk DX11_byTurns 3 rfl) (by decide) (fun _ => ?_) (fun h_ => absurd (rfl) h_)
    refine wp_iconst (v := -1) hX (dk DX11_byTurns 9 rfl) (by decide) ?_
    exact wp_ireturn hX hR (dk DX11_byTurns 10 rfl) rfl (Nat.le_refl _) (Nat.le_refl _) (⟨rfl, rfl⟩)
theorem u_turns1 (d : Nat) (sw : Bool) (f : Nat → Nat → Int32) (g : Nat → Nat → Int64) (n m b w : Nat) (sh : Nat → Int32) (ρ : Nat → Nat) (hF : mFg f n sh) (hpo : pOk (BB sh n) n ρ) (hm : f 81 5 = nI m) (hm6 : m ≤ 6) (hb : b < m) (hw : w < 3) : CT (d + 110) 0 0 iX11_byTurns [.ref 81, .int (nI b), .int (nI w)] (S sw f g) (rdM g f (jbt (BB sh n) n (jfo sh n (f 86 b)) w)) := by
  have hn10 := hF.2.1
  have p25 : ∀ j, j < n → pct (sh j) < 26 := fun j hj => by have := pct_25 (shp_Sq (hF.2.2 j hj).2).1; omega
  obtain ⟨x, hx⟩ : ∃ x, x = jfo sh n (f 86 b) := ⟨_, rfl⟩
  have hxh : ∀ j, n ≤ j → j < 32 → bt x j = false := fun j h1 h2 => by rw [hx]; exact jfo_hi hn10 h1 h2
  rw [← hx]
  refine CT.of rfl (Nat.le_of_ble_eq_true rfl) (fun X hX hR hN _ => ?_)
  have hX : Good X RX11 cX11_byTurns (d + 110) 0 0 := hX
  have hN : x_nl X = 5 := hN
  show WP X 0 0 0 [_, _, _, _, _] [] _
  refine wp_aload_n hX (dk DX11_byTurns 0 rfl) rfl ?_
  refine wp_iload_n hX (dk DX11_byTurns 1 rfl) rfl ?_
  refine w_callV (As := [_]) lkX11_123 hX (dk DX11_byTurns 2 rfl) rfl rfl (by decide) hN (k_mB1 (d + 108) sw f g m b hm hm6 hb) ?_
  show WP _ _ _ 5 [_, _, _, _, _] [_] _
  refine wp_if_eq (tgt := 17) hX (dk DX11_byTurns 3 rfl) (by decide) (fun h_ => absurd h_ (by decide)) (fun _ => ?_)
  refine wp_iload_n hX (dk DX11_byTurns 4 rfl) rfl ?_
  refine wp_iconst (v := 0) hX (dk DX11_byTurns 5 rfl) (by decide) ?_
  refine wp_iconst (v := 2) hX (dk DX11_byTurns 6 rfl) (by decide) ?_
  refine w_callS (As := [_, _, _]) lkX11_116 hX (dk DX11_byTurns 7 rfl) rfl (by decide) (k_wi1 (d + 109) w 2 2 _ rfl (by decide) (by omega)) ?_
  show WP _ _ _ 14 [_, _, _, _, _] [_] _
  refine wp_if_ne (tgt := 19) hX (dk DX11_byTurns 8 rfl) (by decide) (fun _ => ?_) (fun h_ => absurd h_ (by decide))
  refine wp_aload_n hX (dk DX11_byTurns 11 rfl) rfl ?_
  refine wp_aload_n hX (dk DX11_byTurns 12 rfl) rfl ?_
  refine w_getr hX flX11_24 (dk DX11_byTurns 13 rfl) rfl rfl ?_
  refine wp_iload_n hX (dk DX11_byTurns 14 rfl) rfl ?_
  refine w_iald (j := _) hX (dk DX11_byTurns 15 rfl) rfl rfl (show _ < 6 by omega) ?_
  refine w_callVQ (As := [_]) lkX11_287 hX (dk DX11_byTurns 16 rfl) rfl rfl (by decide) hN (k_looks (d + 103) sw f g n sh _ hF) (fun v_a sw_a f_a g_a hq_a => ?_)
  obtain ⟨rfl, rfl, rfl, e1, e2⟩ := hq_a
  show WP _ _ _ 29 [_, _, _, _, _] [] _
  skip
  have hna : f_a 81 0 = nI n := by rw [e1 81 (by decide)]; exact hF.1
  have fin : ∀ f3 : Nat → Nat → Int32, (∀ c, c ≠ 113 → c ≠ 114 → f3 c = f_a c) → qM f f3 := fun f3 h => ⟨fun c h1 h2 h3 => by rw [h c (by omega) (by omega), e1 c (by omega)], fun i _ => by rw [h 81 (by decide) (by decide), e1 81 (by decide)]⟩
  have en : ∀ (f3 : Nat → Nat → Int32) (z3 z4 : Option Value), (∀ c, c ≠ 113 → c ≠ 114 → f3 c = f_a c) → (∀ j, j < n → wnO f3 (BB sh n) n j) → WP X 0 0 81 [some (.ref 81), some (.int (nI b)), some (.int (nI w)), z3, z4] [] (S sw_a f3 g_a) := by
    intro f3 z3 z4 hA hT
    have h109 : f3 109 10 = x := by rw [hA 109 (by decide) (by decide), hx]; exact e2.2
    have cc : ∀ j, j < n → bt x j = true → j ≠ 10 ∧ f3 113 j = (if (pN (BB sh n) n 10 j).2 then 0 else 1) ∧ f3 114 j = (pN (BB sh n) n 10 j).1 := fun j hj _ => ⟨by omega, hT j hj⟩
    have ct := k_mplays (d + 107) sw_a f3 g_a n 10 x (fun j => (pN (BB sh n) n 10 j).1) (fun j => (pN (BB sh n) n 10 j).2) (by rw [hA 81 (by decide) (by decide)]; exact hna) hn10 (by decide) h109 cc
    rw [pl_one hn10 hpo hxh] at ct
    have hw3 : w = 0 ∨ w = 1 ∨ w = 2 := by omega
    rcases hw3 with rfl | rfl | rfl
    · refine wp_aload_n hX (dk DX11_byTurns 42 rfl) rfl ?_
      refine wp_bipush (v := 10) hX (dk DX11_byTurns 43 rfl) (by decide) ?_
      refine w_callVQ (As := [_]) lkX11_315 hX (dk DX11_byTurns 44 rfl) rfl rfl (by decide) hN (ct) (fun v_b sw_b f_b g_b hq_b => ?_)
      obtain ⟨rfl, rfl, rfl, q1, q2, q3, q4⟩ := hq_b
      show WP _ _ _ 87 [_, _, _, _, _] [] _
      refine wp_iload_n hX (dk DX11_byTurns 45 rfl) rfl ?_
      refine wp_iconst (v := 1) hX (dk DX11_byTurns 46 rfl) (by decide) ?_
      refine wp_icmp_eq (tgt := 114) hX (dk DX11_byTurns 47 rfl) (by decide) (fun h_ => absurd h_ (by decide)) (fun _ => ?_)
      refine wp_iload_n hX (dk DX11_byTurns 48 rfl) rfl ?_
      refine wp_if_ne (tgt := 106) hX (dk DX11_byTurns 49 rfl) (by decide) (fun h_ => absurd (rfl) h_) (fun _ => ?_)
      refine wp_aload_n hX (dk DX11_byTurns 50 rfl) rfl ?_
      refine w_getr hX flX11_106 (dk DX11_byTurns 51 rfl) rfl rfl ?_
      refine wp_bipush (v := 10) hX (dk DX11_byTurns 52 rfl) (by decide) ?_
      refine w_iald (j := 10) hX (dk DX11_byTurns 53 rfl) rfl rfl (by decide) ?_
      rw [q3]
      refine wp_goto (tgt := 113) hX (dk DX11_byTurns 54 rfl) (by decide) ?_
      exact wp_ireturn hX hR (dk DX11_byTurns 59 rfl) rfl (Nat.le_refl _) (Nat.le_refl _) (⟨_, _, _, rfl, rfl, rfl, fin f_b (fun c h1 h2 => by rw [q1 c h1 h2, hA c h1 h2])⟩)
    · refine wp_aload_n hX (dk DX11_byTurns 42 rfl) rfl ?_
      refine wp_bipush (v := 10) hX (dk DX11_byTurns 43 rfl) (by decide) ?_
      refine w_callVQ (As := [_]) lkX11_315 hX (dk DX11_byTurns 44 rfl) rfl rfl (by decide) hN (ct) (fun v_b sw_b f_b g_b hq_b => ?_)
      obtain ⟨rfl, rfl, rfl, q1, q2, q3, q4⟩ := hq_b
      show WP _ _ _ 87 [_, _, _, _, _] [] _
      refine wp_iload_n hX (dk DX11_byTurns 45 rfl) rfl ?_
      refine wp_iconst (v := 1) hX (dk DX11_byTurns 46 rfl) (by decide) ?_
      refine wp_icmp_eq (tgt := 114) hX (dk DX11_byTurns 47 rfl) (by decide) (fun _ => ?_) (fun h_ => absurd (rfl) h_)
      refine wp_iconst (v := 0) hX (dk DX11_byTurns_1 0 rfl) (by decide) ?_
      refine wp_istore_n hX (dk DX11_byTurns_1 1 rfl) rfl rfl hN (Nat.le_of_ble_eq_true rfl) ?_
      show WP _ _ _ 116 [_, _, _, _, _] [] _
      skip
      have hnb : f_b 81 0 = nI n := by rw [q1 81 (by decide) (by decide), hA 81 (by decide) (by decide)]; exact hna
      have lo : ∀ (q k : Nat), k + q = n → jfw (x &&& pL (BB sh n) n) n 0 = jfw (x &&& pL (BB sh n) n) q k → WP X 0 0 116 [some (.ref 81), some (.int (nI b)), some (.int (nI 1)), some (.int (nI k)), z4] [] (S sw_b f_b g_b) := by
        intro q
        induction q with
        | zero =>
          intro k hk e
          obtain rfl : k = n := by omega
          have hR : RQ X _ 0 0 (rdM _ f (jfw (x &&& pL (BB sh k) k) k 0)) := hR
          rw [e] at hR
          refine wp_iload_n hX (dk DX11_byTurns_1 2 rfl) rfl ?_
          refine wp_aload_n hX (dk DX11_byTurns_1 3 rfl) rfl ?_
          refine w_geti hX flX11_112 (dk DX11_byTurns_1 4 rfl) (by decide) rfl ?_
          rw [hnb]
          refine wp_icmp_ge (tgt := 155) hX (dk DX11_byTurns_1 5 rfl) (by decide) (fun _ => ?_) (fun h_ => absurd (nI_le (by omega) (by omega)) h_)
          refine wp_bipush (v := -2) hX (dk DX11_byTurns_1 22 rfl) (by decide) ?_
          exact wp_ireturn hX hR (dk DX11_byTurns_1 23 rfl) rfl (Nat.le_refl _) (Nat.le_refl _) (⟨_, _, _, rfl, rfl, rfl, fin f_b (fun c h1 h2 => by rw [q1 c h1 h2, hA c h1 h2])⟩)
        | succ q ih =>
          intro k hk e
          rw [jfw] at e
          have hb2 : bt (x &&& pL (BB sh n) n) k = (bt x k && (pN (BB sh n) n 10 k).2) := by rw [b_and, pL, bt_lose (p := fun j => (pN (BB sh n) n 10 j).2) (by omega) (by omega)]
          have w1 : f_b 113 k = (if (pN (BB sh n) n 10 k).2 then 0 else 1) := by rw [(q2 k (by omega)).1]; exact (hT k (by omega)).1
          by_cases cb : jb x k = 0
          · rw [if_pos ((jb_eq _ (by omega)).mpr (by rw [hb2, (jb_eq x (by omega)).mp cb]; rfl))] at e
            refine wp_iload_n hX (dk DX11_byTurns_1 2 rfl) rfl ?_
            refine wp_aload_n hX (dk DX11_byTurns_1 3 rfl) rfl ?_
            refine w_geti hX flX11_112 (dk DX11_byTurns_1 4 rfl) (by decide) rfl ?_
            rw [hnb]
            refine wp_icmp_ge (tgt := 155) hX (dk DX11_byTurns_1 5 rfl) (by decide) (fun h_ => absurd h_ (nI_ge (by omega) (by omega))) (fun _ => ?_)
            refine wp_aload_n hX (dk DX11_byTurns_1 6 rfl) rfl ?_
            refine w_getr hX flX11_94 (dk DX11_byTurns_1 7 rfl) rfl rfl ?_
            refine wp_bipush (v := 10) hX (dk DX11_byTurns_1 8 rfl) (by decide) ?_
            refine w_iald (j := 10) hX (dk DX11_byTurns_1 9 rfl) rfl rfl (by decide) ?_
            rw [show f_b 109 10 = x by rw [q1 109 (by decide) (by decide)]; exact h109]
            refine wp_iload_n hX (dk DX11_byTurns_1 10 rfl) rfl ?_
            refine w_callS (As := [_, _]) lkX11_138 hX (dk DX11_byTurns_1 11 rfl) rfl (by decide) (k_mhas (d + 109) _ _ _) ?_
            show WP _ _ _ 135 [_, _, _, _, _] [_] _
            refine wp_if_eq (tgt := 149) hX (dk DX11_byTurns_1 12 rfl) (by decide) (fun _ => ?_) (fun h_ => absurd (cb) h_)
            refine wp_iinc hX (dk DX11_byTurns_1 20 rfl) rfl (nI_inc _) rfl hN ?_
            show WP _ _ _ 152 [_, _, _, _, _] [] _
            refine wp_goto (tgt := 116) hX (dk DX11_byTurns_1 21 rfl) (by decide) ?_
            exact ih (k + 1) (by omega) e
          · have cb2 := (jb_ne x (by omega)).mp cb
            cases cl : (pN (BB sh n) n 10 k).2 with
            | true =>
              rw [cl] at w1
              have w1 : f_b 113 k = 0 := w1
              rw [if_neg ((jb_ne _ (by omega)).mpr (by rw [hb2, cb2, cl]; rfl))] at e
              have hR : RQ X _ 0 0 (rdM _ f (jfw (x &&& pL (BB sh n) n) n 0)) := hR
              rw [e] at hR
              refine wp_iload_n hX (dk DX11_byTurns_1 2 rfl) rfl ?_
              refine wp_aload_n hX (dk DX11_byTurns_1 3 rfl) rfl ?_
              refine w_geti hX flX11_112 (dk DX11_byTurns_1 4 rfl) (by decide) rfl ?_
              rw [hnb]
              refine wp_icmp_ge (tgt := 155) hX (dk DX11_byTurns_1 5 rfl) (by decide) (fun h_ => absurd h_ (nI_ge (by omega) (by omega))) (fun _ => ?_)
              refine wp_aload_n hX (dk DX11_byTurns_1 6 rfl) rfl ?_
              refine w_getr hX flX11_94 (dk DX11_byTurns_1 7 rfl) rfl rfl ?_
              refine wp_bipush (v := 10) hX (dk DX11_byTurns_1 8 rfl) (by decide) ?_
              refine w_iald (j := 10) hX (dk DX11_byTurns_1 9 rfl) rfl rfl (by decide) ?_
              rw [show f_b 109 10 = x by rw [q1 109 (by decide) (by decide)]; exact h109]
              refine wp_iload_n hX (dk DX11_byTurns_1 10 rfl) rfl ?_
              refine w_callS (As := [_, _]) lkX11_138 hX (dk DX11_byTurns_1 11 rfl) rfl (by decide) (k_mhas (d + 109) _ _ _) ?_
              show WP _ _ _ 135 [_, _, _, _, _] [_] _
              refine wp_if_eq (tgt := 149) hX (dk DX11_byTurns_1 12 rfl) (by decide) (fun h_ => absurd h_ (cb)) (fun _ => ?_)
              refine wp_aload_n hX (dk DX11_byTurns_1 13 rfl) rfl ?_
              refine w_getr hX flX11_106 (dk DX11_byTurns_1 14 rfl) rfl rfl ?_
              refine wp_iload_n hX (dk DX11_byTurns_1 15 rfl) rfl ?_
              refine w_iald (j := _) hX (dk DX11_byTurns_1 16 rfl) rfl rfl (show _ < 11 by omega) ?_
              refine wp_if_ne (tgt := 149) hX (dk DX11_byTurns_1 17 rfl) (by decide) (fun h_ => absurd (w1) h_) (fun _ => ?_)
              refine wp_iload_n hX (dk DX11_byTurns_1 18 rfl) rfl ?_
              exact wp_ireturn hX hR (dk DX11_byTurns_1 19 rfl) rfl (Nat.le_refl _) (Nat.le_refl _) (⟨_, _, _, rfl, rfl, rfl, fin f_b (fun c h1 h2 => by rw [q1 c h1 h2, hA c h1 h2])⟩)
            | false =>
              rw [cl] at w1
              have w1 : f_b 113 k = 1 := w1
              rw [if_pos ((jb_eq _ (by omega)).mpr (by rw [hb2, cb2, cl]; rfl))] at e
              refine wp_iload_n hX (dk DX11_byTurns_1 2 rfl) rfl ?_
              refine wp_aload_n hX (dk DX11_byTurns_1 3 rfl) rfl ?_
              refine w_geti hX flX11_112 (dk DX11_byTurns_1 4 rfl) (by decide) rfl ?_
              rw [hnb]
              refine wp_icmp_ge (tgt := 155) hX (dk DX11_byTurns_1 5 rfl) (by decide) (fun h_ => absurd h_ (nI_ge (by omega) (by omega))) (fun _ => ?_)
              refine wp_aload_n hX (dk DX11_byTurns_1 6 rfl) rfl ?_
              refine w_getr hX flX11_94 (dk DX11_byTurns_1 7 rfl) rfl rfl ?_
              refine wp_bipush (v := 10) hX (dk DX11_byTurns_1 8 rfl) (by decide) ?_
              refine w_iald (j := 10) hX (dk DX11_byTurns_1 9 rfl) rfl rfl (by decide) ?_
              rw [show f_b 109 10 = x by rw [q1 109 (by decide) (by decide)]; exact h109]
              refine wp_iload_n hX (dk DX11_byTurns_1 10 rfl) rfl ?_
              refine w_callS (As := [_, _]) lkX11_138 hX (dk DX11_byTurns_1 11 rfl) rfl (by decide) (k_mhas (d + 109) _ _ _) ?_
              show WP _ _ _ 135 [_, _, _, _, _] [_] _
              refine wp_if_eq (tgt := 149) hX (dk DX11_byTurns_1 12 rfl) (by decide) (fun h_ => absurd h_ (cb)) (fun _ => ?_)
              refine wp_aload_n hX (dk DX11_byTurns_1 13 rfl) rfl ?_
              refine w_getr hX flX11_106 (dk DX11_byTurns_1 14 rfl) rfl rfl ?_
              refine wp_iload_n hX (dk DX11_byTurns_1 15 rfl) rfl ?_
              refine w_iald (j := _) hX (dk DX11_byTurns_1 16 rfl) rfl rfl (show _ < 11 by omega) ?_
              refine wp_if_ne (tgt := 149) hX (dk DX11_byTurns_1 17 rfl) (by decide) (fun _ => ?_) (fun h_ => absurd h_ (by rw [w1]; decide))
              refine wp_iinc hX (dk DX11_byTurns_1 20 rfl) rfl (nI_inc _) rfl hN ?_
              show WP _ _ _ 152 [_, _, _, _, _] [] _
              refine wp_goto (tgt := 116) hX (dk DX11_byTurns_1 21 rfl) (by decide) ?_
              exact ih (k + 1) (by omega) e
      exact lo n 0 (by omega) rfl
    · refine wp_aload_n hX (dk DX11_byTurns 42 rfl) rfl ?_
      refine wp_bipush (v := 10) hX (dk DX11_byTurns 43 rfl) (by decide) ?_
      refine w_callVQ (As := [_]) lkX11_315 hX (dk DX11_byTurns 44 rfl) rfl rfl (by decide) hN (ct) (fun v_b sw_b f_b g_b hq_b => ?_)
      obtain ⟨rfl, rfl, rfl, q1, q2, q3, q4⟩ := hq_b
      show WP _ _ _ 87 [_, _, _, _, _] [] _
      refine wp_iload_n hX (dk DX11_byTurns 45 rfl) rfl ?_
      refine wp_iconst (v := 1) hX (dk DX11_byTurns 46 rfl) (by decide) ?_
      refine wp_icmp_eq (tgt := 114) hX (dk DX11_byTurns 47 rfl) (by decide) (fun h_ => absurd h_ (by decide)) (fun _ => ?_)
      refine wp_iload_n hX (dk DX11_byTurns 48 rfl) rfl ?_
      refine wp_if_ne (tgt := 106) hX (dk DX11_byTurns 49 rfl) (by decide) (fun _ => ?_) (fun h_ => absurd h_ (by decide))
      refine wp_aload_n hX (dk DX11_byTurns 55 rfl) rfl ?_
      refine w_getr hX flX11_109 (dk DX11_byTurns 56 rfl) rfl rfl ?_
      refine wp_bipush (v := 10) hX (dk DX11_byTurns 57 rfl) (by decide) ?_
      refine w_iald (j := 10) hX (dk DX11_byTurns 58 rfl) rfl rfl (by decide) ?_
      rw [q4]
      exact wp_ireturn hX hR (dk DX11_byTurns 59 rfl) rfl (Nat.le_refl _) (Nat.le_refl _) (⟨_, _, _, rfl, rfl, rfl, fin f_b (fun c h1 h2 => by rw [q1 c h1 h2, hA c h1 h2])⟩)
  have lo1 : ∀ (q i a : Nat) (f2 : Nat → Nat → Int32), i + q = n → a < 26 → (∀ c, c ≠ 113 → c ≠ 114 → f2 c = f_a c) → (∀ j, j < n → (pct (sh j) < a ∨ (pct (sh j) = a ∧ j < i)) → wnO f2 (BB sh n) n j) → (∀ f3, (∀ c, c ≠ 113 → c ≠ 114 → f3 c = f_a c) → (∀ j, j < n → pct (sh j) < a + 1 → wnO f3 (BB sh n) n j) → WP X 0 0 75 [some (.ref 81), some (.int (nI b)), some (.int (nI w)), some (.int (nI a)), some (.int (nI n))] [] (S sw_a f3 g_a)) → WP X 0 0 40 [some (.ref 81), some (.int (nI b)), some (.int (nI w)), some (.int (nI a)), some (.int (nI i))] [] (S sw_a f2 g_a) := by
    intro q
    induction q with
    | zero =>
      intro i a f2 hi ha hf hd k
      obtain rfl : i = n := by omega
      refine wp_iload hX (dk DX11_byTurns 24 rfl) rfl ?_
      refine wp_aload_n hX (dk DX11_byTurns 25 rfl) rfl ?_
      refine w_geti hX flX11_112 (dk DX11_byTurns 26 rfl) (by decide) rfl ?_
      rw [show f2 81 0 = nI i by rw [hf 81 (by decide) (by decide)]; exact hna]
      refine wp_icmp_ge (tgt := 75) hX (dk DX11_byTurns 27 rfl) (by decide) (fun _ => ?_) (fun h_ => absurd (nI_le (by omega) (by omega)) h_)
      exact k f2 hf (fun j hj hp => hd j hj (by omega))
    | succ q ih =>
      intro i a f2 hi ha hf hd k
      have hin : i < n := by omega
      have hs82 : f2 82 i = sh i := by rw [hf 82 (by decide) (by decide), e1 82 (by decide)]; exact (hF.2.2 i hin).1
      by_cases c : pct (sh i) = a
      · have cc : ∀ j, j < n → bt (BB sh n i) j = true → j ≠ i ∧ f2 113 j = (if (pN (BB sh n) n 10 j).2 then 0 else 1) ∧ f2 114 j = (pN (BB sh n) n 10 j).1 := fun j hj hb => by
          have := (jfo_pct hn10 (by omega) hb).2
          exact ⟨fun e => by rw [e] at this; omega, hd j hj (Or.inl (by omega))⟩
        have ct := k_mplays (d + 107) sw_a f2 g_a n i (BB sh n i) (fun j => (pN (BB sh n) n 10 j).1) (fun j => (pN (BB sh n) n 10 j).2) (by rw [hf 81 (by decide) (by decide)]; exact hna) hn10 (by omega) (by rw [hf 109 (by decide) (by decide)]; exact e2.1 i hin) cc
        refine wp_iload hX (dk DX11_byTurns 24 rfl) rfl ?_
        refine wp_aload_n hX (dk DX11_byTurns 25 rfl) rfl ?_
        refine w_geti hX flX11_112 (dk DX11_byTurns 26 rfl) (by decide) rfl ?_
        rw [show f2 81 0 = nI n by rw [hf 81 (by decide) (by decide)]; exact hna]
        refine wp_icmp_ge (tgt := 75) hX (dk DX11_byTurns 27 rfl) (by decide) (fun h_ => absurd h_ (nI_ge (by omega) (by omega))) (fun _ => ?_)
        refine wp_aload_n hX (dk DX11_byTurns 28 rfl) rfl ?_
        refine w_getr hX flX11_9 (dk DX11_byTurns 29 rfl) rfl rfl ?_
        refine wp_iload hX (dk DX11_byTurns 30 rfl) rfl ?_
        refine w_iald (j := _) hX (dk DX11_byTurns 31 rfl) rfl rfl (show _ < 10 by omega) ?_
        rw [hs82]
        refine w_callS (As := [_]) lkX11_156 hX (dk DX11_byTurns 32 rfl) rfl (by decide) (k_mcells (d + 108) _ f2 _ _) ?_
        show WP _ _ _ 59 [_, _, _, _, _] [_] _
        rw [jpc_pct, c]
        refine wp_iload_n hX (dk DX11_byTurns 33 rfl) rfl ?_
        refine wp_icmp_ne (tgt := 69) hX (dk DX11_byTurns 34 rfl) (by decide) (fun h_ => absurd (rfl) h_) (fun _ => ?_)
        refine wp_aload_n hX (dk DX11_byTurns 35 rfl) rfl ?_
        refine wp_iload hX (dk DX11_byTurns 36 rfl) rfl ?_
        refine w_callVQ (As := [_]) lkX11_315 hX (dk DX11_byTurns 37 rfl) rfl rfl (by decide) hN (ct) (fun v_b sw_b f_b g_b hq_b => ?_)
        obtain ⟨rfl, rfl, rfl, q1, q2, q3, q4⟩ := hq_b
        show WP _ _ _ 69 [_, _, _, _, _] [] _
        refine wp_iinc hX (dk DX11_byTurns 38 rfl) rfl (nI_inc _) rfl hN ?_
        show WP _ _ _ 72 [_, _, _, _, _] [] _
        refine wp_goto (tgt := 40) hX (dk DX11_byTurns 39 rfl) (by decide) ?_
        refine ih (i + 1) a f_b (by omega) ha (fun c h1 h2 => by rw [q1 c h1 h2, hf c h1 h2]) (fun j hj hp => ?_) k
        by_cases q : j = i
        · rw [q]; exact wn_one hn10 hpo hin q3 q4
        · have o := hd j hj (by omega); exact ⟨by rw [(q2 j q).1]; exact o.1, by rw [(q2 j q).2]; exact o.2⟩
      · refine wp_iload hX (dk DX11_byTurns 24 rfl) rfl ?_
        refine wp_aload_n hX (dk DX11_byTurns 25 rfl) rfl ?_
        refine w_geti hX flX11_112 (dk DX11_byTurns 26 rfl) (by decide) rfl ?_
        rw [show f2 81 0 = nI n by rw [hf 81 (by decide) (by decide)]; exact hna]
        refine wp_icmp_ge (tgt := 75) hX (dk DX11_byTurns 27 rfl) (by decide) (fun h_ => absurd h_ (nI_ge (by omega) (by omega))) (fun _ => ?_)
        refine wp_aload_n hX (dk DX11_byTurns 28 rfl) rfl ?_
        refine w_getr hX flX11_9 (dk DX11_byTurns 29 rfl) rfl rfl ?_
        refine wp_iload hX (dk DX11_byTurns 30 rfl) rfl ?_
        refine w_iald (j := _) hX (dk DX11_byTurns 31 rfl) rfl rfl (show _ < 10 by omega) ?_
        rw [hs82]
        refine w_callS (As := [_]) lkX11_156 hX (dk DX11_byTurns 32 rfl) rfl (by decide) (k_mcells (d + 108) _ f2 _ _) ?_
        show WP _ _ _ 59 [_, _, _, _, _] [_] _
        rw [jpc_pct]
        refine wp_iload_n hX (dk DX11_byTurns 33 rfl) rfl ?_
        refine wp_icmp_ne (tgt := 69) hX (dk DX11_byTurns 34 rfl) (by decide) (fun _ => ?_) (fun h_ => absurd h_ (fun q => c ((nI_eq (by have := p25 i hin; omega) (by omega)).mp q)))
        refine wp_iinc hX (dk DX11_byTurns 38 rfl) rfl (nI_inc _) rfl hN ?_
        show WP _ _ _ 72 [_, _, _, _, _] [] _
        refine wp_goto (tgt := 40) hX (dk DX11_byTurns 39 rfl) (by decide) ?_
        exact ih (i + 1) a f2 (by omega) ha hf (fun j hj hp => hd j hj (kx_pi (P := fun j => pct (sh j)) c hp)) k
  have lo2 : ∀ (q a : Nat) (f2 : Nat → Nat → Int32) (z : Option Value), a + q = 26 → (∀ c, c ≠ 113 → c ≠ 114 → f2 c = f_a c) → (∀ j, j < n → pct (sh j) < a → wnO f2 (BB sh n) n j) → WP X 0 0 31 [some (.ref 81), some (.int (nI b)), some (.int (nI w)), some (.int (nI a)), z] [] (S sw_a f2 g_a) := by
    intro q
    induction q with
    | zero =>
      intro a f2 z ha hf hd
      obtain rfl : a = 26 := by omega
      refine wp_iload_n hX (dk DX11_byTurns 19 rfl) rfl ?_
      refine wp_bipush (v := 26) hX (dk DX11_byTurns 20 rfl) (by decide) ?_
      refine wp_icmp_ge (tgt := 81) hX (dk DX11_byTurns 21 rfl) (by decide) (fun _ => ?_) (fun h_ => absurd (by decide) h_)
      exact en f2 _ _ hf (fun j hj => hd j hj (p25 j hj))
    | succ q ih =>
      intro a f2 z ha hf hd
      refine wp_iload_n hX (dk DX11_byTurns 19 rfl) rfl ?_
      refine wp_bipush (v := 26) hX (dk DX11_byTurns 20 rfl) (by decide) ?_
      refine wp_icmp_ge (tgt := 81) hX (dk DX11_byTurns 21 rfl) (by decide) (fun h_ => absurd h_ (nI_ge (b := 26) (by omega) (by omega))) (fun _ => ?_)
      refine wp_iconst (v := 0) hX (dk DX11_byTurns 22 rfl) (by decide) ?_
      refine wp_istore hX (dk DX11_byTurns 23 rfl) rfl hN (Nat.le_of_ble_eq_true rfl) ?_
      show WP _ _ _ 40 [_, _, _, _, _] [] _
      refine lo1 n 0 a f2 (by omega) (by omega) hf (fun j hj hp => hd j hj (by omega)) (fun f3 h1 h2 => ?_)
      refine wp_iinc hX (dk DX11_byTurns 40 rfl) rfl (nI_inc _) rfl hN ?_
      show WP _ _ _ 78 [_, _, _, _, _] [] _
      refine wp_goto (tgt := 31) hX (dk DX11_byTurns 41 rfl) (by decide) ?_
      exact ih (a + 1) f3 _ (by omega) h1 h2
  refine wp_iconst (v := 0) hX (dk DX11_byTurns 17 rfl) (by decide) ?_
  refine wp_istore_n hX (dk DX11_byTurns 18 rfl) rfl rfl hN (Nat.le_of_ble_eq_true rfl) ?_
  show WP _ _ _ 31 [_, _, _, _, _] [] _
  exact lo2 26 0 f_a _ (by decide) (fun _ _ _ => rfl) (fun j _ h => absurd h (Nat.not_lt_zero _))
