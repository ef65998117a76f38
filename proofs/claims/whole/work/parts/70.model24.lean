/-! REFERENCE: leave, egg -/
theorem lvF_in {s : Int32} {c : Nat → Int32} : ∀ k, lvF s c k = (-2, -1) ∨ ∃ j, j < k ∧ lvF s c k = (nI j, c j)
  | 0 => Or.inl rfl
  | k + 1 => by
    rw [lvF]
    split
    · exact Or.inr ⟨k, by omega, rfl⟩
    · exact (lvF_in k).imp_right (fun ⟨j, a, b⟩ => ⟨j, by omega, b⟩)
theorem lvF_hi {s : Int32} {c : Nat → Int32} {n : Nat} : ∀ m, n + m ≤ 32 → (∀ j, n ≤ j → j < n + m → bt s j = false) → lvF s c (n + m) = lvF s c n
  | 0, _, _ => rfl
  | m + 1, h, hb => by
    rw [show n + (m + 1) = (n + m) + 1 by omega, lvF, if_neg (fun q => q.1 ((jb_eq s (by omega)).mpr (hb (n + m) (by omega) (by omega)))), lvF_hi m (by omega) (fun j h1 h2 => hb j h1 (by omega))]
theorem jpc_nm1 (x : Int32) : (-1 : Int32) < jpc x := by
  rw [jpc_pct, Int32.lt_iff_toInt_lt, nI_toInt (by have := pct_le x; omega)]
  have : (-1 : Int32).toInt = -1 := by decide
  omega
theorem u_leave0 (d : Nat) (sw : Bool) (f : Nat → Nat → Int32) (g : Nat → Nat → Int64) (m : Nat) (x y : Int32) (hm : f 81 5 = nI m) (hm6 : m ≤ 6) (h : ¬ ((∃ b, b < m ∧ x = nI b) ∧ ∃ w, w < 2 ∧ y = nI w)) : CT (d + 110) 0 0 iX11_leave [.ref 81, .int x, .int y] (S sw f g) (rdM g f (-1)) := by
  refine CT.rdM ?_
  refine CT.of rfl (Nat.le_of_ble_eq_true rfl) (fun X hX hR hN _ => ?_)
  have hX : Good X RX11 cX11_leave (d + 110) 0 0 := hX
  have hN : x_nl X = 5 := hN
  show WP X 0 0 0 [_, _, _, _, _] [] _
  by_cases c1 : ∃ b, b < m ∧ x = nI b
  · obtain ⟨b, hb, rfl⟩ := c1
    refine wp_aload_n hX (dk DX11_leave 0 rfl) rfl ?_
    refine wp_iload_n hX (dk DX11_leave 1 rfl) rfl ?_
    refine w_callV (As := [_]) lkX11_123 hX (dk DX11_leave 2 rfl) rfl rfl (by decide) hN (k_mB1 (d + 108) sw f g m b hm hm6 hb) ?_
    show WP _ _ _ 5 [_, _, _, _, _] [_] _
    refine wp_if_eq (tgt := 17) hX (dk DX11_leave 3 rfl) (by decide) (fun h_ => absurd h_ (by decide)) (fun _ => ?_)
    refine wp_iload_n hX (dk DX11_leave 4 rfl) rfl ?_
    refine wp_iconst (v := 0) hX (dk DX11_leave 5 rfl) (by decide) ?_
    refine wp_iconst (v := 1) hX (dk DX11_leave 6 rfl) (by decide) ?_
    refine w_callS (As := [_, _, _]) lkX11_116 hX (dk DX11_leave 7 rfl) rfl (by decide) (k_wi0 (d + 109) 1 y 1 _ rfl (by decide) (fun ⟨i, h1, h2⟩ => h ⟨⟨b, hb, rfl⟩, i, by omega, h2⟩)) ?_
    show WP _ _ _ 14 [_, _, _, _, _] [_] _
    refine wp_if_ne (tgt := 19) hX (dk DX11_leave 8 rfl) (by decide) (fun h_ => absurd (rfl) h_) (fun _ => ?_)
    refine wp_iconst (v := -1) hX (dk DX11_leave 9 rfl) (by decide) ?_
    exact wp_ireturn hX hR (dk DX11_leave 10 rfl) rfl (Nat.le_refl _) (Nat.le_refl _) (⟨rfl, rfl⟩)
  · refine wp_aload_n hX (dk DX11_leave 0 rfl) rfl ?_
    refine wp_iload_n hX (dk DX11_leave 1 rfl) rfl ?_
    refine w_callV (As := [_]) lkX11_123 hX (dk DX11_leave 2 rfl) rfl rfl (by decide) hN (k_mB0 (d + 108) sw f g m x hm hm6 c1) ?_
    show WP _ _ _ 5 [_, _, _, _, _] [_] _
    refine wp_if_eq (tgt := 17) hX (dk DX11_leave 3 rfl) (by decide) (fun _ => ?_) (fun h_ => absurd (rfl) h_)
    refine wp_iconst (v := -1) hX (dk DX11_leave 9 rfl) (by decide) ?_
    exact wp_ireturn hX hR (dk DX11_leave 10 rfl) rfl (Nat.le_refl _) (Nat.le_refl _) (⟨rfl, rfl⟩)
theorem u_leave1 (d : Nat) (sw : Bool) (f : Nat → Nat → Int32) (g : Nat → Nat → Int64) (n m b w : Nat) (sh : Nat → Int32) (hF : mFg f n sh) (hm : f 81 5 = nI m) (hm6 : m ≤ 6) (hb : b < m) (hw : w < 2) : CT (d + 110) 0 0 iX11_leave [.ref 81, .int (nI b), .int (nI w)] (S sw f g) (rdM g f (if w = 0 ∨ (lvF (jfo sh n (f 86 b)) (fun i => jpc (BB sh n i)) 10).1 = -2 then (lvF (jfo sh n (f 86 b)) (fun i => jpc (BB sh n i)) 10).1 else (lvF (jfo sh n (f 86 b)) (fun i => jpc (BB sh n i)) 10).2)) := by
  have hn10 := hF.2.1
  obtain ⟨c, hc⟩ : ∃ c : Nat → Int32, c = fun i => jpc (BB sh n i) := ⟨_, rfl⟩
  have e10 := lvF_hi (s := jfo sh n (f 86 b)) (c := c) (n := n) (10 - n) (by omega) (fun j h1 h2 => jfo_hi hn10 h1 (by omega))
  rw [show n + (10 - n) = 10 by omega] at e10
  rw [← hc, e10]
  obtain ⟨x, hx⟩ : ∃ x, x = jfo sh n (f 86 b) := ⟨_, rfl⟩
  rw [← hx]
  refine CT.of rfl (Nat.le_of_ble_eq_true rfl) (fun X hX hR hN _ => ?_)
  have hX : Good X RX11 cX11_leave (d + 110) 0 0 := hX
  have hN : x_nl X = 5 := hN
  show WP X 0 0 0 [_, _, _, _, _] [] _
  refine wp_aload_n hX (dk DX11_leave 0 rfl) rfl ?_
  refine wp_iload_n hX (dk DX11_leave 1 rfl) rfl ?_
  refine w_callV (As := [_]) lkX11_123 hX (dk DX11_leave 2 rfl) rfl rfl (by decide) hN (k_mB1 (d + 108) sw f g m b hm hm6 hb) ?_
  show WP _ _ _ 5 [_, _, _, _, _] [_] _
  refine wp_if_eq (tgt := 17) hX (dk DX11_leave 3 rfl) (by decide) (fun h_ => absurd h_ (by decide)) (fun _ => ?_)
  refine wp_iload_n hX (dk DX11_leave 4 rfl) rfl ?_
  refine wp_iconst (v := 0) hX (dk DX11_leave 5 rfl) (by decide) ?_
  refine wp_iconst (v := 1) hX (dk DX11_leave 6 rfl) (by decide) ?_
  refine w_callS (As := [_, _, _]) lkX11_116 hX (dk DX11_leave 7 rfl) rfl (by decide) (k_wi1 (d + 109) w 1 1 _ rfl (by decide) (by omega)) ?_
  show WP _ _ _ 14 [_, _, _, _, _] [_] _
  refine wp_if_ne (tgt := 19) hX (dk DX11_leave 8 rfl) (by decide) (fun _ => ?_) (fun h_ => absurd h_ (by decide))
  refine wp_aload_n hX (dk DX11_leave 11 rfl) rfl ?_
  refine wp_aload_n hX (dk DX11_leave 12 rfl) rfl ?_
  refine w_getr hX flX11_24 (dk DX11_leave 13 rfl) rfl rfl ?_
  refine wp_iload_n hX (dk DX11_leave 14 rfl) rfl ?_
  refine w_iald (j := _) hX (dk DX11_leave 15 rfl) rfl rfl (show _ < 6 by omega) ?_
  refine w_callVQ (As := [_]) lkX11_287 hX (dk DX11_leave 16 rfl) rfl rfl (by decide) hN (k_looks (d + 103) sw f g n sh _ hF) (fun v_a sw_a f_a g_a hq_a => ?_)
  obtain ⟨rfl, rfl, rfl, e1, e2⟩ := hq_a
  show WP _ _ _ 29 [_, _, _, _, _] [] _
  skip
  have hn : f_a 81 0 = nI n := by rw [e1 81 (by decide)]; exact hF.1
  have hof : ∀ i, i < n → f_a 109 i = BB sh n i := e2.1
  have hxa : f_a 109 10 = x := by rw [hx]; exact e2.2
  have fin : qM f f_a := ⟨fun c _ _ h3 => e1 c (by omega), fun i _ => by rw [e1 81 (by decide)]⟩
  have lo : ∀ (q i : Nat), i + q = n → WP X 0 0 35 [some (.ref 81), some (.int (nI b)), some (.int (nI w)), some (.int (lvF x c i).1), some (.int (nI i))] [] (S sw_a f_a g_a) := by
    intro q
    induction q with
    | zero =>
      intro i hi
      obtain rfl : i = n := by omega
      have hw2 : w = 0 ∨ w = 1 := by omega
      rcases lvF_in (s := x) (c := c) i with e | ⟨j, hj, e⟩
      · rw [e] at hR
        rw [if_pos (Or.inr rfl)] at hR
        rw [e]
        refine wp_iload hX (dk DX11_leave 21 rfl) rfl ?_
        refine wp_aload_n hX (dk DX11_leave 22 rfl) rfl ?_
        refine w_geti hX flX11_112 (dk DX11_leave 23 rfl) (by decide) rfl ?_
        rw [hn]
        refine wp_icmp_ge (tgt := 96) hX (dk DX11_leave 24 rfl) (by decide) (fun _ => ?_) (fun h_ => absurd (nI_le (by omega) (by omega)) h_)
        refine wp_iload_n hX (dk DX11_leave 50 rfl) rfl ?_
        refine wp_bipush (v := -2) hX (dk DX11_leave 51 rfl) (by decide) ?_
        refine wp_icmp_eq (tgt := 106) hX (dk DX11_leave 52 rfl) (by decide) (fun _ => ?_) (fun h_ => absurd (rfl) h_)
        refine wp_iload_n hX (dk DX11_leave 55 rfl) rfl ?_
        refine wp_goto (tgt := 119) hX (dk DX11_leave 56 rfl) (by decide) ?_
        exact wp_ireturn hX hR (dk DX11_leave_1 2 rfl) rfl (Nat.le_refl _) (Nat.le_refl _) (⟨_, _, _, rfl, rfl, rfl, fin⟩)
      · rw [e] at hR
        rw [e]
        have ne : ¬ nI j = -2 := rE_ne j (by omega)
        rcases hw2 with rfl | rfl
        · rw [if_pos (Or.inl rfl)] at hR
          refine wp_iload hX (dk DX11_leave 21 rfl) rfl ?_
          refine wp_aload_n hX (dk DX11_leave 22 rfl) rfl ?_
          refine w_geti hX flX11_112 (dk DX11_leave 23 rfl) (by decide) rfl ?_
          rw [hn]
          refine wp_icmp_ge (tgt := 96) hX (dk DX11_leave 24 rfl) (by decide) (fun _ => ?_) (fun h_ => absurd (nI_le (by omega) (by omega)) h_)
          refine wp_iload_n hX (dk DX11_leave 50 rfl) rfl ?_
          refine wp_bipush (v := -2) hX (dk DX11_leave 51 rfl) (by decide) ?_
          refine wp_icmp_eq (tgt := 106) hX (dk DX11_leave 52 rfl) (by decide) (fun h_ => absurd h_ (ne)) (fun _ => ?_)
          refine wp_iload_n hX (dk DX11_leave 53 rfl) rfl ?_
          refine wp_if_ne (tgt := 110) hX (dk DX11_leave 54 rfl) (by decide) (fun h_ => absurd (rfl) h_) (fun _ => ?_)
          refine wp_iload_n hX (dk DX11_leave 55 rfl) rfl ?_
          refine wp_goto (tgt := 119) hX (dk DX11_leave 56 rfl) (by decide) ?_
          exact wp_ireturn hX hR (dk DX11_leave_1 2 rfl) rfl (Nat.le_refl _) (Nat.le_refl _) (⟨_, _, _, rfl, rfl, rfl, fin⟩)
        · rw [if_neg (fun z => z.elim (by decide) ne)] at hR
          refine wp_iload hX (dk DX11_leave 21 rfl) rfl ?_
          refine wp_aload_n hX (dk DX11_leave 22 rfl) rfl ?_
          refine w_geti hX flX11_112 (dk DX11_leave 23 rfl) (by decide) rfl ?_
          rw [hn]
          refine wp_icmp_ge (tgt := 96) hX (dk DX11_leave 24 rfl) (by decide) (fun _ => ?_) (fun h_ => absurd (nI_le (by omega) (by omega)) h_)
          refine wp_iload_n hX (dk DX11_leave 50 rfl) rfl ?_
          refine wp_bipush (v := -2) hX (dk DX11_leave 51 rfl) (by decide) ?_
          refine wp_icmp_eq (tgt := 106) hX (dk DX11_leave 52 rfl) (by decide) (fun h_ => absurd h_ (ne)) (fun _ => ?_)
          refine wp_iload_n hX (dk DX11_leave 53 rfl) rfl ?_
          refine wp_if_ne (tgt := 110) hX (dk DX11_leave 54 rfl) (by decide) (fun _ => ?_) (fun h_ => absurd h_ (by decide))
          refine wp_aload_n hX (dk DX11_leave 57 rfl) rfl ?_
          refine w_getr hX flX11_94 (dk DX11_leave 58 rfl) rfl rfl ?_
          refine wp_iload_n hX (dk DX11_leave 59 rfl) rfl ?_
          refine w_iald (j := _) hX (dk DX11_leave_1 0 rfl) rfl rfl (show _ < 11 by omega) ?_
          rw [hof j hj]
          refine w_callS (As := [_]) lkX11_156 hX (dk DX11_leave_1 1 rfl) rfl (by decide) (k_mcells (d + 108) _ f_a _ _) ?_
          show WP _ _ _ 119 [_, _, _, _, _] [_] _
          exact wp_ireturn hX hR (dk DX11_leave_1 2 rfl) rfl (Nat.le_refl _) (Nat.le_refl _) (⟨_, _, _, rfl, by rw [hc], rfl, fin⟩)
    | succ q ih =>
      intro i hi
      have nx := ih (i + 1) (by omega)
      rw [lvF] at nx
      have ci : jpc (BB sh n i) = c i := by rw [hc]
      rcases lvF_in (s := x) (c := c) i with e | ⟨j, hj, e⟩
      · rw [e] at nx
        rw [e]
        refine wp_iload hX (dk DX11_leave 21 rfl) rfl ?_
        refine wp_aload_n hX (dk DX11_leave 22 rfl) rfl ?_
        refine w_geti hX flX11_112 (dk DX11_leave 23 rfl) (by decide) rfl ?_
        rw [hn]
        refine wp_icmp_ge (tgt := 96) hX (dk DX11_leave 24 rfl) (by decide) (fun h_ => absurd h_ (nI_ge (by omega) (by omega))) (fun _ => ?_)
        refine wp_aload_n hX (dk DX11_leave 25 rfl) rfl ?_
        refine w_getr hX flX11_94 (dk DX11_leave 26 rfl) rfl rfl ?_
        refine wp_bipush (v := 10) hX (dk DX11_leave 27 rfl) (by decide) ?_
        refine w_iald (j := 10) hX (dk DX11_leave 28 rfl) rfl rfl (by decide) ?_
        rw [hxa]
        refine wp_iload hX (dk DX11_leave 29 rfl) rfl ?_
        refine w_callS (As := [_, _]) lkX11_138 hX (dk DX11_leave 30 rfl) rfl (by decide) (k_mhas (d + 109) _ _ _) ?_
        show WP _ _ _ 56 [_, _, _, _, _] [_] _
        refine wp_if_eq (tgt := 90) hX (dk DX11_leave 31 rfl) (by decide) (fun h56 => ?_) (fun h56 => ?_)
        · have cc : ¬ (¬ jb x i = 0 ∧ ((-2, -1) : Int32 × Int32).2 < c i) := fun z => z.1 h56
          refine wp_iinc hX (dk DX11_leave 48 rfl) rfl (nI_inc _) rfl hN ?_
          show WP _ _ _ 93 [_, _, _, _, _] [] _
          refine wp_goto (tgt := 35) hX (dk DX11_leave 49 rfl) (by decide) ?_
          first | (rw [if_pos cc] at nx; exact nx) | (rw [if_neg cc] at nx; exact nx)
        · have cc : ¬ jb x i = 0 ∧ ((-2, -1) : Int32 × Int32).2 < c i := ⟨h56, by rw [← ci]; exact jpc_nm1 _⟩
          refine wp_iload_n hX (dk DX11_leave 32 rfl) rfl ?_
          refine wp_bipush (v := -2) hX (dk DX11_leave 33 rfl) (by decide) ?_
          refine wp_icmp_eq (tgt := 87) hX (dk DX11_leave 34 rfl) (by decide) (fun _ => ?_) (fun h_ => absurd (rfl) h_)
          refine wp_iload hX (dk DX11_leave 46 rfl) rfl ?_
          refine wp_istore_n hX (dk DX11_leave 47 rfl) rfl rfl hN (Nat.le_of_ble_eq_true rfl) ?_
          show WP _ _ _ 90 [_, _, _, _, _] [] _
          refine wp_iinc hX (dk DX11_leave 48 rfl) rfl (nI_inc _) rfl hN ?_
          show WP _ _ _ 93 [_, _, _, _, _] [] _
          refine wp_goto (tgt := 35) hX (dk DX11_leave 49 rfl) (by decide) ?_
          first | (rw [if_pos cc] at nx; exact nx) | (rw [if_neg cc] at nx; exact nx)
      · rw [e] at nx
        rw [e]
        have ne : ¬ nI j = -2 := rE_ne j (by omega)
        have cj : jpc (BB sh n j) = c j := by rw [hc]
        refine wp_iload hX (dk DX11_leave 21 rfl) rfl ?_
        refine wp_aload_n hX (dk DX11_leave 22 rfl) rfl ?_
        refine w_geti hX flX11_112 (dk DX11_leave 23 rfl) (by decide) rfl ?_
        rw [hn]
        refine wp_icmp_ge (tgt := 96) hX (dk DX11_leave 24 rfl) (by decide) (fun h_ => absurd h_ (nI_ge (by omega) (by omega))) (fun _ => ?_)
        refine wp_aload_n hX (dk DX11_leave 25 rfl) rfl ?_
        refine w_getr hX flX11_94 (dk DX11_leave 26 rfl) rfl rfl ?_
        refine wp_bipush (v := 10) hX (dk DX11_leave 27 rfl) (by decide) ?_
        refine w_iald (j := 10) hX (dk DX11_leave 28 rfl) rfl rfl (by decide) ?_
        rw [hxa]
        refine wp_iload hX (dk DX11_leave 29 rfl) rfl ?_
        refine w_callS (As := [_, _]) lkX11_138 hX (dk DX11_leave 30 rfl) rfl (by decide) (k_mhas (d + 109) _ _ _) ?_
        show WP _ _ _ 56 [_, _, _, _, _] [_] _
        refine wp_if_eq (tgt := 90) hX (dk DX11_leave 31 rfl) (by decide) (fun h56 => ?_) (fun h56 => ?_)
        · have cc : ¬ (¬ jb x i = 0 ∧ ((nI j, c j) : Int32 × Int32).2 < c i) := fun z => z.1 h56
          refine wp_iinc hX (dk DX11_leave 48 rfl) rfl (nI_inc _) rfl hN ?_
          show WP _ _ _ 93 [_, _, _, _, _] [] _
          refine wp_goto (tgt := 35) hX (dk DX11_leave 49 rfl) (by decide) ?_
          first | (rw [if_pos cc] at nx; exact nx) | (rw [if_neg cc] at nx; exact nx)
        · refine wp_iload_n hX (dk DX11_leave 32 rfl) rfl ?_
          refine wp_bipush (v := -2) hX (dk DX11_leave 33 rfl) (by decide) ?_
          refine wp_icmp_eq (tgt := 87) hX (dk DX11_leave 34 rfl) (by decide) (fun h_ => absurd h_ (ne)) (fun _ => ?_)
          refine wp_aload_n hX (dk DX11_leave 35 rfl) rfl ?_
          refine w_getr hX flX11_94 (dk DX11_leave 36 rfl) rfl rfl ?_
          refine wp_iload hX (dk DX11_leave 37 rfl) rfl ?_
          refine w_iald (j := _) hX (dk DX11_leave 38 rfl) rfl rfl (show _ < 11 by omega) ?_
          rw [hof i (by omega)]
          refine w_callS (As := [_]) lkX11_156 hX (dk DX11_leave 39 rfl) rfl (by decide) (k_mcells (d + 108) _ f_a _ _) ?_
          show WP _ _ _ 75 [_, _, _, _, _] [_] _
          rw [ci]
          refine wp_aload_n hX (dk DX11_leave 40 rfl) rfl ?_
          refine w_getr hX flX11_94 (dk DX11_leave 41 rfl) rfl rfl ?_
          refine wp_iload_n hX (dk DX11_leave 42 rfl) rfl ?_
          refine w_iald (j := _) hX (dk DX11_leave 43 rfl) rfl rfl (show _ < 11 by omega) ?_
          rw [hof j (by omega)]
          refine w_callS (As := [_]) lkX11_156 hX (dk DX11_leave 44 rfl) rfl (by simp [Value.category]) (k_mcells (d + 108) _ f_a _ _) ?_
          show WP _ _ _ 84 [_, _, _, _, _] [_, _] _
          rw [cj]
          refine wp_icmp_le (tgt := 90) hX (dk DX11_leave 45 rfl) (by decide) (fun h84 => ?_) (fun h84 => ?_)
          · have cc : ¬ (¬ jb x i = 0 ∧ ((nI j, c j) : Int32 × Int32).2 < c i) := fun z => absurd z.2 (Int32.not_lt.mpr h84)
            refine wp_iinc hX (dk DX11_leave 48 rfl) rfl (nI_inc _) rfl hN ?_
            show WP _ _ _ 93 [_, _, _, _, _] [] _
            refine wp_goto (tgt := 35) hX (dk DX11_leave 49 rfl) (by decide) ?_
            first | (rw [if_pos cc] at nx; exact nx) | (rw [if_neg cc] at nx; exact nx)
          · have cc : ¬ jb x i = 0 ∧ ((nI j, c j) : Int32 × Int32).2 < c i := ⟨h56, Int32.not_le.mp h84⟩
            refine wp_iload hX (dk DX11_leave 46 rfl) rfl ?_
            refine wp_istore_n hX (dk DX11_leave 47 rfl) rfl rfl hN (Nat.le_of_ble_eq_true rfl) ?_
            show WP _ _ _ 90 [_, _, _, _, _] [] _
            refine wp_iinc hX (dk DX11_leave 48 rfl) rfl (nI_inc _) rfl hN ?_
            show WP _ _ _ 93 [_, _, _, _, _] [] _
            refine wp_goto (tgt := 35) hX (dk DX11_leave 49 rfl) (by decide) ?_
            first | (rw [if_pos cc] at nx; exact nx) | (rw [if_neg cc] at nx; exact nx)
  refine wp_bipush (v := -2) hX (dk DX11_leave 17 rfl) (by decide) ?_
  refine wp_istore_n hX (dk DX11_leave 18 rfl) rfl rfl hN (Nat.le_of_ble_eq_true rfl) ?_
  show WP _ _ _ 32 [_, _, _, _, _] [] _
  refine wp_iconst (v := 0) hX (dk DX11_leave 19 rfl) (by decide) ?_
  refine wp_istore hX (dk DX11_leave 20 rfl) rfl hN (Nat.le_of_ble_eq_true rfl) ?_
  show WP _ _ _ 35 [_, _, _, _, _] [] _
  exact lo n 0 (by omega)
theorem u_egg0 (d : Nat) (sw : Bool) (f : Nat → Nat → Int32) (g : Nat → Nat → Int64) (x y : Int32) (h : ¬ (shp x ∧ ∃ w, w < 3 ∧ y = nI w)) : CT (d + 110) 0 0 iX11_egg [.ref 81, .int x, .int y] (S sw f g) (rdM g f (-1)) := by
  refine CT.rdM ?_
  refine CT.of rfl (Nat.le_of_ble_eq_true rfl) (fun X hX hR hN _ => ?_)
  have hX : Good X RX11 cX11_egg (d + 110) 0 0 := hX
  have hN : x_nl X = 5 := hN
  show WP X 0 0 0 [_, _, _, _, _] [] _
  by_cases c : shp x
  · refine wp_iload_n hX (dk DX11_egg 0 rfl) rfl ?_
    refine w_callS (As := [_]) lkX11_168 hX (dk DX11_egg 1 rfl) rfl (by decide) (k_mS1 (d + 108) sw f g x c) ?_
    show WP _ _ _ 4 [_, _, _, _, _] [_] _
    refine wp_if_eq (tgt := 16) hX (dk DX11_egg 2 rfl) (by decide) (fun h_ => absurd h_ (by decide)) (fun _ => ?_)
    refine wp_iload_n hX (dk DX11_egg 3 rfl) rfl ?_
    refine wp_iconst (v := 0) hX (dk DX11_egg 4 rfl) (by decide) ?_
    refine wp_iconst (v := 2) hX (dk DX11_egg 5 rfl) (by decide) ?_
    refine w_callS (As := [_, _, _]) lkX11_116 hX (dk DX11_egg 6 rfl) rfl (by decide) (k_wi0 (d + 109) 2 y 2 _ rfl (by decide) (fun ⟨i, h1, h2⟩ => h ⟨c, i, by omega, h2⟩)) ?_
    show WP _ _ _ 13 [_, _, _, _, _] [_] _
    refine wp_if_ne (tgt := 18) hX (dk DX11_egg 7 rfl) (by decide) (fun h_ => absurd (rfl) h_) (fun _ => ?_)
    refine wp_iconst (v := -1) hX (dk DX11_egg 8 rfl) (by decide) ?_
    exact wp_ireturn hX hR (dk DX11_egg 9 rfl) rfl (Nat.le_refl _) (Nat.le_refl _) (⟨rfl, rfl⟩)
  · refine wp_iload_n hX (dk DX11_egg 0 rfl) rfl ?_
    refine w_callS (As := [_]) lkX11_168 hX (dk DX11_egg 1 rfl) rfl (by decide) (k_mS0 (d + 108) sw f g x c) ?_
    show WP _ _ _ 4 [_, _, _, _, _] [_] _
    refine wp_if_eq (tgt := 16) hX (dk DX11_egg 2 rfl) (by decide) (fun _ => ?_) (fun h_ => absurd (rfl) h_)
    refine wp_iconst (v := -1) hX (dk DX11_egg 8 rfl) (by decide) ?_
    exact wp_ireturn hX hR (dk DX11_egg 9 rfl) rfl (Nat.le_refl _) (Nat.le_refl _) (⟨rfl, rfl⟩)
theorem u_egg1 (d : Nat) (sw : Bool) (f : Nat → Nat → Int32) (g : Nat → Nat → Int64) (n w : Nat) (x : Int32) (sh : Nat → Int32) (hF : mFg f n sh) (hx : shp x) (hw : w < 3) : CT (d + 110) 0 0 iX11_egg [.ref 81, .int x, .int (nI w)] (S sw f g) (rdM g f (if w = 0 then jfo sh n x else if w = 1 then jpo sh n x else jpc x)) := by
  have hw3 : w = 0 ∨ w = 1 ∨ w = 2 := by omega
  have hn10 := hF.2.1
  obtain ⟨Sx, Nx⟩ := shp_Sq hx
  refine CT.rdM ?_
  refine CT.of rfl (Nat.le_of_ble_eq_true rfl) (fun X hX hR hN _ => ?_)
  have hX : Good X RX11 cX11_egg (d + 110) 0 0 := hX
  have hN : x_nl X = 5 := hN
  show WP X 0 0 0 [_, _, _, _, _] [] _
  rcases hw3 with rfl | rfl | rfl
  · refine wp_iload_n hX (dk DX11_egg 0 rfl) rfl ?_
    refine w_callS (As := [_]) lkX11_168 hX (dk DX11_egg 1 rfl) rfl (by decide) (k_mS1 (d + 108) sw f g x hx) ?_
    show WP _ _ _ 4 [_, _, _, _, _] [_] _
    refine wp_if_eq (tgt := 16) hX (dk DX11_egg 2 rfl) (by decide) (fun h_ => absurd h_ (by decide)) (fun _ => ?_)
    refine wp_iload_n hX (dk DX11_egg 3 rfl) rfl ?_
    refine wp_iconst (v := 0) hX (dk DX11_egg 4 rfl) (by decide) ?_
    refine wp_iconst (v := 2) hX (dk DX11_egg 5 rfl) (by decide) ?_
    refine w_callS (As := [_, _, _]) lkX11_116 hX (dk DX11_egg 6 rfl) rfl (by decide) (k_wi1 (d + 109) 0 2 2 _ rfl (by decide) (by omega)) ?_
    show WP _ _ _ 13 [_, _, _, _, _] [_] _
    refine wp_if_ne (tgt := 18) hX (dk DX11_egg 7 rfl) (by decide) (fun _ => ?_) (fun h_ => absurd h_ (by decide))
    refine wp_iload_n hX (dk DX11_egg 10 rfl) rfl ?_
    refine wp_iconst (v := 2) hX (dk DX11_egg 11 rfl) (by decide) ?_
    refine wp_icmp_ne (tgt := 28) hX (dk DX11_egg 12 rfl) (by decide) (fun _ => ?_) (fun h_ => absurd h_ (by decide))
    refine wp_iload_n hX (dk DX11_egg 16 rfl) rfl ?_
    refine wp_if_ne (tgt := 38) hX (dk DX11_egg 17 rfl) (by decide) (fun h_ => absurd (rfl) h_) (fun _ => ?_)
    refine wp_aload_n hX (dk DX11_egg 18 rfl) rfl ?_
    refine wp_iload_n hX (dk DX11_egg 19 rfl) rfl ?_
    refine w_callV (As := [_]) lkX11_165 hX (dk DX11_egg 20 rfl) rfl rfl (by decide) hN (k_cutOf (d + 104) sw f g n sh x hF) ?_
    show WP _ _ _ 37 [_, _, _, _, _] [_] _
    exact wp_ireturn hX hR (dk DX11_egg 21 rfl) rfl (Nat.le_refl _) (Nat.le_refl _) (⟨rfl, rfl⟩)
  · have lo : ∀ (q i : Nat), i + q = n → WP X 0 0 43 [some (.ref 81), some (.int x), some (.int (nI 1)), some (.int (jpo sh i x)), some (.int (nI i))] [] (S sw f g) := by
      intro q
      induction q with
      | zero =>
        intro i hi
        obtain rfl : i = n := by omega
        refine wp_iload hX (dk DX11_egg 26 rfl) rfl ?_
        refine wp_aload_n hX (dk DX11_egg 27 rfl) rfl ?_
        refine w_geti hX flX11_112 (dk DX11_egg 28 rfl) (by decide) rfl ?_
        rw [hF.1]
        refine wp_icmp_ge (tgt := 82) hX (dk DX11_egg 29 rfl) (by decide) (fun _ => ?_) (fun h_ => absurd (nI_le (by omega) (by omega)) h_)
        refine wp_iload_n hX (dk DX11_egg 47 rfl) rfl ?_
        exact wp_ireturn hX hR (dk DX11_egg 48 rfl) rfl (Nat.le_refl _) (Nat.le_refl _) (⟨rfl, rfl⟩)
      | succ q ih =>
        intro i hi
        have nx := ih (i + 1) (by omega)
        rw [jpo, jbs] at nx
        refine wp_iload hX (dk DX11_egg 26 rfl) rfl ?_
        refine wp_aload_n hX (dk DX11_egg 27 rfl) rfl ?_
        refine w_geti hX flX11_112 (dk DX11_egg 28 rfl) (by decide) rfl ?_
        rw [hF.1]
        refine wp_icmp_ge (tgt := 82) hX (dk DX11_egg 29 rfl) (by decide) (fun h_ => absurd h_ (nI_ge (by omega) (by omega))) (fun _ => ?_)
        refine wp_iload_n hX (dk DX11_egg 30 rfl) rfl ?_
        refine wp_aload_n hX (dk DX11_egg 31 rfl) rfl ?_
        refine w_getr hX flX11_9 (dk DX11_egg 32 rfl) rfl rfl ?_
        refine wp_iload hX (dk DX11_egg 33 rfl) rfl ?_
        refine w_iald (j := _) hX (dk DX11_egg 34 rfl) rfl rfl (show _ < 10 by omega) ?_
        rw [(hF.2.2 i (by omega)).1]
        refine wp_iconst (v := 1) hX (dk DX11_egg 35 rfl) (by decide) ?_
        refine w_callS (As := [_, _, _]) lkX11_159 hX (dk DX11_egg 36 rfl) rfl (by decide) (k_waysIn (d + 106) sw f g x (sh i) 1 Sx Nx) ?_
        show WP _ _ _ 64 [_, _, _, _, _] [_] _
        rw [wyR_1 Sx Nx]
        refine wp_bipush (v := -2) hX (dk DX11_egg 37 rfl) (by decide) ?_
        refine wp_icmp_eq (tgt := 76) hX (dk DX11_egg 38 rfl) (by decide) (fun h66 => ?_) (fun h66 => ?_)
        · have cc : (if jfp x (sh i) = -2 then (0 : Int32) else 1) = 0 := if_pos (jwy_no.mp h66)
          refine wp_iinc hX (dk DX11_egg 45 rfl) rfl (nI_inc _) rfl hN ?_
          show WP _ _ _ 79 [_, _, _, _, _] [] _
          refine wp_goto (tgt := 43) hX (dk DX11_egg 46 rfl) (by decide) ?_
          first | (rw [if_pos cc] at nx; exact nx) | (rw [if_neg cc] at nx; exact nx)
        · have cc : ¬ (if jfp x (sh i) = -2 then (0 : Int32) else 1) = 0 := by rw [if_neg (fun z => h66 (jwy_no.mpr z))]; decide
          refine wp_iload_n hX (dk DX11_egg 39 rfl) rfl ?_
          refine wp_iconst (v := 1) hX (dk DX11_egg 40 rfl) (by decide) ?_
          refine wp_iload hX (dk DX11_egg 41 rfl) rfl ?_
          refine wp_ishl hX (dk DX11_egg 42 rfl) ?_
          refine wp_ior hX (dk DX11_egg 43 rfl) ?_
          refine wp_istore_n hX (dk DX11_egg 44 rfl) rfl rfl hN (Nat.le_of_ble_eq_true rfl) ?_
          show WP _ _ _ 76 [_, _, _, _, _] [] _
          refine wp_iinc hX (dk DX11_egg 45 rfl) rfl (nI_inc _) rfl hN ?_
          show WP _ _ _ 79 [_, _, _, _, _] [] _
          refine wp_goto (tgt := 43) hX (dk DX11_egg 46 rfl) (by decide) ?_
          first | (rw [if_pos cc] at nx; exact nx) | (rw [if_neg cc] at nx; exact nx)
    refine wp_iload_n hX (dk DX11_egg 0 rfl) rfl ?_
    refine w_callS (As := [_]) lkX11_168 hX (dk DX11_egg 1 rfl) rfl (by decide) (k_mS1 (d + 108) sw f g x hx) ?_
    show WP _ _ _ 4 [_, _, _, _, _] [_] _
    refine wp_if_eq (tgt := 16) hX (dk DX11_egg 2 rfl) (by decide) (fun h_ => absurd h_ (by decide)) (fun _ => ?_)
    refine wp_iload_n hX (dk DX11_egg 3 rfl) rfl ?_
    refine wp_iconst (v := 0) hX (dk DX11_egg 4 rfl) (by decide) ?_
    refine wp_iconst (v := 2) hX (dk DX11_egg 5 rfl) (by decide) ?_
    refine w_callS (As := [_, _, _]) lkX11_116 hX (dk DX11_egg 6 rfl) rfl (by decide) (k_wi1 (d + 109) 1 2 2 _ rfl (by decide) (by omega)) ?_
    show WP _ _ _ 13 [_, _, _, _, _] [_] _
    refine wp_if_ne (tgt := 18) hX (dk DX11_egg 7 rfl) (by decide) (fun _ => ?_) (fun h_ => absurd h_ (by decide))
    refine wp_iload_n hX (dk DX11_egg 10 rfl) rfl ?_
    refine wp_iconst (v := 2) hX (dk DX11_egg 11 rfl) (by decide) ?_
    refine wp_icmp_ne (tgt := 28) hX (dk DX11_egg 12 rfl) (by decide) (fun _ => ?_) (fun h_ => absurd h_ (by decide))
    refine wp_iload_n hX (dk DX11_egg 16 rfl) rfl ?_
    refine wp_if_ne (tgt := 38) hX (dk DX11_egg 17 rfl) (by decide) (fun _ => ?_) (fun h_ => absurd h_ (by decide))
    refine wp_iconst (v := 0) hX (dk DX11_egg 22 rfl) (by decide) ?_
    refine wp_istore_n hX (dk DX11_egg 23 rfl) rfl rfl hN (Nat.le_of_ble_eq_true rfl) ?_
    show WP _ _ _ 40 [_, _, _, _, _] [] _
    refine wp_iconst (v := 0) hX (dk DX11_egg 24 rfl) (by decide) ?_
    refine wp_istore hX (dk DX11_egg 25 rfl) rfl hN (Nat.le_of_ble_eq_true rfl) ?_
    show WP _ _ _ 43 [_, _, _, _, _] [] _
    exact lo n 0 (by omega)
  · refine wp_iload_n hX (dk DX11_egg 0 rfl) rfl ?_
    refine w_callS (As := [_]) lkX11_168 hX (dk DX11_egg 1 rfl) rfl (by decide) (k_mS1 (d + 108) sw f g x hx) ?_
    show WP _ _ _ 4 [_, _, _, _, _] [_] _
    refine wp_if_eq (tgt := 16) hX (dk DX11_egg 2 rfl) (by decide) (fun h_ => absurd h_ (by decide)) (fun _ => ?_)
    refine wp_iload_n hX (dk DX11_egg 3 rfl) rfl ?_
    refine wp_iconst (v := 0) hX (dk DX11_egg 4 rfl) (by decide) ?_
    refine wp_iconst (v := 2) hX (dk DX11_egg 5 rfl) (by decide) ?_
    refine w_callS (As := [_, _, _]) lkX11_116 hX (dk DX11_egg 6 rfl) rfl (by decide) (k_wi1 (d + 109) 2 2 2 _ rfl (by decide) (by omega)) ?_
    show WP _ _ _ 13 [_, _, _, _, _] [_] _
    refine wp_if_ne (tgt := 18) hX (dk DX11_egg 7 rfl) (by decide) (fun _ => ?_) (fun h_ => absurd h_ (by decide))
    refine wp_iload_n hX (dk DX11_egg 10 rfl) rfl ?_
    refine wp_iconst (v := 2) hX (dk DX11_egg 11 rfl) (by decide) ?_
    refine wp_icmp_ne (tgt := 28) hX (dk DX11_egg 12 rfl) (by decide) (fun h_ => absurd (rfl) h_) (fun _ => ?_)
    refine wp_iload_n hX (dk DX11_egg 13 rfl) rfl ?_
    refine w_callS (As := [_]) lkX11_156 hX (dk DX11_egg 14 rfl) rfl (by decide) (k_mcells (d + 108) sw f g x) ?_
    show WP _ _ _ 27 [_, _, _, _, _] [_] _
    exact wp_ireturn hX hR (dk DX11_egg 15 rfl) rfl (Nat.le_refl _) (Nat.le_refl _) (⟨rfl, rfl⟩)
