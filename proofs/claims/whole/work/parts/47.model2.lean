/-! THE REFERENCE: moved, ways, what can be cut of what -/
theorem k_moved (d : Nat) (sw : Bool) (f : Nat → Nat → Int32) (g : Nat → Nat → Int64) (s : Int32) (dx dy : Nat) (hx : dx < 10) (hy : dy < 10) : CT (d + 1) 0 0 iX11_moved [.int s, .int (nI dx), .int (nI dy)] (S sw f g) (QR (some (.int (jmv s dx dy))) (S sw f g)) := by
  unfold jmv
  obtain ⟨R0, hR0⟩ : ∃ R0, R0 = mvR s dx dy 25 0 0 := ⟨_, rfl⟩
  rw [← hR0]
  refine CT.of rfl (Nat.le_of_ble_eq_true rfl) (fun X hX hR hN _ => ?_)
  have hX : Good X RX11 cX11_moved (d + 1) 0 0 := hX
  have hN : x_nl X = 6 := hN
  show WP X 0 0 0 [_, _, _, _, _, _] [] _
  have lo : ∀ (m y : Nat) (u : Int32) (z : Option Value), y + m = 5 → R0 = mvR s dx dy (5 * m) (5 * y) u → WP X 0 0 5 [some (.int s), some (.int (nI dx)), some (.int (nI dy)), some (.int u), some (.int (nI y)), z] [] (S sw f g) := by
    intro m
    induction m with
    | zero =>
      intro y u z hy e
      obtain rfl : y = 5 := by omega
      refine wp_iload hX (dk DX11_moved 4 rfl) rfl ?_
      refine wp_iconst (v := 5) hX (dk DX11_moved 5 rfl) (by decide) ?_
      refine wp_icmp_ge (tgt := 83) hX (dk DX11_moved 6 rfl) (by decide) (fun _ => ?_) (fun h_ => absurd (by decide) h_)
      refine wp_iload_n hX (dk DX11_moved 51 rfl) rfl ?_
      exact wp_ireturn hX hR (dk DX11_moved 52 rfl) rfl (Nat.le_refl _) (Nat.le_refl _) (⟨by rw [e]; rfl, rfl⟩)
    | succ m ih =>
      intro y u z hy5 e
      have li : ∀ (q x : Nat) (u : Int32), x + q = 5 → R0 = mvR s dx dy (5 * m + q) (5 * y + x) u → WP X 0 0 14 [some (.int s), some (.int (nI dx)), some (.int (nI dy)), some (.int u), some (.int (nI y)), some (.int (nI x))] [] (S sw f g) := by
        intro q
        induction q with
        | zero =>
          intro x u hx5 e
          obtain rfl : x = 5 := by omega
          refine wp_iload hX (dk DX11_moved 9 rfl) rfl ?_
          refine wp_iconst (v := 5) hX (dk DX11_moved 10 rfl) (by decide) ?_
          refine wp_icmp_ge (tgt := 77) hX (dk DX11_moved 11 rfl) (by decide) (fun _ => ?_) (fun h_ => absurd (by decide) h_)
          refine wp_iinc hX (dk DX11_moved 49 rfl) rfl (nI_inc _) rfl hN ?_
          show WP _ _ _ 80 [_, _, _, _, _, _] [] _
          refine wp_goto (tgt := 5) hX (dk DX11_moved 50 rfl) (by decide) ?_
          exact ih (y + 1) _ _ (by omega) (by rw [e, show 5 * (y + 1) = 5 * y + 5 by omega, Nat.add_zero])
        | succ q ihq =>
          intro x u hx5 e
          rw [show 5 * m + (q + 1) = (5 * m + q) + 1 by omega, mvR, show (5 * y + x) % 5 = x by omega, show (5 * y + x) / 5 = y by omega] at e
          have e1 : (5 : Int32) * nI y + nI x = nI (5 * y + x) := by rw [show (5 : Int32) = nI 5 from rfl, pk_mul, nI_add]
          have e2 : (5 : Int32) * (nI y + nI dy) + nI x + nI dx = nI (5 * (y + dy) + (x + dx)) := by rw [show (5 : Int32) = nI 5 from rfl, nI_add, pk_mul, nI_add, nI_add, Nat.add_assoc]
          have q1 := nI_ltI (a := 4) (b := x + dx) (by omega) (by omega)
          have q2 := nI_ltI (a := 4) (b := y + dy) (by omega) (by omega)
          refine wp_iload hX (dk DX11_moved 9 rfl) rfl ?_
          refine wp_iconst (v := 5) hX (dk DX11_moved 10 rfl) (by decide) ?_
          refine wp_icmp_ge (tgt := 77) hX (dk DX11_moved 11 rfl) (by decide) (fun h_ => absurd h_ (nI_ge (b := 5) (by omega) (by omega))) (fun _ => ?_)
          refine wp_iload_n hX (dk DX11_moved 12 rfl) rfl ?_
          refine wp_iconst (v := 5) hX (dk DX11_moved 13 rfl) (by decide) ?_
          refine wp_iload hX (dk DX11_moved 14 rfl) rfl ?_
          refine wp_imul hX (dk DX11_moved 15 rfl) ?_
          refine wp_iload hX (dk DX11_moved 16 rfl) rfl ?_
          refine wp_iadd hX (dk DX11_moved 17 rfl) ?_
          rw [e1]
          refine w_callS (As := [_, _]) lkX11_138 hX (dk DX11_moved 18 rfl) rfl (by decide) (k_mhas d s _ _) ?_
          show WP _ _ _ 31 [_, _, _, _, _, _] [_] _
          refine wp_if_ne (tgt := 37) hX (dk DX11_moved 19 rfl) (by decide) (fun h31 => ?_) (fun h31 => ?_)
          · refine wp_iload hX (dk DX11_moved 21 rfl) rfl ?_
            refine wp_iload_n hX (dk DX11_moved 22 rfl) rfl ?_
            refine wp_iadd hX (dk DX11_moved 23 rfl) ?_
            refine wp_iconst (v := 4) hX (dk DX11_moved 24 rfl) (by decide) ?_
            rw [nI_add]
            refine wp_icmp_gt (tgt := 53) hX (dk DX11_moved 25 rfl) (by decide) (fun h42 => ?_) (fun h42 => ?_)
            · refine wp_iconst (v := 0) hX (dk DX11_moved 31 rfl) (by decide) ?_
              exact wp_ireturn hX hR (dk DX11_moved 32 rfl) rfl (Nat.le_refl _) (Nat.le_refl _) (⟨by first | rw [e, if_neg h31, if_pos (Or.inl (q1.mp h42))] | rw [e, if_neg h31, if_pos (Or.inr (q2.mp (Int32.not_le.mp h50)))], rfl⟩)
            · refine wp_iload hX (dk DX11_moved 26 rfl) rfl ?_
              refine wp_iload_n hX (dk DX11_moved 27 rfl) rfl ?_
              refine wp_iadd hX (dk DX11_moved 28 rfl) ?_
              refine wp_iconst (v := 4) hX (dk DX11_moved 29 rfl) (by decide) ?_
              rw [nI_add]
              refine wp_icmp_le (tgt := 55) hX (dk DX11_moved 30 rfl) (by decide) (fun h50 => ?_) (fun h50 => ?_)
              · refine wp_iload_n hX (dk DX11_moved 33 rfl) rfl ?_
                refine wp_iconst (v := 1) hX (dk DX11_moved 34 rfl) (by decide) ?_
                refine wp_iconst (v := 5) hX (dk DX11_moved 35 rfl) (by decide) ?_
                refine wp_iload hX (dk DX11_moved 36 rfl) rfl ?_
                refine wp_iload_n hX (dk DX11_moved 37 rfl) rfl ?_
                refine wp_iadd hX (dk DX11_moved 38 rfl) ?_
                refine wp_imul hX (dk DX11_moved 39 rfl) ?_
                refine wp_iload hX (dk DX11_moved 40 rfl) rfl ?_
                refine wp_iadd hX (dk DX11_moved 41 rfl) ?_
                refine wp_iload_n hX (dk DX11_moved 42 rfl) rfl ?_
                refine wp_iadd hX (dk DX11_moved 43 rfl) ?_
                rw [e2]
                refine wp_ishl hX (dk DX11_moved 44 rfl) ?_
                refine wp_ior hX (dk DX11_moved 45 rfl) ?_
                refine wp_istore_n hX (dk DX11_moved 46 rfl) rfl rfl hN (Nat.le_of_ble_eq_true rfl) ?_
                show WP _ _ _ 71 [_, _, _, _, _, _] [] _
                refine wp_iinc hX (dk DX11_moved 47 rfl) rfl (nI_inc _) rfl hN ?_
                show WP _ _ _ 74 [_, _, _, _, _, _] [] _
                refine wp_goto (tgt := 14) hX (dk DX11_moved 48 rfl) (by decide) ?_
                first | (rw [if_pos h31] at e; exact ihq (x + 1) _ (by omega) e) | (rw [if_neg h31, if_neg (fun q => q.elim (fun q => h42 (q1.mpr q)) (fun q => Int32.not_le.mpr (q2.mpr q) h50))] at e; exact ihq (x + 1) _ (by omega) e)
              · refine wp_iconst (v := 0) hX (dk DX11_moved 31 rfl) (by decide) ?_
                exact wp_ireturn hX hR (dk DX11_moved 32 rfl) rfl (Nat.le_refl _) (Nat.le_refl _) (⟨by first | rw [e, if_neg h31, if_pos (Or.inl (q1.mp h42))] | rw [e, if_neg h31, if_pos (Or.inr (q2.mp (Int32.not_le.mp h50)))], rfl⟩)
          · refine wp_goto (tgt := 71) hX (dk DX11_moved 20 rfl) (by decide) ?_
            refine wp_iinc hX (dk DX11_moved 47 rfl) rfl (nI_inc _) rfl hN ?_
            show WP _ _ _ 74 [_, _, _, _, _, _] [] _
            refine wp_goto (tgt := 14) hX (dk DX11_moved 48 rfl) (by decide) ?_
            first | (rw [if_pos h31] at e; exact ihq (x + 1) _ (by omega) e) | (rw [if_neg h31, if_neg (fun q => q.elim (fun q => h42 (q1.mpr q)) (fun q => Int32.not_le.mpr (q2.mpr q) h50))] at e; exact ihq (x + 1) _ (by omega) e)
      refine wp_iload hX (dk DX11_moved 4 rfl) rfl ?_
      refine wp_iconst (v := 5) hX (dk DX11_moved 5 rfl) (by decide) ?_
      refine wp_icmp_ge (tgt := 83) hX (dk DX11_moved 6 rfl) (by decide) (fun h_ => absurd h_ (nI_ge (b := 5) (by omega) (by omega))) (fun _ => ?_)
      refine wp_iconst (v := 0) hX (dk DX11_moved 7 rfl) (by decide) ?_
      refine wp_istore hX (dk DX11_moved 8 rfl) rfl hN (Nat.le_of_ble_eq_true rfl) ?_
      show WP _ _ _ 14 [_, _, _, _, _, _] [] _
      exact li 5 0 u (by omega) (by rw [e]; rfl)
  refine wp_iconst (v := 0) hX (dk DX11_moved 0 rfl) (by decide) ?_
  refine wp_istore_n hX (dk DX11_moved 1 rfl) rfl rfl hN (Nat.le_of_ble_eq_true rfl) ?_
  show WP _ _ _ 2 [_, _, _, _, _, _] [] _
  refine wp_iconst (v := 0) hX (dk DX11_moved 2 rfl) (by decide) ?_
  refine wp_istore hX (dk DX11_moved 3 rfl) rfl hN (Nat.le_of_ble_eq_true rfl) ?_
  show WP _ _ _ 5 [_, _, _, _, _, _] [] _
  exact lo 5 0 0 none (by omega) hR0
theorem k_placed (d : Nat) (sw : Bool) (f : Nat → Nat → Int32) (g : Nat → Nat → Int64) (s : Int32) (w : Nat) (h : Sq s) (hn : Ne s) (hw : w < 1000) : CT (d + 3) 0 0 iX11_placed [.int s, .int (nI w)] (S sw f g) (QR (some (.int (jmv (jturn s (w / 100)) (w % 10) (w / 10 % 10)))) (S sw f g)) := by
  refine CT.of rfl (Nat.le_of_ble_eq_true rfl) (fun X hX hR hN _ => ?_)
  have hX : Good X RX11 cX11_placed (d + 3) 0 0 := hX
  have hN : x_nl X = 2 := hN
  show WP X 0 0 0 [_, _] [] _
  refine wp_iload_n hX (dk DX11_placed 0 rfl) rfl ?_
  refine wp_iload_n hX (dk DX11_placed 1 rfl) rfl ?_
  refine wp_bipush (v := 100) hX (dk DX11_placed 2 rfl) (by decide) ?_
  refine wp_idiv hX (dk DX11_placed 3 rfl) (by decide) ?_
  rw [show nI w / 100 = nI (w / 100) by rw [show (100 : Int32) = nI 100 from rfl, pk_div (by omega) (by decide) (by decide)]]
  refine w_callS (As := [_, _]) lkX11_148 hX (dk DX11_placed 4 rfl) rfl (by decide) (k_turnedBy d sw f g s _ h hn (by omega)) ?_
  show WP _ _ _ 8 [_, _] [_] _
  refine wp_iload_n hX (dk DX11_placed 5 rfl) rfl ?_
  refine wp_bipush (v := 10) hX (dk DX11_placed 6 rfl) (by decide) ?_
  refine wp_irem hX (dk DX11_placed 7 rfl) (by decide) ?_
  rw [show nI w - nI w / 10 * 10 = nI (w % 10) from pk_rem (by omega) (by decide) (by decide)]
  refine wp_iload_n hX (dk DX11_placed 8 rfl) rfl ?_
  refine wp_bipush (v := 10) hX (dk DX11_placed 9 rfl) (by decide) ?_
  refine wp_idiv hX (dk DX11_placed 10 rfl) (by decide) ?_
  refine wp_bipush (v := 10) hX (dk DX11_placed 11 rfl) (by decide) ?_
  refine wp_irem hX (dk DX11_placed 12 rfl) (by decide) ?_
  rw [show nI w / 10 = nI (w / 10) from pk_div (by omega) (by decide) (by decide), show nI (w / 10) - nI (w / 10) / 10 * 10 = nI (w / 10 % 10) from pk_rem (by omega) (by decide) (by decide)]
  refine w_callS (As := [_, _, _]) lkX11_152 hX (dk DX11_placed 13 rfl) rfl (by decide) (k_moved (d + 1) sw f g _ _ _ (by omega) (by omega)) ?_
  show WP _ _ _ 22 [_, _] [_] _
  exact wp_ireturn hX hR (dk DX11_placed 14 rfl) rfl (Nat.le_refl _) (Nat.le_refl _) (⟨rfl, rfl⟩)
theorem k_isWay (d : Nat) (w : Nat) (hw : w < 1000) (M : mM) : CT d 0 0 iX11_isWay [.int (nI w)] M (QR (some (.int (if w % 10 < 5 ∧ w / 10 % 10 < 5 then 1 else 0))) M) := by
  have q1 := nI_leI (a := 5) (b := w % 10) (by omega) (by omega)
  have q2 := nI_leI (a := 5) (b := w / 10 % 10) (by omega) (by omega)
  refine CT.of rfl (Nat.le_of_ble_eq_true rfl) (fun X hX hR hN _ => ?_)
  have hX : Good X RX11 cX11_isWay d 0 0 := hX
  have hN : x_nl X = 1 := hN
  show WP X 0 0 0 [_] [] _
  refine wp_iload_n hX (dk DX11_isWay 0 rfl) rfl ?_
  refine wp_bipush (v := 10) hX (dk DX11_isWay 1 rfl) (by decide) ?_
  refine wp_irem hX (dk DX11_isWay 2 rfl) (by decide) ?_
  refine wp_iconst (v := 5) hX (dk DX11_isWay 3 rfl) (by decide) ?_
  rw [show nI w - nI w / 10 * 10 = nI (w % 10) from pk_rem (by omega) (by decide) (by decide)]
  refine wp_icmp_ge (tgt := 23) hX (dk DX11_isWay 4 rfl) (by decide) (fun h5 => ?_) (fun h5 => ?_)
  · refine wp_iconst (v := 0) hX (dk DX11_isWay 14 rfl) (by decide) ?_
    exact wp_ireturn hX hR (dk DX11_isWay 15 rfl) rfl (Nat.le_refl _) (Nat.le_refl _) (⟨by simp only [show (5 : Int32) = nI 5 from rfl, q1, q2] at h5; simp; omega, rfl⟩)
  · refine wp_iload_n hX (dk DX11_isWay 5 rfl) rfl ?_
    refine wp_bipush (v := 10) hX (dk DX11_isWay 6 rfl) (by decide) ?_
    refine wp_idiv hX (dk DX11_isWay 7 rfl) (by decide) ?_
    refine wp_bipush (v := 10) hX (dk DX11_isWay 8 rfl) (by decide) ?_
    refine wp_irem hX (dk DX11_isWay 9 rfl) (by decide) ?_
    refine wp_iconst (v := 5) hX (dk DX11_isWay 10 rfl) (by decide) ?_
    rw [show nI w / 10 = nI (w / 10) from pk_div (by omega) (by decide) (by decide), show nI (w / 10) - nI (w / 10) / 10 * 10 = nI (w / 10 % 10) from pk_rem (by omega) (by decide) (by decide)]
    refine wp_icmp_ge (tgt := 23) hX (dk DX11_isWay 11 rfl) (by decide) (fun h16 => ?_) (fun h16 => ?_)
    · refine wp_iconst (v := 0) hX (dk DX11_isWay 14 rfl) (by decide) ?_
      exact wp_ireturn hX hR (dk DX11_isWay 15 rfl) rfl (Nat.le_refl _) (Nat.le_refl _) (⟨by simp only [show (5 : Int32) = nI 5 from rfl, q1, q2] at h5 h16; simp; omega, rfl⟩)
    · refine wp_iconst (v := 1) hX (dk DX11_isWay 12 rfl) (by decide) ?_
      refine wp_goto (tgt := 24) hX (dk DX11_isWay 13 rfl) (by decide) ?_
      exact wp_ireturn hX hR (dk DX11_isWay 15 rfl) rfl (Nat.le_refl _) (Nat.le_refl _) (⟨by simp only [show (5 : Int32) = nI 5 from rfl, q1, q2] at h5 h16; simp; omega, rfl⟩)
theorem k_waysIn (d : Nat) (sw : Bool) (f : Nat → Nat → Int32) (g : Nat → Nat → Int64) (s x w : Int32) (h : Sq s) (hn : Ne s) : CT (d + 3) 0 0 iX11_waysIn [.int s, .int x, .int w] (S sw f g) (QR (some (.int (wyR s x w 100 0 0))) (S sw f g)) := by
  obtain ⟨R0, hR0⟩ : ∃ R0, R0 = wyR s x w 100 0 0 := ⟨_, rfl⟩
  rw [← hR0]
  refine CT.of rfl (Nat.le_of_ble_eq_true rfl) (fun X hX hR hN _ => ?_)
  have hX : Good X RX11 cX11_waysIn (d + 3) 0 0 := hX
  have hN : x_nl X = 9 := hN
  show WP X 0 0 0 [_, _, _, _, _, _, _, _, _] [] _
  have lo : ∀ (m t : Nat) (k : Int32) (z1 z2 z3 z4 : Option Value), t + m = 4 → R0 = wyR s x w (25 * m) (25 * t) k → WP X 0 0 5 [some (.int s), some (.int x), some (.int w), some (.int k), some (.int (nI t)), z1, z2, z3, z4] [] (S sw f g) := by
    intro m
    induction m with
    | zero =>
      intro t k z1 z2 z3 z4 ht e
      obtain rfl : t = 4 := by omega
      rw [wyR] at e
      refine wp_iload hX (dk DX11_waysIn 4 rfl) rfl ?_
      refine wp_iconst (v := 4) hX (dk DX11_waysIn 5 rfl) (by decide) ?_
      refine wp_icmp_ge (tgt := 106) hX (dk DX11_waysIn 6 rfl) (by decide) (fun _ => ?_) (fun h_ => absurd (by decide) h_)
      refine wp_iload_n hX (dk DX11_waysIn 55 rfl) rfl ?_
      refine wp_iconst (v := 1) hX (dk DX11_waysIn 56 rfl) (by decide) ?_
      refine wp_icmp_ne (tgt := 116) hX (dk DX11_waysIn 57 rfl) (by decide) (fun hw => ?_) (fun hw => ?_)
      · refine wp_iload_n hX (dk DX11_waysIn_1 0 rfl) rfl ?_
        exact wp_ireturn hX hR (dk DX11_waysIn_1 1 rfl) rfl (Nat.le_refl _) (Nat.le_refl _) (⟨by rw [e]; first | rw [if_pos hw] | rw [if_neg hw], rfl⟩)
      · refine wp_bipush (v := -2) hX (dk DX11_waysIn 58 rfl) (by decide) ?_
        refine wp_goto (tgt := 117) hX (dk DX11_waysIn 59 rfl) (by decide) ?_
        exact wp_ireturn hX hR (dk DX11_waysIn_1 1 rfl) rfl (Nat.le_refl _) (Nat.le_refl _) (⟨by rw [e]; first | rw [if_pos hw] | rw [if_neg hw], rfl⟩)
    | succ m ih =>
      intro t k z1 z2 z3 z4 ht e
      have ly : ∀ (q dy : Nat) (k : Int32) (z3 z4 : Option Value), dy + q = 5 → R0 = wyR s x w (25 * m + 5 * q) (25 * t + 5 * dy) k → WP X 0 0 22 [some (.int s), some (.int x), some (.int w), some (.int k), some (.int (nI t)), some (.int (jturn s t)), some (.int (nI dy)), z3, z4] [] (S sw f g) := by
        intro q
        induction q with
        | zero =>
          intro dy k z3 z4 hdy e
          obtain rfl : dy = 5 := by omega
          refine wp_iload hX (dk DX11_waysIn 13 rfl) rfl ?_
          refine wp_iconst (v := 5) hX (dk DX11_waysIn 14 rfl) (by decide) ?_
          refine wp_icmp_ge (tgt := 100) hX (dk DX11_waysIn 15 rfl) (by decide) (fun _ => ?_) (fun h_ => absurd (by decide) h_)
          refine wp_iinc hX (dk DX11_waysIn 53 rfl) rfl (nI_inc _) rfl hN ?_
          show WP _ _ _ 103 [_, _, _, _, _, _, _, _, _] [] _
          refine wp_goto (tgt := 5) hX (dk DX11_waysIn 54 rfl) (by decide) ?_
          exact ih (t + 1) _ _ _ _ _ (by omega) (by rw [e, show 25 * (t + 1) = 25 * t + 5 * 5 by omega, Nat.mul_zero, Nat.add_zero])
        | succ q ihq =>
          intro dy k z3 z4 hdy e
          have lx : ∀ (p dx : Nat) (k : Int32) (z4 : Option Value), dx + p = 5 → R0 = wyR s x w (25 * m + 5 * q + p) (25 * t + 5 * dy + dx) k → WP X 0 0 31 [some (.int s), some (.int x), some (.int w), some (.int k), some (.int (nI t)), some (.int (jturn s t)), some (.int (nI dy)), some (.int (nI dx)), z4] [] (S sw f g) := by
            intro p
            induction p with
            | zero =>
              intro dx k z4 hdx e
              obtain rfl : dx = 5 := by omega
              refine wp_iload hX (dk DX11_waysIn 18 rfl) rfl ?_
              refine wp_iconst (v := 5) hX (dk DX11_waysIn 19 rfl) (by decide) ?_
              refine wp_icmp_ge (tgt := 94) hX (dk DX11_waysIn 20 rfl) (by decide) (fun _ => ?_) (fun h_ => absurd (by decide) h_)
              refine wp_iinc hX (dk DX11_waysIn 51 rfl) rfl (nI_inc _) rfl hN ?_
              show WP _ _ _ 97 [_, _, _, _, _, _, _, _, _] [] _
              refine wp_goto (tgt := 22) hX (dk DX11_waysIn 52 rfl) (by decide) ?_
              exact ihq (dy + 1) _ _ _ (by omega) (by rw [e, Nat.add_zero, show 25 * t + 5 * (dy + 1) = 25 * t + 5 * dy + 5 by omega])
            | succ p ihp =>
              intro dx k z4 hdx e
              rw [show 25 * m + 5 * q + (p + 1) = (25 * m + 5 * q + p) + 1 by omega, wyR, show (25 * t + 5 * dy + dx) / 25 = t by omega, show (25 * t + 5 * dy + dx) % 5 = dx by omega, show (25 * t + 5 * dy + dx) / 5 % 5 = dy by omega] at e
              refine wp_iload hX (dk DX11_waysIn 18 rfl) rfl ?_
              refine wp_iconst (v := 5) hX (dk DX11_waysIn 19 rfl) (by decide) ?_
              refine wp_icmp_ge (tgt := 94) hX (dk DX11_waysIn 20 rfl) (by decide) (fun h_ => absurd h_ ((nI_ge (b := 5) (by omega) (by omega)))) (fun _ => ?_)
              refine wp_iload hX (dk DX11_waysIn 21 rfl) rfl ?_
              refine wp_iload hX (dk DX11_waysIn 22 rfl) rfl ?_
              refine wp_iload hX (dk DX11_waysIn 23 rfl) rfl ?_
              refine w_callS (As := [_, _, _]) lkX11_152 hX (dk DX11_waysIn 24 rfl) rfl (by decide) (k_moved (d + 1) sw f g _ dx dy (by omega) (by omega)) ?_
              show WP _ _ _ 46 [_, _, _, _, _, _, _, _, _] [_] _
              refine wp_istore hX (dk DX11_waysIn 25 rfl) rfl hN (Nat.le_of_ble_eq_true rfl) ?_
              show WP _ _ _ 48 [_, _, _, _, _, _, _, _, _] [] _
              refine wp_iload hX (dk DX11_waysIn 26 rfl) rfl ?_
              by_cases c1 : jmv (jturn s t) dx dy = 0
              · rw [if_pos (Or.inl c1)] at e
                refine wp_if_eq (tgt := 88) hX (dk DX11_waysIn 27 rfl) (by decide) (fun _ => ?_) (fun h_ => absurd (c1) h_)
                refine wp_iinc hX (dk DX11_waysIn 49 rfl) rfl (nI_inc _) rfl hN ?_
                show WP _ _ _ 91 [_, _, _, _, _, _, _, _, _] [] _
                refine wp_goto (tgt := 31) hX (dk DX11_waysIn 50 rfl) (by decide) ?_
                exact ihp (dx + 1) _ _ (by omega) e
              · by_cases c2 : jmv (jturn s t) dx dy &&& (x ^^^ (-1)) = 0
                · rw [if_neg (fun q => q.elim c1 (fun q => q c2))] at e
                  refine wp_if_eq (tgt := 88) hX (dk DX11_waysIn 27 rfl) (by decide) (fun h_ => absurd h_ (c1)) (fun _ => ?_)
                  refine wp_iload hX (dk DX11_waysIn 28 rfl) rfl ?_
                  refine wp_iload_n hX (dk DX11_waysIn 29 rfl) rfl ?_
                  refine wp_iconst (v := -1) hX (dk DX11_waysIn 30 rfl) (by decide) ?_
                  refine wp_ixor hX (dk DX11_waysIn 31 rfl) ?_
                  refine wp_iand hX (dk DX11_waysIn 32 rfl) ?_
                  refine wp_if_eq (tgt := 65) hX (dk DX11_waysIn 33 rfl) (by decide) (fun _ => ?_) (fun h_ => absurd (c2) h_)
                  refine wp_iload_n hX (dk DX11_waysIn 35 rfl) rfl ?_
                  refine wp_iconst (v := 1) hX (dk DX11_waysIn 36 rfl) (by decide) ?_
                  by_cases c3 : w = 1
                  · rw [if_pos c3] at e
                    refine wp_icmp_ne (tgt := 85) hX (dk DX11_waysIn 37 rfl) (by decide) (fun h_ => absurd (c3) h_) (fun _ => ?_)
                    refine wp_bipush (v := 100) hX (dk DX11_waysIn 38 rfl) (by decide) ?_
                    refine wp_iload hX (dk DX11_waysIn 39 rfl) rfl ?_
                    refine wp_imul hX (dk DX11_waysIn 40 rfl) ?_
                    refine wp_bipush (v := 10) hX (dk DX11_waysIn 41 rfl) (by decide) ?_
                    refine wp_iload hX (dk DX11_waysIn 42 rfl) rfl ?_
                    refine wp_imul hX (dk DX11_waysIn 43 rfl) ?_
                    refine wp_iadd hX (dk DX11_waysIn 44 rfl) ?_
                    refine wp_iload hX (dk DX11_waysIn 45 rfl) rfl ?_
                    refine wp_iadd hX (dk DX11_waysIn 46 rfl) ?_
                    exact wp_ireturn hX hR (dk DX11_waysIn 47 rfl) rfl (Nat.le_refl _) (Nat.le_refl _) (⟨by rw [e]; rfl, rfl⟩)
                  · rw [if_neg c3] at e
                    refine wp_icmp_ne (tgt := 85) hX (dk DX11_waysIn 37 rfl) (by decide) (fun _ => ?_) (fun h_ => absurd h_ (c3))
                    refine wp_iinc hX (dk DX11_waysIn 48 rfl) rfl (i_inc _) rfl hN ?_
                    show WP _ _ _ 88 [_, _, _, _, _, _, _, _, _] [] _
                    refine wp_iinc hX (dk DX11_waysIn 49 rfl) rfl (nI_inc _) rfl hN ?_
                    show WP _ _ _ 91 [_, _, _, _, _, _, _, _, _] [] _
                    refine wp_goto (tgt := 31) hX (dk DX11_waysIn 50 rfl) (by decide) ?_
                    exact ihp (dx + 1) _ _ (by omega) e
                · rw [if_pos (Or.inr c2)] at e
                  refine wp_if_eq (tgt := 88) hX (dk DX11_waysIn 27 rfl) (by decide) (fun h_ => absurd h_ (c1)) (fun _ => ?_)
                  refine wp_iload hX (dk DX11_waysIn 28 rfl) rfl ?_
                  refine wp_iload_n hX (dk DX11_waysIn 29 rfl) rfl ?_
                  refine wp_iconst (v := -1) hX (dk DX11_waysIn 30 rfl) (by decide) ?_
                  refine wp_ixor hX (dk DX11_waysIn 31 rfl) ?_
                  refine wp_iand hX (dk DX11_waysIn 32 rfl) ?_
                  refine wp_if_eq (tgt := 65) hX (dk DX11_waysIn 33 rfl) (by decide) (fun h_ => absurd h_ (c2)) (fun _ => ?_)
                  refine wp_goto (tgt := 88) hX (dk DX11_waysIn 34 rfl) (by decide) ?_
                  refine wp_iinc hX (dk DX11_waysIn 49 rfl) rfl (nI_inc _) rfl hN ?_
                  show WP _ _ _ 91 [_, _, _, _, _, _, _, _, _] [] _
                  refine wp_goto (tgt := 31) hX (dk DX11_waysIn 50 rfl) (by decide) ?_
                  exact ihp (dx + 1) _ _ (by omega) e
          refine wp_iload hX (dk DX11_waysIn 13 rfl) rfl ?_
          refine wp_iconst (v := 5) hX (dk DX11_waysIn 14 rfl) (by decide) ?_
          refine wp_icmp_ge (tgt := 100) hX (dk DX11_waysIn 15 rfl) (by decide) (fun h_ => absurd h_ (nI_ge (b := 5) (by omega) (by omega))) (fun _ => ?_)
          refine wp_iconst (v := 0) hX (dk DX11_waysIn 16 rfl) (by decide) ?_
          refine wp_istore hX (dk DX11_waysIn 17 rfl) rfl hN (Nat.le_of_ble_eq_true rfl) ?_
          show WP _ _ _ 31 [_, _, _, _, _, _, _, _, _] [] _
          exact lx 5 0 _ _ (by omega) (by rw [e, show 25 * m + 5 * (q + 1) = 25 * m + 5 * q + 5 by omega]; rfl)
      refine wp_iload hX (dk DX11_waysIn 4 rfl) rfl ?_
      refine wp_iconst (v := 4) hX (dk DX11_waysIn 5 rfl) (by decide) ?_
      refine wp_icmp_ge (tgt := 106) hX (dk DX11_waysIn 6 rfl) (by decide) (fun h_ => absurd h_ (nI_ge (b := 4) (by omega) (by omega))) (fun _ => ?_)
      refine wp_iload_n hX (dk DX11_waysIn 7 rfl) rfl ?_
      refine wp_iload hX (dk DX11_waysIn 8 rfl) rfl ?_
      refine w_callS (As := [_, _]) lkX11_148 hX (dk DX11_waysIn 9 rfl) rfl (by decide) (k_turnedBy (d) sw f g s t h hn (by omega)) ?_
      show WP _ _ _ 17 [_, _, _, _, _, _, _, _, _] [_] _
      refine wp_istore hX (dk DX11_waysIn 10 rfl) rfl hN (Nat.le_of_ble_eq_true rfl) ?_
      show WP _ _ _ 19 [_, _, _, _, _, _, _, _, _] [] _
      refine wp_iconst (v := 0) hX (dk DX11_waysIn 11 rfl) (by decide) ?_
      refine wp_istore hX (dk DX11_waysIn 12 rfl) rfl hN (Nat.le_of_ble_eq_true rfl) ?_
      show WP _ _ _ 22 [_, _, _, _, _, _, _, _, _] [] _
      exact ly 5 0 _ _ _ (by omega) (by rw [e]; rfl)
  refine wp_iconst (v := 0) hX (dk DX11_waysIn 0 rfl) (by decide) ?_
  refine wp_istore_n hX (dk DX11_waysIn 1 rfl) rfl rfl hN (Nat.le_of_ble_eq_true rfl) ?_
  show WP _ _ _ 2 [_, _, _, _, _, _, _, _, _] [] _
  refine wp_iconst (v := 0) hX (dk DX11_waysIn 2 rfl) (by decide) ?_
  refine wp_istore hX (dk DX11_waysIn 3 rfl) rfl hN (Nat.le_of_ble_eq_true rfl) ?_
  show WP _ _ _ 5 [_, _, _, _, _, _, _, _, _] [] _
  exact lo 4 0 0 none none none none (by omega) hR0
theorem jW_nI {s : Int32} {j : Nat} (hj : j < jn s) : ∃ q, q < 1000 ∧ jW s j = nI q := by
  have hj' : j < (jpl s 4).length := hj
  have hm : (jpl s 4).getD j (0, 0) ∈ jpl s 4 := by
    rw [show (jpl s 4).getD j (0, 0) = (jpl s 4)[j] by simp [hj']]
    exact List.getElem_mem hj'
  obtain ⟨t, ht, h2⟩ := List.mem_flatMap.mp hm
  obtain ⟨dy, hdy, h3⟩ := List.mem_flatMap.mp h2
  obtain ⟨dx, hdx, h4⟩ := List.mem_map.mp h3
  have t1 := List.mem_range.mp ht
  have t2 := List.mem_range.mp hdy
  have t3 := List.mem_range.mp hdx
  have d1 := jdn_le (jturn s t)
  have d2 := jr_le (jturn s t)
  refine ⟨100 * t + 10 * dy + dx, by omega, ?_⟩
  unfold jW
  rw [← h4]
  show (100 : Int32) * nI t + 10 * nI dy + nI dx = _
  rw [show (100 : Int32) = nI 100 from rfl, show (10 : Int32) = nI 10 from rfl, pk_mul, pk_mul, nI_add, nI_add]
theorem jwy_no {s x : Int32} : jwy s x 1 = -2 ↔ jfp s x = -2 := by
  unfold jwy
  rw [if_neg (by decide), if_pos rfl]
  constructor
  · intro q
    rcases jfp_in s x with e | ⟨j, hj, e⟩
    · exact e
    · rw [e, if_neg (rE_ne j (by have := jn_le s; omega)), nI_clamp (by have := jn_le s; omega)] at q
      obtain ⟨v, hv, e2⟩ := jW_nI hj
      rw [e2] at q
      exact absurd q (rE_ne v (by omega))
  · intro q
    rw [if_pos q]
theorem k_mcut (d : Nat) (sw : Bool) (f : Nat → Nat → Int32) (g : Nat → Nat → Int64) (s x : Int32) (h : shp s) : CT (d + 4) 0 0 iX11_isCutOf [.int s, .int x] (S sw f g) (QR (some (.int (jct s x))) (S sw f g)) := by
  obtain ⟨hs, hn⟩ := shp_Sq h
  refine CT.of rfl (Nat.le_of_ble_eq_true rfl) (fun X hX hR hN _ => ?_)
  have hX : Good X RX11 cX11_isCutOf (d + 4) 0 0 := hX
  have hN : x_nl X = 2 := hN
  show WP X 0 0 0 [_, _] [] _
  refine wp_iload_n hX (dk DX11_isCutOf 0 rfl) rfl ?_
  refine w_callS (As := [_]) lkX11_156 hX (dk DX11_isCutOf 1 rfl) rfl (by decide) (k_mcells (d + 2) sw f g s) ?_
  show WP _ _ _ 4 [_, _] [_] _
  refine wp_iload_n hX (dk DX11_isCutOf 2 rfl) rfl ?_
  refine w_callS (As := [_]) lkX11_156 hX (dk DX11_isCutOf 3 rfl) rfl (by simp [Value.category]) (k_mcells (d + 2) sw f g x) ?_
  show WP _ _ _ 8 [_, _] [_, _] _
  refine wp_icmp_ge (tgt := 26) hX (dk DX11_isCutOf 4 rfl) (by decide) (fun h8 => ?_) (fun h8 => ?_)
  · refine wp_iconst (v := 0) hX (dk DX11_isCutOf 13 rfl) (by decide) ?_
    exact wp_ireturn hX hR (dk DX11_isCutOf 14 rfl) rfl (Nat.le_refl _) (Nat.le_refl _) (⟨by unfold jct jcan; simp only [show jfirst (jP s) x (jn s) 0 = jfp s x from rfl, ← jwy_no, ← Int32.not_le]; simp [h8], rfl⟩)
  · refine wp_iload_n hX (dk DX11_isCutOf 5 rfl) rfl ?_
    refine wp_iload_n hX (dk DX11_isCutOf 6 rfl) rfl ?_
    refine wp_iconst (v := 1) hX (dk DX11_isCutOf 7 rfl) (by decide) ?_
    refine w_callS (As := [_, _, _]) lkX11_159 hX (dk DX11_isCutOf 8 rfl) rfl (by decide) (k_waysIn d sw f g s x 1 hs hn) ?_
    show WP _ _ _ 17 [_, _] [_] _
    rw [wyR_1 hs hn]
    refine wp_bipush (v := -2) hX (dk DX11_isCutOf 9 rfl) (by decide) ?_
    refine wp_icmp_eq (tgt := 26) hX (dk DX11_isCutOf 10 rfl) (by decide) (fun h19 => ?_) (fun h19 => ?_)
    · refine wp_iconst (v := 0) hX (dk DX11_isCutOf 13 rfl) (by decide) ?_
      exact wp_ireturn hX hR (dk DX11_isCutOf 14 rfl) rfl (Nat.le_refl _) (Nat.le_refl _) (⟨by unfold jct jcan; simp only [show jfirst (jP s) x (jn s) 0 = jfp s x from rfl, ← jwy_no, ← Int32.not_le]; simp [h8, h19], rfl⟩)
    · refine wp_iconst (v := 1) hX (dk DX11_isCutOf 11 rfl) (by decide) ?_
      refine wp_goto (tgt := 27) hX (dk DX11_isCutOf 12 rfl) (by decide) ?_
      exact wp_ireturn hX hR (dk DX11_isCutOf 14 rfl) rfl (Nat.le_refl _) (Nat.le_refl _) (⟨by unfold jct jcan; simp only [show jfirst (jP s) x (jn s) 0 = jfp s x from rfl, ← jwy_no, ← Int32.not_le]; simp [h8, h19], rfl⟩)
/-- the reference's figures -/
def mFg (f : Nat → Nat → Int32) (n : Nat) (sh : Nat → Int32) : Prop := f 81 0 = nI n ∧ n ≤ 10 ∧ ∀ i, i < n → f 82 i = sh i ∧ shp (sh i)
theorem k_cutOf (d : Nat) (sw : Bool) (f : Nat → Nat → Int32) (g : Nat → Nat → Int64) (n : Nat) (sh : Nat → Int32) (x : Int32) (h : mFg f n sh) : CT (d + 5) 0 0 iX11_cutOf [.ref 81, .int x] (S sw f g) (QR (some (.int (jfo sh n x))) (S sw f g)) := by
  obtain ⟨hn, hn10, hsh⟩ := h
  refine CT.of rfl (Nat.le_of_ble_eq_true rfl) (fun X hX hR hN _ => ?_)
  have hX : Good X RX11 cX11_cutOf (d + 5) 0 0 := hX
  have hN : x_nl X = 4 := hN
  show WP X 0 0 0 [_, _, _, _] [] _
  have lo : ∀ (m i : Nat), i + m = n → WP X 0 0 4 [some (.ref 81), some (.int x), some (.int (jfo sh i x)), some (.int (nI i))] [] (S sw f g) := by
    intro m
    induction m with
    | zero =>
      intro i hi
      obtain rfl : i = n := by omega
      refine wp_iload_n hX (dk DX11_cutOf 4 rfl) rfl ?_
      refine wp_aload_n hX (dk DX11_cutOf 5 rfl) rfl ?_
      refine w_geti hX flX11_112 (dk DX11_cutOf 6 rfl) (by decide) rfl ?_
      refine wp_icmp_ge (tgt := 37) hX (dk DX11_cutOf 7 rfl) (by decide) (fun _ => ?_) (fun h_ => absurd (by rw [hn]; exact nI_le (by omega) (by omega)) h_)
      refine wp_iload_n hX (dk DX11_cutOf 23 rfl) rfl ?_
      exact wp_ireturn hX hR (dk DX11_cutOf 24 rfl) rfl (Nat.le_refl _) (Nat.le_refl _) (⟨rfl, rfl⟩)
    | succ m ih =>
      intro i hi
      refine wp_iload_n hX (dk DX11_cutOf 4 rfl) rfl ?_
      refine wp_aload_n hX (dk DX11_cutOf 5 rfl) rfl ?_
      refine w_geti hX flX11_112 (dk DX11_cutOf 6 rfl) (by decide) rfl ?_
      refine wp_icmp_ge (tgt := 37) hX (dk DX11_cutOf 7 rfl) (by decide) (fun h_ => absurd h_ (by rw [hn]; exact nI_ge (by omega) (by omega))) (fun _ => ?_)
      refine wp_aload_n hX (dk DX11_cutOf 8 rfl) rfl ?_
      refine w_getr hX flX11_9 (dk DX11_cutOf 9 rfl) rfl rfl ?_
      refine wp_iload_n hX (dk DX11_cutOf 10 rfl) rfl ?_
      refine w_iald (j := _) hX (dk DX11_cutOf 11 rfl) rfl rfl (show _ < 10 by omega) ?_
      rw [(hsh i (by omega)).1]
      refine wp_iload_n hX (dk DX11_cutOf 12 rfl) rfl ?_
      refine w_callS (As := [_, _]) lkX11_162 hX (dk DX11_cutOf 13 rfl) rfl (by decide) (k_mcut d sw f g (sh i) x (hsh i (by omega)).2) ?_
      show WP _ _ _ 22 [_, _, _, _] [_] _
      refine wp_if_eq (tgt := 31) hX (dk DX11_cutOf 14 rfl) (by decide) (fun h22 => ?_) (fun h22 => ?_)
      · refine wp_iinc hX (dk DX11_cutOf 21 rfl) rfl (nI_inc _) rfl hN ?_
        show WP _ _ _ 34 [_, _, _, _] [] _
        refine wp_goto (tgt := 4) hX (dk DX11_cutOf 22 rfl) (by decide) ?_
        have := ih (i + 1) (by omega)
        unfold jfo at this
        rw [jbs] at this
        by_cases c : jct (sh i) x = 0
        · rw [if_pos c] at this; first | exact this | exact absurd c h22
        · rw [if_neg c] at this; first | exact this | exact absurd h22 c
      · refine wp_iload_n hX (dk DX11_cutOf 15 rfl) rfl ?_
        refine wp_iconst (v := 1) hX (dk DX11_cutOf 16 rfl) (by decide) ?_
        refine wp_iload_n hX (dk DX11_cutOf 17 rfl) rfl ?_
        refine wp_ishl hX (dk DX11_cutOf 18 rfl) ?_
        refine wp_ior hX (dk DX11_cutOf 19 rfl) ?_
        refine wp_istore_n hX (dk DX11_cutOf 20 rfl) rfl rfl hN (Nat.le_of_ble_eq_true rfl) ?_
        show WP _ _ _ 31 [_, _, _, _] [] _
        refine wp_iinc hX (dk DX11_cutOf 21 rfl) rfl (nI_inc _) rfl hN ?_
        show WP _ _ _ 34 [_, _, _, _] [] _
        refine wp_goto (tgt := 4) hX (dk DX11_cutOf 22 rfl) (by decide) ?_
        have := ih (i + 1) (by omega)
        unfold jfo at this
        rw [jbs] at this
        by_cases c : jct (sh i) x = 0
        · rw [if_pos c] at this; first | exact this | exact absurd c h22
        · rw [if_neg c] at this; first | exact this | exact absurd h22 c
  refine wp_iconst (v := 0) hX (dk DX11_cutOf 0 rfl) (by decide) ?_
  refine wp_istore_n hX (dk DX11_cutOf 1 rfl) rfl rfl hN (Nat.le_of_ble_eq_true rfl) ?_
  show WP _ _ _ 2 [_, _, _, _] [] _
  refine wp_iconst (v := 0) hX (dk DX11_cutOf 2 rfl) (by decide) ?_
  refine wp_istore_n hX (dk DX11_cutOf 3 rfl) rfl rfl hN (Nat.le_of_ble_eq_true rfl) ?_
  show WP _ _ _ 4 [_, _, _, _] [] _
  exact lo n 0 (by omega)
/-- the reference's row 'of': out of each, out of x -/
def ofO (f : Nat → Nat → Int32) (n : Nat) (sh : Nat → Int32) (x : Int32) : Prop := (∀ i, i < n → f 109 i = jfo sh n (sh i)) ∧ f 109 10 = jfo sh n x
theorem k_looks (d : Nat) (sw : Bool) (f : Nat → Nat → Int32) (g : Nat → Nat → Int64) (n : Nat) (sh : Nat → Int32) (x : Int32) (h : mFg f n sh) : CT (d + 6) 0 0 iX11_looks [.ref 81, .int x] (S sw f g) (QS (fun r sw2 f2 g2 => r = none ∧ sw2 = sw ∧ g2 = g ∧ (∀ b, b ≠ 109 → f2 b = f b) ∧ ofO f2 n sh x)) := by
  have hn10 := h.2.1
  have same : ∀ f2 : Nat → Nat → Int32, (∀ b, b ≠ 109 → f2 b = f b) → mFg f2 n sh := fun f2 hf => ⟨by rw [hf 81 (by decide)]; exact h.1, h.2.1, fun i hi => by rw [hf 82 (by decide)]; exact h.2.2 i hi⟩
  refine CT.of rfl (Nat.le_of_ble_eq_true rfl) (fun X hX hR hN _ => ?_)
  have hX : Good X RX11 cX11_looks (d + 6) 0 0 := hX
  have hN : x_nl X = 3 := hN
  show WP X 0 0 0 [_, _, _] [] _
  have lo : ∀ (m i : Nat) (f2 : Nat → Nat → Int32), i + m = n → (∀ b, b ≠ 109 → f2 b = f b) → (∀ j, j < i → f2 109 j = jfo sh n (sh j)) → WP X 0 0 2 [some (.ref 81), some (.int x), some (.int (nI i))] [] (S sw f2 g) := by
    intro m
    induction m with
    | zero =>
      intro i f2 hi hf ho
      obtain rfl : i = n := by omega
      have hm := same f2 hf
      refine wp_iload_n hX (dk DX11_looks 2 rfl) rfl ?_
      refine wp_aload_n hX (dk DX11_looks 3 rfl) rfl ?_
      refine w_geti hX flX11_112 (dk DX11_looks 4 rfl) (by decide) rfl ?_
      refine wp_icmp_ge (tgt := 32) hX (dk DX11_looks 5 rfl) (by decide) (fun _ => ?_) (fun h_ => absurd (by rw [hm.1]; exact nI_le (by omega) (by omega)) h_)
      refine wp_aload_n hX (dk DX11_looks 18 rfl) rfl ?_
      refine w_getr hX flX11_94 (dk DX11_looks 19 rfl) rfl rfl ?_
      refine wp_bipush (v := 10) hX (dk DX11_looks 20 rfl) (by decide) ?_
      refine wp_aload_n hX (dk DX11_looks 21 rfl) rfl ?_
      refine wp_iload_n hX (dk DX11_looks 22 rfl) rfl ?_
      refine w_callV (As := [_]) lkX11_165 hX (dk DX11_looks 23 rfl) rfl rfl (by simp [Value.category]) hN (k_cutOf d sw f2 g i sh x hm) ?_
      show WP _ _ _ 43 [_, _, _] [_, _, _] _
      refine w_iast (j := 10) hX (dk DX11_looks 24 rfl) rfl rfl (by decide) ?_
      exact wp_return hX hR (dk DX11_looks 25 rfl) (Nat.le_refl _) (Nat.le_refl _) (⟨_, _, _, rfl, rfl, rfl, rfl, fun b hb => by rw [u2_ne _ _ _ hb]; exact hf b hb, fun j hj => by rw [u2_off _ _ _ (by omega)]; exact ho j hj, u2_at _ _ _ _⟩)
    | succ m ih =>
      intro i f2 hi hf ho
      have hm := same f2 hf
      refine wp_iload_n hX (dk DX11_looks 2 rfl) rfl ?_
      refine wp_aload_n hX (dk DX11_looks 3 rfl) rfl ?_
      refine w_geti hX flX11_112 (dk DX11_looks 4 rfl) (by decide) rfl ?_
      refine wp_icmp_ge (tgt := 32) hX (dk DX11_looks 5 rfl) (by decide) (fun h_ => absurd h_ (by rw [hm.1]; exact nI_ge (by omega) (by omega))) (fun _ => ?_)
      refine wp_aload_n hX (dk DX11_looks 6 rfl) rfl ?_
      refine w_getr hX flX11_94 (dk DX11_looks 7 rfl) rfl rfl ?_
      refine wp_iload_n hX (dk DX11_looks 8 rfl) rfl ?_
      refine wp_aload_n hX (dk DX11_looks 9 rfl) rfl ?_
      refine wp_aload_n hX (dk DX11_looks 10 rfl) rfl ?_
      refine w_getr hX flX11_9 (dk DX11_looks 11 rfl) rfl rfl ?_
      refine wp_iload_n hX (dk DX11_looks 12 rfl) rfl ?_
      refine w_iald (j := _) hX (dk DX11_looks 13 rfl) rfl rfl (show _ < 10 by omega) ?_
      rw [(hm.2.2 i (by omega)).1]
      refine w_callV (As := [_]) lkX11_165 hX (dk DX11_looks 14 rfl) rfl rfl (by simp [Value.category]) hN (k_cutOf d sw f2 g n sh _ hm) ?_
      show WP _ _ _ 25 [_, _, _] [_, _, _] _
      refine w_iast (j := _) hX (dk DX11_looks 15 rfl) rfl rfl (show _ < 11 by omega) ?_
      refine wp_iinc hX (dk DX11_looks 16 rfl) rfl (nI_inc _) rfl hN ?_
      show WP _ _ _ 29 [_, _, _] [] _
      refine wp_goto (tgt := 2) hX (dk DX11_looks 17 rfl) (by decide) ?_
      exact ih (i + 1) _ (by omega) (fun b hb => by rw [u2_ne _ _ _ hb]; exact hf b hb) (all_succ (fun j hj => by rw [u2_off _ _ _ (by omega)]; exact ho j hj) (u2_at _ _ _ _))
  refine wp_iconst (v := 0) hX (dk DX11_looks 0 rfl) (by decide) ?_
  refine wp_istore_n hX (dk DX11_looks 1 rfl) rfl rfl hN (Nat.le_of_ble_eq_true rfl) ?_
  show WP _ _ _ 2 [_, _, _] [] _
  exact lo n 0 f (by omega) (fun _ _ => rfl) (fun j hj => absurd hj (by omega))
