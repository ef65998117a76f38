/-! REFERENCE: what a code gives, what a figure brings -/
theorem k_both (d : Nat) (M : mM) (k : Nat) (x y : Int32) (h : 6 ≤ k) (h2 : k < 16) : CT d 0 0 iX11_both [.int (nI k), .int x, .int y] M (QR (some (.int (jop k x y))) M) := by
  have hk : k = 6 ∨ k = 7 ∨ k = 8 ∨ k = 9 ∨ k = 10 ∨ k = 11 ∨ k = 12 ∨ k = 13 ∨ k = 14 ∨ k = 15 := by omega
  refine CT.of rfl (Nat.le_of_ble_eq_true rfl) (fun X hX hR hN _ => ?_)
  have hX : Good X RX11 cX11_both d 0 0 := hX
  have hN : x_nl X = 3 := hN
  show WP X 0 0 0 [_, _, _] [] _
  rcases hk with rfl | rfl | rfl | rfl | rfl | rfl | rfl | rfl | rfl | rfl
  · refine wp_iload_n hX (dk DX11_both 0 rfl) rfl ?_
    refine wp_tabAt (c := 6) (off := 51) (tgt := 52) hX (dk DX11_both 1 rfl) (rfl) (by decide) (by decide) (by decide) (by decide) ?_
    refine wp_iload_n hX (dk DX11_both 2 rfl) rfl ?_
    refine wp_if_ne (tgt := 60) hX (dk DX11_both 3 rfl) (by decide) (fun h53 => ?_) (fun h53 => ?_)
    · refine wp_iconst (v := 1) hX (dk DX11_both 6 rfl) (by decide) ?_
      refine wp_goto (tgt := 65) hX (dk DX11_both 7 rfl) (by decide) ?_
      exact wp_ireturn hX hR (dk DX11_both 9 rfl) rfl (Nat.le_refl _) (Nat.le_refl _) (⟨by simp [jop, h53], rfl⟩)
    · refine wp_iload_n hX (dk DX11_both 4 rfl) rfl ?_
      refine wp_if_eq (tgt := 64) hX (dk DX11_both 5 rfl) (by decide) (fun h57 => ?_) (fun h57 => ?_)
      · refine wp_iconst (v := 0) hX (dk DX11_both 8 rfl) (by decide) ?_
        exact wp_ireturn hX hR (dk DX11_both 9 rfl) rfl (Nat.le_refl _) (Nat.le_refl _) (⟨by simp [jop, h53, h57], rfl⟩)
      · refine wp_iconst (v := 1) hX (dk DX11_both 6 rfl) (by decide) ?_
        refine wp_goto (tgt := 65) hX (dk DX11_both 7 rfl) (by decide) ?_
        exact wp_ireturn hX hR (dk DX11_both 9 rfl) rfl (Nat.le_refl _) (Nat.le_refl _) (⟨by simp [jop, h53, h57], rfl⟩)
  · refine wp_iload_n hX (dk DX11_both 0 rfl) rfl ?_
    refine wp_tabAt (c := 7) (off := 65) (tgt := 66) hX (dk DX11_both 1 rfl) (rfl) (by decide) (by decide) (by decide) (by decide) ?_
    refine wp_iload_n hX (dk DX11_both 10 rfl) rfl ?_
    refine wp_if_eq (tgt := 78) hX (dk DX11_both 11 rfl) (by decide) (fun h67 => ?_) (fun h67 => ?_)
    · refine wp_iconst (v := 0) hX (dk DX11_both 16 rfl) (by decide) ?_
      exact wp_ireturn hX hR (dk DX11_both 17 rfl) rfl (Nat.le_refl _) (Nat.le_refl _) (⟨by simp [jop, h67], rfl⟩)
    · refine wp_iload_n hX (dk DX11_both 12 rfl) rfl ?_
      refine wp_if_eq (tgt := 78) hX (dk DX11_both 13 rfl) (by decide) (fun h71 => ?_) (fun h71 => ?_)
      · refine wp_iconst (v := 0) hX (dk DX11_both 16 rfl) (by decide) ?_
        exact wp_ireturn hX hR (dk DX11_both 17 rfl) rfl (Nat.le_refl _) (Nat.le_refl _) (⟨by simp [jop, h67, h71], rfl⟩)
      · refine wp_iconst (v := 1) hX (dk DX11_both 14 rfl) (by decide) ?_
        refine wp_goto (tgt := 79) hX (dk DX11_both 15 rfl) (by decide) ?_
        exact wp_ireturn hX hR (dk DX11_both 17 rfl) rfl (Nat.le_refl _) (Nat.le_refl _) (⟨by simp [jop, h67, h71], rfl⟩)
  · refine wp_iload_n hX (dk DX11_both 0 rfl) rfl ?_
    refine wp_tabAt (c := 8) (off := 79) (tgt := 80) hX (dk DX11_both 1 rfl) (rfl) (by decide) (by decide) (by decide) (by decide) ?_
    refine wp_iload_n hX (dk DX11_both 18 rfl) rfl ?_
    refine wp_iload_n hX (dk DX11_both 19 rfl) rfl ?_
    refine wp_icmp_ge (tgt := 89) hX (dk DX11_both 20 rfl) (by decide) (fun h82 => ?_) (fun h82 => ?_)
    · refine wp_iconst (v := 0) hX (dk DX11_both 23 rfl) (by decide) ?_
      exact wp_ireturn hX hR (dk DX11_both 24 rfl) rfl (Nat.le_refl _) (Nat.le_refl _) (⟨by simp [jop, h82], rfl⟩)
    · refine wp_iconst (v := 1) hX (dk DX11_both 21 rfl) (by decide) ?_
      refine wp_goto (tgt := 90) hX (dk DX11_both 22 rfl) (by decide) ?_
      exact wp_ireturn hX hR (dk DX11_both 24 rfl) rfl (Nat.le_refl _) (Nat.le_refl _) (⟨by simp [jop, h82], rfl⟩)
  · refine wp_iload_n hX (dk DX11_both 0 rfl) rfl ?_
    refine wp_tabAt (c := 9) (off := 90) (tgt := 91) hX (dk DX11_both 1 rfl) (rfl) (by decide) (by decide) (by decide) (by decide) ?_
    refine wp_iload_n hX (dk DX11_both 25 rfl) rfl ?_
    refine wp_iload_n hX (dk DX11_both 26 rfl) rfl ?_
    refine wp_icmp_ne (tgt := 100) hX (dk DX11_both 27 rfl) (by decide) (fun h93 => ?_) (fun h93 => ?_)
    · refine wp_iconst (v := 0) hX (dk DX11_both 30 rfl) (by decide) ?_
      exact wp_ireturn hX hR (dk DX11_both 31 rfl) rfl (Nat.le_refl _) (Nat.le_refl _) (⟨by simp [jop, h93], rfl⟩)
    · refine wp_iconst (v := 1) hX (dk DX11_both 28 rfl) (by decide) ?_
      refine wp_goto (tgt := 101) hX (dk DX11_both 29 rfl) (by decide) ?_
      exact wp_ireturn hX hR (dk DX11_both 31 rfl) rfl (Nat.le_refl _) (Nat.le_refl _) (⟨by simp [jop, h93], rfl⟩)
  · refine wp_iload_n hX (dk DX11_both 0 rfl) rfl ?_
    refine wp_tabAt (c := 10) (off := 101) (tgt := 102) hX (dk DX11_both 1 rfl) (rfl) (by decide) (by decide) (by decide) (by decide) ?_
    refine wp_iload_n hX (dk DX11_both 32 rfl) rfl ?_
    refine wp_iload_n hX (dk DX11_both 33 rfl) rfl ?_
    refine wp_icmp_le (tgt := 111) hX (dk DX11_both 34 rfl) (by decide) (fun h104 => ?_) (fun h104 => ?_)
    · refine wp_iconst (v := 0) hX (dk DX11_both 37 rfl) (by decide) ?_
      exact wp_ireturn hX hR (dk DX11_both 38 rfl) rfl (Nat.le_refl _) (Nat.le_refl _) (⟨by simp [jop, h104], rfl⟩)
    · refine wp_iconst (v := 1) hX (dk DX11_both 35 rfl) (by decide) ?_
      refine wp_goto (tgt := 112) hX (dk DX11_both 36 rfl) (by decide) ?_
      exact wp_ireturn hX hR (dk DX11_both 38 rfl) rfl (Nat.le_refl _) (Nat.le_refl _) (⟨by simp [jop, h104], rfl⟩)
  · refine wp_iload_n hX (dk DX11_both 0 rfl) rfl ?_
    refine wp_tabAt (c := 11) (off := 112) (tgt := 113) hX (dk DX11_both 1 rfl) (rfl) (by decide) (by decide) (by decide) (by decide) ?_
    refine wp_iload_n hX (dk DX11_both 39 rfl) rfl ?_
    refine wp_iload_n hX (dk DX11_both 40 rfl) rfl ?_
    refine wp_iadd hX (dk DX11_both 41 rfl) ?_
    exact wp_ireturn hX hR (dk DX11_both 42 rfl) rfl (Nat.le_refl _) (Nat.le_refl _) (⟨rfl, rfl⟩)
  · refine wp_iload_n hX (dk DX11_both 0 rfl) rfl ?_
    refine wp_tabAt (c := 12) (off := 116) (tgt := 117) hX (dk DX11_both 1 rfl) (rfl) (by decide) (by decide) (by decide) (by decide) ?_
    refine wp_iload_n hX (dk DX11_both 43 rfl) rfl ?_
    refine wp_iload_n hX (dk DX11_both 44 rfl) rfl ?_
    refine wp_isub hX (dk DX11_both 45 rfl) ?_
    exact wp_ireturn hX hR (dk DX11_both 46 rfl) rfl (Nat.le_refl _) (Nat.le_refl _) (⟨rfl, rfl⟩)
  · refine wp_iload_n hX (dk DX11_both 0 rfl) rfl ?_
    refine wp_tabAt (c := 13) (off := 120) (tgt := 121) hX (dk DX11_both 1 rfl) (rfl) (by decide) (by decide) (by decide) (by decide) ?_
    refine wp_iload_n hX (dk DX11_both 47 rfl) rfl ?_
    refine wp_iload_n hX (dk DX11_both 48 rfl) rfl ?_
    refine wp_imul hX (dk DX11_both 49 rfl) ?_
    exact wp_ireturn hX hR (dk DX11_both 50 rfl) rfl (Nat.le_refl _) (Nat.le_refl _) (⟨rfl, rfl⟩)
  · refine wp_iload_n hX (dk DX11_both 0 rfl) rfl ?_
    refine wp_tabAt (c := 14) (off := 124) (tgt := 125) hX (dk DX11_both 1 rfl) (rfl) (by decide) (by decide) (by decide) (by decide) ?_
    refine wp_iload_n hX (dk DX11_both 51 rfl) rfl ?_
    refine wp_if_ne (tgt := 133) hX (dk DX11_both 52 rfl) (by decide) (fun h126 => ?_) (fun h126 => ?_)
    · refine wp_iload_n hX (dk DX11_both 55 rfl) rfl ?_
      refine wp_iload_n hX (dk DX11_both 56 rfl) rfl ?_
      refine wp_idiv hX (dk DX11_both 57 rfl) (by assumption) ?_
      exact wp_ireturn hX hR (dk DX11_both 58 rfl) rfl (Nat.le_refl _) (Nat.le_refl _) (⟨by simp [jop, h126], rfl⟩)
    · refine wp_iconst (v := 0) hX (dk DX11_both 53 rfl) (by decide) ?_
      refine wp_goto (tgt := 136) hX (dk DX11_both 54 rfl) (by decide) ?_
      exact wp_ireturn hX hR (dk DX11_both 58 rfl) rfl (Nat.le_refl _) (Nat.le_refl _) (⟨by simp [jop, h126], rfl⟩)
  · refine wp_iload_n hX (dk DX11_both 0 rfl) rfl ?_
    refine wp_tabOut (tgt := 137) hX (dk DX11_both 1 rfl) (by decide) (by decide) ?_
    refine wp_iload_n hX (dk DX11_both 59 rfl) rfl ?_
    refine wp_if_ne (tgt := 145) hX (dk DX11_both_1 0 rfl) (by decide) (fun h138 => ?_) (fun h138 => ?_)
    · refine wp_iload_n hX (dk DX11_both_1 3 rfl) rfl ?_
      refine wp_iload_n hX (dk DX11_both_1 4 rfl) rfl ?_
      refine wp_irem hX (dk DX11_both_1 5 rfl) (by assumption) ?_
      exact wp_ireturn hX hR (dk DX11_both_1 6 rfl) rfl (Nat.le_refl _) (Nat.le_refl _) (⟨by simp [jop, h138], rfl⟩)
    · refine wp_iconst (v := 0) hX (dk DX11_both_1 1 rfl) (by decide) ?_
      refine wp_goto (tgt := 148) hX (dk DX11_both_1 2 rfl) (by decide) ?_
      exact wp_ireturn hX hR (dk DX11_both_1 6 rfl) rfl (Nat.le_refl _) (Nat.le_refl _) (⟨by simp [jop, h138], rfl⟩)
theorem kx_dec2 (n : Nat) : nI (n + 1) - 1 = nI n := by
  rw [show (1 : Int32) = nI 1 from rfl, pk_sub (by omega)]; rfl
theorem kx_dec (n : Nat) : nI (n + 1) + -1 = nI n := by
  rw [← kx_dec2 n, Int32.sub_eq_add_neg]
theorem k_worked (d : Nat) (sw : Bool) (f : Nat → Nat → Int32) (g : Nat → Nat → Int64) (nm : Nat → Int32) (c : List Nat) (p e : Nat) (he : p + c.length = e) (he2 : e ≤ 120) (hc : ∀ (i k : Nat), c[i]? = some k → f 92 (p + i) = nI k) (hn : ∀ j, j < 6 → f 98 j = nm j) (hw : jwf 40 c) : CT (d + 1) 0 0 iX11_worked [.ref 81, .int (nI p), .int (nI e)] (S sw f g) (QS (fun r sw2 f2 g2 => r = some (.int (jvl nm c)) ∧ sw2 = sw ∧ g2 = g ∧ ∀ b, b ≠ 97 → f2 b = f b)) := by
  refine CT.of rfl (Nat.le_of_ble_eq_true rfl) (fun X hX hR hN _ => ?_)
  have hX : Good X RX11 cX11_worked (d + 1) 0 0 := hX
  have hN : x_nl X = 6 := hN
  show WP X 0 0 0 [_, _, _, _, _, _] [] _
  obtain ⟨R0, hR0⟩ : ∃ R0, R0 = jev nm c [] := ⟨_, rfl⟩
  rw [show jvl nm c = R0.headD 0 by rw [hR0]; rfl] at hR
  have lo : ∀ (c2 : List Nat) (j : Nat) (s : List Int32) (f2 : Nat → Nat → Int32) (z : Option Value), j + c2.length = e → (∀ (i k : Nat), c2[i]? = some k → f 92 (j + i) = nI k) → jhk c2 s.length 40 = some 1 → skO (f2 97) s → s.length ≤ 40 → (∀ b, b ≠ 97 → f2 b = f b) → R0 = jev nm c2 s → WP X 0 0 5 [some (.ref 81), some (.int (nI p)), some (.int (nI e)), some (.int (nI s.length)), some (.int (nI j)), z] [] (S sw f2 g) := by
    intro c2
    induction c2 with
    | nil =>
      intro j s f2 z hj hc2 hh hs hk40 hf e0
      have hj : j = e := hj
      subst hj
      simp only [jhk] at hh
      have hl : s.length = 1 := Option.some.inj hh
      match s, hl, hs with
      | [v], _, hs =>
        have e0 : R0 = [v] := e0
        rw [e0] at hR
        refine wp_iload hX (dk DX11_worked 4 rfl) rfl ?_
        refine wp_iload_n hX (dk DX11_worked 5 rfl) rfl ?_
        refine wp_icmp_ge (tgt := 163) hX (dk DX11_worked 6 rfl) (by decide) (fun _ => ?_) (fun h_ => absurd (nI_le (by omega) (by omega)) h_)
        refine wp_aload_n hX (dk DX11_worked_1 30 rfl) rfl ?_
        refine w_getr hX flX11_57 (dk DX11_worked_1 31 rfl) rfl rfl ?_
        refine wp_iconst (v := 0) hX (dk DX11_worked_1 32 rfl) (by decide) ?_
        refine w_iald (j := 0) hX (dk DX11_worked_1 33 rfl) rfl rfl (by decide) ?_
        rw [show f2 97 0 = v from hs.1]
        exact wp_ireturn hX hR (dk DX11_worked_1 34 rfl) rfl (Nat.le_refl _) (Nat.le_refl _) (⟨_, _, _, rfl, rfl, rfl, rfl, hf⟩)
    | cons k c2 ih =>
      intro j s f2 z hj hc2 hh hs hk40 hf e0
      have hlen : (k :: c2).length = c2.length + 1 := rfl
      have w0 : f2 92 j = nI k := by rw [hf 92 (by decide)]; exact hc2 0 k rfl
      have hc3 : ∀ (i k : Nat), c2[i]? = some k → f 92 (j + 1 + i) = nI k := fun i q hq => by rw [show j + 1 + i = j + (i + 1) by omega]; exact hc2 (i + 1) q hq
      have hh2 := jst_len nm k s.length 1 40 c2 s rfl hh
      have e1 : R0 = jev nm c2 (jst nm k s) := e0
      simp only [jhk] at hh
      by_cases c18 : 18 ≤ k
      · rw [if_pos (Or.inr c18)] at hh
        have hb : s.length < 40 ∧ k < 10018 := by
          by_cases q : s.length < 40 ∧ k < 10018
          · exact q
          · rw [if_neg q] at hh; cases hh
        rw [jst_num c18] at e1 hh2
        refine wp_iload hX (dk DX11_worked 4 rfl) rfl ?_
        refine wp_iload_n hX (dk DX11_worked 5 rfl) rfl ?_
        refine wp_icmp_ge (tgt := 163) hX (dk DX11_worked 6 rfl) (by decide) (fun h_ => absurd h_ (nI_ge (by omega) (by omega))) (fun _ => ?_)
        refine wp_aload_n hX (dk DX11_worked 7 rfl) rfl ?_
        refine w_getr hX flX11_42 (dk DX11_worked 8 rfl) rfl rfl ?_
        refine wp_iload hX (dk DX11_worked 9 rfl) rfl ?_
        refine w_iald (j := _) hX (dk DX11_worked 10 rfl) rfl rfl (show _ < 200 by omega) ?_
        rw [w0]
        refine wp_istore hX (dk DX11_worked 11 rfl) rfl hN (Nat.le_of_ble_eq_true rfl) ?_
        show WP _ _ _ 20 [_, _, _, _, _, _] [] _
        refine wp_iload hX (dk DX11_worked 12 rfl) rfl ?_
        refine wp_bipush (v := 18) hX (dk DX11_worked 13 rfl) (by decide) ?_
        refine wp_icmp_ge (tgt := 33) hX (dk DX11_worked 14 rfl) (by decide) (fun _ => ?_) (fun h_ => absurd (nI_le (a := 18) (by omega) (by omega)) h_)
        refine wp_aload_n hX (dk DX11_worked 18 rfl) rfl ?_
        refine w_getr hX flX11_57 (dk DX11_worked 19 rfl) rfl rfl ?_
        refine wp_iload_n hX (dk DX11_worked 20 rfl) rfl ?_
        refine wp_iinc hX (dk DX11_worked 21 rfl) rfl (nI_inc _) rfl hN ?_
        show WP _ _ _ 41 [_, _, _, _, _, _] [_, _] _
        refine wp_iload hX (dk DX11_worked 22 rfl) rfl ?_
        refine wp_bipush (v := 18) hX (dk DX11_worked 23 rfl) (by decide) ?_
        refine wp_icmp_lt (tgt := 56) hX (dk DX11_worked 24 rfl) (by decide) (fun h_ => absurd h_ (nI_nlt (b := 18) (by omega) (by omega))) (fun _ => ?_)
        refine wp_iload hX (dk DX11_worked 25 rfl) rfl ?_
        refine wp_bipush (v := 18) hX (dk DX11_worked 26 rfl) (by decide) ?_
        refine wp_isub hX (dk DX11_worked 27 rfl) ?_
        rw [show nI k - 18 = nI (k - 18) by rw [show (18 : Int32) = nI 18 from rfl, pk_sub (by omega)]]
        refine wp_goto (tgt := 63) hX (dk DX11_worked 28 rfl) (by decide) ?_
        refine w_iast (j := _) hX (dk DX11_worked 33 rfl) rfl rfl (show _ < 200 by omega) ?_
        refine wp_goto (tgt := 157) hX (dk DX11_worked 34 rfl) (by decide) ?_
        refine wp_iinc hX (dk DX11_worked_1 28 rfl) rfl (nI_inc _) rfl hN ?_
        show WP _ _ _ 160 [_, _, _, _, _, _] [] _
        refine wp_goto (tgt := 5) hX (dk DX11_worked_1 29 rfl) (by decide) ?_
        exact ih (j + 1) (nI (k - 18) :: s) _ _ (by omega) hc3 hh2 ⟨u2_at _ _ _ _, skO_up s (fun i hi => u2_off _ _ _ (by omega)) hs⟩ (by simp; omega) (fun b hb => by rw [u2_ne _ _ _ hb]; exact hf b hb) e1
      · by_cases c6 : k < 6
        · rw [if_pos (Or.inl c6)] at hh
          have hb : s.length < 40 ∧ k < 10018 := by
            by_cases q : s.length < 40 ∧ k < 10018
            · exact q
            · rw [if_neg q] at hh; cases hh
          rw [jst_nam c6] at e1 hh2
          refine wp_iload hX (dk DX11_worked 4 rfl) rfl ?_
          refine wp_iload_n hX (dk DX11_worked 5 rfl) rfl ?_
          refine wp_icmp_ge (tgt := 163) hX (dk DX11_worked 6 rfl) (by decide) (fun h_ => absurd h_ (nI_ge (by omega) (by omega))) (fun _ => ?_)
          refine wp_aload_n hX (dk DX11_worked 7 rfl) rfl ?_
          refine w_getr hX flX11_42 (dk DX11_worked 8 rfl) rfl rfl ?_
          refine wp_iload hX (dk DX11_worked 9 rfl) rfl ?_
          refine w_iald (j := _) hX (dk DX11_worked 10 rfl) rfl rfl (show _ < 200 by omega) ?_
          rw [w0]
          refine wp_istore hX (dk DX11_worked 11 rfl) rfl hN (Nat.le_of_ble_eq_true rfl) ?_
          show WP _ _ _ 20 [_, _, _, _, _, _] [] _
          refine wp_iload hX (dk DX11_worked 12 rfl) rfl ?_
          refine wp_bipush (v := 18) hX (dk DX11_worked 13 rfl) (by decide) ?_
          refine wp_icmp_ge (tgt := 33) hX (dk DX11_worked 14 rfl) (by decide) (fun h_ => absurd h_ (nI_ge (b := 18) (by omega) (by omega))) (fun _ => ?_)
          refine wp_iload hX (dk DX11_worked 15 rfl) rfl ?_
          refine wp_iconst (v := 5) hX (dk DX11_worked 16 rfl) (by decide) ?_
          refine wp_icmp_gt (tgt := 67) hX (dk DX11_worked 17 rfl) (by decide) (fun h_ => absurd h_ (nI_nlt (a := 5) (b := k) (by omega) (by omega))) (fun _ => ?_)
          refine wp_aload_n hX (dk DX11_worked 18 rfl) rfl ?_
          refine w_getr hX flX11_57 (dk DX11_worked 19 rfl) rfl rfl ?_
          refine wp_iload_n hX (dk DX11_worked 20 rfl) rfl ?_
          refine wp_iinc hX (dk DX11_worked 21 rfl) rfl (nI_inc _) rfl hN ?_
          show WP _ _ _ 41 [_, _, _, _, _, _] [_, _] _
          refine wp_iload hX (dk DX11_worked 22 rfl) rfl ?_
          refine wp_bipush (v := 18) hX (dk DX11_worked 23 rfl) (by decide) ?_
          refine wp_icmp_lt (tgt := 56) hX (dk DX11_worked 24 rfl) (by decide) (fun _ => ?_) (fun h_ => absurd (nI_lt (b := 18) (by omega) (by omega)) h_)
          refine wp_aload_n hX (dk DX11_worked 29 rfl) rfl ?_
          refine w_getr hX flX11_60 (dk DX11_worked 30 rfl) rfl rfl ?_
          refine wp_iload hX (dk DX11_worked 31 rfl) rfl ?_
          refine w_iald (j := _) hX (dk DX11_worked 32 rfl) rfl rfl (show _ < 6 by omega) ?_
          rw [show f2 98 k = nm k by rw [hf 98 (by decide)]; exact hn k c6]
          refine w_iast (j := _) hX (dk DX11_worked 33 rfl) rfl rfl (show _ < 200 by omega) ?_
          refine wp_goto (tgt := 157) hX (dk DX11_worked 34 rfl) (by decide) ?_
          refine wp_iinc hX (dk DX11_worked_1 28 rfl) rfl (nI_inc _) rfl hN ?_
          show WP _ _ _ 160 [_, _, _, _, _, _] [] _
          refine wp_goto (tgt := 5) hX (dk DX11_worked_1 29 rfl) (by decide) ?_
          exact ih (j + 1) (nm k :: s) _ _ (by omega) hc3 hh2 ⟨u2_at _ _ _ _, skO_up s (fun i hi => u2_off _ _ _ (by omega)) hs⟩ (by simp; omega) (fun b hb => by rw [u2_ne _ _ _ hb]; exact hf b hb) e1
        · rw [if_neg (by omega)] at hh
          by_cases c16 : k < 16
          · rw [if_pos c16] at hh
            have hb : 2 ≤ s.length := by
              by_cases q : 2 ≤ s.length
              · exact q
              · rw [if_neg q] at hh; cases hh
            have t24 : ¬ (18 : Int32) ≤ nI k := nI_ge (b := 18) (by omega) (by omega)
            have t30 : (5 : Int32) < nI k := nI_lt (a := 5) (by omega) (by omega)
            match s, hs, hb, hh2, e1 with
            | y :: x :: r, hs, hb, hh2, e1 =>
              rw [jst_bin (by omega) c16] at e1 hh2
              have hl2 : r.length < 39 := by
                have := hk40
                simp at this
                omega
              obtain ⟨h1, h2, h3⟩ := hs
              refine wp_iload hX (dk DX11_worked 4 rfl) rfl ?_
              refine wp_iload_n hX (dk DX11_worked 5 rfl) rfl ?_
              refine wp_icmp_ge (tgt := 163) hX (dk DX11_worked 6 rfl) (by decide) (fun h_ => absurd h_ (nI_ge (by omega) (by omega))) (fun _ => ?_)
              refine wp_aload_n hX (dk DX11_worked 7 rfl) rfl ?_
              refine w_getr hX flX11_42 (dk DX11_worked 8 rfl) rfl rfl ?_
              refine wp_iload hX (dk DX11_worked 9 rfl) rfl ?_
              refine w_iald (j := _) hX (dk DX11_worked 10 rfl) rfl rfl (show _ < 200 by omega) ?_
              rw [w0]
              refine wp_istore hX (dk DX11_worked 11 rfl) rfl hN (Nat.le_of_ble_eq_true rfl) ?_
              show WP _ _ _ 20 [_, _, _, _, _, _] [] _
              refine wp_iload hX (dk DX11_worked 12 rfl) rfl ?_
              refine wp_bipush (v := 18) hX (dk DX11_worked 13 rfl) (by decide) ?_
              refine wp_icmp_ge (tgt := 33) hX (dk DX11_worked 14 rfl) (by decide) (fun h_ => absurd h_ (t24)) (fun _ => ?_)
              refine wp_iload hX (dk DX11_worked 15 rfl) rfl ?_
              refine wp_iconst (v := 5) hX (dk DX11_worked 16 rfl) (by decide) ?_
              refine wp_icmp_gt (tgt := 67) hX (dk DX11_worked 17 rfl) (by decide) (fun _ => ?_) (fun h_ => absurd (t30) h_)
              refine wp_iload hX (dk DX11_worked 35 rfl) rfl ?_
              refine wp_bipush (v := 16) hX (dk DX11_worked 36 rfl) (by decide) ?_
              refine wp_icmp_eq (tgt := 81) hX (dk DX11_worked 37 rfl) (by decide) (fun h_ => absurd h_ (fun q => absurd ((nI_eq (b := 16) (by omega) (by omega)).mp q) (by omega))) (fun _ => ?_)
              refine wp_iload hX (dk DX11_worked 38 rfl) rfl ?_
              refine wp_bipush (v := 17) hX (dk DX11_worked 39 rfl) (by decide) ?_
              refine wp_icmp_ne (tgt := 127) hX (dk DX11_worked 40 rfl) (by decide) (fun _ => ?_) (fun h_ => absurd h_ (fun q => absurd ((nI_eq (b := 17) (by omega) (by omega)).mp q) (by omega)))
              refine wp_iinc hX (dk DX11_worked_1 9 rfl) rfl (show nI (y :: x :: r).length + -1 = nI (r.length + 1) from kx_dec _) rfl hN ?_
              show WP _ _ _ 130 [_, _, _, _, _, _] [] _
              refine wp_aload_n hX (dk DX11_worked_1 10 rfl) rfl ?_
              refine w_getr hX flX11_57 (dk DX11_worked_1 11 rfl) rfl rfl ?_
              refine wp_iload_n hX (dk DX11_worked_1 12 rfl) rfl ?_
              refine wp_iconst (v := 1) hX (dk DX11_worked_1 13 rfl) (by decide) ?_
              refine wp_isub hX (dk DX11_worked_1 14 rfl) ?_
              rw [kx_dec2 r.length]
              refine wp_iload hX (dk DX11_worked_1 15 rfl) rfl ?_
              refine wp_aload_n hX (dk DX11_worked_1 16 rfl) rfl ?_
              refine w_getr hX flX11_57 (dk DX11_worked_1 17 rfl) rfl rfl ?_
              refine wp_iload_n hX (dk DX11_worked_1 18 rfl) rfl ?_
              refine wp_iconst (v := 1) hX (dk DX11_worked_1 19 rfl) (by decide) ?_
              refine wp_isub hX (dk DX11_worked_1 20 rfl) ?_
              rw [kx_dec2 r.length]
              refine w_iald (j := _) hX (dk DX11_worked_1 21 rfl) rfl rfl (show _ < 200 by omega) ?_
              rw [show f2 97 r.length = x from h2]
              refine wp_aload_n hX (dk DX11_worked_1 22 rfl) rfl ?_
              refine w_getr hX flX11_57 (dk DX11_worked_1 23 rfl) rfl rfl ?_
              refine wp_iload_n hX (dk DX11_worked_1 24 rfl) rfl ?_
              refine w_iald (j := _) hX (dk DX11_worked_1 25 rfl) rfl rfl (show _ < 200 by omega) ?_
              rw [show f2 97 (r.length + 1) = y from h1]
              refine w_callS (As := [_, _, _]) lkX11_255 hX (dk DX11_worked_1 26 rfl) rfl (by simp [Value.category]) (k_both d _ k x y (by omega) c16) ?_
              show WP _ _ _ 156 [_, _, _, _, _, _] [_, _, _] _
              refine w_iast (j := _) hX (dk DX11_worked_1 27 rfl) rfl rfl (show _ < 200 by omega) ?_
              refine wp_iinc hX (dk DX11_worked_1 28 rfl) rfl (nI_inc _) rfl hN ?_
              show WP _ _ _ 160 [_, _, _, _, _, _] [] _
              refine wp_goto (tgt := 5) hX (dk DX11_worked_1 29 rfl) (by decide) ?_
              exact ih (j + 1) (jop k x y :: r) _ _ (by omega) hc3 hh2 ⟨u2_at _ _ _ _, skO_up r (fun i hi => u2_off _ _ _ (by omega)) h3⟩ (by simp; omega) (fun b hb => by rw [u2_ne _ _ _ hb]; exact hf b hb) e1
            | [x], hs, hb, hh2, e1 => simp at hb
            | [], hs, hb, hh2, e1 => simp at hb
          · rw [if_neg c16] at hh
            have hb : 1 ≤ s.length := by
              by_cases q : 1 ≤ s.length
              · exact q
              · rw [if_neg q] at hh; cases hh
            have t24 : ¬ (18 : Int32) ≤ nI k := nI_ge (b := 18) (by omega) (by omega)
            have t30 : (5 : Int32) < nI k := nI_lt (a := 5) (by omega) (by omega)
            match s, hs, hb, hh2, e1 with
            | x :: r, hs, hb, hh2, e1 =>
              have hl2 : r.length < 40 := by
                have := hk40
                simp at this
                omega
              by_cases c17 : k = 17
              · subst c17
                refine wp_iload hX (dk DX11_worked 4 rfl) rfl ?_
                refine wp_iload_n hX (dk DX11_worked 5 rfl) rfl ?_
                refine wp_icmp_ge (tgt := 163) hX (dk DX11_worked 6 rfl) (by decide) (fun h_ => absurd h_ (nI_ge (by omega) (by omega))) (fun _ => ?_)
                refine wp_aload_n hX (dk DX11_worked 7 rfl) rfl ?_
                refine w_getr hX flX11_42 (dk DX11_worked 8 rfl) rfl rfl ?_
                refine wp_iload hX (dk DX11_worked 9 rfl) rfl ?_
                refine w_iald (j := _) hX (dk DX11_worked 10 rfl) rfl rfl (show _ < 200 by omega) ?_
                rw [w0]
                refine wp_istore hX (dk DX11_worked 11 rfl) rfl hN (Nat.le_of_ble_eq_true rfl) ?_
                show WP _ _ _ 20 [_, _, _, _, _, _] [] _
                refine wp_iload hX (dk DX11_worked 12 rfl) rfl ?_
                refine wp_bipush (v := 18) hX (dk DX11_worked 13 rfl) (by decide) ?_
                refine wp_icmp_ge (tgt := 33) hX (dk DX11_worked 14 rfl) (by decide) (fun h_ => absurd h_ (t24)) (fun _ => ?_)
                refine wp_iload hX (dk DX11_worked 15 rfl) rfl ?_
                refine wp_iconst (v := 5) hX (dk DX11_worked 16 rfl) (by decide) ?_
                refine wp_icmp_gt (tgt := 67) hX (dk DX11_worked 17 rfl) (by decide) (fun _ => ?_) (fun h_ => absurd (t30) h_)
                refine wp_iload hX (dk DX11_worked 35 rfl) rfl ?_
                refine wp_bipush (v := 16) hX (dk DX11_worked 36 rfl) (by decide) ?_
                refine wp_icmp_eq (tgt := 81) hX (dk DX11_worked 37 rfl) (by decide) (fun h_ => absurd h_ (by decide)) (fun _ => ?_)
                refine wp_iload hX (dk DX11_worked 38 rfl) rfl ?_
                refine wp_bipush (v := 17) hX (dk DX11_worked 39 rfl) (by decide) ?_
                refine wp_icmp_ne (tgt := 127) hX (dk DX11_worked 40 rfl) (by decide) (fun h_ => absurd (rfl) h_) (fun _ => ?_)
                refine wp_aload_n hX (dk DX11_worked 41 rfl) rfl ?_
                refine w_getr hX flX11_57 (dk DX11_worked 42 rfl) rfl rfl ?_
                refine wp_iload_n hX (dk DX11_worked 43 rfl) rfl ?_
                refine wp_iconst (v := 1) hX (dk DX11_worked 44 rfl) (by decide) ?_
                refine wp_isub hX (dk DX11_worked 45 rfl) ?_
                rw [show nI (x :: r).length - 1 = nI r.length from kx_dec2 _]
                refine wp_iload hX (dk DX11_worked 46 rfl) rfl ?_
                refine wp_bipush (v := 17) hX (dk DX11_worked 47 rfl) (by decide) ?_
                refine wp_icmp_ne (tgt := 107) hX (dk DX11_worked 48 rfl) (by decide) (fun h_ => absurd (rfl) h_) (fun _ => ?_)
                refine wp_aload_n hX (dk DX11_worked 49 rfl) rfl ?_
                refine w_getr hX flX11_57 (dk DX11_worked 50 rfl) rfl rfl ?_
                refine wp_iload_n hX (dk DX11_worked 51 rfl) rfl ?_
                refine wp_iconst (v := 1) hX (dk DX11_worked 52 rfl) (by decide) ?_
                refine wp_isub hX (dk DX11_worked 53 rfl) ?_
                rw [show nI (x :: r).length - 1 = nI r.length from kx_dec2 _]
                refine w_iald (j := _) hX (dk DX11_worked 54 rfl) rfl rfl (show _ < 200 by omega) ?_
                rw [show f2 97 r.length = x from hs.1]
                refine wp_ineg hX (dk DX11_worked 55 rfl) ?_
                refine wp_goto (tgt := 123) hX (dk DX11_worked 56 rfl) (by decide) ?_
                refine w_iast (j := _) hX (dk DX11_worked_1 7 rfl) rfl rfl (show _ < 200 by omega) ?_
                refine wp_goto (tgt := 157) hX (dk DX11_worked_1 8 rfl) (by decide) ?_
                refine wp_iinc hX (dk DX11_worked_1 28 rfl) rfl (nI_inc _) rfl hN ?_
                show WP _ _ _ 160 [_, _, _, _, _, _] [] _
                refine wp_goto (tgt := 5) hX (dk DX11_worked_1 29 rfl) (by decide) ?_
                exact ih (j + 1) (-x :: r) _ _ (by omega) hc3 hh2 ⟨u2_at _ _ _ _, skO_up r (fun i hi => u2_off _ _ _ (by omega)) hs.2⟩ (by simp; omega) (fun b hb => by rw [u2_ne _ _ _ hb]; exact hf b hb) e1
              · obtain rfl : k = 16 := by omega
                refine wp_iload hX (dk DX11_worked 4 rfl) rfl ?_
                refine wp_iload_n hX (dk DX11_worked 5 rfl) rfl ?_
                refine wp_icmp_ge (tgt := 163) hX (dk DX11_worked 6 rfl) (by decide) (fun h_ => absurd h_ (nI_ge (by omega) (by omega))) (fun _ => ?_)
                refine wp_aload_n hX (dk DX11_worked 7 rfl) rfl ?_
                refine w_getr hX flX11_42 (dk DX11_worked 8 rfl) rfl rfl ?_
                refine wp_iload hX (dk DX11_worked 9 rfl) rfl ?_
                refine w_iald (j := _) hX (dk DX11_worked 10 rfl) rfl rfl (show _ < 200 by omega) ?_
                rw [w0]
                refine wp_istore hX (dk DX11_worked 11 rfl) rfl hN (Nat.le_of_ble_eq_true rfl) ?_
                show WP _ _ _ 20 [_, _, _, _, _, _] [] _
                refine wp_iload hX (dk DX11_worked 12 rfl) rfl ?_
                refine wp_bipush (v := 18) hX (dk DX11_worked 13 rfl) (by decide) ?_
                refine wp_icmp_ge (tgt := 33) hX (dk DX11_worked 14 rfl) (by decide) (fun h_ => absurd h_ (t24)) (fun _ => ?_)
                refine wp_iload hX (dk DX11_worked 15 rfl) rfl ?_
                refine wp_iconst (v := 5) hX (dk DX11_worked 16 rfl) (by decide) ?_
                refine wp_icmp_gt (tgt := 67) hX (dk DX11_worked 17 rfl) (by decide) (fun _ => ?_) (fun h_ => absurd (t30) h_)
                refine wp_iload hX (dk DX11_worked 35 rfl) rfl ?_
                refine wp_bipush (v := 16) hX (dk DX11_worked 36 rfl) (by decide) ?_
                refine wp_icmp_eq (tgt := 81) hX (dk DX11_worked 37 rfl) (by decide) (fun _ => ?_) (fun h_ => absurd (rfl) h_)
                refine wp_aload_n hX (dk DX11_worked 41 rfl) rfl ?_
                refine w_getr hX flX11_57 (dk DX11_worked 42 rfl) rfl rfl ?_
                refine wp_iload_n hX (dk DX11_worked 43 rfl) rfl ?_
                refine wp_iconst (v := 1) hX (dk DX11_worked 44 rfl) (by decide) ?_
                refine wp_isub hX (dk DX11_worked 45 rfl) ?_
                rw [show nI (x :: r).length - 1 = nI r.length from kx_dec2 _]
                refine wp_iload hX (dk DX11_worked 46 rfl) rfl ?_
                refine wp_bipush (v := 17) hX (dk DX11_worked 47 rfl) (by decide) ?_
                refine wp_icmp_ne (tgt := 107) hX (dk DX11_worked 48 rfl) (by decide) (fun _ => ?_) (fun h_ => absurd h_ (by decide))
                refine wp_aload_n hX (dk DX11_worked 57 rfl) rfl ?_
                refine w_getr hX flX11_57 (dk DX11_worked 58 rfl) rfl rfl ?_
                refine wp_iload_n hX (dk DX11_worked 59 rfl) rfl ?_
                refine wp_iconst (v := 1) hX (dk DX11_worked_1 0 rfl) (by decide) ?_
                refine wp_isub hX (dk DX11_worked_1 1 rfl) ?_
                rw [show nI (x :: r).length - 1 = nI r.length from kx_dec2 _]
                refine w_iald (j := _) hX (dk DX11_worked_1 2 rfl) rfl rfl (show _ < 200 by omega) ?_
                rw [show f2 97 r.length = x from hs.1]
                refine wp_if_ne (tgt := 122) hX (dk DX11_worked_1 3 rfl) (by decide) (fun h115 => ?_) (fun h115 => ?_)
                · refine wp_iconst (v := 0) hX (dk DX11_worked_1 6 rfl) (by decide) ?_
                  refine w_iast (j := _) hX (dk DX11_worked_1 7 rfl) rfl rfl (show _ < 200 by omega) ?_
                  refine wp_goto (tgt := 157) hX (dk DX11_worked_1 8 rfl) (by decide) ?_
                  refine wp_iinc hX (dk DX11_worked_1 28 rfl) rfl (nI_inc _) rfl hN ?_
                  show WP _ _ _ 160 [_, _, _, _, _, _] [] _
                  refine wp_goto (tgt := 5) hX (dk DX11_worked_1 29 rfl) (by decide) ?_
                  refine ih (j + 1) ((if x = 0 then 1 else 0) :: r) _ _ (by omega) hc3 hh2 ⟨?_, skO_up r (fun i hi => u2_off _ _ _ (by omega)) hs.2⟩ (by simp; omega) (fun b hb => by rw [u2_ne _ _ _ hb]; exact hf b hb) e1
                  rw [u2_at]
                  first | exact (if_pos h115).symm | exact (if_neg h115).symm
                · refine wp_iconst (v := 1) hX (dk DX11_worked_1 4 rfl) (by decide) ?_
                  refine wp_goto (tgt := 123) hX (dk DX11_worked_1 5 rfl) (by decide) ?_
                  refine w_iast (j := _) hX (dk DX11_worked_1 7 rfl) rfl rfl (show _ < 200 by omega) ?_
                  refine wp_goto (tgt := 157) hX (dk DX11_worked_1 8 rfl) (by decide) ?_
                  refine wp_iinc hX (dk DX11_worked_1 28 rfl) rfl (nI_inc _) rfl hN ?_
                  show WP _ _ _ 160 [_, _, _, _, _, _] [] _
                  refine wp_goto (tgt := 5) hX (dk DX11_worked_1 29 rfl) (by decide) ?_
                  refine ih (j + 1) ((if x = 0 then 1 else 0) :: r) _ _ (by omega) hc3 hh2 ⟨?_, skO_up r (fun i hi => u2_off _ _ _ (by omega)) hs.2⟩ (by simp; omega) (fun b hb => by rw [u2_ne _ _ _ hb]; exact hf b hb) e1
                  rw [u2_at]
                  first | exact (if_pos h115).symm | exact (if_neg h115).symm
            | [], hs, hb, hh2, e1 => simp at hb
  refine wp_iconst (v := 0) hX (dk DX11_worked 0 rfl) (by decide) ?_
  refine wp_istore_n hX (dk DX11_worked 1 rfl) rfl rfl hN (Nat.le_of_ble_eq_true rfl) ?_
  show WP _ _ _ 2 [_, _, _, _, _, _] [] _
  refine wp_iload_n hX (dk DX11_worked 2 rfl) rfl ?_
  refine wp_istore hX (dk DX11_worked 3 rfl) rfl hN (Nat.le_of_ble_eq_true rfl) ?_
  show WP _ _ _ 5 [_, _, _, _, _, _] [] _
  exact lo c p [] f _ he hc (hw 0 40 (by decide)) trivial (by decide) (fun _ _ => rfl) hR0
