/-! THE REFERENCE'S CALLS: figures, blocks, traits, the tape -/
/-- what only the reckoning needs may have changed -/
def qM (f f2 : Nat → Nat → Int32) : Prop := (∀ b, b ≠ 81 → (b < 93 ∨ 98 < b) → b < 109 → f2 b = f b) ∧ ∀ i, (i < 17 ∨ 20 < i) → f2 81 i = f 81 i
theorem qM.rf {f : Nat → Nat → Int32} : qM f f := ⟨fun _ _ _ _ => rfl, fun _ _ => rfl⟩
theorem qM.trans {f f2 f3 : Nat → Nat → Int32} (h : qM f f2) (h2 : qM f2 f3) : qM f f3 := ⟨fun b a1 a2 a3 => (h2.1 b a1 a2 a3).trans (h.1 b a1 a2 a3), fun i hi => (h2.2 i hi).trans (h.2 i hi)⟩
def rdM (g : Nat → Nat → Int64) (f : Nat → Nat → Int32) (v : Int32) : Option Value → mM → Prop := QS (fun r _ f2 g2 => r = some (.int v) ∧ g2 = g ∧ qM f f2)
theorem CT.rdM {d : Nat} {i : mI} {av : List Value} {sw : Bool} {f : Nat → Nat → Int32} {g : Nat → Nat → Int64} {v : Int32} (h : CT d 0 0 i av (S sw f g) (QR (some (.int v)) (S sw f g))) : CT d 0 0 i av (S sw f g) (rdM g f v) :=
  h.post (fun r M2 ⟨h1, h2⟩ => ⟨sw, f, g, h2, h1, rfl, qM.rf⟩)
theorem k_wi1 (d i k : Nat) (K : Int32) (M : mM) (hK : K = nI k) (hk : k < 2 ^ 31) (hi : i ≤ k) : CT d 0 0 iX11_within [.int (nI i), .int 0, .int K] M (QR (some (.int 1)) M) := by
  have := k_within d (nI i) 0 K M
  rw [hK, wk_1 hk hi] at this
  rw [hK]
  exact this
theorem k_wi0 (d k : Nat) (x K : Int32) (M : mM) (hK : K = nI k) (hk : k < 2 ^ 31) (h : ¬ ∃ i, i ≤ k ∧ x = nI i) : CT d 0 0 iX11_within [.int x, .int 0, .int K] M (QR (some (.int 0)) M) := by
  have := k_within d x 0 K M
  rw [hK, wk_0 hk h] at this
  rw [hK]
  exact this
/-- a new figure -/
def mnf (f : Nat → Nat → Int32) (n : Nat) (x w : Int32) : Nat → Nat → Int32 := u2 (u2 (u2 (u2 (u2 f 82 n x) 83 n w) 84 n 0) 85 n 0) 81 0 (nI (n + 1))
theorem k_mnew (d : Nat) (sw : Bool) (f : Nat → Nat → Int32) (g : Nat → Nat → Int64) (n : Nat) (x w : Int32) (hn : f 81 0 = nI n) (hn10 : n < 10) : CT d 0 0 iX11_newFigure [.ref 81, .int x, .int w] (S sw f g) (QR (some (.int (nI n))) (S sw (mnf f n x w) g)) := by
  refine CT.of rfl (Nat.le_of_ble_eq_true rfl) (fun X hX hR hN _ => ?_)
  have hX : Good X RX11 cX11_newFigure d 0 0 := hX
  have hN : x_nl X = 3 := hN
  show WP X 0 0 0 [_, _, _] [] _
  refine wp_aload_n hX (dk DX11_newFigure 0 rfl) rfl ?_
  refine w_getr hX flX11_9 (dk DX11_newFigure 1 rfl) rfl rfl ?_
  refine wp_aload_n hX (dk DX11_newFigure 2 rfl) rfl ?_
  refine w_geti hX flX11_112 (dk DX11_newFigure 3 rfl) (by decide) rfl ?_
  rw [hn]
  refine wp_iload_n hX (dk DX11_newFigure 4 rfl) rfl ?_
  refine w_iast (j := _) hX (dk DX11_newFigure 5 rfl) rfl rfl (show _ < 10 by omega) ?_
  refine wp_aload_n hX (dk DX11_newFigure 6 rfl) rfl ?_
  refine w_getr hX flX11_15 (dk DX11_newFigure 7 rfl) rfl rfl ?_
  refine wp_aload_n hX (dk DX11_newFigure 8 rfl) rfl ?_
  refine w_geti hX flX11_112 (dk DX11_newFigure 9 rfl) (by decide) rfl ?_
  rw [show u2 f 82 n x 81 0 = nI n from hn]
  refine wp_iload_n hX (dk DX11_newFigure 10 rfl) rfl ?_
  refine w_iast (j := _) hX (dk DX11_newFigure 11 rfl) rfl rfl (show _ < 10 by omega) ?_
  refine wp_aload_n hX (dk DX11_newFigure 12 rfl) rfl ?_
  refine w_getr hX flX11_18 (dk DX11_newFigure 13 rfl) rfl rfl ?_
  refine wp_aload_n hX (dk DX11_newFigure 14 rfl) rfl ?_
  refine w_geti hX flX11_112 (dk DX11_newFigure 15 rfl) (by decide) rfl ?_
  rw [show u2 (u2 f 82 n x) 83 n w 81 0 = nI n from hn]
  refine wp_iconst (v := 0) hX (dk DX11_newFigure 16 rfl) (by decide) ?_
  refine w_iast (j := _) hX (dk DX11_newFigure 17 rfl) rfl rfl (show _ < 10 by omega) ?_
  refine wp_aload_n hX (dk DX11_newFigure 18 rfl) rfl ?_
  refine w_getr hX flX11_21 (dk DX11_newFigure 19 rfl) rfl rfl ?_
  refine wp_aload_n hX (dk DX11_newFigure 20 rfl) rfl ?_
  refine w_geti hX flX11_112 (dk DX11_newFigure 21 rfl) (by decide) rfl ?_
  rw [show u2 (u2 (u2 f 82 n x) 83 n w) 84 n 0 81 0 = nI n from hn]
  refine wp_iconst (v := 0) hX (dk DX11_newFigure 22 rfl) (by decide) ?_
  refine w_iast (j := _) hX (dk DX11_newFigure 23 rfl) rfl rfl (show _ < 10 by omega) ?_
  refine wp_aload_n hX (dk DX11_newFigure 24 rfl) rfl ?_
  refine wp_dup hX (dk DX11_newFigure 25 rfl) rfl ?_
  refine w_geti hX flX11_112 (dk DX11_newFigure 26 rfl) (by decide) rfl ?_
  rw [show u2 (u2 (u2 (u2 f 82 n x) 83 n w) 84 n 0) 85 n 0 81 0 = nI n from hn]
  refine wp_dup_x1 hX (dk DX11_newFigure 27 rfl) rfl rfl ?_
  refine wp_iconst (v := 1) hX (dk DX11_newFigure 28 rfl) (by decide) ?_
  refine wp_iadd hX (dk DX11_newFigure 29 rfl) ?_
  rw [nI_1]
  refine w_puti hX fpX11_112 (dk DX11_newFigure 30 rfl) rfl ?_
  exact wp_ireturn hX hR (dk DX11_newFigure 31 rfl) rfl (Nat.le_refl _) (Nat.le_refl _) (⟨rfl, rfl⟩)
theorem u_figure0 (d : Nat) (sw : Bool) (f : Nat → Nat → Int32) (g : Nat → Nat → Int64) (x : Int32) (h : ¬ shp x) : CT (d + 110) 0 0 iX11_figure [.ref 81, .int x] (S sw f g) (rdM g f (-1)) := by
  refine CT.rdM ?_
  refine CT.of rfl (Nat.le_of_ble_eq_true rfl) (fun X hX hR hN _ => ?_)
  have hX : Good X RX11 cX11_figure (d + 110) 0 0 := hX
  have hN : x_nl X = 2 := hN
  show WP X 0 0 0 [_, _] [] _
  refine wp_iload_n hX (dk DX11_figure 0 rfl) rfl ?_
  refine w_callS (As := [_]) lkX11_168 hX (dk DX11_figure 1 rfl) rfl (by decide) (k_mS0 (d + 108) sw f g x h) ?_
  show WP _ _ _ 4 [_, _] [_] _
  refine wp_if_ne (tgt := 9) hX (dk DX11_figure 2 rfl) (by decide) (fun h_ => absurd (rfl) h_) (fun _ => ?_)
  refine wp_iconst (v := -1) hX (dk DX11_figure 3 rfl) (by decide) ?_
  exact wp_ireturn hX hR (dk DX11_figure 4 rfl) rfl (Nat.le_refl _) (Nat.le_refl _) (⟨rfl, rfl⟩)
theorem u_figureF (d : Nat) (sw : Bool) (f : Nat → Nat → Int32) (g : Nat → Nat → Int64) (x : Int32) (h : shp x) (hn : f 81 0 = nI 10) : CT (d + 110) 0 0 iX11_figure [.ref 81, .int x] (S sw f g) (rdM g f (-3)) := by
  refine CT.rdM ?_
  refine CT.of rfl (Nat.le_of_ble_eq_true rfl) (fun X hX hR hN _ => ?_)
  have hX : Good X RX11 cX11_figure (d + 110) 0 0 := hX
  have hN : x_nl X = 2 := hN
  show WP X 0 0 0 [_, _] [] _
  refine wp_iload_n hX (dk DX11_figure 0 rfl) rfl ?_
  refine w_callS (As := [_]) lkX11_168 hX (dk DX11_figure 1 rfl) rfl (by decide) (k_mS1 (d + 108) sw f g x h) ?_
  show WP _ _ _ 4 [_, _] [_] _
  refine wp_if_ne (tgt := 9) hX (dk DX11_figure 2 rfl) (by decide) (fun _ => ?_) (fun h_ => absurd h_ (by decide))
  refine wp_aload_n hX (dk DX11_figure 5 rfl) rfl ?_
  refine w_geti hX flX11_112 (dk DX11_figure 6 rfl) (by decide) rfl ?_
  refine wp_bipush (v := 10) hX (dk DX11_figure 7 rfl) (by decide) ?_
  rw [hn]
  refine wp_icmp_ne (tgt := 23) hX (dk DX11_figure 8 rfl) (by decide) (fun h_ => absurd (rfl) h_) (fun _ => ?_)
  refine wp_bipush (v := -3) hX (dk DX11_figure 9 rfl) (by decide) ?_
  refine wp_goto (tgt := 30) hX (dk DX11_figure 10 rfl) (by decide) ?_
  exact wp_ireturn hX hR (dk DX11_figure 15 rfl) rfl (Nat.le_refl _) (Nat.le_refl _) (⟨rfl, rfl⟩)
theorem u_figure1 (d : Nat) (sw : Bool) (f : Nat → Nat → Int32) (g : Nat → Nat → Int64) (n : Nat) (x : Int32) (h : shp x) (hn : f 81 0 = nI n) (hn10 : n < 10) : CT (d + 110) 0 0 iX11_figure [.ref 81, .int x] (S sw f g) (QR (some (.int (nI n))) (S sw (mnf f n x 100) g)) := by
  refine CT.of rfl (Nat.le_of_ble_eq_true rfl) (fun X hX hR hN _ => ?_)
  have hX : Good X RX11 cX11_figure (d + 110) 0 0 := hX
  have hN : x_nl X = 2 := hN
  show WP X 0 0 0 [_, _] [] _
  refine wp_iload_n hX (dk DX11_figure 0 rfl) rfl ?_
  refine w_callS (As := [_]) lkX11_168 hX (dk DX11_figure 1 rfl) rfl (by decide) (k_mS1 (d + 108) sw f g x h) ?_
  show WP _ _ _ 4 [_, _] [_] _
  refine wp_if_ne (tgt := 9) hX (dk DX11_figure 2 rfl) (by decide) (fun _ => ?_) (fun h_ => absurd h_ (by decide))
  refine wp_aload_n hX (dk DX11_figure 5 rfl) rfl ?_
  refine w_geti hX flX11_112 (dk DX11_figure 6 rfl) (by decide) rfl ?_
  refine wp_bipush (v := 10) hX (dk DX11_figure 7 rfl) (by decide) ?_
  rw [hn]
  refine wp_icmp_ne (tgt := 23) hX (dk DX11_figure 8 rfl) (by decide) (fun _ => ?_) (fun h_ => absurd h_ (fun q => by have := (nI_eq (b := 10) (by omega) (by decide)).mp q; omega))
  refine wp_aload_n hX (dk DX11_figure 11 rfl) rfl ?_
  refine wp_iload_n hX (dk DX11_figure 12 rfl) rfl ?_
  refine wp_bipush (v := 100) hX (dk DX11_figure 13 rfl) (by decide) ?_
  refine w_callV (As := [_, _]) lkX11_171 hX (dk DX11_figure 14 rfl) rfl rfl (by decide) hN (k_mnew (d + 109) sw f g n x 100 hn hn10) ?_
  show WP _ _ _ 30 [_, _] [_] _
  exact wp_ireturn hX hR (dk DX11_figure 15 rfl) rfl (Nat.le_refl _) (Nat.le_refl _) (⟨rfl, rfl⟩)
theorem u_figures0 (d : Nat) (sw : Bool) (f : Nat → Nat → Int32) (g : Nat → Nat → Int64) (x y q : Int32) (h : ¬ ((∃ c, c < 6 ∧ x = nI c) ∧ ∃ k, 1 ≤ k ∧ k ≤ 10 ∧ q = nI k)) : CT (d + 110) 0 0 iX11_figures [.ref 81, .int x, .int y, .int q] (S sw f g) (rdM g f (-1)) := by
  refine CT.rdM ?_
  refine CT.of rfl (Nat.le_of_ble_eq_true rfl) (fun X hX hR hN _ => ?_)
  have hX : Good X RX11 cX11_figures (d + 110) 0 0 := hX
  have hN : x_nl X = 9 := hN
  show WP X 0 0 0 [_, _, _, _, _, _, _, _, _] [] _
  by_cases c : ∃ c, c < 6 ∧ x = nI c
  · obtain ⟨c, hc, rfl⟩ := c
    refine wp_iload_n hX (dk DX11_figures 0 rfl) rfl ?_
    refine w_callS (As := [_]) lkX11_174 hX (dk DX11_figures 1 rfl) rfl (by decide) (k_mH1 (d + 108) sw f g c hc) ?_
    show WP _ _ _ 4 [_, _, _, _, _, _, _, _, _] [_] _
    refine wp_if_eq (tgt := 17) hX (dk DX11_figures 2 rfl) (by decide) (fun h_ => absurd h_ (by decide)) (fun _ => ?_)
    refine wp_iload_n hX (dk DX11_figures 3 rfl) rfl ?_
    refine wp_iconst (v := 1) hX (dk DX11_figures 4 rfl) (by decide) ?_
    refine wp_bipush (v := 10) hX (dk DX11_figures 5 rfl) (by decide) ?_
    refine w_callS (As := [_, _, _]) lkX11_116 hX (dk DX11_figures 6 rfl) rfl (by decide) (k_within (d + 109) q 1 10 _) ?_
    show WP _ _ _ 14 [_, _, _, _, _, _, _, _, _] [_] _
    refine wp_if_ne (tgt := 19) hX (dk DX11_figures 7 rfl) (by decide) (fun h_ => absurd (if_neg (fun e => h ⟨⟨c, hc, rfl⟩, by obtain ⟨k, k1, rfl⟩ := rg_le (k := 10) (x := q) (by decide) (fun q => e.1 (Int32.lt_trans q (by decide))) e.2; exact ⟨k, Nat.le_of_not_lt (fun c => e.1 (nI_lt (a := k) (b := 1) c (by decide))), k1, rfl⟩⟩)) h_) (fun _ => ?_)
    refine wp_iconst (v := -1) hX (dk DX11_figures 8 rfl) (by decide) ?_
    exact wp_ireturn hX hR (dk DX11_figures 9 rfl) rfl (Nat.le_refl _) (Nat.le_refl _) (⟨rfl, rfl⟩)
  · refine wp_iload_n hX (dk DX11_figures 0 rfl) rfl ?_
    refine w_callS (As := [_]) lkX11_174 hX (dk DX11_figures 1 rfl) rfl (by decide) (k_mH0 (d + 108) sw f g x c) ?_
    show WP _ _ _ 4 [_, _, _, _, _, _, _, _, _] [_] _
    refine wp_if_eq (tgt := 17) hX (dk DX11_figures 2 rfl) (by decide) (fun _ => ?_) (fun h_ => absurd (rfl) h_)
    refine wp_iconst (v := -1) hX (dk DX11_figures 8 rfl) (by decide) ?_
    exact wp_ireturn hX hR (dk DX11_figures 9 rfl) rfl (Nat.le_refl _) (Nat.le_refl _) (⟨rfl, rfl⟩)
theorem u_figuresR (d : Nat) (sw : Bool) (f : Nat → Nat → Int32) (g : Nat → Nat → Int64) (c k : Nat) (y : Int32) (hc : c < 6) (hk1 : 1 ≤ k) (hk : k ≤ 10) (h : ¬ f 106 c = 2) : CT (d + 110) 0 0 iX11_figures [.ref 81, .int (nI c), .int y, .int (nI k)] (S sw f g) (rdM g f (if f 106 c = -1 then 0 else -12)) := by
  refine CT.rdM ?_
  refine CT.of rfl (Nat.le_of_ble_eq_true rfl) (fun X hX hR hN _ => ?_)
  have hX : Good X RX11 cX11_figures (d + 110) 0 0 := hX
  have hN : x_nl X = 9 := hN
  show WP X 0 0 0 [_, _, _, _, _, _, _, _, _] [] _
  refine wp_iload_n hX (dk DX11_figures 0 rfl) rfl ?_
  refine w_callS (As := [_]) lkX11_174 hX (dk DX11_figures 1 rfl) rfl (by decide) (k_mH1 (d + 108) sw f g c hc) ?_
  show WP _ _ _ 4 [_, _, _, _, _, _, _, _, _] [_] _
  refine wp_if_eq (tgt := 17) hX (dk DX11_figures 2 rfl) (by decide) (fun h_ => absurd h_ (by decide)) (fun _ => ?_)
  refine wp_iload_n hX (dk DX11_figures 3 rfl) rfl ?_
  refine wp_iconst (v := 1) hX (dk DX11_figures 4 rfl) (by decide) ?_
  refine wp_bipush (v := 10) hX (dk DX11_figures 5 rfl) (by decide) ?_
  refine w_callS (As := [_, _, _]) lkX11_116 hX (dk DX11_figures 6 rfl) rfl (by decide) (k_within (d + 109) _ 1 10 _) ?_
  show WP _ _ _ 14 [_, _, _, _, _, _, _, _, _] [_] _
  rw [if_pos ⟨nI_nlt (b := 1) (by omega) (by omega), nI_nlt (a := 10) (by omega) (by omega)⟩]
  refine wp_if_ne (tgt := 19) hX (dk DX11_figures 7 rfl) (by decide) (fun _ => ?_) (fun h_ => absurd h_ (by decide))
  refine wp_aload_n hX (dk DX11_figures 10 rfl) rfl ?_
  refine w_getr hX flX11_84 (dk DX11_figures 11 rfl) rfl rfl ?_
  refine wp_iload_n hX (dk DX11_figures 12 rfl) rfl ?_
  refine w_iald (j := _) hX (dk DX11_figures 13 rfl) rfl rfl hc ?_
  refine wp_iconst (v := -1) hX (dk DX11_figures 14 rfl) (by decide) ?_
  refine wp_icmp_ne (tgt := 31) hX (dk DX11_figures 15 rfl) (by decide) (fun h26 => ?_) (fun h26 => ?_)
  · refine wp_aload_n hX (dk DX11_figures 18 rfl) rfl ?_
    refine w_getr hX flX11_84 (dk DX11_figures 19 rfl) rfl rfl ?_
    refine wp_iload_n hX (dk DX11_figures 20 rfl) rfl ?_
    refine w_iald (j := _) hX (dk DX11_figures 21 rfl) rfl rfl hc ?_
    refine wp_iconst (v := 2) hX (dk DX11_figures 22 rfl) (by decide) ?_
    refine wp_icmp_eq (tgt := 44) hX (dk DX11_figures 23 rfl) (by decide) (fun h_ => absurd h_ (h)) (fun _ => ?_)
    refine wp_bipush (v := -12) hX (dk DX11_figures 24 rfl) (by decide) ?_
    exact wp_ireturn hX hR (dk DX11_figures 25 rfl) rfl (Nat.le_refl _) (Nat.le_refl _) (⟨by simp [h26], rfl⟩)
  · refine wp_iconst (v := 0) hX (dk DX11_figures 16 rfl) (by decide) ?_
    exact wp_ireturn hX hR (dk DX11_figures 17 rfl) rfl (Nat.le_refl _) (Nat.le_refl _) (⟨by simp [h26], rfl⟩)
theorem u_figuresN (d : Nat) (sw : Bool) (f : Nat → Nat → Int32) (g : Nat → Nat → Int64) (c k : Nat) (y : Int32) (hc : c < 6) (hk1 : 1 ≤ k) (hk : k ≤ 10) (h : f 106 c = 2) (hy : y < 0) : CT (d + 110) 0 0 iX11_figures [.ref 81, .int (nI c), .int y, .int (nI k)] (S sw f g) (rdM g f 0) := by
  have e0 : y.toInt64 + 2 * (nI 0).toInt64 < 0 := by
    rw [show (2 : Int64) * (nI 0).toInt64 = 0 from rfl, Int64.lt_iff_toInt_lt, Int64.add_zero, Int32.toInt_toInt64]
    exact Int32.lt_iff_toInt_lt.mp hy
  refine CT.rdM ?_
  refine CT.of rfl (Nat.le_of_ble_eq_true rfl) (fun X hX hR hN _ => ?_)
  have hX : Good X RX11 cX11_figures (d + 110) 0 0 := hX
  have hN : x_nl X = 9 := hN
  show WP X 0 0 0 [_, _, _, _, _, _, _, _, _] [] _
  refine wp_iload_n hX (dk DX11_figures 0 rfl) rfl ?_
  refine w_callS (As := [_]) lkX11_174 hX (dk DX11_figures 1 rfl) rfl (by decide) (k_mH1 (d + 108) sw f g c hc) ?_
  show WP _ _ _ 4 [_, _, _, _, _, _, _, _, _] [_] _
  refine wp_if_eq (tgt := 17) hX (dk DX11_figures 2 rfl) (by decide) (fun h_ => absurd h_ (by decide)) (fun _ => ?_)
  refine wp_iload_n hX (dk DX11_figures 3 rfl) rfl ?_
  refine wp_iconst (v := 1) hX (dk DX11_figures 4 rfl) (by decide) ?_
  refine wp_bipush (v := 10) hX (dk DX11_figures 5 rfl) (by decide) ?_
  refine w_callS (As := [_, _, _]) lkX11_116 hX (dk DX11_figures 6 rfl) rfl (by decide) (k_within (d + 109) _ 1 10 _) ?_
  show WP _ _ _ 14 [_, _, _, _, _, _, _, _, _] [_] _
  rw [if_pos ⟨nI_nlt (b := 1) (by omega) (by omega), nI_nlt (a := 10) (by omega) (by omega)⟩]
  refine wp_if_ne (tgt := 19) hX (dk DX11_figures 7 rfl) (by decide) (fun _ => ?_) (fun h_ => absurd h_ (by decide))
  refine wp_aload_n hX (dk DX11_figures 10 rfl) rfl ?_
  refine w_getr hX flX11_84 (dk DX11_figures 11 rfl) rfl rfl ?_
  refine wp_iload_n hX (dk DX11_figures 12 rfl) rfl ?_
  refine w_iald (j := _) hX (dk DX11_figures 13 rfl) rfl rfl hc ?_
  rw [h]
  refine wp_iconst (v := -1) hX (dk DX11_figures 14 rfl) (by decide) ?_
  refine wp_icmp_ne (tgt := 31) hX (dk DX11_figures 15 rfl) (by decide) (fun _ => ?_) (fun h_ => absurd h_ (by decide))
  refine wp_aload_n hX (dk DX11_figures 18 rfl) rfl ?_
  refine w_getr hX flX11_84 (dk DX11_figures 19 rfl) rfl rfl ?_
  refine wp_iload_n hX (dk DX11_figures 20 rfl) rfl ?_
  refine w_iald (j := _) hX (dk DX11_figures 21 rfl) rfl rfl hc ?_
  rw [h]
  refine wp_iconst (v := 2) hX (dk DX11_figures 22 rfl) (by decide) ?_
  refine wp_icmp_eq (tgt := 44) hX (dk DX11_figures 23 rfl) (by decide) (fun _ => ?_) (fun h_ => absurd (rfl) h_)
  refine wp_iconst (v := 0) hX (dk DX11_figures 26 rfl) (by decide) ?_
  refine wp_istore hX (dk DX11_figures 27 rfl) rfl hN (Nat.le_of_ble_eq_true rfl) ?_
  show WP _ _ _ 47 [_, _, _, _, _, _, _, _, _] [] _
  refine wp_iconst (v := 0) hX (dk DX11_figures 28 rfl) (by decide) ?_
  refine wp_istore hX (dk DX11_figures 29 rfl) rfl hN (Nat.le_of_ble_eq_true rfl) ?_
  show WP _ _ _ 50 [_, _, _, _, _, _, _, _, _] [] _
  refine wp_iload hX (dk DX11_figures 30 rfl) rfl ?_
  refine wp_iload_n hX (dk DX11_figures 31 rfl) rfl ?_
  refine wp_icmp_ge (tgt := 183) hX (dk DX11_figures 32 rfl) (by decide) (fun h_ => absurd h_ (nI_ge (a := 0) (by omega) (by omega))) (fun _ => ?_)
  refine wp_iload_n hX (dk DX11_figures 33 rfl) rfl ?_
  refine wp_i2l hX (dk DX11_figures 34 rfl) ?_
  refine wp_ldc2 hX (dk DX11_figures 35 rfl) kcX11_177 ?_
  refine wp_iload hX (dk DX11_figures 36 rfl) rfl ?_
  refine wp_i2l hX (dk DX11_figures 37 rfl) ?_
  refine wp_lmul hX (dk DX11_figures 38 rfl) ?_
  refine wp_ladd hX (dk DX11_figures 39 rfl) ?_
  refine wp_lstore hX (dk DX11_figures 40 rfl) rfl hN (Nat.le_of_ble_eq_true rfl) ?_
  show WP _ _ _ 68 [_, _, _, _, _, _, _, _, _] [] _
  refine wp_lload hX (dk DX11_figures 41 rfl) rfl ?_
  refine wp_lconst (v := 0) hX (dk DX11_figures 42 rfl) (by decide) ?_
  refine wp_lcmp hX (dk DX11_figures 43 rfl) ?_
  refine wp_if_lt (tgt := 101) hX (dk DX11_figures 44 rfl) (by decide) (fun _ => ?_) (fun h_ => absurd ((lg_cmp_lt _ _).mpr e0) h_)
  refine wp_iload hX (dk DX11_figures 59 rfl) rfl ?_
  exact wp_ireturn hX hR (dk DX11_figures_1 0 rfl) rfl (Nat.le_refl _) (Nat.le_refl _) (⟨rfl, rfl⟩)
theorem lN_2k (p k : Nat) : lN p + 2 * lN k = lN (p + 2 * k) := by rw [show (2 : Int64) = lN 2 from rfl, lN_mul, lN_add]
theorem u_figures1 (d : Nat) (sw : Bool) (f : Nat → Nat → Int32) (g : Nat → Nat → Int64) (n c z p q : Nat) (hn : f 81 0 = nI n) (hn10 : n ≤ 10) (hc : c < 6) (hk1 : 1 ≤ q) (hk : q ≤ 10) (h : f 106 c = 2) (hz : f 107 c = nI z) (hz60 : z ≤ 60) (hp : p < 2 ^ 31) : CT (d + 110) 0 0 iX11_figures [.ref 81, .int (nI c), .int (nI p), .int (nI q)] (S sw f g) (QS (fun r _ f2 g2 => ∃ k, fgC (fun i => g 108 (c * 60 + i)) z p n q k ∧ r = some (.int (nI k)) ∧ g2 = g ∧ (∀ b, b < 81 ∨ 85 < b → f2 b = f b) ∧ f2 81 0 = nI (n + k) ∧ (∀ i, i ≠ 0 → f2 81 i = f 81 i) ∧ f2 82 = fgS (fun i => g 108 (c * 60 + i)) p n k (f 82) ∧ (∀ j, f2 83 j = if n ≤ j ∧ j < n + k then (g 108 (c * 60 + (p + 2 * (j - n) + 1))).toInt32 else f 83 j) ∧ (∀ j, f2 84 j = if n ≤ j ∧ j < n + k then 0 else f 84 j) ∧ ∀ j, f2 85 j = if n ≤ j ∧ j < n + k then 0 else f 85 j)) := by
  obtain ⟨E, hE⟩ : ∃ E : Nat → Int64, E = fun i => g 108 (c * 60 + i) := ⟨_, rfl⟩
  have hEi : ∀ i, g 108 (c * 60 + i) = E i := fun i => by rw [hE]
  rw [← hE]
  simp only [hEi]
  refine CT.of rfl (Nat.le_of_ble_eq_true rfl) (fun X hX hR hN _ => ?_)
  have hX : Good X RX11 cX11_figures (d + 110) 0 0 := hX
  have hN : x_nl X = 9 := hN
  show WP X 0 0 0 [_, _, _, _, _, _, _, _, _] [] _
  have lo : ∀ (m k : Nat) (f2 : Nat → Nat → Int32) (y1 y2 y3 : Option Value), k + m = q → (∀ j, j < k → fgK E z p n j) → (∀ b, b < 81 ∨ 85 < b → f2 b = f b) → f2 81 0 = nI (n + k) → (∀ i, i ≠ 0 → f2 81 i = f 81 i) → f2 82 = fgS E p n k (f 82) → (∀ j, f2 83 j = if n ≤ j ∧ j < n + k then (E (p + 2 * (j - n) + 1)).toInt32 else f 83 j) → (∀ j, f2 84 j = if n ≤ j ∧ j < n + k then 0 else f 84 j) → (∀ j, f2 85 j = if n ≤ j ∧ j < n + k then 0 else f 85 j) → n + k ≤ 10 → WP X 0 0 50 [some (.ref 81), some (.int (nI c)), some (.int (nI p)), some (.int (nI q)), some (.int (nI k)), some (.int (nI k)), y1, y2, y3] [] (S sw f2 g) := by
    intro m
    induction m with
    | zero =>
      intro k f2 y1 y2 y3 hk h1 hf h81 h81i h82 h83 h84 h85 h10
      refine wp_iload hX (dk DX11_figures 30 rfl) rfl ?_
      refine wp_iload_n hX (dk DX11_figures 31 rfl) rfl ?_
      refine wp_icmp_ge (tgt := 183) hX (dk DX11_figures 32 rfl) (by decide) (fun _ => ?_) (fun h_ => absurd (nI_le (by omega) (by omega)) h_)
      refine wp_iload hX (dk DX11_figures_1 46 rfl) rfl ?_
      exact wp_ireturn hX hR (dk DX11_figures_1 47 rfl) rfl (Nat.le_refl _) (Nat.le_refl _) (⟨_, _, _, rfl, k, ⟨by omega, h1, Or.inl (by omega)⟩, rfl, rfl, hf, h81, h81i, h82, h83, h84, h85⟩)
    | succ m ih =>
      intro k f2 y1 y2 y3 hk h1 hf h81 h81i h82 h83 h84 h85 h10
      have out : ∀ (y1 y2 y3 : Option Value), ¬ fgK E z p n k → WP X 0 0 101 [some (.ref 81), some (.int (nI c)), some (.int (nI p)), some (.int (nI q)), some (.int (nI k)), some (.int (nI k)), y1, y2, y3] [] (S sw f2 g) := by
        intro y1 y2 y3 nk
        refine wp_iload hX (dk DX11_figures 59 rfl) rfl ?_
        exact wp_ireturn hX hR (dk DX11_figures_1 0 rfl) rfl (Nat.le_refl _) (Nat.le_refl _) (⟨_, _, _, rfl, k, ⟨by omega, h1, Or.inr nk⟩, rfl, rfl, hf, h81, h81i, h82, h83, h84, h85⟩)
      have out2 : ∀ (y1 y2 y3 : Option Value), ¬ fgK E z p n k → WP X 0 0 148 [some (.ref 81), some (.int (nI c)), some (.int (nI p)), some (.int (nI q)), some (.int (nI k)), some (.int (nI k)), y1, y2, y3] [] (S sw f2 g) := by
        intro y1 y2 y3 nk
        refine wp_iload hX (dk DX11_figures_1 26 rfl) rfl ?_
        exact wp_ireturn hX hR (dk DX11_figures_1 27 rfl) rfl (Nat.le_refl _) (Nat.le_refl _) (⟨_, _, _, rfl, k, ⟨by omega, h1, Or.inr nk⟩, rfl, rfl, hf, h81, h81i, h82, h83, h84, h85⟩)
      have ei : (60 : Int32) * nI c + nI (p + 2 * k) = nI (c * 60 + (p + 2 * k)) := by rw [show (60 : Int32) = nI 60 from rfl, pk_mul, nI_add, Nat.mul_comm]
      refine wp_iload hX (dk DX11_figures 30 rfl) rfl ?_
      refine wp_iload_n hX (dk DX11_figures 31 rfl) rfl ?_
      refine wp_icmp_ge (tgt := 183) hX (dk DX11_figures 32 rfl) (by decide) (fun h_ => absurd h_ ((nI_ge (by omega) (by omega)))) (fun _ => ?_)
      refine wp_iload_n hX (dk DX11_figures 33 rfl) rfl ?_
      refine wp_i2l hX (dk DX11_figures 34 rfl) ?_
      refine wp_ldc2 hX (dk DX11_figures 35 rfl) kcX11_177 ?_
      refine wp_iload hX (dk DX11_figures 36 rfl) rfl ?_
      refine wp_i2l hX (dk DX11_figures 37 rfl) ?_
      refine wp_lmul hX (dk DX11_figures 38 rfl) ?_
      rw [nI_l hp, nI_l (show k < 2 ^ 31 by omega)]
      refine wp_ladd hX (dk DX11_figures 39 rfl) ?_
      rw [lN_2k]
      refine wp_lstore hX (dk DX11_figures 40 rfl) rfl hN (Nat.le_of_ble_eq_true rfl) ?_
      show WP _ _ _ 68 [_, _, _, _, _, _, _, _, _] [] _
      refine wp_lload hX (dk DX11_figures 41 rfl) rfl ?_
      refine wp_lconst (v := 0) hX (dk DX11_figures 42 rfl) (by decide) ?_
      refine wp_lcmp hX (dk DX11_figures 43 rfl) ?_
      refine wp_if_lt (tgt := 101) hX (dk DX11_figures 44 rfl) (by decide) (fun h_ => absurd h_ ((fun e => by have := (lg_cmp_lt _ _).mp e; have := (pk_lLT (a := p + 2 * k) (b := 0) (by omega) (by decide)).mp this; omega))) (fun _ => ?_)
      refine wp_lload hX (dk DX11_figures 45 rfl) rfl ?_
      refine wp_ldc2 hX (dk DX11_figures 46 rfl) kcX11_177 ?_
      refine wp_ladd hX (dk DX11_figures 47 rfl) ?_
      rw [show lN (p + 2 * k) + 2 = lN (p + 2 * k + 2) by rw [show (2 : Int64) = lN 2 from rfl, lN_add]]
      refine wp_aload_n hX (dk DX11_figures 48 rfl) rfl ?_
      refine w_getr hX flX11_87 (dk DX11_figures 49 rfl) rfl rfl ?_
      refine wp_iload_n hX (dk DX11_figures 50 rfl) rfl ?_
      refine w_iald (j := _) hX (dk DX11_figures 51 rfl) rfl rfl hc ?_
      rw [hf 107 (by omega), hz]
      refine wp_i2l hX (dk DX11_figures 52 rfl) ?_
      refine wp_lcmp hX (dk DX11_figures 53 rfl) ?_
      rw [nI_l (show z < 2 ^ 31 by omega)]
      by_cases c1 : p + 2 * k + 2 ≤ z
      · refine wp_if_gt (tgt := 101) hX (dk DX11_figures 54 rfl) (by decide) (fun h_ => absurd h_ ((fun e => by have := (lg_cmp_gt _ _).mp e; have := (pk_lLT (a := z) (b := p + 2 * k + 2) (by omega) (by omega)).mp this; omega))) (fun _ => ?_)
        refine wp_aload_n hX (dk DX11_figures 55 rfl) rfl ?_
        refine w_geti hX flX11_112 (dk DX11_figures 56 rfl) (by decide) rfl ?_
        refine wp_bipush (v := 10) hX (dk DX11_figures 57 rfl) (by decide) ?_
        rw [h81]
        by_cases c2 : n + k = 10
        · rw [c2]
          refine wp_icmp_ne (tgt := 104) hX (dk DX11_figures 58 rfl) (by decide) (fun h_ => absurd ((rfl)) h_) (fun _ => ?_)
          exact out _ _ _ (fun e => by have := e.2.2.2; omega)
        · refine wp_icmp_ne (tgt := 104) hX (dk DX11_figures 58 rfl) (by decide) (fun _ => ?_) (fun h_ => absurd h_ ((fun e => c2 ((nI_eq (b := 10) (by omega) (by decide)).mp e))))
          refine wp_bipush (v := 60) hX (dk DX11_figures_1 1 rfl) (by decide) ?_
          refine wp_iload_n hX (dk DX11_figures_1 2 rfl) rfl ?_
          refine wp_imul hX (dk DX11_figures_1 3 rfl) ?_
          refine wp_lload hX (dk DX11_figures_1 4 rfl) rfl ?_
          refine wp_l2i hX (dk DX11_figures_1 5 rfl) ?_
          rw [lN_i]
          refine wp_iadd hX (dk DX11_figures_1 6 rfl) ?_
          rw [ei]
          refine wp_istore hX (dk DX11_figures_1 7 rfl) rfl hN (Nat.le_of_ble_eq_true rfl) ?_
          show WP _ _ _ 114 [_, _, _, _, _, _, _, _, _] [] _
          refine wp_aload_n hX (dk DX11_figures_1 8 rfl) rfl ?_
          refine w_getr hX flX11_90 (dk DX11_figures_1 9 rfl) rfl rfl ?_
          refine wp_iload hX (dk DX11_figures_1 10 rfl) rfl ?_
          refine w_lald (j := _) hX (dk DX11_figures_1 11 rfl) rfl rfl (show _ < 360 by omega) ?_
          rw [hEi]
          refine wp_l2i hX (dk DX11_figures_1 12 rfl) ?_
          by_cases c3 : shp (E (p + 2 * k)).toInt32
          · refine w_callS (As := [_]) lkX11_168 hX (dk DX11_figures_1 13 rfl) rfl (by decide) (k_mS1 (d + 108) sw f2 g _ c3) ?_
            show WP _ _ _ 125 [_, _, _, _, _, _, _, _, _] [_] _
            refine wp_if_eq (tgt := 148) hX (dk DX11_figures_1 14 rfl) (by decide) (fun h_ => absurd h_ ((by decide))) (fun _ => ?_)
            refine wp_aload_n hX (dk DX11_figures_1 15 rfl) rfl ?_
            refine w_getr hX flX11_90 (dk DX11_figures_1 16 rfl) rfl rfl ?_
            refine wp_iload hX (dk DX11_figures_1 17 rfl) rfl ?_
            refine wp_iconst (v := 1) hX (dk DX11_figures_1 18 rfl) (by decide) ?_
            refine wp_iadd hX (dk DX11_figures_1 19 rfl) ?_
            rw [nI_1]
            refine w_lald (j := _) hX (dk DX11_figures_1 20 rfl) rfl rfl (show _ < 360 by omega) ?_
            rw [show c * 60 + (p + 2 * k) + 1 = c * 60 + (p + 2 * k + 1) by omega, hEi]
            refine wp_l2i hX (dk DX11_figures_1 21 rfl) ?_
            refine wp_iconst (v := 0) hX (dk DX11_figures_1 22 rfl) (by decide) ?_
            refine wp_sipush (v := 999) hX (dk DX11_figures_1 23 rfl) (by decide) ?_
            by_cases c4 : ∃ w, w ≤ 999 ∧ (E (p + 2 * k + 1)).toInt32 = nI w
            · obtain ⟨w, hw, e4⟩ := c4
              rw [e4]
              refine w_callS (As := [_, _, _]) lkX11_116 hX (dk DX11_figures_1 24 rfl) rfl (by decide) (k_wi1 (d + 109) w 999 _ _ rfl (by decide) hw) ?_
              show WP _ _ _ 145 [_, _, _, _, _, _, _, _, _] [_] _
              refine wp_if_ne (tgt := 151) hX (dk DX11_figures_1 25 rfl) (by decide) (fun _ => ?_) (fun h_ => absurd h_ ((by decide)))
              refine wp_aload_n hX (dk DX11_figures_1 28 rfl) rfl ?_
              refine wp_aload_n hX (dk DX11_figures_1 29 rfl) rfl ?_
              refine w_getr hX flX11_90 (dk DX11_figures_1 30 rfl) rfl rfl ?_
              refine wp_iload hX (dk DX11_figures_1 31 rfl) rfl ?_
              refine w_lald (j := _) hX (dk DX11_figures_1 32 rfl) rfl rfl (show _ < 360 by omega) ?_
              rw [hEi]
              refine wp_l2i hX (dk DX11_figures_1 33 rfl) ?_
              refine wp_aload_n hX (dk DX11_figures_1 34 rfl) rfl ?_
              refine w_getr hX flX11_90 (dk DX11_figures_1 35 rfl) rfl rfl ?_
              refine wp_iload hX (dk DX11_figures_1 36 rfl) rfl ?_
              refine wp_iconst (v := 1) hX (dk DX11_figures_1 37 rfl) (by decide) ?_
              refine wp_iadd hX (dk DX11_figures_1 38 rfl) ?_
              rw [nI_1]
              refine w_lald (j := _) hX (dk DX11_figures_1 39 rfl) rfl rfl (show _ < 360 by omega) ?_
              refine wp_l2i hX (dk DX11_figures_1 40 rfl) ?_
              rw [show c * 60 + (p + 2 * k) + 1 = c * 60 + (p + 2 * k + 1) by omega, hEi, e4]
              refine w_callV (As := [_, _]) lkX11_171 hX (dk DX11_figures_1 41 rfl) rfl rfl (by decide) hN (k_mnew (d + 109) sw f2 g (n + k) _ _ h81 (by omega)) ?_
              show WP _ _ _ 173 [_, _, _, _, _, _, _, _, _] [_] _
              refine wp_pop hX (dk DX11_figures_1 42 rfl) rfl ?_
              refine wp_iinc hX (dk DX11_figures_1 43 rfl) rfl (nI_inc _) rfl hN ?_
              show WP _ _ _ 177 [_, _, _, _, _, _, _, _, _] [] _
              refine wp_iinc hX (dk DX11_figures_1 44 rfl) rfl (nI_inc _) rfl hN ?_
              show WP _ _ _ 180 [_, _, _, _, _, _, _, _, _] [] _
              refine wp_goto (tgt := 50) hX (dk DX11_figures_1 45 rfl) (by decide) ?_
              -- to 50
              have hK : fgK E z p n k := ⟨c1, c3, ⟨w, hw, e4⟩, by omega⟩
              have g1 : ∀ b, b < 81 ∨ 85 < b → mnf f2 (n + k) (E (p + 2 * k)).toInt32 (nI w) b = f b := fun b hb => by unfold mnf; rw [u2_ne _ _ _ (by omega), u2_ne _ _ _ (by omega), u2_ne _ _ _ (by omega), u2_ne _ _ _ (by omega), u2_ne _ _ _ (by omega)]; exact hf b hb
              refine ih (k + 1) _ _ _ _ (by omega) (all_succ h1 hK) g1 (u2_at _ _ _ _) (fun i hi => ?_) ?_ (fun j => ?_) (fun j => ?_) (fun j => ?_) (by omega)
              · unfold mnf
                rw [u2_off _ _ _ hi, u2_ne _ _ _ (by decide), u2_ne _ _ _ (by decide), u2_ne _ _ _ (by decide), u2_ne _ _ _ (by decide)]
                exact h81i i hi
              · unfold mnf
                rw [u2_ne _ _ _ (by decide), u2_ne _ _ _ (by decide), u2_ne _ _ _ (by decide), u2_ne _ _ _ (by decide), u2_row, h82]
                funext j
                unfold fgS
                by_cases cj : j = n + k
                · subst cj
                  rw [if_pos rfl, if_pos ⟨by omega, by omega⟩, show p + 2 * (n + k - n) = p + 2 * k by omega]
                · rw [if_neg cj]
                  by_cases cj2 : n ≤ j ∧ j < n + k
                  · rw [if_pos cj2, if_pos ⟨cj2.1, by omega⟩]
                  · rw [if_neg cj2, if_neg (fun q => cj2 ⟨q.1, by omega⟩)]
              · unfold mnf
                rw [u2_ne _ _ _ (by decide), u2_ne _ _ _ (by decide), u2_ne _ _ _ (by decide)]
                by_cases cj : j = n + k
                · subst cj
                  rw [u2_at, if_pos ⟨by omega, by omega⟩, show p + 2 * (n + k - n) + 1 = p + 2 * k + 1 by omega, e4]
                · rw [u2_off _ _ _ cj, u2_ne _ _ _ (by decide), h83]
                  by_cases cj2 : n ≤ j ∧ j < n + k
                  · rw [if_pos cj2, if_pos ⟨cj2.1, by omega⟩]
                  · rw [if_neg cj2, if_neg (fun q => cj2 ⟨q.1, by omega⟩)]
              · unfold mnf
                rw [u2_ne _ _ _ (by decide), u2_ne _ _ _ (by decide)]
                by_cases cj : j = n + k
                · subst cj
                  rw [u2_at, if_pos ⟨by omega, by omega⟩]
                · rw [u2_off _ _ _ cj, u2_ne _ _ _ (by decide), u2_ne _ _ _ (by decide), h84]
                  by_cases cj2 : n ≤ j ∧ j < n + k
                  · rw [if_pos cj2, if_pos ⟨cj2.1, by omega⟩]
                  · rw [if_neg cj2, if_neg (fun q => cj2 ⟨q.1, by omega⟩)]
              · unfold mnf
                rw [u2_ne _ _ _ (by decide)]
                by_cases cj : j = n + k
                · subst cj
                  rw [u2_at, if_pos ⟨by omega, by omega⟩]
                · rw [u2_off _ _ _ cj, u2_ne _ _ _ (by decide), u2_ne _ _ _ (by decide), u2_ne _ _ _ (by decide), h85]
                  by_cases cj2 : n ≤ j ∧ j < n + k
                  · rw [if_pos cj2, if_pos ⟨cj2.1, by omega⟩]
                  · rw [if_neg cj2, if_neg (fun q => cj2 ⟨q.1, by omega⟩)]
            · refine w_callS (As := [_, _, _]) lkX11_116 hX (dk DX11_figures_1 24 rfl) rfl (by decide) (k_wi0 (d + 109) 999 _ _ _ rfl (by decide) c4) ?_
              show WP _ _ _ 145 [_, _, _, _, _, _, _, _, _] [_] _
              refine wp_if_ne (tgt := 151) hX (dk DX11_figures_1 25 rfl) (by decide) (fun h_ => absurd ((rfl)) h_) (fun _ => ?_)
              exact out2 _ _ _ (fun e => c4 e.2.2.1)
          · refine w_callS (As := [_]) lkX11_168 hX (dk DX11_figures_1 13 rfl) rfl (by decide) (k_mS0 (d + 108) sw f2 g _ c3) ?_
            show WP _ _ _ 125 [_, _, _, _, _, _, _, _, _] [_] _
            refine wp_if_eq (tgt := 148) hX (dk DX11_figures_1 14 rfl) (by decide) (fun _ => ?_) (fun h_ => absurd ((rfl)) h_)
            exact out2 _ _ _ (fun e => c3 e.2.1)
      · refine wp_if_gt (tgt := 101) hX (dk DX11_figures 54 rfl) (by decide) (fun _ => ?_) (fun h_ => absurd (((lg_cmp_gt _ _).mpr ((pk_lLT (a := z) (b := p + 2 * k + 2) (by omega) (by omega)).mpr (by omega)))) h_)
        exact out _ _ _ (fun e => c1 e.1)
  refine wp_iload_n hX (dk DX11_figures 0 rfl) rfl ?_
  refine w_callS (As := [_]) lkX11_174 hX (dk DX11_figures 1 rfl) rfl (by decide) (k_mH1 (d + 108) sw f g c hc) ?_
  show WP _ _ _ 4 [_, _, _, _, _, _, _, _, _] [_] _
  refine wp_if_eq (tgt := 17) hX (dk DX11_figures 2 rfl) (by decide) (fun h_ => absurd h_ (by decide)) (fun _ => ?_)
  refine wp_iload_n hX (dk DX11_figures 3 rfl) rfl ?_
  refine wp_iconst (v := 1) hX (dk DX11_figures 4 rfl) (by decide) ?_
  refine wp_bipush (v := 10) hX (dk DX11_figures 5 rfl) (by decide) ?_
  refine w_callS (As := [_, _, _]) lkX11_116 hX (dk DX11_figures 6 rfl) rfl (by decide) (k_within (d + 109) _ 1 10 _) ?_
  show WP _ _ _ 14 [_, _, _, _, _, _, _, _, _] [_] _
  rw [if_pos ⟨nI_nlt (b := 1) (by omega) (by omega), nI_nlt (a := 10) (by omega) (by omega)⟩]
  refine wp_if_ne (tgt := 19) hX (dk DX11_figures 7 rfl) (by decide) (fun _ => ?_) (fun h_ => absurd h_ (by decide))
  refine wp_aload_n hX (dk DX11_figures 10 rfl) rfl ?_
  refine w_getr hX flX11_84 (dk DX11_figures 11 rfl) rfl rfl ?_
  refine wp_iload_n hX (dk DX11_figures 12 rfl) rfl ?_
  refine w_iald (j := _) hX (dk DX11_figures 13 rfl) rfl rfl hc ?_
  rw [h]
  refine wp_iconst (v := -1) hX (dk DX11_figures 14 rfl) (by decide) ?_
  refine wp_icmp_ne (tgt := 31) hX (dk DX11_figures 15 rfl) (by decide) (fun _ => ?_) (fun h_ => absurd h_ (by decide))
  refine wp_aload_n hX (dk DX11_figures 18 rfl) rfl ?_
  refine w_getr hX flX11_84 (dk DX11_figures 19 rfl) rfl rfl ?_
  refine wp_iload_n hX (dk DX11_figures 20 rfl) rfl ?_
  refine w_iald (j := _) hX (dk DX11_figures 21 rfl) rfl rfl hc ?_
  rw [h]
  refine wp_iconst (v := 2) hX (dk DX11_figures 22 rfl) (by decide) ?_
  refine wp_icmp_eq (tgt := 44) hX (dk DX11_figures 23 rfl) (by decide) (fun _ => ?_) (fun h_ => absurd (rfl) h_)
  refine wp_iconst (v := 0) hX (dk DX11_figures 26 rfl) (by decide) ?_
  refine wp_istore hX (dk DX11_figures 27 rfl) rfl hN (Nat.le_of_ble_eq_true rfl) ?_
  show WP _ _ _ 47 [_, _, _, _, _, _, _, _, _] [] _
  refine wp_iconst (v := 0) hX (dk DX11_figures 28 rfl) (by decide) ?_
  refine wp_istore hX (dk DX11_figures 29 rfl) rfl hN (Nat.le_of_ble_eq_true rfl) ?_
  show WP _ _ _ 50 [_, _, _, _, _, _, _, _, _] [] _
  refine lo q 0 f none none none (by omega) (fun j hj => absurd hj (by omega)) (fun _ _ => rfl) hn (fun _ _ => rfl) ?_ (fun j => ?_) (fun j => ?_) (fun j => ?_) hn10
  · funext j; unfold fgS; rw [if_neg (by omega)]
  · rw [if_neg (by omega)]
  · rw [if_neg (by omega)]
  · rw [if_neg (by omega)]
