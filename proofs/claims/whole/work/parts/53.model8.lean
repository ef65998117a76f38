/-! REFERENCE: the law's text, joined levels -/
def mxC (D m l : Nat) (i : mI) : Prop := ∀ (sw : Bool) (f : Nat → Nat → Int32) (g : Nat → Nat → Int64) (T : Nat → Nat) (n a o : Nat) (K : List Nat), mtO f T n a → a ≤ n → f 81 18 = nI o → cdO f K → K.length ≤ a → o ≤ 6 → rk l o ≤ m → CT D 0 0 i [.ref 81] (S sw f g) (mxQ sw g f K o (pJ (pC T n) m l o a))
def mo (l x : Nat) : Int32 := if pOp l x = 0 then -1 else nI (pOp l x)
theorem mo4a : ∀ x, x < 256 → mo 4 x = if ms x = 42 then 13 else if ms x = 47 then 14 else if ms x = 37 then 15 else -1 := by decide +kernel
theorem mo3a : ∀ x, x < 256 → mo 3 x = if ms x = 43 then 11 else if ms x = 45 then 12 else -1 := by decide +kernel
theorem mo2a : ∀ x, x < 256 → mo 2 x = if ms x = 60 then 8 else if ms x = 61 then 9 else if ms x = 62 then 10 else -1 := by decide +kernel
theorem mo4 {x : Nat} (h : x < 256 ∨ x = 999) : mo 4 x = if ms x = 42 then 13 else if ms x = 47 then 14 else if ms x = 37 then 15 else -1 := by
  rcases h with h | rfl
  · exact mo4a x h
  · decide
theorem mo3 {x : Nat} (h : x < 256 ∨ x = 999) : mo 3 x = if ms x = 43 then 11 else if ms x = 45 then 12 else -1 := by
  rcases h with h | rfl
  · exact mo3a x h
  · decide
theorem mo2 {x : Nat} (h : x < 256 ∨ x = 999) : mo 2 x = if ms x = 60 then 8 else if ms x = 61 then 9 else if ms x = 62 then 10 else -1 := by
  rcases h with h | rfl
  · exact mo2a x h
  · decide
theorem pJr_end {c : Nat → Nat} {l : Nat} {nx : Nat → pR} {a : Nat} {k : List Nat} (h : pOp l (c a) = 0) : ∀ q, pJr c l nx q a k = (true, a, k)
  | 0 => rfl
  | q + 1 => by rw [pJr, if_pos h]
theorem k_mx1 (D m : Nat) (hNx : mxC (D + 2) m 2 iX11_isB) : mxC (D + 3) (m + 1) 1 iX11_isA := by
  intro sw f g T n a o K h ha hop hk hK ho hr
  have hrk : rk 2 o ≤ m := by unfold rk at hr ⊢; omega
  obtain ⟨c, hc⟩ : ∃ c, c = pC T n := ⟨_, rfl⟩
  have hend : ∀ a, n ≤ a → c a = 999 := by rw [hc]; exact pC_end T n
  have hn := h.2.1
  rw [pJ, if_pos (by decide), ← hc]
  obtain ⟨nx, hnx⟩ : ∃ nx, nx = fun b => pJ c m (1 + 1) o b := ⟨_, rfl⟩
  have hx : ∀ b, pJ c m (1 + 1) o b = nx b := fun b => by rw [hnx]
  have hG : ∀ b, b ≤ n → pG n (pB (1 + 1) o) b (nx b) := fun b hb => by rw [hnx]; exact pJ_ok hend m (1 + 1) o b (by omega) hb
  rw [hx, show (fun b => pJ c m (1 + 1) o b) = nx from hnx.symm]
  refine CT.of rfl (Nat.le_of_ble_eq_true rfl) (fun X hX hR hN _ => ?_)
  have hX : Good X RX11 cX11_isA (D + 3) 0 0 := hX
  have hN : x_nl X = 1 := hN
  show WP X 0 0 0 [_] [] _
  refine wp_aload_n hX (dk DX11_isA 0 rfl) rfl ?_
  refine w_callVQ (As := []) lkX11_236 hX (dk DX11_isA 1 rfl) rfl rfl (by decide) hN (hNx sw f g T n a o K h ha hop hk hK ho hrk) (fun v_ sw_ f_ g_ hq_ => ?_)
  obtain ⟨rfl, rfl, rfl, e1, e2, e3, e4⟩ := hq_
  rw [← hc, hx] at e2 e4 ⊢
  show WP _ _ _ 4 [_] [_] _
  have g1 := hG a ha
  have h1 := h.same e1 e2
  by_cases c1 : (nx a).1 = true
  · rw [if_pos c1] at hR ⊢
    obtain ⟨gl, gk, gw⟩ := g1.2.2 c1
    obtain ⟨R0, hR0⟩ : ∃ R0, R0 = pJr c 1 nx 120 (nx a).2.1 (nx a).2.2 := ⟨_, rfl⟩
    rw [show (if 1 = 2 then 1 else 120) = 120 from rfl, ← hR0] at hR
    have stop : ∀ (b : Nat) (k : List Nat) (f2 : Nat → Nat → Int32), pOp 1 (c b) = 0 → R0 = (true, b, k) → mtO f2 T n b → b ≤ n → mpS f f2 → f2 81 18 = nI o → cdO f2 (K ++ k) → WP X 0 0 9 [some (.ref 81)] [] (S sw_ f2 g_) := by
      intro b k f2 hp e h2 hb hs ho2 hk2
      refine wp_aload_n hX (dk DX11_isA 5 rfl) rfl ?_
      refine wp_bipush (v := 38) hX (dk DX11_isA 6 rfl) (by decide) ?_
      refine w_callV (As := [_]) lkX11_221 hX (dk DX11_isA 7 rfl) rfl rfl (by decide) hN (k_is0 (D + 1) sw_ f2 g_ T n b 38 h2 hb (by decide) (by rw [← hc]; intro q; rw [q] at hp; exact absurd hp (by decide))) ?_
      show WP _ _ _ 15 [_] [_] _
      refine wp_if_eq (tgt := 37) hX (dk DX11_isA 8 rfl) (by decide) (fun _ => ?_) (fun h_ => absurd (rfl) h_)
      refine wp_iconst (v := 1) hX (dk DX11_isA 19 rfl) (by decide) ?_
      exact wp_ireturn hX hR (dk DX11_isA 20 rfl) rfl (Nat.le_refl _) (Nat.le_refl _) (⟨_, _, _, rfl, by rw [e]; rfl, rfl, rfl, hs, by rw [e]; exact h2.2.2.2, ho2, fun _ => by rw [e]; exact hk2⟩)
    have lo : ∀ (q b : Nat) (k : List Nat) (f2 : Nat → Nat → Int32), n - b ≤ q → R0 = pJr c 1 nx q b k → K.length + k.length ≤ b → mtO f2 T n b → b ≤ n → mpS f f2 → f2 81 18 = nI o → cdO f2 (K ++ k) → WP X 0 0 9 [some (.ref 81)] [] (S sw_ f2 g_) := by
      intro q
      induction q with
      | zero =>
        intro b k f2 hq e hl h2 hb hs ho2 hk2
        exact stop b k f2 (by rw [hend b (by omega)]; exact pOp_999 1) e h2 hb hs ho2 hk2
      | succ q ih =>
        intro b k f2 hq e hl h2 hb hs ho2 hk2
        by_cases c2 : pOp 1 (c b) = 0
        · exact stop b k f2 c2 (by rw [e, pJr_end c2]) h2 hb hs ho2 hk2
        · rw [pJr, if_neg c2] at e
          have cx : c b = 38 := by
            by_cases q : c b = 38
            · exact q
            · exact absurd (by simp [pOp, q]) c2
          have hbn : b < n := by
            by_cases q : b < n
            · exact q
            · rw [hend b (by omega)] at cx; omega
          rw [show pOp 1 (c b) = 7 by rw [cx]; rfl] at e
          have h3 := h2.same (mpS.at f2 (nI (b + 1))) (u2_at _ _ _ _)
          have g2 := hG (b + 1) hbn
          by_cases c3 : (nx (b + 1)).1 = true
          · rw [if_pos c3] at e
            obtain ⟨y1, y2, y3⟩ := g2.2.2 c3
            have y4 := g2.2.1
            refine wp_aload_n hX (dk DX11_isA 5 rfl) rfl ?_
            refine wp_bipush (v := 38) hX (dk DX11_isA 6 rfl) (by decide) ?_
            refine w_callV (As := [_]) lkX11_221 hX (dk DX11_isA 7 rfl) rfl rfl (by decide) hN (k_is1 (D + 1) sw_ f2 g_ T n b 38 h2 hb (by decide) (by rw [← hc]; exact cx)) ?_
            show WP _ _ _ 15 [_] [_] _
            refine wp_if_eq (tgt := 37) hX (dk DX11_isA 8 rfl) (by decide) (fun h_ => absurd h_ (by decide)) (fun _ => ?_)
            refine wp_aload_n hX (dk DX11_isA 9 rfl) rfl ?_
            refine w_callVQ (As := []) lkX11_236 hX (dk DX11_isA 10 rfl) rfl rfl (by decide) hN (hNx sw_ _ g_ T n (b + 1) o (K ++ k) h3 hbn (by rw [u2_off _ _ _ (by decide)]; exact ho2) (hk2.at _) (by simp only [List.length_append]; omega) ho hrk) (fun v_b sw_b f_b g_b hq_b => ?_)
            obtain ⟨rfl, rfl, rfl, d1, d2, d3, d4⟩ := hq_b
            rw [← hc, hx] at d2 d4 ⊢
            rw [if_pos c3]
            show WP _ _ _ 22 [_] [_] _
            refine wp_if_ne (tgt := 27) hX (dk DX11_isA 11 rfl) (by decide) (fun _ => ?_) (fun h_ => absurd h_ (by decide))
            refine wp_aload_n hX (dk DX11_isA 14 rfl) rfl ?_
            refine wp_bipush (v := 7) hX (dk DX11_isA 15 rfl) (by decide) ?_
            refine w_callVQ (As := [_]) lkX11_212 hX (dk DX11_isA 16 rfl) rfl rfl (by decide) hN (k_codes (D + 2) _ f_b _ _ 7 (d4 c3) (by simp only [List.length_append]; omega)) (fun v_d sw_d f_d g_d hq_d => ?_)
            obtain ⟨rfl, rfl, rfl, w1, w2, w3, w4⟩ := hq_d
            show WP _ _ _ 33 [_] [_] _
            refine wp_pop hX (dk DX11_isA 17 rfl) rfl ?_
            refine wp_goto (tgt := 9) hX (dk DX11_isA 18 rfl) (by decide) ?_
            exact ih (nx (b + 1)).2.1 _ _ (by omega) e (by simp only [List.length_append, List.length_singleton]; omega) (h3.same (d1.trans w1) (w2.trans d2)) y4 (((hs.trans (mpS.at f2 _)).trans d1).trans w1) (w3.trans d3) (by simpa only [List.append_assoc] using w4)
          · rw [if_neg c3] at e
            refine wp_aload_n hX (dk DX11_isA 5 rfl) rfl ?_
            refine wp_bipush (v := 38) hX (dk DX11_isA 6 rfl) (by decide) ?_
            refine w_callV (As := [_]) lkX11_221 hX (dk DX11_isA 7 rfl) rfl rfl (by decide) hN (k_is1 (D + 1) sw_ f2 g_ T n b 38 h2 hb (by decide) (by rw [← hc]; exact cx)) ?_
            show WP _ _ _ 15 [_] [_] _
            refine wp_if_eq (tgt := 37) hX (dk DX11_isA 8 rfl) (by decide) (fun h_ => absurd h_ (by decide)) (fun _ => ?_)
            refine wp_aload_n hX (dk DX11_isA 9 rfl) rfl ?_
            refine w_callVQ (As := []) lkX11_236 hX (dk DX11_isA 10 rfl) rfl rfl (by decide) hN (hNx sw_ _ g_ T n (b + 1) o (K ++ k) h3 hbn (by rw [u2_off _ _ _ (by decide)]; exact ho2) (hk2.at _) (by simp only [List.length_append]; omega) ho hrk) (fun v_b sw_b f_b g_b hq_b => ?_)
            obtain ⟨rfl, rfl, rfl, d1, d2, d3, d4⟩ := hq_b
            rw [← hc, hx] at d2 d4 ⊢
            rw [if_neg c3]
            show WP _ _ _ 22 [_] [_] _
            refine wp_if_ne (tgt := 27) hX (dk DX11_isA 11 rfl) (by decide) (fun h_ => absurd (rfl) h_) (fun _ => ?_)
            refine wp_iconst (v := 0) hX (dk DX11_isA 12 rfl) (by decide) ?_
            exact wp_ireturn hX hR (dk DX11_isA 13 rfl) rfl (Nat.le_refl _) (Nat.le_refl _) (⟨_, _, _, rfl, by rw [e]; rfl, rfl, rfl, (hs.trans (mpS.at f2 _)).trans d1, by rw [e]; exact d2, d3, fun q => by rw [e] at q; exact Bool.noConfusion q⟩)
    refine wp_if_ne (tgt := 9) hX (dk DX11_isA 2 rfl) (by decide) (fun _ => ?_) (fun h_ => absurd h_ (by decide))
    exact lo 120 _ _ f_ (by omega) hR0 (by omega) h1 g1.2.1 e1 e3 (e4 c1)
  · rw [if_neg c1] at hR ⊢
    refine wp_if_ne (tgt := 9) hX (dk DX11_isA 2 rfl) (by decide) (fun h_ => absurd (rfl) h_) (fun _ => ?_)
    refine wp_iconst (v := 0) hX (dk DX11_isA 3 rfl) (by decide) ?_
    exact wp_ireturn hX hR (dk DX11_isA 4 rfl) rfl (Nat.le_refl _) (Nat.le_refl _) (⟨_, _, _, rfl, rfl, rfl, rfl, e1, e2, e3, fun q => Bool.noConfusion q⟩)
theorem k_mx0 (D m : Nat) (hNx : mxC (D + 2) m 1 iX11_isA) : mxC (D + 3) (m + 1) 0 iX11_isE := by
  intro sw f g T n a o K h ha hop hk hK ho hr
  have hrk : rk 1 o ≤ m := by unfold rk at hr ⊢; omega
  obtain ⟨c, hc⟩ : ∃ c, c = pC T n := ⟨_, rfl⟩
  have hend : ∀ a, n ≤ a → c a = 999 := by rw [hc]; exact pC_end T n
  have hn := h.2.1
  rw [pJ, if_pos (by decide), ← hc]
  obtain ⟨nx, hnx⟩ : ∃ nx, nx = fun b => pJ c m (0 + 1) o b := ⟨_, rfl⟩
  have hx : ∀ b, pJ c m (0 + 1) o b = nx b := fun b => by rw [hnx]
  have hG : ∀ b, b ≤ n → pG n (pB (0 + 1) o) b (nx b) := fun b hb => by rw [hnx]; exact pJ_ok hend m (0 + 1) o b (by omega) hb
  rw [hx, show (fun b => pJ c m (0 + 1) o b) = nx from hnx.symm]
  refine CT.of rfl (Nat.le_of_ble_eq_true rfl) (fun X hX hR hN _ => ?_)
  have hX : Good X RX11 cX11_isE (D + 3) 0 0 := hX
  have hN : x_nl X = 1 := hN
  show WP X 0 0 0 [_] [] _
  refine wp_aload_n hX (dk DX11_isE 0 rfl) rfl ?_
  refine w_callVQ (As := []) lkX11_239 hX (dk DX11_isE 1 rfl) rfl rfl (by decide) hN (hNx sw f g T n a o K h ha hop hk hK ho hrk) (fun v_ sw_ f_ g_ hq_ => ?_)
  obtain ⟨rfl, rfl, rfl, e1, e2, e3, e4⟩ := hq_
  rw [← hc, hx] at e2 e4 ⊢
  show WP _ _ _ 4 [_] [_] _
  have g1 := hG a ha
  have h1 := h.same e1 e2
  by_cases c1 : (nx a).1 = true
  · rw [if_pos c1] at hR ⊢
    obtain ⟨gl, gk, gw⟩ := g1.2.2 c1
    obtain ⟨R0, hR0⟩ : ∃ R0, R0 = pJr c 0 nx 120 (nx a).2.1 (nx a).2.2 := ⟨_, rfl⟩
    rw [show (if 0 = 2 then 1 else 120) = 120 from rfl, ← hR0] at hR
    have stop : ∀ (b : Nat) (k : List Nat) (f2 : Nat → Nat → Int32), pOp 0 (c b) = 0 → R0 = (true, b, k) → mtO f2 T n b → b ≤ n → mpS f f2 → f2 81 18 = nI o → cdO f2 (K ++ k) → WP X 0 0 9 [some (.ref 81)] [] (S sw_ f2 g_) := by
      intro b k f2 hp e h2 hb hs ho2 hk2
      refine wp_aload_n hX (dk DX11_isE 5 rfl) rfl ?_
      refine wp_bipush (v := 124) hX (dk DX11_isE 6 rfl) (by decide) ?_
      refine w_callV (As := [_]) lkX11_221 hX (dk DX11_isE 7 rfl) rfl rfl (by decide) hN (k_is0 (D + 1) sw_ f2 g_ T n b 124 h2 hb (by decide) (by rw [← hc]; intro q; rw [q] at hp; exact absurd hp (by decide))) ?_
      show WP _ _ _ 15 [_] [_] _
      refine wp_if_eq (tgt := 37) hX (dk DX11_isE 8 rfl) (by decide) (fun _ => ?_) (fun h_ => absurd (rfl) h_)
      refine wp_iconst (v := 1) hX (dk DX11_isE 19 rfl) (by decide) ?_
      exact wp_ireturn hX hR (dk DX11_isE 20 rfl) rfl (Nat.le_refl _) (Nat.le_refl _) (⟨_, _, _, rfl, by rw [e]; rfl, rfl, rfl, hs, by rw [e]; exact h2.2.2.2, ho2, fun _ => by rw [e]; exact hk2⟩)
    have lo : ∀ (q b : Nat) (k : List Nat) (f2 : Nat → Nat → Int32), n - b ≤ q → R0 = pJr c 0 nx q b k → K.length + k.length ≤ b → mtO f2 T n b → b ≤ n → mpS f f2 → f2 81 18 = nI o → cdO f2 (K ++ k) → WP X 0 0 9 [some (.ref 81)] [] (S sw_ f2 g_) := by
      intro q
      induction q with
      | zero =>
        intro b k f2 hq e hl h2 hb hs ho2 hk2
        exact stop b k f2 (by rw [hend b (by omega)]; exact pOp_999 0) e h2 hb hs ho2 hk2
      | succ q ih =>
        intro b k f2 hq e hl h2 hb hs ho2 hk2
        by_cases c2 : pOp 0 (c b) = 0
        · exact stop b k f2 c2 (by rw [e, pJr_end c2]) h2 hb hs ho2 hk2
        · rw [pJr, if_neg c2] at e
          have cx : c b = 124 := by
            by_cases q : c b = 124
            · exact q
            · exact absurd (by simp [pOp, q]) c2
          have hbn : b < n := by
            by_cases q : b < n
            · exact q
            · rw [hend b (by omega)] at cx; omega
          rw [show pOp 0 (c b) = 6 by rw [cx]; rfl] at e
          have h3 := h2.same (mpS.at f2 (nI (b + 1))) (u2_at _ _ _ _)
          have g2 := hG (b + 1) hbn
          by_cases c3 : (nx (b + 1)).1 = true
          · rw [if_pos c3] at e
            obtain ⟨y1, y2, y3⟩ := g2.2.2 c3
            have y4 := g2.2.1
            refine wp_aload_n hX (dk DX11_isE 5 rfl) rfl ?_
            refine wp_bipush (v := 124) hX (dk DX11_isE 6 rfl) (by decide) ?_
            refine w_callV (As := [_]) lkX11_221 hX (dk DX11_isE 7 rfl) rfl rfl (by decide) hN (k_is1 (D + 1) sw_ f2 g_ T n b 124 h2 hb (by decide) (by rw [← hc]; exact cx)) ?_
            show WP _ _ _ 15 [_] [_] _
            refine wp_if_eq (tgt := 37) hX (dk DX11_isE 8 rfl) (by decide) (fun h_ => absurd h_ (by decide)) (fun _ => ?_)
            refine wp_aload_n hX (dk DX11_isE 9 rfl) rfl ?_
            refine w_callVQ (As := []) lkX11_239 hX (dk DX11_isE 10 rfl) rfl rfl (by decide) hN (hNx sw_ _ g_ T n (b + 1) o (K ++ k) h3 hbn (by rw [u2_off _ _ _ (by decide)]; exact ho2) (hk2.at _) (by simp only [List.length_append]; omega) ho hrk) (fun v_b sw_b f_b g_b hq_b => ?_)
            obtain ⟨rfl, rfl, rfl, d1, d2, d3, d4⟩ := hq_b
            rw [← hc, hx] at d2 d4 ⊢
            rw [if_pos c3]
            show WP _ _ _ 22 [_] [_] _
            refine wp_if_ne (tgt := 27) hX (dk DX11_isE 11 rfl) (by decide) (fun _ => ?_) (fun h_ => absurd h_ (by decide))
            refine wp_aload_n hX (dk DX11_isE 14 rfl) rfl ?_
            refine wp_bipush (v := 6) hX (dk DX11_isE 15 rfl) (by decide) ?_
            refine w_callVQ (As := [_]) lkX11_212 hX (dk DX11_isE 16 rfl) rfl rfl (by decide) hN (k_codes (D + 2) _ f_b _ _ 6 (d4 c3) (by simp only [List.length_append]; omega)) (fun v_d sw_d f_d g_d hq_d => ?_)
            obtain ⟨rfl, rfl, rfl, w1, w2, w3, w4⟩ := hq_d
            show WP _ _ _ 33 [_] [_] _
            refine wp_pop hX (dk DX11_isE 17 rfl) rfl ?_
            refine wp_goto (tgt := 9) hX (dk DX11_isE 18 rfl) (by decide) ?_
            exact ih (nx (b + 1)).2.1 _ _ (by omega) e (by simp only [List.length_append, List.length_singleton]; omega) (h3.same (d1.trans w1) (w2.trans d2)) y4 (((hs.trans (mpS.at f2 _)).trans d1).trans w1) (w3.trans d3) (by simpa only [List.append_assoc] using w4)
          · rw [if_neg c3] at e
            refine wp_aload_n hX (dk DX11_isE 5 rfl) rfl ?_
            refine wp_bipush (v := 124) hX (dk DX11_isE 6 rfl) (by decide) ?_
            refine w_callV (As := [_]) lkX11_221 hX (dk DX11_isE 7 rfl) rfl rfl (by decide) hN (k_is1 (D + 1) sw_ f2 g_ T n b 124 h2 hb (by decide) (by rw [← hc]; exact cx)) ?_
            show WP _ _ _ 15 [_] [_] _
            refine wp_if_eq (tgt := 37) hX (dk DX11_isE 8 rfl) (by decide) (fun h_ => absurd h_ (by decide)) (fun _ => ?_)
            refine wp_aload_n hX (dk DX11_isE 9 rfl) rfl ?_
            refine w_callVQ (As := []) lkX11_239 hX (dk DX11_isE 10 rfl) rfl rfl (by decide) hN (hNx sw_ _ g_ T n (b + 1) o (K ++ k) h3 hbn (by rw [u2_off _ _ _ (by decide)]; exact ho2) (hk2.at _) (by simp only [List.length_append]; omega) ho hrk) (fun v_b sw_b f_b g_b hq_b => ?_)
            obtain ⟨rfl, rfl, rfl, d1, d2, d3, d4⟩ := hq_b
            rw [← hc, hx] at d2 d4 ⊢
            rw [if_neg c3]
            show WP _ _ _ 22 [_] [_] _
            refine wp_if_ne (tgt := 27) hX (dk DX11_isE 11 rfl) (by decide) (fun h_ => absurd (rfl) h_) (fun _ => ?_)
            refine wp_iconst (v := 0) hX (dk DX11_isE 12 rfl) (by decide) ?_
            exact wp_ireturn hX hR (dk DX11_isE 13 rfl) rfl (Nat.le_refl _) (Nat.le_refl _) (⟨_, _, _, rfl, by rw [e]; rfl, rfl, rfl, (hs.trans (mpS.at f2 _)).trans d1, by rw [e]; exact d2, d3, fun q => by rw [e] at q; exact Bool.noConfusion q⟩)
    refine wp_if_ne (tgt := 9) hX (dk DX11_isE 2 rfl) (by decide) (fun _ => ?_) (fun h_ => absurd h_ (by decide))
    exact lo 120 _ _ f_ (by omega) hR0 (by omega) h1 g1.2.1 e1 e3 (e4 c1)
  · rw [if_neg c1] at hR ⊢
    refine wp_if_ne (tgt := 9) hX (dk DX11_isE 2 rfl) (by decide) (fun h_ => absurd (rfl) h_) (fun _ => ?_)
    refine wp_iconst (v := 0) hX (dk DX11_isE 3 rfl) (by decide) ?_
    exact wp_ireturn hX hR (dk DX11_isE 4 rfl) rfl (Nat.le_refl _) (Nat.le_refl _) (⟨_, _, _, rfl, rfl, rfl, rfl, e1, e2, e3, fun q => Bool.noConfusion q⟩)
theorem k_mx4 (D m : Nat) (hNx : mxC (D + 2) m 5 iX11_isO) : mxC (D + 3) (m + 1) 4 iX11_isP := by
  intro sw f g T n a o K h ha hop hk hK ho hr
  have hrk : rk 5 o ≤ m := by unfold rk at hr ⊢; omega
  obtain ⟨c, hc⟩ : ∃ c, c = pC T n := ⟨_, rfl⟩
  have hend : ∀ a, n ≤ a → c a = 999 := by rw [hc]; exact pC_end T n
  have hn := h.2.1
  rw [pJ, if_pos (by decide), ← hc]
  obtain ⟨nx, hnx⟩ : ∃ nx, nx = fun b => pJ c m (4 + 1) o b := ⟨_, rfl⟩
  have hx : ∀ b, pJ c m (4 + 1) o b = nx b := fun b => by rw [hnx]
  have hG : ∀ b, b ≤ n → pG n (pB (4 + 1) o) b (nx b) := fun b hb => by rw [hnx]; exact pJ_ok hend m (4 + 1) o b (by omega) hb
  rw [hx, show (fun b => pJ c m (4 + 1) o b) = nx from hnx.symm]
  refine CT.of rfl (Nat.le_of_ble_eq_true rfl) (fun X hX hR hN _ => ?_)
  have hX : Good X RX11 cX11_isP (D + 3) 0 0 := hX
  have hN : x_nl X = 2 := hN
  show WP X 0 0 0 [_, _] [] _
  refine wp_aload_n hX (dk DX11_isP 0 rfl) rfl ?_
  refine w_callVQ (As := []) lkX11_224 hX (dk DX11_isP 1 rfl) rfl rfl (by decide) hN (hNx sw f g T n a o K h ha hop hk hK ho hrk) (fun v_ sw_ f_ g_ hq_ => ?_)
  obtain ⟨rfl, rfl, rfl, e1, e2, e3, e4⟩ := hq_
  rw [← hc, hx] at e2 e4 ⊢
  show WP _ _ _ 4 [_, _] [_] _
  have g1 := hG a ha
  have h1 := h.same e1 e2
  by_cases c1 : (nx a).1 = true
  · rw [if_pos c1] at hR ⊢
    obtain ⟨gl, gk, gw⟩ := g1.2.2 c1
    obtain ⟨R0, hR0⟩ : ∃ R0, R0 = pJr c 4 nx 120 (nx a).2.1 (nx a).2.2 := ⟨_, rfl⟩
    rw [show (if 4 = 2 then 1 else 120) = 120 from rfl, ← hR0] at hR
    have sg : ∀ (b : Nat) (f2 : Nat → Nat → Int32) (z : Option Value), mtO f2 T n b → b ≤ n → WP X 0 0 52 [some (.ref 81), z] [.int (mo 4 (c b))] (S sw_ f2 g_) → WP X 0 0 9 [some (.ref 81), z] [] (S sw_ f2 g_) := by
      intro b f2 z h2 hb k3
      rw [mo4 (by rw [hc]; exact pC_in T n (fun j hj => (h2.2.2.1 j hj).2) b)] at k3
      refine wp_aload_n hX (dk DX11_isP 5 rfl) rfl ?_
      refine w_callV (As := []) lkX11_201 hX (dk DX11_isP 6 rfl) rfl rfl (by decide) hN (k_sign (D + 2) sw_ f2 g_ T n b h2 hb) ?_
      show WP _ _ _ 13 [_, _] [_] _
      rw [← hc]
      refine wp_bipush (v := 42) hX (dk DX11_isP 7 rfl) (by decide) ?_
      refine wp_icmp_ne (tgt := 23) hX (dk DX11_isP 8 rfl) (by decide) (fun h15 => ?_) (fun h15 => ?_)
      · refine wp_aload_n hX (dk DX11_isP 11 rfl) rfl ?_
        refine w_callV (As := []) lkX11_201 hX (dk DX11_isP 12 rfl) rfl rfl (by decide) hN (k_sign (D + 2) sw_ f2 g_ T n b h2 hb) ?_
        show WP _ _ _ 27 [_, _] [_] _
        rw [← hc]
        refine wp_bipush (v := 47) hX (dk DX11_isP 13 rfl) (by decide) ?_
        refine wp_icmp_ne (tgt := 37) hX (dk DX11_isP 14 rfl) (by decide) (fun h29 => ?_) (fun h29 => ?_)
        · refine wp_aload_n hX (dk DX11_isP 17 rfl) rfl ?_
          refine w_callV (As := []) lkX11_201 hX (dk DX11_isP 18 rfl) rfl rfl (by decide) hN (k_sign (D + 2) sw_ f2 g_ T n b h2 hb) ?_
          show WP _ _ _ 41 [_, _] [_] _
          rw [← hc]
          refine wp_bipush (v := 37) hX (dk DX11_isP 19 rfl) (by decide) ?_
          refine wp_icmp_ne (tgt := 51) hX (dk DX11_isP 20 rfl) (by decide) (fun h43 => ?_) (fun h43 => ?_)
          · refine wp_iconst (v := -1) hX (dk DX11_isP 23 rfl) (by decide) ?_
            first | (rw [if_pos h15] at k3; exact k3) | (rw [if_neg h15, if_pos h29] at k3; exact k3) | (rw [if_neg h15, if_neg h29, if_pos h43] at k3; exact k3) | (rw [if_neg h15, if_neg h29, if_neg h43] at k3; exact k3)
          · refine wp_bipush (v := 15) hX (dk DX11_isP 21 rfl) (by decide) ?_
            refine wp_goto (tgt := 52) hX (dk DX11_isP 22 rfl) (by decide) ?_
            first | (rw [if_pos h15] at k3; exact k3) | (rw [if_neg h15, if_pos h29] at k3; exact k3) | (rw [if_neg h15, if_neg h29, if_pos h43] at k3; exact k3) | (rw [if_neg h15, if_neg h29, if_neg h43] at k3; exact k3)
        · refine wp_bipush (v := 14) hX (dk DX11_isP 15 rfl) (by decide) ?_
          refine wp_goto (tgt := 52) hX (dk DX11_isP 16 rfl) (by decide) ?_
          first | (rw [if_pos h15] at k3; exact k3) | (rw [if_neg h15, if_pos h29] at k3; exact k3) | (rw [if_neg h15, if_neg h29, if_pos h43] at k3; exact k3) | (rw [if_neg h15, if_neg h29, if_neg h43] at k3; exact k3)
      · refine wp_bipush (v := 13) hX (dk DX11_isP 9 rfl) (by decide) ?_
        refine wp_goto (tgt := 52) hX (dk DX11_isP 10 rfl) (by decide) ?_
        first | (rw [if_pos h15] at k3; exact k3) | (rw [if_neg h15, if_pos h29] at k3; exact k3) | (rw [if_neg h15, if_neg h29, if_pos h43] at k3; exact k3) | (rw [if_neg h15, if_neg h29, if_neg h43] at k3; exact k3)
    have stop : ∀ (b : Nat) (k : List Nat) (f2 : Nat → Nat → Int32) (z : Option Value), pOp 4 (c b) = 0 → R0 = (true, b, k) → mtO f2 T n b → b ≤ n → mpS f f2 → f2 81 18 = nI o → cdO f2 (K ++ k) → WP X 0 0 9 [some (.ref 81), z] [] (S sw_ f2 g_) := by
      intro b k f2 z hp e h2 hb hs ho2 hk2
      refine sg b f2 z h2 hb ?_
      rw [show mo 4 (c b) = -1 from if_pos hp]
      refine wp_istore_n hX (dk DX11_isP 24 rfl) rfl rfl hN (Nat.le_of_ble_eq_true rfl) ?_
      show WP _ _ _ 53 [_, _] [] _
      refine wp_iload_n hX (dk DX11_isP 25 rfl) rfl ?_
      refine wp_if_ge (tgt := 59) hX (dk DX11_isP 26 rfl) (by decide) (fun h_ => absurd h_ (by decide)) (fun _ => ?_)
      refine wp_iconst (v := 1) hX (dk DX11_isP 27 rfl) (by decide) ?_
      exact wp_ireturn hX hR (dk DX11_isP 28 rfl) rfl (Nat.le_refl _) (Nat.le_refl _) (⟨_, _, _, rfl, by rw [e]; rfl, rfl, rfl, hs, by rw [e]; exact h2.2.2.2, ho2, fun _ => by rw [e]; exact hk2⟩)
    have lo : ∀ (q b : Nat) (k : List Nat) (f2 : Nat → Nat → Int32) (z : Option Value), n - b ≤ q → R0 = pJr c 4 nx q b k → K.length + k.length ≤ b → mtO f2 T n b → b ≤ n → mpS f f2 → f2 81 18 = nI o → cdO f2 (K ++ k) → WP X 0 0 9 [some (.ref 81), z] [] (S sw_ f2 g_) := by
      intro q
      induction q with
      | zero =>
        intro b k f2 z hq e hl h2 hb hs ho2 hk2
        exact stop b k f2 z (by rw [hend b (by omega)]; exact pOp_999 4) e h2 hb hs ho2 hk2
      | succ q ih =>
        intro b k f2 z hq e hl h2 hb hs ho2 hk2
        by_cases c2 : pOp 4 (c b) = 0
        · exact stop b k f2 z c2 (by rw [e, pJr_end c2]) h2 hb hs ho2 hk2
        · rw [pJr, if_neg c2] at e
          have hbn : b < n := by
            by_cases q : b < n
            · exact q
            · rw [hend b (by omega), pOp_999] at c2; exact absurd rfl c2
          have hop2 := pOp_ok c2
          have h3 := h2.same (mpS.at f2 (nI (b + 1))) (u2_at _ _ _ _)
          have g2 := hG (b + 1) hbn
          refine sg b f2 z h2 hb ?_
          rw [show mo 4 (c b) = nI (pOp 4 (c b)) from if_neg c2]
          by_cases c3 : (nx (b + 1)).1 = true
          · rw [if_pos c3] at e
            obtain ⟨y1, y2, y3⟩ := g2.2.2 c3
            have y4 := g2.2.1
            refine wp_istore_n hX (dk DX11_isP 24 rfl) rfl rfl hN (Nat.le_of_ble_eq_true rfl) ?_
            show WP _ _ _ 53 [_, _] [] _
            refine wp_iload_n hX (dk DX11_isP 25 rfl) rfl ?_
            refine wp_if_ge (tgt := 59) hX (dk DX11_isP 26 rfl) (by decide) (fun _ => ?_) (fun h_ => absurd (nI_le (a := 0) (by omega) (by omega)) h_)
            refine wp_aload_n hX (dk DX11_isP 29 rfl) rfl ?_
            refine wp_dup hX (dk DX11_isP 30 rfl) rfl ?_
            refine w_geti hX flX11_198 (dk DX11_isP 31 rfl) (by decide) rfl ?_
            rw [h2.2.2.2]
            refine wp_iconst (v := 1) hX (dk DX11_isP 32 rfl) (by decide) ?_
            refine wp_iadd hX (dk DX11_isP 33 rfl) ?_
            rw [nI_1]
            refine w_puti hX fpX11_198 (dk DX11_isP 34 rfl) rfl ?_
            refine wp_aload_n hX (dk DX11_isP 35 rfl) rfl ?_
            refine w_callVQ (As := []) lkX11_224 hX (dk DX11_isP 36 rfl) rfl rfl (by decide) hN (hNx sw_ _ g_ T n (b + 1) o (K ++ k) h3 hbn (by rw [u2_off _ _ _ (by decide)]; exact ho2) (hk2.at _) (by simp only [List.length_append]; omega) ho hrk) (fun v_b sw_b f_b g_b hq_b => ?_)
            obtain ⟨rfl, rfl, rfl, d1, d2, d3, d4⟩ := hq_b
            rw [← hc, hx] at d2 d4 ⊢
            rw [if_pos c3]
            show WP _ _ _ 73 [_, _] [_] _
            refine wp_if_ne (tgt := 78) hX (dk DX11_isP 37 rfl) (by decide) (fun _ => ?_) (fun h_ => absurd h_ (by decide))
            refine wp_aload_n hX (dk DX11_isP 40 rfl) rfl ?_
            refine wp_iload_n hX (dk DX11_isP 41 rfl) rfl ?_
            refine w_callVQ (As := [_]) lkX11_212 hX (dk DX11_isP 42 rfl) rfl rfl (by decide) hN (k_codes (D + 2) _ f_b _ _ _ (d4 c3) (by simp only [List.length_append]; omega)) (fun v_d sw_d f_d g_d hq_d => ?_)
            obtain ⟨rfl, rfl, rfl, w1, w2, w3, w4⟩ := hq_d
            show WP _ _ _ 83 [_, _] [_] _
            refine wp_pop hX (dk DX11_isP 43 rfl) rfl ?_
            refine wp_goto (tgt := 9) hX (dk DX11_isP 44 rfl) (by decide) ?_
            exact ih (nx (b + 1)).2.1 _ _ _ (by omega) e (by simp only [List.length_append, List.length_singleton]; omega) (h3.same (d1.trans w1) (w2.trans d2)) y4 (((hs.trans (mpS.at f2 _)).trans d1).trans w1) (w3.trans d3) (by simpa only [List.append_assoc] using w4)
          · rw [if_neg c3] at e
            refine wp_istore_n hX (dk DX11_isP 24 rfl) rfl rfl hN (Nat.le_of_ble_eq_true rfl) ?_
            show WP _ _ _ 53 [_, _] [] _
            refine wp_iload_n hX (dk DX11_isP 25 rfl) rfl ?_
            refine wp_if_ge (tgt := 59) hX (dk DX11_isP 26 rfl) (by decide) (fun _ => ?_) (fun h_ => absurd (nI_le (a := 0) (by omega) (by omega)) h_)
            refine wp_aload_n hX (dk DX11_isP 29 rfl) rfl ?_
            refine wp_dup hX (dk DX11_isP 30 rfl) rfl ?_
            refine w_geti hX flX11_198 (dk DX11_isP 31 rfl) (by decide) rfl ?_
            rw [h2.2.2.2]
            refine wp_iconst (v := 1) hX (dk DX11_isP 32 rfl) (by decide) ?_
            refine wp_iadd hX (dk DX11_isP 33 rfl) ?_
            rw [nI_1]
            refine w_puti hX fpX11_198 (dk DX11_isP 34 rfl) rfl ?_
            refine wp_aload_n hX (dk DX11_isP 35 rfl) rfl ?_
            refine w_callVQ (As := []) lkX11_224 hX (dk DX11_isP 36 rfl) rfl rfl (by decide) hN (hNx sw_ _ g_ T n (b + 1) o (K ++ k) h3 hbn (by rw [u2_off _ _ _ (by decide)]; exact ho2) (hk2.at _) (by simp only [List.length_append]; omega) ho hrk) (fun v_b sw_b f_b g_b hq_b => ?_)
            obtain ⟨rfl, rfl, rfl, d1, d2, d3, d4⟩ := hq_b
            rw [← hc, hx] at d2 d4 ⊢
            rw [if_neg c3]
            show WP _ _ _ 73 [_, _] [_] _
            refine wp_if_ne (tgt := 78) hX (dk DX11_isP 37 rfl) (by decide) (fun h_ => absurd (rfl) h_) (fun _ => ?_)
            refine wp_iconst (v := 0) hX (dk DX11_isP 38 rfl) (by decide) ?_
            exact wp_ireturn hX hR (dk DX11_isP 39 rfl) rfl (Nat.le_refl _) (Nat.le_refl _) (⟨_, _, _, rfl, by rw [e]; rfl, rfl, rfl, (hs.trans (mpS.at f2 _)).trans d1, by rw [e]; exact d2, d3, fun q => by rw [e] at q; exact Bool.noConfusion q⟩)
    refine wp_if_ne (tgt := 9) hX (dk DX11_isP 2 rfl) (by decide) (fun _ => ?_) (fun h_ => absurd h_ (by decide))
    exact lo 120 _ _ f_ _ (by omega) hR0 (by omega) h1 g1.2.1 e1 e3 (e4 c1)
  · rw [if_neg c1] at hR ⊢
    refine wp_if_ne (tgt := 9) hX (dk DX11_isP 2 rfl) (by decide) (fun h_ => absurd (rfl) h_) (fun _ => ?_)
    refine wp_iconst (v := 0) hX (dk DX11_isP 3 rfl) (by decide) ?_
    exact wp_ireturn hX hR (dk DX11_isP 4 rfl) rfl (Nat.le_refl _) (Nat.le_refl _) (⟨_, _, _, rfl, rfl, rfl, rfl, e1, e2, e3, fun q => Bool.noConfusion q⟩)
theorem k_mx3 (D m : Nat) (hNx : mxC (D + 2) m 4 iX11_isP) : mxC (D + 3) (m + 1) 3 iX11_isS := by
  intro sw f g T n a o K h ha hop hk hK ho hr
  have hrk : rk 4 o ≤ m := by unfold rk at hr ⊢; omega
  obtain ⟨c, hc⟩ : ∃ c, c = pC T n := ⟨_, rfl⟩
  have hend : ∀ a, n ≤ a → c a = 999 := by rw [hc]; exact pC_end T n
  have hn := h.2.1
  rw [pJ, if_pos (by decide), ← hc]
  obtain ⟨nx, hnx⟩ : ∃ nx, nx = fun b => pJ c m (3 + 1) o b := ⟨_, rfl⟩
  have hx : ∀ b, pJ c m (3 + 1) o b = nx b := fun b => by rw [hnx]
  have hG : ∀ b, b ≤ n → pG n (pB (3 + 1) o) b (nx b) := fun b hb => by rw [hnx]; exact pJ_ok hend m (3 + 1) o b (by omega) hb
  rw [hx, show (fun b => pJ c m (3 + 1) o b) = nx from hnx.symm]
  refine CT.of rfl (Nat.le_of_ble_eq_true rfl) (fun X hX hR hN _ => ?_)
  have hX : Good X RX11 cX11_isS (D + 3) 0 0 := hX
  have hN : x_nl X = 2 := hN
  show WP X 0 0 0 [_, _] [] _
  refine wp_aload_n hX (dk DX11_isS 0 rfl) rfl ?_
  refine w_callVQ (As := []) lkX11_230 hX (dk DX11_isS 1 rfl) rfl rfl (by decide) hN (hNx sw f g T n a o K h ha hop hk hK ho hrk) (fun v_ sw_ f_ g_ hq_ => ?_)
  obtain ⟨rfl, rfl, rfl, e1, e2, e3, e4⟩ := hq_
  rw [← hc, hx] at e2 e4 ⊢
  show WP _ _ _ 4 [_, _] [_] _
  have g1 := hG a ha
  have h1 := h.same e1 e2
  by_cases c1 : (nx a).1 = true
  · rw [if_pos c1] at hR ⊢
    obtain ⟨gl, gk, gw⟩ := g1.2.2 c1
    obtain ⟨R0, hR0⟩ : ∃ R0, R0 = pJr c 3 nx 120 (nx a).2.1 (nx a).2.2 := ⟨_, rfl⟩
    rw [show (if 3 = 2 then 1 else 120) = 120 from rfl, ← hR0] at hR
    have sg : ∀ (b : Nat) (f2 : Nat → Nat → Int32) (z : Option Value), mtO f2 T n b → b ≤ n → WP X 0 0 38 [some (.ref 81), z] [.int (mo 3 (c b))] (S sw_ f2 g_) → WP X 0 0 9 [some (.ref 81), z] [] (S sw_ f2 g_) := by
      intro b f2 z h2 hb k3
      rw [mo3 (by rw [hc]; exact pC_in T n (fun j hj => (h2.2.2.1 j hj).2) b)] at k3
      refine wp_aload_n hX (dk DX11_isS 5 rfl) rfl ?_
      refine w_callV (As := []) lkX11_201 hX (dk DX11_isS 6 rfl) rfl rfl (by decide) hN (k_sign (D + 2) sw_ f2 g_ T n b h2 hb) ?_
      show WP _ _ _ 13 [_, _] [_] _
      rw [← hc]
      refine wp_bipush (v := 43) hX (dk DX11_isS 7 rfl) (by decide) ?_
      refine wp_icmp_ne (tgt := 23) hX (dk DX11_isS 8 rfl) (by decide) (fun h15 => ?_) (fun h15 => ?_)
      · refine wp_aload_n hX (dk DX11_isS 11 rfl) rfl ?_
        refine w_callV (As := []) lkX11_201 hX (dk DX11_isS 12 rfl) rfl rfl (by decide) hN (k_sign (D + 2) sw_ f2 g_ T n b h2 hb) ?_
        show WP _ _ _ 27 [_, _] [_] _
        rw [← hc]
        refine wp_bipush (v := 45) hX (dk DX11_isS 13 rfl) (by decide) ?_
        refine wp_icmp_ne (tgt := 37) hX (dk DX11_isS 14 rfl) (by decide) (fun h29 => ?_) (fun h29 => ?_)
        · refine wp_iconst (v := -1) hX (dk DX11_isS 17 rfl) (by decide) ?_
          first | (rw [if_pos h15] at k3; exact k3) | (rw [if_neg h15, if_pos h29] at k3; exact k3) | (rw [if_neg h15, if_neg h29] at k3; exact k3)
        · refine wp_bipush (v := 12) hX (dk DX11_isS 15 rfl) (by decide) ?_
          refine wp_goto (tgt := 38) hX (dk DX11_isS 16 rfl) (by decide) ?_
          first | (rw [if_pos h15] at k3; exact k3) | (rw [if_neg h15, if_pos h29] at k3; exact k3) | (rw [if_neg h15, if_neg h29] at k3; exact k3)
      · refine wp_bipush (v := 11) hX (dk DX11_isS 9 rfl) (by decide) ?_
        refine wp_goto (tgt := 38) hX (dk DX11_isS 10 rfl) (by decide) ?_
        first | (rw [if_pos h15] at k3; exact k3) | (rw [if_neg h15, if_pos h29] at k3; exact k3) | (rw [if_neg h15, if_neg h29] at k3; exact k3)
    have stop : ∀ (b : Nat) (k : List Nat) (f2 : Nat → Nat → Int32) (z : Option Value), pOp 3 (c b) = 0 → R0 = (true, b, k) → mtO f2 T n b → b ≤ n → mpS f f2 → f2 81 18 = nI o → cdO f2 (K ++ k) → WP X 0 0 9 [some (.ref 81), z] [] (S sw_ f2 g_) := by
      intro b k f2 z hp e h2 hb hs ho2 hk2
      refine sg b f2 z h2 hb ?_
      rw [show mo 3 (c b) = -1 from if_pos hp]
      refine wp_istore_n hX (dk DX11_isS 18 rfl) rfl rfl hN (Nat.le_of_ble_eq_true rfl) ?_
      show WP _ _ _ 39 [_, _] [] _
      refine wp_iload_n hX (dk DX11_isS 19 rfl) rfl ?_
      refine wp_if_ge (tgt := 45) hX (dk DX11_isS 20 rfl) (by decide) (fun h_ => absurd h_ (by decide)) (fun _ => ?_)
      refine wp_iconst (v := 1) hX (dk DX11_isS 21 rfl) (by decide) ?_
      exact wp_ireturn hX hR (dk DX11_isS 22 rfl) rfl (Nat.le_refl _) (Nat.le_refl _) (⟨_, _, _, rfl, by rw [e]; rfl, rfl, rfl, hs, by rw [e]; exact h2.2.2.2, ho2, fun _ => by rw [e]; exact hk2⟩)
    have lo : ∀ (q b : Nat) (k : List Nat) (f2 : Nat → Nat → Int32) (z : Option Value), n - b ≤ q → R0 = pJr c 3 nx q b k → K.length + k.length ≤ b → mtO f2 T n b → b ≤ n → mpS f f2 → f2 81 18 = nI o → cdO f2 (K ++ k) → WP X 0 0 9 [some (.ref 81), z] [] (S sw_ f2 g_) := by
      intro q
      induction q with
      | zero =>
        intro b k f2 z hq e hl h2 hb hs ho2 hk2
        exact stop b k f2 z (by rw [hend b (by omega)]; exact pOp_999 3) e h2 hb hs ho2 hk2
      | succ q ih =>
        intro b k f2 z hq e hl h2 hb hs ho2 hk2
        by_cases c2 : pOp 3 (c b) = 0
        · exact stop b k f2 z c2 (by rw [e, pJr_end c2]) h2 hb hs ho2 hk2
        · rw [pJr, if_neg c2] at e
          have hbn : b < n := by
            by_cases q : b < n
            · exact q
            · rw [hend b (by omega), pOp_999] at c2; exact absurd rfl c2
          have hop2 := pOp_ok c2
          have h3 := h2.same (mpS.at f2 (nI (b + 1))) (u2_at _ _ _ _)
          have g2 := hG (b + 1) hbn
          refine sg b f2 z h2 hb ?_
          rw [show mo 3 (c b) = nI (pOp 3 (c b)) from if_neg c2]
          by_cases c3 : (nx (b + 1)).1 = true
          · rw [if_pos c3] at e
            obtain ⟨y1, y2, y3⟩ := g2.2.2 c3
            have y4 := g2.2.1
            refine wp_istore_n hX (dk DX11_isS 18 rfl) rfl rfl hN (Nat.le_of_ble_eq_true rfl) ?_
            show WP _ _ _ 39 [_, _] [] _
            refine wp_iload_n hX (dk DX11_isS 19 rfl) rfl ?_
            refine wp_if_ge (tgt := 45) hX (dk DX11_isS 20 rfl) (by decide) (fun _ => ?_) (fun h_ => absurd (nI_le (a := 0) (by omega) (by omega)) h_)
            refine wp_aload_n hX (dk DX11_isS 23 rfl) rfl ?_
            refine wp_dup hX (dk DX11_isS 24 rfl) rfl ?_
            refine w_geti hX flX11_198 (dk DX11_isS 25 rfl) (by decide) rfl ?_
            rw [h2.2.2.2]
            refine wp_iconst (v := 1) hX (dk DX11_isS 26 rfl) (by decide) ?_
            refine wp_iadd hX (dk DX11_isS 27 rfl) ?_
            rw [nI_1]
            refine w_puti hX fpX11_198 (dk DX11_isS 28 rfl) rfl ?_
            refine wp_aload_n hX (dk DX11_isS 29 rfl) rfl ?_
            refine w_callVQ (As := []) lkX11_230 hX (dk DX11_isS 30 rfl) rfl rfl (by decide) hN (hNx sw_ _ g_ T n (b + 1) o (K ++ k) h3 hbn (by rw [u2_off _ _ _ (by decide)]; exact ho2) (hk2.at _) (by simp only [List.length_append]; omega) ho hrk) (fun v_b sw_b f_b g_b hq_b => ?_)
            obtain ⟨rfl, rfl, rfl, d1, d2, d3, d4⟩ := hq_b
            rw [← hc, hx] at d2 d4 ⊢
            rw [if_pos c3]
            show WP _ _ _ 59 [_, _] [_] _
            refine wp_if_ne (tgt := 64) hX (dk DX11_isS 31 rfl) (by decide) (fun _ => ?_) (fun h_ => absurd h_ (by decide))
            refine wp_aload_n hX (dk DX11_isS 34 rfl) rfl ?_
            refine wp_iload_n hX (dk DX11_isS 35 rfl) rfl ?_
            refine w_callVQ (As := [_]) lkX11_212 hX (dk DX11_isS 36 rfl) rfl rfl (by decide) hN (k_codes (D + 2) _ f_b _ _ _ (d4 c3) (by simp only [List.length_append]; omega)) (fun v_d sw_d f_d g_d hq_d => ?_)
            obtain ⟨rfl, rfl, rfl, w1, w2, w3, w4⟩ := hq_d
            show WP _ _ _ 69 [_, _] [_] _
            refine wp_pop hX (dk DX11_isS 37 rfl) rfl ?_
            refine wp_goto (tgt := 9) hX (dk DX11_isS 38 rfl) (by decide) ?_
            exact ih (nx (b + 1)).2.1 _ _ _ (by omega) e (by simp only [List.length_append, List.length_singleton]; omega) (h3.same (d1.trans w1) (w2.trans d2)) y4 (((hs.trans (mpS.at f2 _)).trans d1).trans w1) (w3.trans d3) (by simpa only [List.append_assoc] using w4)
          · rw [if_neg c3] at e
            refine wp_istore_n hX (dk DX11_isS 18 rfl) rfl rfl hN (Nat.le_of_ble_eq_true rfl) ?_
            show WP _ _ _ 39 [_, _] [] _
            refine wp_iload_n hX (dk DX11_isS 19 rfl) rfl ?_
            refine wp_if_ge (tgt := 45) hX (dk DX11_isS 20 rfl) (by decide) (fun _ => ?_) (fun h_ => absurd (nI_le (a := 0) (by omega) (by omega)) h_)
            refine wp_aload_n hX (dk DX11_isS 23 rfl) rfl ?_
            refine wp_dup hX (dk DX11_isS 24 rfl) rfl ?_
            refine w_geti hX flX11_198 (dk DX11_isS 25 rfl) (by decide) rfl ?_
            rw [h2.2.2.2]
            refine wp_iconst (v := 1) hX (dk DX11_isS 26 rfl) (by decide) ?_
            refine wp_iadd hX (dk DX11_isS 27 rfl) ?_
            rw [nI_1]
            refine w_puti hX fpX11_198 (dk DX11_isS 28 rfl) rfl ?_
            refine wp_aload_n hX (dk DX11_isS 29 rfl) rfl ?_
            refine w_callVQ (As := []) lkX11_230 hX (dk DX11_isS 30 rfl) rfl rfl (by decide) hN (hNx sw_ _ g_ T n (b + 1) o (K ++ k) h3 hbn (by rw [u2_off _ _ _ (by decide)]; exact ho2) (hk2.at _) (by simp only [List.length_append]; omega) ho hrk) (fun v_b sw_b f_b g_b hq_b => ?_)
            obtain ⟨rfl, rfl, rfl, d1, d2, d3, d4⟩ := hq_b
            rw [← hc, hx] at d2 d4 ⊢
            rw [if_neg c3]
            show WP _ _ _ 59 [_, _] [_] _
            refine wp_if_ne (tgt := 64) hX (dk DX11_isS 31 rfl) (by decide) (fun h_ => absurd (rfl) h_) (fun _ => ?_)
            refine wp_iconst (v := 0) hX (dk DX11_isS 32 rfl) (by decide) ?_
            exact wp_ireturn hX hR (dk DX11_isS 33 rfl) rfl (Nat.le_refl _) (Nat.le_refl _) (⟨_, _, _, rfl, by rw [e]; rfl, rfl, rfl, (hs.trans (mpS.at f2 _)).trans d1, by rw [e]; exact d2, d3, fun q => by rw [e] at q; exact Bool.noConfusion q⟩)
    refine wp_if_ne (tgt := 9) hX (dk DX11_isS 2 rfl) (by decide) (fun _ => ?_) (fun h_ => absurd h_ (by decide))
    exact lo 120 _ _ f_ _ (by omega) hR0 (by omega) h1 g1.2.1 e1 e3 (e4 c1)
  · rw [if_neg c1] at hR ⊢
    refine wp_if_ne (tgt := 9) hX (dk DX11_isS 2 rfl) (by decide) (fun h_ => absurd (rfl) h_) (fun _ => ?_)
    refine wp_iconst (v := 0) hX (dk DX11_isS 3 rfl) (by decide) ?_
    exact wp_ireturn hX hR (dk DX11_isS 4 rfl) rfl (Nat.le_refl _) (Nat.le_refl _) (⟨_, _, _, rfl, rfl, rfl, rfl, e1, e2, e3, fun q => Bool.noConfusion q⟩)
theorem k_mx2 (D m : Nat) (hNx : mxC (D + 2) m 3 iX11_isS) : mxC (D + 3) (m + 1) 2 iX11_isB := by
  intro sw f g T n a o K h ha hop hk hK ho hr
  have hrk : rk 3 o ≤ m := by unfold rk at hr ⊢; omega
  obtain ⟨c, hc⟩ : ∃ c, c = pC T n := ⟨_, rfl⟩
  have hend : ∀ a, n ≤ a → c a = 999 := by rw [hc]; exact pC_end T n
  have hn := h.2.1
  rw [pJ, if_pos (by decide), ← hc]
  obtain ⟨nx, hnx⟩ : ∃ nx, nx = fun b => pJ c m (2 + 1) o b := ⟨_, rfl⟩
  have hx : ∀ b, pJ c m (2 + 1) o b = nx b := fun b => by rw [hnx]
  have hG : ∀ b, b ≤ n → pG n (pB (2 + 1) o) b (nx b) := fun b hb => by rw [hnx]; exact pJ_ok hend m (2 + 1) o b (by omega) hb
  rw [hx, show (fun b => pJ c m (2 + 1) o b) = nx from hnx.symm]
  refine CT.of rfl (Nat.le_of_ble_eq_true rfl) (fun X hX hR hN _ => ?_)
  have hX : Good X RX11 cX11_isB (D + 3) 0 0 := hX
  have hN : x_nl X = 2 := hN
  show WP X 0 0 0 [_, _] [] _
  refine wp_aload_n hX (dk DX11_isB 0 rfl) rfl ?_
  refine w_callVQ (As := []) lkX11_233 hX (dk DX11_isB 1 rfl) rfl rfl (by decide) hN (hNx sw f g T n a o K h ha hop hk hK ho hrk) (fun v_ sw_ f_ g_ hq_ => ?_)
  obtain ⟨rfl, rfl, rfl, e1, e2, e3, e4⟩ := hq_
  rw [← hc, hx] at e2 e4 ⊢
  show WP _ _ _ 4 [_, _] [_] _
  have g1 := hG a ha
  have h1 := h.same e1 e2
  by_cases c1 : (nx a).1 = true
  · rw [if_pos c1] at hR ⊢
    obtain ⟨gl, gk, gw⟩ := g1.2.2 c1
    obtain ⟨R0, hR0⟩ : ∃ R0, R0 = pJr c 2 nx 1 (nx a).2.1 (nx a).2.2 := ⟨_, rfl⟩
    rw [show (if 2 = 2 then 1 else 120) = 1 from rfl, ← hR0] at hR
    have sg : ∀ (b : Nat) (f2 : Nat → Nat → Int32) (z : Option Value), mtO f2 T n b → b ≤ n → WP X 0 0 52 [some (.ref 81), z] [.int (mo 2 (c b))] (S sw_ f2 g_) → WP X 0 0 9 [some (.ref 81), z] [] (S sw_ f2 g_) := by
      intro b f2 z h2 hb k3
      rw [mo2 (by rw [hc]; exact pC_in T n (fun j hj => (h2.2.2.1 j hj).2) b)] at k3
      refine wp_aload_n hX (dk DX11_isB 5 rfl) rfl ?_
      refine w_callV (As := []) lkX11_201 hX (dk DX11_isB 6 rfl) rfl rfl (by decide) hN (k_sign (D + 2) sw_ f2 g_ T n b h2 hb) ?_
      show WP _ _ _ 13 [_, _] [_] _
      rw [← hc]
      refine wp_bipush (v := 60) hX (dk DX11_isB 7 rfl) (by decide) ?_
      refine wp_icmp_ne (tgt := 23) hX (dk DX11_isB 8 rfl) (by decide) (fun h15 => ?_) (fun h15 => ?_)
      · refine wp_aload_n hX (dk DX11_isB 11 rfl) rfl ?_
        refine w_callV (As := []) lkX11_201 hX (dk DX11_isB 12 rfl) rfl rfl (by decide) hN (k_sign (D + 2) sw_ f2 g_ T n b h2 hb) ?_
        show WP _ _ _ 27 [_, _] [_] _
        rw [← hc]
        refine wp_bipush (v := 61) hX (dk DX11_isB 13 rfl) (by decide) ?_
        refine wp_icmp_ne (tgt := 37) hX (dk DX11_isB 14 rfl) (by decide) (fun h29 => ?_) (fun h29 => ?_)
        · refine wp_aload_n hX (dk DX11_isB 17 rfl) rfl ?_
          refine w_callV (As := []) lkX11_201 hX (dk DX11_isB 18 rfl) rfl rfl (by decide) hN (k_sign (D + 2) sw_ f2 g_ T n b h2 hb) ?_
          show WP _ _ _ 41 [_, _] [_] _
          rw [← hc]
          refine wp_bipush (v := 62) hX (dk DX11_isB 19 rfl) (by decide) ?_
          refine wp_icmp_ne (tgt := 51) hX (dk DX11_isB 20 rfl) (by decide) (fun h43 => ?_) (fun h43 => ?_)
          · refine wp_iconst (v := -1) hX (dk DX11_isB 23 rfl) (by decide) ?_
            first | (rw [if_pos h15] at k3; exact k3) | (rw [if_neg h15, if_pos h29] at k3; exact k3) | (rw [if_neg h15, if_neg h29, if_pos h43] at k3; exact k3) | (rw [if_neg h15, if_neg h29, if_neg h43] at k3; exact k3)
          · refine wp_bipush (v := 10) hX (dk DX11_isB 21 rfl) (by decide) ?_
            refine wp_goto (tgt := 52) hX (dk DX11_isB 22 rfl) (by decide) ?_
            first | (rw [if_pos h15] at k3; exact k3) | (rw [if_neg h15, if_pos h29] at k3; exact k3) | (rw [if_neg h15, if_neg h29, if_pos h43] at k3; exact k3) | (rw [if_neg h15, if_neg h29, if_neg h43] at k3; exact k3)
        · refine wp_bipush (v := 9) hX (dk DX11_isB 15 rfl) (by decide) ?_
          refine wp_goto (tgt := 52) hX (dk DX11_isB 16 rfl) (by decide) ?_
          first | (rw [if_pos h15] at k3; exact k3) | (rw [if_neg h15, if_pos h29] at k3; exact k3) | (rw [if_neg h15, if_neg h29, if_pos h43] at k3; exact k3) | (rw [if_neg h15, if_neg h29, if_neg h43] at k3; exact k3)
      · refine wp_bipush (v := 8) hX (dk DX11_isB 9 rfl) (by decide) ?_
        refine wp_goto (tgt := 52) hX (dk DX11_isB 10 rfl) (by decide) ?_
        first | (rw [if_pos h15] at k3; exact k3) | (rw [if_neg h15, if_pos h29] at k3; exact k3) | (rw [if_neg h15, if_neg h29, if_pos h43] at k3; exact k3) | (rw [if_neg h15, if_neg h29, if_neg h43] at k3; exact k3)
    have stop : ∀ (b : Nat) (k : List Nat) (f2 : Nat → Nat → Int32) (z : Option Value), pOp 2 (c b) = 0 → R0 = (true, b, k) → mtO f2 T n b → b ≤ n → mpS f f2 → f2 81 18 = nI o → cdO f2 (K ++ k) → WP X 0 0 9 [some (.ref 81), z] [] (S sw_ f2 g_) := by
      intro b k f2 z hp e h2 hb hs ho2 hk2
      refine sg b f2 z h2 hb ?_
      rw [show mo 2 (c b) = -1 from if_pos hp]
      refine wp_istore_n hX (dk DX11_isB 24 rfl) rfl rfl hN (Nat.le_of_ble_eq_true rfl) ?_
      show WP _ _ _ 53 [_, _] [] _
      refine wp_iload_n hX (dk DX11_isB 25 rfl) rfl ?_
      refine wp_if_ge (tgt := 59) hX (dk DX11_isB 26 rfl) (by decide) (fun h_ => absurd h_ (by decide)) (fun _ => ?_)
      refine wp_iconst (v := 1) hX (dk DX11_isB 27 rfl) (by decide) ?_
      exact wp_ireturn hX hR (dk DX11_isB 28 rfl) rfl (Nat.le_refl _) (Nat.le_refl _) (⟨_, _, _, rfl, by rw [e]; rfl, rfl, rfl, hs, by rw [e]; exact h2.2.2.2, ho2, fun _ => by rw [e]; exact hk2⟩)
    have go : ∀ (b : Nat) (k : List Nat) (f2 : Nat → Nat → Int32) (z : Option Value), R0 = pJr c 2 nx 1 b k → K.length + k.length ≤ b → mtO f2 T n b → b ≤ n → mpS f f2 → f2 81 18 = nI o → cdO f2 (K ++ k) → WP X 0 0 9 [some (.ref 81), z] [] (S sw_ f2 g_) := by
        intro b k f2 z e hl h2 hb hs ho2 hk2
        by_cases c2 : pOp 2 (c b) = 0
        · exact stop b k f2 z c2 (by rw [e, pJr_end c2]) h2 hb hs ho2 hk2
        · rw [pJr, if_neg c2, pJr] at e
          have hbn : b < n := by
            by_cases q : b < n
            · exact q
            · rw [hend b (by omega), pOp_999] at c2; exact absurd rfl c2
          have hop2 := pOp_ok c2
          have h3 := h2.same (mpS.at f2 (nI (b + 1))) (u2_at _ _ _ _)
          have g2 := hG (b + 1) hbn
          refine sg b f2 z h2 hb ?_
          rw [show mo 2 (c b) = nI (pOp 2 (c b)) from if_neg c2]
          by_cases c3 : (nx (b + 1)).1 = true
          · rw [if_pos c3] at e
            obtain ⟨y1, y2, y3⟩ := g2.2.2 c3
            have y4 := g2.2.1
            refine wp_istore_n hX (dk DX11_isB 24 rfl) rfl rfl hN (Nat.le_of_ble_eq_true rfl) ?_
            show WP _ _ _ 53 [_, _] [] _
            refine wp_iload_n hX (dk DX11_isB 25 rfl) rfl ?_
            refine wp_if_ge (tgt := 59) hX (dk DX11_isB 26 rfl) (by decide) (fun _ => ?_) (fun h_ => absurd (nI_le (a := 0) (by omega) (by omega)) h_)
            refine wp_aload_n hX (dk DX11_isB 29 rfl) rfl ?_
            refine wp_dup hX (dk DX11_isB 30 rfl) rfl ?_
            refine w_geti hX flX11_198 (dk DX11_isB 31 rfl) (by decide) rfl ?_
            rw [h2.2.2.2]
            refine wp_iconst (v := 1) hX (dk DX11_isB 32 rfl) (by decide) ?_
            refine wp_iadd hX (dk DX11_isB 33 rfl) ?_
            rw [nI_1]
            refine w_puti hX fpX11_198 (dk DX11_isB 34 rfl) rfl ?_
            refine wp_aload_n hX (dk DX11_isB 35 rfl) rfl ?_
            refine w_callVQ (As := []) lkX11_233 hX (dk DX11_isB 36 rfl) rfl rfl (by decide) hN (hNx sw_ _ g_ T n (b + 1) o (K ++ k) h3 hbn (by rw [u2_off _ _ _ (by decide)]; exact ho2) (hk2.at _) (by simp only [List.length_append]; omega) ho hrk) (fun v_b sw_b f_b g_b hq_b => ?_)
            obtain ⟨rfl, rfl, rfl, d1, d2, d3, d4⟩ := hq_b
            rw [← hc, hx] at d2 d4 ⊢
            rw [if_pos c3]
            show WP _ _ _ 73 [_, _] [_] _
            refine wp_if_eq (tgt := 88) hX (dk DX11_isB 37 rfl) (by decide) (fun h_ => absurd h_ (by decide)) (fun _ => ?_)
            refine wp_aload_n hX (dk DX11_isB 38 rfl) rfl ?_
            refine wp_iload_n hX (dk DX11_isB 39 rfl) rfl ?_
            refine w_callVQ (As := [_]) lkX11_212 hX (dk DX11_isB 40 rfl) rfl rfl (by decide) hN (k_codes (D + 2) _ f_b _ _ _ (d4 c3) (by simp only [List.length_append]; omega)) (fun v_d sw_d f_d g_d hq_d => ?_)
            obtain ⟨rfl, rfl, rfl, w1, w2, w3, w4⟩ := hq_d
            show WP _ _ _ 81 [_, _] [_] _
            refine wp_if_eq (tgt := 88) hX (dk DX11_isB 41 rfl) (by decide) (fun h_ => absurd h_ (by decide)) (fun _ => ?_)
            refine wp_iconst (v := 1) hX (dk DX11_isB 42 rfl) (by decide) ?_
            refine wp_goto (tgt := 89) hX (dk DX11_isB 43 rfl) (by decide) ?_
            exact wp_ireturn hX hR (dk DX11_isB 45 rfl) rfl (Nat.le_refl _) (Nat.le_refl _) (⟨_, _, _, rfl, by rw [e]; rfl, rfl, rfl, ((hs.trans (mpS.at f2 _)).trans d1).trans w1, by rw [e, w2]; exact d2, w3.trans d3, fun _ => by rw [e]; simpa only [List.append_assoc] using w4⟩)
          · rw [if_neg c3] at e
            refine wp_istore_n hX (dk DX11_isB 24 rfl) rfl rfl hN (Nat.le_of_ble_eq_true rfl) ?_
            show WP _ _ _ 53 [_, _] [] _
            refine wp_iload_n hX (dk DX11_isB 25 rfl) rfl ?_
            refine wp_if_ge (tgt := 59) hX (dk DX11_isB 26 rfl) (by decide) (fun _ => ?_) (fun h_ => absurd (nI_le (a := 0) (by omega) (by omega)) h_)
            refine wp_aload_n hX (dk DX11_isB 29 rfl) rfl ?_
            refine wp_dup hX (dk DX11_isB 30 rfl) rfl ?_
            refine w_geti hX flX11_198 (dk DX11_isB 31 rfl) (by decide) rfl ?_
            rw [h2.2.2.2]
            refine wp_iconst (v := 1) hX (dk DX11_isB 32 rfl) (by decide) ?_
            refine wp_iadd hX (dk DX11_isB 33 rfl) ?_
            rw [nI_1]
            refine w_puti hX fpX11_198 (dk DX11_isB 34 rfl) rfl ?_
            refine wp_aload_n hX (dk DX11_isB 35 rfl) rfl ?_
            refine w_callVQ (As := []) lkX11_233 hX (dk DX11_isB 36 rfl) rfl rfl (by decide) hN (hNx sw_ _ g_ T n (b + 1) o (K ++ k) h3 hbn (by rw [u2_off _ _ _ (by decide)]; exact ho2) (hk2.at _) (by simp only [List.length_append]; omega) ho hrk) (fun v_b sw_b f_b g_b hq_b => ?_)
            obtain ⟨rfl, rfl, rfl, d1, d2, d3, d4⟩ := hq_b
            rw [← hc, hx] at d2 d4 ⊢
            rw [if_neg c3]
            show WP _ _ _ 73 [_, _] [_] _
            refine wp_if_eq (tgt := 88) hX (dk DX11_isB 37 rfl) (by decide) (fun _ => ?_) (fun h_ => absurd (rfl) h_)
            refine wp_iconst (v := 0) hX (dk DX11_isB 44 rfl) (by decide) ?_
            exact wp_ireturn hX hR (dk DX11_isB 45 rfl) rfl (Nat.le_refl _) (Nat.le_refl _) (⟨_, _, _, rfl, by rw [e]; rfl, rfl, rfl, (hs.trans (mpS.at f2 _)).trans d1, by rw [e]; exact d2, d3, fun q => by rw [e] at q; exact Bool.noConfusion q⟩)
    refine wp_if_ne (tgt := 9) hX (dk DX11_isB 2 rfl) (by decide) (fun _ => ?_) (fun h_ => absurd h_ (by decide))
    exact go _ _ f_ _ hR0 (by omega) h1 g1.2.1 e1 e3 (e4 c1)
  · rw [if_neg c1] at hR ⊢
    refine wp_if_ne (tgt := 9) hX (dk DX11_isB 2 rfl) (by decide) (fun h_ => absurd (rfl) h_) (fun _ => ?_)
    refine wp_iconst (v := 0) hX (dk DX11_isB 3 rfl) (by decide) ?_
    exact wp_ireturn hX hR (dk DX11_isB 4 rfl) rfl (Nat.le_refl _) (Nat.le_refl _) (⟨_, _, _, rfl, rfl, rfl, rfl, e1, e2, e3, fun q => Bool.noConfusion q⟩)
theorem k_mx (m : Nat) : ∀ D, mxC (D + 2 + m) m 0 iX11_isE ∧ mxC (D + 2 + m) m 1 iX11_isA ∧ mxC (D + 2 + m) m 2 iX11_isB ∧ mxC (D + 2 + m) m 3 iX11_isS ∧ mxC (D + 2 + m) m 4 iX11_isP ∧ mxC (D + 2 + m) m 5 iX11_isO := by
  induction m with
  | zero =>
    intro D
    refine ⟨?_, ?_, ?_, ?_, ?_, ?_⟩ <;> exact fun sw f g T n a o K h ha hop hk hK ho hr => absurd hr (by unfold rk; omega)
  | succ m ih =>
    intro D
    obtain ⟨i0, i1, i2, i3, i4, i5⟩ := ih D
    rw [show D + 2 + m = D + m + 2 by omega] at i0 i1 i2 i3 i4 i5
    rw [show D + 2 + (m + 1) = D + m + 3 by omega]
    exact ⟨k_mx0 (D + m) m i1, k_mx1 (D + m) m i2, k_mx2 (D + m) m i3, k_mx3 (D + m) m i4, k_mx4 (D + m) m i5, fun sw f g T n a o K h ha hop hk hK ho hr => k_mxO (D + m) m i0 i5 sw f g T n a o K h ha hop hk hK ho hr⟩
