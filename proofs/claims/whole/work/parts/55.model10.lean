/-! REFERENCE: law -/
/-- the reference knows the law L -/
def mlOk (f : Nat → Nat → Int32) (L : List (List Nat × List Nat)) : Prop := f 81 11 = (if L = [] then 0 else 1) ∧ f 81 12 = nI L.length ∧ L.length ≤ 60 ∧ (lcd L).length ≤ 120 ∧ lnR f 89 90 91 L ∧ ∀ (j k : Nat), (lcd L)[j]? = some k → f 92 j = nI k
/-- what law leaves of the reference -/
def mwS (f f2 : Nat → Nat → Int32) : Prop := (∀ b, (b < 81 ∨ 96 < b ∨ (81 < b ∧ b < 89)) → f2 b = f b) ∧ ∀ i, i ≠ 9 → i ≠ 11 → i ≠ 12 → i ≠ 17 → i ≠ 18 → i ≠ 19 → i ≠ 20 → f2 81 i = f 81 i
theorem mlS.mw {f f2 f3 : Nat → Nat → Int32} (h0 : mwS f f2) (h : mlS f2 f3) : mwS f f3 := ⟨fun b hb => (h.1 b (by omega) (by omega) (by omega) (by omega) (by omega)).trans (h0.1 b hb), fun i h1 h2 h3 h4 h5 h6 h7 => (h.2 i h4 h5 h6 h7).trans (h0.2 i h1 h2 h3 h4 h5 h6 h7)⟩
theorem mlS.mw9 {f f2 : Nat → Nat → Int32} {v : Int32} (h : mlS f f2) : mwS f (u2 f2 81 9 v) := ⟨fun b hb => by rw [u2_ne _ _ _ (by omega)]; exact h.1 b (by omega) (by omega) (by omega) (by omega) (by omega), fun i h1 _ _ h4 h5 h6 h7 => by rw [u2_off _ _ _ h1]; exact h.2 i h4 h5 h6 h7⟩
theorem mlS.k19 (f : Nat → Nat → Int32) (v : Int32) : mlS f (u2 f 81 19 v) := ⟨fun b2 g1 _ _ _ _ => u2_ne _ _ _ g1, fun i _ _ h _ => u2_off _ _ _ h⟩
theorem k_mcp3 (f2 f : Nat → Nat → Int32) (j k : Nat) (e1 : f2 93 = f 93) (e2 : f2 94 = f 94) (e3 : f2 95 = f 95) (h : k < j → f2 89 k = f 93 k ∧ f2 90 k = f 94 k ∧ f2 91 k = f 95 k) (hk : k ≤ j) : u2 (u2 (u2 f2 89 j (f2 93 j)) 90 j (f2 94 j)) 91 j (f2 95 j) 89 k = f 93 k ∧ u2 (u2 (u2 f2 89 j (f2 93 j)) 90 j (f2 94 j)) 91 j (f2 95 j) 90 k = f 94 k ∧ u2 (u2 (u2 f2 89 j (f2 93 j)) 90 j (f2 94 j)) 91 j (f2 95 j) 91 k = f 95 k := by
  rw [u2_ne _ _ _ (show (89 : Nat) ≠ 91 by decide), u2_ne _ _ _ (show (89 : Nat) ≠ 90 by decide), u2_ne _ _ _ (show (90 : Nat) ≠ 91 by decide)]
  by_cases c : k = j
  · subst c
    rw [u2_at, u2_at, u2_at, e1, e2, e3]
    exact ⟨rfl, rfl, rfl⟩
  · rw [u2_off _ _ _ c, u2_off _ _ _ c, u2_off _ _ _ c, u2_ne _ _ _ (show (90 : Nat) ≠ 89 by decide), u2_ne _ _ _ (show (91 : Nat) ≠ 90 by decide), u2_ne _ _ _ (show (91 : Nat) ≠ 89 by decide)]
    exact h (by omega)
theorem k_mcopy (d : Nat) (sw : Bool) (f : Nat → Nat → Int32) (g : Nat → Nat → Int64) (L : List (List Nat × List Nat)) (hL : ¬ L = []) (hL2 : L.length ≤ 60) (hK : (lcd L).length ≤ 120) (hk : cdO f (lcd L)) (hl : lnO f L) {X : cxT} {Q : Option Value → mM → Prop} (hX : Good X RX11 cX11_law (d + 110) 0 0) (hN : x_nl X = 4) (hR : RQ X (some FieldType.int) 0 0 Q) (hQ : ∀ f2, (∀ b, (b < 81 ∨ 92 < b ∨ (81 < b ∧ b < 89)) → f2 b = f b) → (∀ i, i ≠ 11 → i ≠ 12 → f2 81 i = f 81 i) → mlOk f2 L → Q (some (.int 1)) (S sw f2 g)) (z y : Int32) (x : Option Value) : WP X 0 0 84 [some (.ref 81), some (.int z), some (.int y), x] [] (S sw f g) := by
  have codes : ∀ (m j : Nat) (f2 : Nat → Nat → Int32), j + m = (lcd L).length → (∀ b, (b < 81 ∨ 92 < b ∨ (81 < b ∧ b < 89)) → f2 b = f b) → (∀ i, i ≠ 11 → i ≠ 12 → f2 81 i = f 81 i) → f2 81 11 = 1 → f2 81 12 = nI L.length → lnR f2 89 90 91 L → (∀ k, k < j → f2 92 k = f 96 k) → WP X 0 0 151 [some (.ref 81), some (.int z), some (.int y), some (.int (nI j))] [] (S sw f2 g) := by
    intro m
    induction m with
    | zero =>
      intro j f2 hj h1 h2 h3 h4 h5 h6
      obtain rfl : j = (lcd L).length := by omega
      refine wp_iload_n hX (dk DX11_law_1 27 rfl) rfl ?_
      refine wp_aload_n hX (dk DX11_law_1 28 rfl) rfl ?_
      refine w_geti hX flX11_205 (dk DX11_law_1 29 rfl) (by decide) rfl ?_
      rw [h2 19 (by decide) (by decide), hk.1]
      refine wp_icmp_ge (tgt := 177) hX (dk DX11_law_1 30 rfl) (by decide) (fun _ => ?_) (fun h_ => absurd (nI_le (by omega) (by omega)) h_)
      refine wp_iconst (v := 1) hX (dk DX11_law_1 41 rfl) (by decide) ?_
      exact wp_ireturn hX hR (dk DX11_law_1 42 rfl) rfl (Nat.le_refl _) (Nat.le_refl _) (hQ f2 h1 h2 ⟨by rw [if_neg hL]; exact h3, h4, hL2, hK, h5, fun j k hj => by rw [h6 j (List.getElem?_eq_some_iff.mp hj).1]; exact hk.2 j k hj⟩)
    | succ m ih =>
      intro j f2 hj h1 h2 h3 h4 h5 h6
      refine wp_iload_n hX (dk DX11_law_1 27 rfl) rfl ?_
      refine wp_aload_n hX (dk DX11_law_1 28 rfl) rfl ?_
      refine w_geti hX flX11_205 (dk DX11_law_1 29 rfl) (by decide) rfl ?_
      rw [h2 19 (by decide) (by decide), hk.1]
      refine wp_icmp_ge (tgt := 177) hX (dk DX11_law_1 30 rfl) (by decide) (fun h_ => absurd h_ (nI_ge (by omega) (by omega))) (fun _ => ?_)
      refine wp_aload_n hX (dk DX11_law_1 31 rfl) rfl ?_
      refine w_getr hX flX11_42 (dk DX11_law_1 32 rfl) rfl rfl ?_
      refine wp_iload_n hX (dk DX11_law_1 33 rfl) rfl ?_
      refine wp_aload_n hX (dk DX11_law_1 34 rfl) rfl ?_
      refine w_getr hX flX11_54 (dk DX11_law_1 35 rfl) rfl rfl ?_
      refine wp_iload_n hX (dk DX11_law_1 36 rfl) rfl ?_
      refine w_iald (j := _) hX (dk DX11_law_1 37 rfl) rfl rfl (show _ < 200 by omega) ?_
      refine w_iast (j := _) hX (dk DX11_law_1 38 rfl) rfl rfl (show _ < 200 by omega) ?_
      refine wp_iinc hX (dk DX11_law_1 39 rfl) rfl (nI_inc _) rfl hN ?_
      show WP _ _ _ 174 [_, _, _, _] [] _
      refine wp_goto (tgt := 151) hX (dk DX11_law_1 40 rfl) (by decide) ?_
      refine ih (j + 1) _ (by omega) (fun b hb => by rw [u2_ne _ _ _ (by omega)]; exact h1 b hb) (fun i h7 h8 => by rw [u2_ne _ _ _ (by decide)]; exact h2 i h7 h8) (by rw [u2_ne _ _ _ (by decide)]; exact h3) (by rw [u2_ne _ _ _ (by decide)]; exact h4) (fun i l hi => by rw [u2_ne _ _ _ (by decide), u2_ne _ _ _ (by decide), u2_ne _ _ _ (by decide)]; exact h5 i l hi) (fun k hk2 => ?_)
      by_cases q : k = j
      · rw [q, u2_at, h1 96 (by decide)]
      · rw [u2_off _ _ _ q]; exact h6 k (by omega)
  have lines : ∀ (m j : Nat) (f2 : Nat → Nat → Int32), j + m = L.length → (∀ b, (b < 81 ∨ 92 < b ∨ (81 < b ∧ b < 89)) → f2 b = f b) → (∀ i, i ≠ 11 → i ≠ 12 → f2 81 i = f 81 i) → f2 81 11 = 1 → f2 81 12 = nI L.length → (∀ k, k < j → f2 89 k = f 93 k ∧ f2 90 k = f 94 k ∧ f2 91 k = f 95 k) → WP X 0 0 99 [some (.ref 81), some (.int z), some (.int y), some (.int (nI j))] [] (S sw f2 g) := by
    intro m
    induction m with
    | zero =>
      intro j f2 hj h1 h2 h3 h4 h5
      obtain rfl : j = L.length := by omega
      refine wp_iload_n hX (dk DX11_law 55 rfl) rfl ?_
      refine wp_aload_n hX (dk DX11_law 56 rfl) rfl ?_
      refine w_geti hX flX11_252 (dk DX11_law 57 rfl) (by decide) rfl ?_
      rw [h4]
      refine wp_icmp_ge (tgt := 149) hX (dk DX11_law 58 rfl) (by decide) (fun _ => ?_) (fun h_ => absurd (nI_le (by omega) (by omega)) h_)
      refine wp_iconst (v := 0) hX (dk DX11_law_1 25 rfl) (by decide) ?_
      refine wp_istore_n hX (dk DX11_law_1 26 rfl) rfl rfl hN (Nat.le_of_ble_eq_true rfl) ?_
      show WP _ _ _ 151 [_, _, _, _] [] _
      refine codes (lcd L).length 0 f2 (by omega) h1 h2 h3 h4 (fun i l hi => ?_) (fun k hk2 => absurd hk2 (Nat.not_lt_zero k))
      obtain ⟨q1, q2, q3⟩ := h5 i (List.getElem?_eq_some_iff.mp hi).1
      rw [q1, q2, q3]
      exact hl.2 i l hi
    | succ m ih =>
      intro j f2 hj h1 h2 h3 h4 h5
      refine wp_iload_n hX (dk DX11_law 55 rfl) rfl ?_
      refine wp_aload_n hX (dk DX11_law 56 rfl) rfl ?_
      refine w_geti hX flX11_252 (dk DX11_law 57 rfl) (by decide) rfl ?_
      rw [h4]
      refine wp_icmp_ge (tgt := 149) hX (dk DX11_law 58 rfl) (by decide) (fun h_ => absurd h_ (nI_ge (by omega) (by omega))) (fun _ => ?_)
      refine wp_aload_n hX (dk DX11_law 59 rfl) rfl ?_
      refine w_getr hX flX11_33 (dk DX11_law_1 0 rfl) rfl rfl ?_
      refine wp_iload_n hX (dk DX11_law_1 1 rfl) rfl ?_
      refine wp_aload_n hX (dk DX11_law_1 2 rfl) rfl ?_
      refine w_getr hX flX11_45 (dk DX11_law_1 3 rfl) rfl rfl ?_
      refine wp_iload_n hX (dk DX11_law_1 4 rfl) rfl ?_
      refine w_iald (j := _) hX (dk DX11_law_1 5 rfl) rfl rfl (show _ < 61 by omega) ?_
      refine w_iast (j := _) hX (dk DX11_law_1 6 rfl) rfl rfl (show _ < 60 by omega) ?_
      refine wp_aload_n hX (dk DX11_law_1 7 rfl) rfl ?_
      refine w_getr hX flX11_36 (dk DX11_law_1 8 rfl) rfl rfl ?_
      refine wp_iload_n hX (dk DX11_law_1 9 rfl) rfl ?_
      refine wp_aload_n hX (dk DX11_law_1 10 rfl) rfl ?_
      refine w_getr hX flX11_48 (dk DX11_law_1 11 rfl) rfl rfl ?_
      refine wp_iload_n hX (dk DX11_law_1 12 rfl) rfl ?_
      refine w_iald (j := _) hX (dk DX11_law_1 13 rfl) rfl rfl (show _ < 61 by omega) ?_
      refine w_iast (j := _) hX (dk DX11_law_1 14 rfl) rfl rfl (show _ < 60 by omega) ?_
      refine wp_aload_n hX (dk DX11_law_1 15 rfl) rfl ?_
      refine w_getr hX flX11_39 (dk DX11_law_1 16 rfl) rfl rfl ?_
      refine wp_iload_n hX (dk DX11_law_1 17 rfl) rfl ?_
      refine wp_aload_n hX (dk DX11_law_1 18 rfl) rfl ?_
      refine w_getr hX flX11_51 (dk DX11_law_1 19 rfl) rfl rfl ?_
      refine wp_iload_n hX (dk DX11_law_1 20 rfl) rfl ?_
      refine w_iald (j := _) hX (dk DX11_law_1 21 rfl) rfl rfl (show _ < 61 by omega) ?_
      refine w_iast (j := _) hX (dk DX11_law_1 22 rfl) rfl rfl (show _ < 60 by omega) ?_
      refine wp_iinc hX (dk DX11_law_1 23 rfl) rfl (nI_inc _) rfl hN ?_
      show WP _ _ _ 146 [_, _, _, _] [] _
      refine wp_goto (tgt := 99) hX (dk DX11_law_1 24 rfl) (by decide) ?_
      refine ih (j + 1) _ (by omega) (fun b hb => by rw [u2_ne _ _ _ (by omega), u2_ne _ _ _ (by omega), u2_ne _ _ _ (by omega)]; exact h1 b hb) (fun i h7 h8 => by rw [u2_ne _ _ _ (by decide), u2_ne _ _ _ (by decide), u2_ne _ _ _ (by decide)]; exact h2 i h7 h8) (by rw [u2_ne _ _ _ (by decide), u2_ne _ _ _ (by decide), u2_ne _ _ _ (by decide)]; exact h3) (by rw [u2_ne _ _ _ (by decide), u2_ne _ _ _ (by decide), u2_ne _ _ _ (by decide)]; exact h4) (fun k hk2 => ?_)
      refine k_mcp3 f2 f j k (h1 93 (by decide)) (h1 94 (by decide)) (h1 95 (by decide)) (fun c => h5 k (by omega)) (by omega)
  refine wp_aload_n hX (dk DX11_law 46 rfl) rfl ?_
  refine wp_iconst (v := 1) hX (dk DX11_law 47 rfl) (by decide) ?_
  refine w_putz hX fpX11_248 (dk DX11_law 48 rfl) (by decide) rfl ?_
  refine wp_aload_n hX (dk DX11_law 49 rfl) rfl ?_
  refine wp_aload_n hX (dk DX11_law 50 rfl) rfl ?_
  refine w_geti hX flX11_242 (dk DX11_law 51 rfl) (by decide) rfl ?_
  rw [u2_off _ _ _ (by decide), hl.1]
  refine w_puti hX fpX11_252 (dk DX11_law 52 rfl) rfl ?_
  refine wp_iconst (v := 0) hX (dk DX11_law 53 rfl) (by decide) ?_
  refine wp_istore_n hX (dk DX11_law 54 rfl) rfl rfl hN (Nat.le_of_ble_eq_true rfl) ?_
  show WP _ _ _ 99 [_, _, _, _] [] _
  exact lines L.length 0 _ (by omega) (fun b hb => by rw [u2_ne _ _ _ (by omega), u2_ne _ _ _ (by omega)]) (fun i h1 h2 => by rw [u2_off _ _ _ h2, u2_off _ _ _ h1]) (by rw [u2_off _ _ _ (by decide), u2_at]) (u2_at _ _ _ _) (fun k hk2 => absurd hk2 (Nat.not_lt_zero k))
theorem u_law (d : Nat) (sw : Bool) (f : Nat → Nat → Int32) (g : Nat → Nat → Int64) (T : Nat → Nat) (n a0 : Nat) (h : mtO f T n a0) : CT (d + 110) 0 0 iX11_law [.ref 81] (S sw f g) (QS (fun r _ f2 g2 => r = some (.int (if (pLs (pC T n) n 121 0 []).1 = [] then -100 - nI (pLs (pC T n) n 121 0 []).2 else 1)) ∧ g2 = g ∧ mwS f f2 ∧ f2 81 9 = 0 ∧ (if (pLs (pC T n) n 121 0 []).1 = [] then (∀ b, 88 < b → b < 93 → f2 b = f b) ∧ f2 81 11 = f 81 11 ∧ f2 81 12 = f 81 12 else mlOk f2 (pLs (pC T n) n 121 0 []).1))) := by
  obtain ⟨c, hc⟩ : ∃ c, c = pC T n := ⟨_, rfl⟩
  have hend : ∀ a, n ≤ a → c a = 999 := by rw [hc]; exact pC_end T n
  have hn := h.2.1
  obtain ⟨R0, hR0⟩ : ∃ R0, R0 = pLs c n 121 0 [] := ⟨_, rfl⟩
  rw [← hc, ← hR0]
  refine CT.of rfl (Nat.le_of_ble_eq_true rfl) (fun X hX hR hN _ => ?_)
  have hX : Good X RX11 cX11_law (d + 110) 0 0 := hX
  have hN : x_nl X = 4 := hN
  show WP X 0 0 0 [_, _, _, _] [] _
  have bad : ∀ (a : Nat) (L : List (List Nat × List Nat)) (f2 : Nat → Nat → Int32) (q : Nat), ¬ (pLn c a).1 = true → R0 = pLs c n (q + 1) a L → mlS f f2 → mtO f2 T n (pLn c a).2.1 → WP X 0 0 25 [some (.ref 81), some (.int (if (pLn c a).1 then 1 else 0)), none, none] [] (S sw f2 g) := by
    intro a L f2 q cf e hs h2
    rw [pLs, if_neg cf] at e
    rw [e] at hR
    rw [if_neg cf]
    refine wp_iload_n hX (dk DX11_law 15 rfl) rfl ?_
    refine wp_if_eq (tgt := 46) hX (dk DX11_law 16 rfl) (by decide) (fun _ => ?_) (fun h_ => absurd (rfl) h_)
    refine wp_iload_n hX (dk DX11_law 25 rfl) rfl ?_
    refine wp_if_eq (tgt := 65) hX (dk DX11_law 26 rfl) (by decide) (fun _ => ?_) (fun h_ => absurd (rfl) h_)
    refine wp_iconst (v := 0) hX (dk DX11_law 34 rfl) (by decide) ?_
    refine wp_istore_n hX (dk DX11_law 35 rfl) rfl rfl hN (Nat.le_of_ble_eq_true rfl) ?_
    show WP _ _ _ 67 [_, _, _, _] [] _
    refine wp_aload_n hX (dk DX11_law 36 rfl) rfl ?_
    refine wp_iconst (v := 0) hX (dk DX11_law 37 rfl) (by decide) ?_
    refine w_puti hX fpX11_195 (dk DX11_law 38 rfl) rfl ?_
    refine wp_iload_n hX (dk DX11_law 39 rfl) rfl ?_
    refine wp_if_ne (tgt := 84) hX (dk DX11_law 40 rfl) (by decide) (fun h_ => absurd (rfl) h_) (fun _ => ?_)
    refine wp_bipush (v := -100) hX (dk DX11_law 41 rfl) (by decide) ?_
    refine wp_aload_n hX (dk DX11_law 42 rfl) rfl ?_
    refine w_geti hX flX11_198 (dk DX11_law 43 rfl) (by decide) rfl ?_
    rw [u2_off _ _ _ (by decide), h2.2.2.2]
    refine wp_isub hX (dk DX11_law 44 rfl) ?_
    exact wp_ireturn hX hR (dk DX11_law 45 rfl) rfl (Nat.le_refl _) (Nat.le_refl _) (⟨_, _, _, rfl, by rw [if_pos rfl], rfl, mlS.mw9 hs, u2_at _ _ _ _, by rw [if_pos rfl]; exact ⟨fun b b1 b2 => by rw [u2_ne _ _ _ (by omega)]; exact hs.1 b (by omega) (by omega) (by omega) (by omega) (by omega), by rw [u2_off _ _ _ (by decide)]; exact hs.2 11 (by decide) (by decide) (by decide) (by decide), by rw [u2_off _ _ _ (by decide)]; exact hs.2 12 (by decide) (by decide) (by decide) (by decide)⟩⟩)
  have lo : ∀ (q a : Nat) (L : List (List Nat × List Nat)) (f2 : Nat → Nat → Int32), n ≤ a + q → a ≤ n → R0 = pLs c n (q + 1) a L → mlS f f2 → mtO f2 T n (pLn c a).2.1 → f2 81 18 = nI 0 → ((pLn c a).1 = true → cdO f2 (lcd (L ++ [(pLn c a).2.2])) ∧ lnO f2 (L ++ [(pLn c a).2.2])) → (lcd L).length + L.length ≤ a → 2 * L.length ≤ a → WP X 0 0 25 [some (.ref 81), some (.int (if (pLn c a).1 then 1 else 0)), none, none] [] (S sw f2 g) := by
    intro q
    induction q with
    | zero =>
      intro a L f2 hq ha e hs h2 ho hx hl hl2
      have cf : ¬ (pLn c a).1 = true := fun q => by
        obtain ⟨x1, x2, x3⟩ := pLn_ok hend ha
        have := (x3 q).1
        omega
      exact bad a L f2 0 cf e hs h2
    | succ q ih =>
      intro a L f2 hq ha e hs h2 ho hx hl hl2
      by_cases c1 : (pLn c a).1 = true
      · obtain ⟨x1, x2, x3⟩ := pLn_ok hend ha
        obtain ⟨y1, y2, y3⟩ := x3 c1
        obtain ⟨k1, k2⟩ := hx c1
        have hlen : (lcd (L ++ [(pLn c a).2.2])).length = (lcd L).length + (pLn c a).2.2.1.length + (pLn c a).2.2.2.length := by rw [lcd_app]; simp [lcd]; omega
        have hlen2 : (lcd (L ++ [(pLn c a).2.2])).length + L.length ≤ (pLn c a).2.1 := by
          rw [hlen]
          rcases y3 with ⟨q1, q2⟩ | ⟨q1, q2, q3⟩
          · rw [q1]; simp only [List.length_nil]; omega
          · omega
        rw [pLs, if_pos c1] at e
        rw [if_pos c1]
        by_cases c2 : (pLn c a).2.1 = n
        · rw [if_pos c2] at e
          rw [e] at hR
          refine wp_iload_n hX (dk DX11_law 15 rfl) rfl ?_
          refine wp_if_eq (tgt := 46) hX (dk DX11_law 16 rfl) (by decide) (fun h_ => absurd h_ (by decide)) (fun _ => ?_)
          refine wp_aload_n hX (dk DX11_law 17 rfl) rfl ?_
          refine wp_bipush (v := 59) hX (dk DX11_law 18 rfl) (by decide) ?_
          refine w_callV (As := [_]) lkX11_221 hX (dk DX11_law 19 rfl) rfl rfl (by decide) hN (k_is0 (d + 108) _ f2 _ T n _ 59 h2 x2 (by decide) (by rw [← hc, hend _ (by omega)]; decide)) ?_
          show WP _ _ _ 35 [_, _, _, _] [_] _
          refine wp_if_eq (tgt := 46) hX (dk DX11_law 20 rfl) (by decide) (fun _ => ?_) (fun h_ => absurd (rfl) h_)
          refine wp_iload_n hX (dk DX11_law 25 rfl) rfl ?_
          refine wp_if_eq (tgt := 65) hX (dk DX11_law 26 rfl) (by decide) (fun h_ => absurd h_ (by decide)) (fun _ => ?_)
          refine wp_aload_n hX (dk DX11_law 27 rfl) rfl ?_
          refine w_geti hX flX11_198 (dk DX11_law 28 rfl) (by decide) rfl ?_
          rw [h2.2.2.2, c2]
          refine wp_aload_n hX (dk DX11_law 29 rfl) rfl ?_
          refine w_geti hX flX11_195 (dk DX11_law 30 rfl) (by decide) rfl ?_
          rw [h2.1]
          refine wp_icmp_ne (tgt := 65) hX (dk DX11_law 31 rfl) (by decide) (fun h_ => absurd (rfl) h_) (fun _ => ?_)
          refine wp_iconst (v := 1) hX (dk DX11_law 32 rfl) (by decide) ?_
          refine wp_goto (tgt := 66) hX (dk DX11_law 33 rfl) (by decide) ?_
          refine wp_istore_n hX (dk DX11_law 35 rfl) rfl rfl hN (Nat.le_of_ble_eq_true rfl) ?_
          show WP _ _ _ 67 [_, _, _, _] [] _
          refine wp_aload_n hX (dk DX11_law 36 rfl) rfl ?_
          refine wp_iconst (v := 0) hX (dk DX11_law 37 rfl) (by decide) ?_
          refine w_puti hX fpX11_195 (dk DX11_law 38 rfl) rfl ?_
          refine wp_iload_n hX (dk DX11_law 39 rfl) rfl ?_
          refine wp_if_ne (tgt := 84) hX (dk DX11_law 40 rfl) (by decide) (fun _ => ?_) (fun h_ => absurd h_ (by decide))
          refine k_mcopy d sw _ g (L ++ [(pLn c a).2.2]) (by simp) (by simp; omega) (by omega) (k1.cg (u2_off _ _ _ (by decide)) (u2_ne _ _ _ (by decide))) ⟨by rw [u2_off _ _ _ (by decide)]; exact k2.1, fun i l hi => by rw [u2_ne _ _ _ (by decide), u2_ne _ _ _ (by decide), u2_ne _ _ _ (by decide)]; exact k2.2 i l hi⟩ hX hN hR (fun f3 w1 w2 w3 => ⟨_, _, _, rfl, by rw [if_neg (by simp)], rfl, ⟨fun b hb => ?_, fun i g1 g2 g3 g4 g5 g6 g7 => ?_⟩, ?_, by rw [if_neg (by simp)]; exact w3⟩) _ _ _
          · rw [w1 b (by omega), u2_ne _ _ _ (by omega)]; exact hs.1 b (by omega) (by omega) (by omega) (by omega) (by omega)
          · rw [w2 i g2 g3, u2_off _ _ _ g1]; exact hs.2 i g4 g5 g6 g7
          · rw [w2 9 (by decide) (by decide), u2_at]
        · rw [if_neg c2] at e
          by_cases c3 : c (pLn c a).2.1 = 59
          · rw [if_pos c3] at e
            have a2 : (pLn c a).2.1 + 1 ≤ n := by omega
            have hll : (L ++ [(pLn c a).2.2]).length = L.length + 1 := by simp
            have h3 : mtO (u2 f2 81 17 (nI ((pLn c a).2.1 + 1))) T n ((pLn c a).2.1 + 1) := h2.same (mpS.at f2 _) (u2_at _ _ _ _)
            refine wp_iload_n hX (dk DX11_law 15 rfl) rfl ?_
            refine wp_if_eq (tgt := 46) hX (dk DX11_law 16 rfl) (by decide) (fun h_ => absurd h_ (by decide)) (fun _ => ?_)
            refine wp_aload_n hX (dk DX11_law 17 rfl) rfl ?_
            refine wp_bipush (v := 59) hX (dk DX11_law 18 rfl) (by decide) ?_
            refine w_callV (As := [_]) lkX11_221 hX (dk DX11_law 19 rfl) rfl rfl (by decide) hN (k_is1 (d + 108) _ f2 _ T n _ 59 h2 x2 (by decide) (by rw [← hc]; exact c3)) ?_
            show WP _ _ _ 35 [_, _, _, _] [_] _
            refine wp_if_eq (tgt := 46) hX (dk DX11_law 20 rfl) (by decide) (fun h_ => absurd h_ (by decide)) (fun _ => ?_)
            refine wp_aload_n hX (dk DX11_law 21 rfl) rfl ?_
            refine w_callVQ (As := []) lkX11_245 hX (dk DX11_law 22 rfl) rfl rfl (by decide) hN (k_mLn (d + 58) _ _ _ T n _ (L ++ [(pLn c a).2.2]) h3 a2 (by rw [u2_off _ _ _ (by decide)]; exact ho) (k1.at _) ⟨by rw [u2_off _ _ _ (by decide)]; exact k2.1, fun i l hi => by rw [u2_ne _ _ _ (by decide), u2_ne _ _ _ (by decide), u2_ne _ _ _ (by decide)]; exact k2.2 i l hi⟩ (by omega) (by omega)) (fun v_ sw_ f_ g_ hq_ => ?_)
            obtain ⟨rfl, rfl, rfl, e1, e2, e3, e4⟩ := hq_
            rw [← hc] at e2 e4 ⊢
            show WP _ _ _ 42 [_, _, _, _] [_] _
            refine wp_istore_n hX (dk DX11_law 23 rfl) rfl rfl hN (Nat.le_of_ble_eq_true rfl) ?_
            show WP _ _ _ 43 [_, _, _, _] [] _
            refine wp_goto (tgt := 25) hX (dk DX11_law 24 rfl) (by decide) ?_
            refine ih _ _ f_ (by omega) a2 e ((hs.trans (mpS.at f2 _).ml).trans e1) (h3.ml e1 e2) e3 e4 (by omega) (by omega)
          · rw [if_neg c3] at e
            rw [e] at hR
            refine wp_iload_n hX (dk DX11_law 15 rfl) rfl ?_
            refine wp_if_eq (tgt := 46) hX (dk DX11_law 16 rfl) (by decide) (fun h_ => absurd h_ (by decide)) (fun _ => ?_)
            refine wp_aload_n hX (dk DX11_law 17 rfl) rfl ?_
            refine wp_bipush (v := 59) hX (dk DX11_law 18 rfl) (by decide) ?_
            refine w_callV (As := [_]) lkX11_221 hX (dk DX11_law 19 rfl) rfl rfl (by decide) hN (k_is0 (d + 108) _ f2 _ T n _ 59 h2 x2 (by decide) (by rw [← hc]; exact c3)) ?_
            show WP _ _ _ 35 [_, _, _, _] [_] _
            refine wp_if_eq (tgt := 46) hX (dk DX11_law 20 rfl) (by decide) (fun _ => ?_) (fun h_ => absurd (rfl) h_)
            refine wp_iload_n hX (dk DX11_law 25 rfl) rfl ?_
            refine wp_if_eq (tgt := 65) hX (dk DX11_law 26 rfl) (by decide) (fun h_ => absurd h_ (by decide)) (fun _ => ?_)
            refine wp_aload_n hX (dk DX11_law 27 rfl) rfl ?_
            refine w_geti hX flX11_198 (dk DX11_law 28 rfl) (by decide) rfl ?_
            rw [h2.2.2.2]
            refine wp_aload_n hX (dk DX11_law 29 rfl) rfl ?_
            refine w_geti hX flX11_195 (dk DX11_law 30 rfl) (by decide) rfl ?_
            rw [h2.1]
            refine wp_icmp_ne (tgt := 65) hX (dk DX11_law 31 rfl) (by decide) (fun _ => ?_) (fun h_ => absurd h_ (fun q => c2 ((nI_eq (by omega) (by omega)).mp q)))
            refine wp_iconst (v := 0) hX (dk DX11_law 34 rfl) (by decide) ?_
            refine wp_istore_n hX (dk DX11_law 35 rfl) rfl rfl hN (Nat.le_of_ble_eq_true rfl) ?_
            show WP _ _ _ 67 [_, _, _, _] [] _
            refine wp_aload_n hX (dk DX11_law 36 rfl) rfl ?_
            refine wp_iconst (v := 0) hX (dk DX11_law 37 rfl) (by decide) ?_
            refine w_puti hX fpX11_195 (dk DX11_law 38 rfl) rfl ?_
            refine wp_iload_n hX (dk DX11_law 39 rfl) rfl ?_
            refine wp_if_ne (tgt := 84) hX (dk DX11_law 40 rfl) (by decide) (fun h_ => absurd (rfl) h_) (fun _ => ?_)
            refine wp_bipush (v := -100) hX (dk DX11_law 41 rfl) (by decide) ?_
            refine wp_aload_n hX (dk DX11_law 42 rfl) rfl ?_
            refine w_geti hX flX11_198 (dk DX11_law 43 rfl) (by decide) rfl ?_
            rw [u2_off _ _ _ (by decide), h2.2.2.2]
            refine wp_isub hX (dk DX11_law 44 rfl) ?_
            exact wp_ireturn hX hR (dk DX11_law 45 rfl) rfl (Nat.le_refl _) (Nat.le_refl _) (⟨_, _, _, rfl, by rw [if_pos rfl], rfl, mlS.mw9 hs, u2_at _ _ _ _, by rw [if_pos rfl]; exact ⟨fun b b1 b2 => by rw [u2_ne _ _ _ (by omega)]; exact hs.1 b (by omega) (by omega) (by omega) (by omega) (by omega), by rw [u2_off _ _ _ (by decide)]; exact hs.2 11 (by decide) (by decide) (by decide) (by decide), by rw [u2_off _ _ _ (by decide)]; exact hs.2 12 (by decide) (by decide) (by decide) (by decide)⟩⟩)
      · exact bad a L f2 (q + 1) c1 e hs h2
  have h0 : mtO (u2 (u2 (u2 (u2 f 81 17 0) 81 18 0) 81 19 0) 81 20 0) T n 0 := ⟨by rw [u2_off _ _ _ (by decide), u2_off _ _ _ (by decide), u2_off _ _ _ (by decide), u2_off _ _ _ (by decide)]; exact h.1, hn, fun j hj => by rw [u2_ne _ _ _ (by decide), u2_ne _ _ _ (by decide), u2_ne _ _ _ (by decide), u2_ne _ _ _ (by decide)]; exact h.2.2.1 j hj, by rw [u2_off _ _ _ (by decide), u2_off _ _ _ (by decide), u2_off _ _ _ (by decide), u2_at]; rfl⟩
  have s0 : mlS f (u2 (u2 (u2 (u2 f 81 17 0) 81 18 0) 81 19 0) 81 20 0) := ((((mpS.at f 0).trans (mpS.op _ 0)).ml).trans (mlS.k19 _ 0)).trans (mlS.ln _ 0)
  refine wp_aload_n hX (dk DX11_law 0 rfl) rfl ?_
  refine wp_iconst (v := 0) hX (dk DX11_law 1 rfl) (by decide) ?_
  refine w_puti hX fpX11_198 (dk DX11_law 2 rfl) rfl ?_
  refine wp_aload_n hX (dk DX11_law 3 rfl) rfl ?_
  refine wp_iconst (v := 0) hX (dk DX11_law 4 rfl) (by decide) ?_
  refine w_puti hX fpX11_218 (dk DX11_law 5 rfl) rfl ?_
  refine wp_aload_n hX (dk DX11_law 6 rfl) rfl ?_
  refine wp_iconst (v := 0) hX (dk DX11_law 7 rfl) (by decide) ?_
  refine w_puti hX fpX11_205 (dk DX11_law 8 rfl) rfl ?_
  refine wp_aload_n hX (dk DX11_law 9 rfl) rfl ?_
  refine wp_iconst (v := 0) hX (dk DX11_law 10 rfl) (by decide) ?_
  refine w_puti hX fpX11_242 (dk DX11_law 11 rfl) rfl ?_
  refine wp_aload_n hX (dk DX11_law 12 rfl) rfl ?_
  refine w_callVQ (As := []) lkX11_245 hX (dk DX11_law 13 rfl) rfl rfl (by decide) hN (k_mLn (d + 58) _ _ _ T n 0 [] h0 (Nat.zero_le _) (by rw [u2_off _ _ _ (by decide), u2_off _ _ _ (by decide), u2_at]; rfl) ⟨by rw [u2_off _ _ _ (by decide), u2_at]; rfl, fun j k hj => by simp [lcd] at hj⟩ ⟨by rw [u2_at]; rfl, fun i l hi => by simp at hi⟩ (Nat.le_refl _) (by decide)) (fun v_ sw_ f_ g_ hq_ => ?_)
  obtain ⟨rfl, rfl, rfl, e1, e2, e3, e4⟩ := hq_
  rw [← hc] at e2 e4 ⊢
  show WP _ _ _ 24 [_, _, _, _] [_] _
  refine wp_istore_n hX (dk DX11_law 14 rfl) rfl rfl hN (Nat.le_of_ble_eq_true rfl) ?_
  show WP _ _ _ 25 [_, _, _, _] [] _
  exact lo 120 0 [] f_ (by omega) (Nat.zero_le _) hR0 (s0.trans e1) (h0.ml e1 e2) e3 e4 (Nat.le_refl _) (Nat.le_refl _)
