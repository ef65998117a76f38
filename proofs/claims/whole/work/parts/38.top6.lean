/-! THE CLASS'S CALLS: what changes figures, blocks, the tape, the law -/
theorem t_figure0 (d : Nat) (sw : Bool) (f : Nat → Nat → Int32) (g : Nat → Nat → Int64) (x : Int32) (h : ¬ shp x) : CT (d + 110) 0 0 iX10_figure [.ref 0, .int x] (S sw f g) (rdC g f (-1)) := by
  refine CT.rdC ?_
  refine CT.of rfl (Nat.le_of_ble_eq_true rfl) (fun X hX hR hN _ => ?_)
  have hX : Good X RX10 cX10_figure (d + 110) 0 0 := hX
  have hN : x_nl X = 2 := hN
  show WP X 0 0 0 [_, _] [] _
  refine wp_iload_n hX (dk DX10_figure 0 rfl) rfl ?_
  refine w_callS (As := [_]) lkX10_83 hX (dk DX10_figure 1 rfl) rfl (by decide) (k_isShape0 (d + 109) x _ h) ?_
  show WP _ _ _ 4 [_, _] [_] _
  refine wp_if_ne (tgt := 9) hX (dk DX10_figure 2 rfl) (by decide) (fun h_ => absurd (rfl) h_) (fun _ => ?_)
  refine wp_iconst (v := -1) hX (dk DX10_figure 3 rfl) (by decide) ?_
  exact wp_ireturn hX hR (dk DX10_figure 4 rfl) rfl (Nat.le_refl _) (Nat.le_refl _) (⟨rfl, rfl⟩)
theorem t_figureF (d : Nat) (sw : Bool) (f : Nat → Nat → Int32) (g : Nat → Nat → Int64) (x : Int32) (h : shp x) (hn : f 1 4 = nI 10) : CT (d + 110) 0 0 iX10_figure [.ref 0, .int x] (S sw f g) (rdC g f (-3)) := by
  refine CT.rdC ?_
  refine CT.of rfl (Nat.le_of_ble_eq_true rfl) (fun X hX hR hN _ => ?_)
  have hX : Good X RX10 cX10_figure (d + 110) 0 0 := hX
  have hN : x_nl X = 2 := hN
  show WP X 0 0 0 [_, _] [] _
  refine wp_iload_n hX (dk DX10_figure 0 rfl) rfl ?_
  refine w_callS (As := [_]) lkX10_83 hX (dk DX10_figure 1 rfl) rfl (by decide) (k_isShape1 (d + 109) x _ h) ?_
  show WP _ _ _ 4 [_, _] [_] _
  refine wp_if_ne (tgt := 9) hX (dk DX10_figure 2 rfl) (by decide) (fun _ => ?_) (fun h_ => absurd h_ (by decide))
  refine wp_aload_n hX (dk DX10_figure 5 rfl) rfl ?_
  refine w_getr hX flX10_10 (dk DX10_figure 6 rfl) rfl rfl ?_
  refine wp_iload_n hX (dk DX10_figure 7 rfl) rfl ?_
  refine wp_bipush (v := 100) hX (dk DX10_figure 8 rfl) (by decide) ?_
  refine w_callV (As := [_, _]) lkX10_87 hX (dk DX10_figure 9 rfl) rfl rfl (by decide) hN (k_add_full (d + 109) sw f g x 100 hn) ?_
  show WP _ _ _ 19 [_, _] [_] _
  exact wp_ireturn hX hR (dk DX10_figure 10 rfl) rfl (Nat.le_refl _) (Nat.le_refl _) (⟨rfl, rfl⟩)
/-- a figure has come -/
def fgQ (f f2 : Nat → Nat → Int32) (n : Nat) (sh : Nat → Int32) (x w : Int32) : Prop := (∀ b, ¬ inSt b → f2 b = f b) ∧ (∀ i, f2 3 i = if i = n * 3 then w else f 3 i) ∧ stk f2 (n + 1) (fun i => if i = n then x else sh i)
theorem t_figure1 (d : Nat) (sw : Bool) (f : Nat → Nat → Int32) (g : Nat → Nat → Int64) (n : Nat) (sh : Nat → Int32) (x : Int32) (h : shp x) (hn : n < 10) (hs : stk f n sh) : CT (d + 110) 0 0 iX10_figure [.ref 0, .int x] (S sw f g) (QS (fun r _ f2 g2 => r = some (.int (nI n)) ∧ g2 = g ∧ fgQ f f2 n sh x 100)) := by
  refine CT.of rfl (Nat.le_of_ble_eq_true rfl) (fun X hX hR hN _ => ?_)
  have hX : Good X RX10 cX10_figure (d + 110) 0 0 := hX
  have hN : x_nl X = 2 := hN
  show WP X 0 0 0 [_, _] [] _
  refine wp_iload_n hX (dk DX10_figure 0 rfl) rfl ?_
  refine w_callS (As := [_]) lkX10_83 hX (dk DX10_figure 1 rfl) rfl (by decide) (k_isShape1 (d + 109) x _ h) ?_
  show WP _ _ _ 4 [_, _] [_] _
  refine wp_if_ne (tgt := 9) hX (dk DX10_figure 2 rfl) (by decide) (fun _ => ?_) (fun h_ => absurd h_ (by decide))
  refine wp_aload_n hX (dk DX10_figure 5 rfl) rfl ?_
  refine w_getr hX flX10_10 (dk DX10_figure 6 rfl) rfl rfl ?_
  refine wp_iload_n hX (dk DX10_figure 7 rfl) rfl ?_
  refine wp_bipush (v := 100) hX (dk DX10_figure 8 rfl) (by decide) ?_
  refine w_callVQ (As := [_, _]) lkX10_87 hX (dk DX10_figure 9 rfl) rfl rfl (by decide) hN (k_add (d + 105) sw f g n sh x 100 hn hs) (fun v_ sw_ f_ g_ hq_ => ?_)
  obtain ⟨rfl, rfl, rfl, hf, ht, hs2⟩ := hq_
  show WP _ _ _ 19 [_, _] [_] _
  exact wp_ireturn hX hR (dk DX10_figure 10 rfl) rfl (Nat.le_refl _) (Nat.le_refl _) (⟨_, _, _, rfl, rfl, rfl, hf, ht, hs2⟩)
theorem rE_ne3 (j : Nat) (h : j < 2 ^ 31) : ¬ nI j = -3 := fun q => by
  have := nI_pos h
  rw [q] at this
  exact this (by decide)
/-- the k-th two of a row from place p on is a figure: E the elements, z of them; n figures came before -/
def fgK (E : Nat → Int64) (z p n k : Nat) : Prop := p + 2 * k + 2 ≤ z ∧ shp (E (p + 2 * k)).toInt32 ∧ (∃ w, w ≤ 999 ∧ (E (p + 2 * k + 1)).toInt32 = nI w) ∧ n + k < 10
/-- c figures come, of at most q -/
def fgC (E : Nat → Int64) (z p n q c : Nat) : Prop := c ≤ q ∧ (∀ k, k < c → fgK E z p n k) ∧ (c = q ∨ ¬ fgK E z p n c)
def fgS (E : Nat → Int64) (p n c : Nat) (sh : Nat → Int32) : Nat → Int32 := fun j => if n ≤ j ∧ j < n + c then (E (p + 2 * (j - n))).toInt32 else sh j
def fgT (E : Nat → Int64) (p n c : Nat) (t : Nat → Int32) : Nat → Int32 := fun j => if n * 3 ≤ j ∧ j < (n + c) * 3 ∧ j % 3 = 0 then (E (p + 2 * (j / 3 - n) + 1)).toInt32 else t j
theorem jstr_1 {z p k : Nat} (hz : z ≤ 60) (hk : k ≤ 60) (hp : p < 2 ^ 31) : (jstr (nI z) (nI p) (nI k) = 0) = ¬ (p + k ≤ z) := by
  unfold jstr
  apply propext
  by_cases c : p + k ≤ z
  · rw [if_pos ⟨nI_pos hp, nI_pos (by omega), nI_nlt (by omega) (by omega), by rw [pk_sub (by omega)]; exact nI_nlt (by omega) (by omega)⟩]
    simp [c]
  · rw [if_neg]
    · simp [c]
    · rintro ⟨-, -, h3, h4⟩
      have hkz : k ≤ z := Nat.le_of_not_lt (fun q => h3 (nI_lt q (by omega)))
      rw [pk_sub hkz] at h4
      exact h4 (nI_lt (by omega) hp)
theorem k_figCome (d : Nat) (sw : Bool) (f : Nat → Nat → Int32) (g : Nat → Nat → Int64) (n c z p q : Nat) (sh : Nat → Int32) (hs : stk f n sh) (hc : c < 6) (hz : f 75 c = nI z) (hz60 : z ≤ 60) (hp : p < 2 ^ 31) (hq : q ≤ 10) : CT (d + 5) 0 0 iX10_figuresCome [.ref 0, .int (nI c), .int (nI p), .int (nI q)] (S sw f g) (QS (fun r _ f2 g2 => ∃ k, fgC (fun i => g 76 (c * 60 + i)) z p n q k ∧ r = some (.int (nI k)) ∧ g2 = g ∧ (∀ b, ¬ inSt b → f2 b = f b) ∧ f2 3 = fgT (fun i => g 76 (c * 60 + i)) p n k (f 3) ∧ stk f2 (n + k) (fgS (fun i => g 76 (c * 60 + i)) p n k sh))) := by
  obtain ⟨E, hE⟩ : ∃ E : Nat → Int64, E = fun i => g 76 (c * 60 + i) := ⟨_, rfl⟩
  have hEi : ∀ i, g 76 (c * 60 + i) = E i := fun i => by rw [hE]
  rw [← hE]
  refine CT.of rfl (Nat.le_of_ble_eq_true rfl) (fun X hX hR hN _ => ?_)
  have hX : Good X RX10 cX10_figuresCome (d + 5) 0 0 := hX
  have hN : x_nl X = 8 := hN
  show WP X 0 0 0 [_, _, _, _, _, _, _, _] [] _
  have out : ∀ (k : Nat) (f2 : Nat → Nat → Int32) (y1 y2 y3 : Option Value), k ≤ q → (∀ j, j < k → fgK E z p n j) → (k = q ∨ ¬ fgK E z p n k) → (∀ b, ¬ inSt b → f2 b = f b) → f2 3 = fgT E p n k (f 3) → stk f2 (n + k) (fgS E p n k sh) → WP X 0 0 120 [some (.ref 0), some (.int (nI c)), some (.int (nI p)), some (.int (nI q)), some (.int (nI k)), y1, y2, y3] [] (S sw f2 g) := by
    intro k f2 y1 y2 y3 hk h1 h2 hf ht hs2
    refine wp_iload hX (dk DX10_figuresCome_1 4 rfl) rfl ?_
    exact wp_ireturn hX hR (dk DX10_figuresCome_1 5 rfl) rfl (Nat.le_refl _) (Nat.le_refl _) (⟨_, _, _, rfl, k, ⟨hk, h1, h2⟩, rfl, rfl, hf, ht, hs2⟩)
  have lo : ∀ (m k : Nat) (f2 : Nat → Nat → Int32) (y2 y3 : Option Value), k + m = q → (∀ j, j < k → fgK E z p n j) → (∀ b, ¬ inSt b → f2 b = f b) → f2 3 = fgT E p n k (f 3) → stk f2 (n + k) (fgS E p n k sh) → WP X 0 0 6 [some (.ref 0), some (.int (nI c)), some (.int (nI p)), some (.int (nI q)), some (.int (nI k)), some (.int (nI k)), y2, y3] [] (S sw f2 g) := by
    intro m
    induction m with
    | zero =>
      intro k f2 y2 y3 hk h1 hf ht hs2
      refine wp_iload hX (dk DX10_figuresCome 4 rfl) rfl ?_
      refine wp_iload_n hX (dk DX10_figuresCome 5 rfl) rfl ?_
      refine wp_icmp_ge (tgt := 120) hX (dk DX10_figuresCome 6 rfl) (by decide) (fun _ => ?_) (fun h_ => absurd ((nI_le (by omega) (by omega))) h_)
      exact out k f2 _ _ _ (by omega) h1 (Or.inl (by omega)) hf ht hs2
    | succ m ih =>
      intro k f2 y2 y3 hk h1 hf ht hs2
      have h75 : f2 75 c = nI z := by rw [hf 75 (by unfold inSt; omega)]; exact hz
      have ix2 : (2 : Int32) * nI k + 2 = nI (2 * k + 2) := by rw [show (2 : Int32) = nI 2 from rfl, pk_mul, nI_add]
      have ixa : nI p + 2 * nI k = nI (p + 2 * k) := by rw [show (2 : Int32) = nI 2 from rfl, pk_mul, nI_add]
      have ixb : nI (p + 2 * k) + 1 = nI (p + 2 * k + 1) := nI_1 _
      refine wp_iload hX (dk DX10_figuresCome 4 rfl) rfl ?_
      refine wp_iload_n hX (dk DX10_figuresCome 5 rfl) rfl ?_
      refine wp_icmp_ge (tgt := 120) hX (dk DX10_figuresCome 6 rfl) (by decide) (fun h_ => absurd h_ ((nI_ge (by omega) (by omega)))) (fun _ => ?_)
      refine wp_aload_n hX (dk DX10_figuresCome 7 rfl) rfl ?_
      refine w_getr hX flX10_72 (dk DX10_figuresCome 8 rfl) rfl rfl ?_
      refine wp_iload_n hX (dk DX10_figuresCome 9 rfl) rfl ?_
      refine wp_iload_n hX (dk DX10_figuresCome 10 rfl) rfl ?_
      refine wp_iconst (v := 2) hX (dk DX10_figuresCome 11 rfl) (by decide) ?_
      refine wp_iload hX (dk DX10_figuresCome 12 rfl) rfl ?_
      refine wp_imul hX (dk DX10_figuresCome 13 rfl) ?_
      refine wp_iconst (v := 2) hX (dk DX10_figuresCome 14 rfl) (by decide) ?_
      refine wp_iadd hX (dk DX10_figuresCome 15 rfl) ?_
      rw [ix2]
      refine w_callV (As := [_, _, _]) lkX10_329 hX (dk DX10_figuresCome 16 rfl) rfl rfl (by decide) hN (k_hasStretch (d + 4) sw f2 g c _ _ hc) ?_
      show WP _ _ _ 27 [_, _, _, _, _, _, _, _] [_] _
      rw [h75]
      by_cases c1 : p + (2 * k + 2) ≤ z
      · skip
        refine wp_if_ne (tgt := 33) hX (dk DX10_figuresCome 17 rfl) (by decide) (fun _ => ?_) (fun h_ => absurd h_ ((fun e => by rw [jstr_1 hz60 (by omega) hp] at e; exact e c1)))
        refine wp_aload_n hX (dk DX10_figuresCome 19 rfl) rfl ?_
        refine w_getr hX flX10_72 (dk DX10_figuresCome 20 rfl) rfl rfl ?_
        refine wp_iload_n hX (dk DX10_figuresCome 21 rfl) rfl ?_
        refine wp_iload_n hX (dk DX10_figuresCome 22 rfl) rfl ?_
        refine wp_iconst (v := 2) hX (dk DX10_figuresCome 23 rfl) (by decide) ?_
        refine wp_iload hX (dk DX10_figuresCome 24 rfl) rfl ?_
        refine wp_imul hX (dk DX10_figuresCome 25 rfl) ?_
        refine wp_iadd hX (dk DX10_figuresCome 26 rfl) ?_
        rw [ixa]
        refine w_callV (As := [_, _]) lkX10_318 hX (dk DX10_figuresCome 27 rfl) rfl rfl (by decide) hN (k_at (d + 4) sw f2 g c (p + 2 * k) hc (by omega)) ?_
        show WP _ _ _ 47 [_, _, _, _, _, _, _, _] [_] _
        rw [hEi]
        refine wp_l2i hX (dk DX10_figuresCome 28 rfl) ?_
        refine wp_istore hX (dk DX10_figuresCome 29 rfl) rfl hN (Nat.le_of_ble_eq_true rfl) ?_
        show WP _ _ _ 50 [_, _, _, _, _, _, _, _] [] _
        refine wp_aload_n hX (dk DX10_figuresCome 30 rfl) rfl ?_
        refine w_getr hX flX10_72 (dk DX10_figuresCome 31 rfl) rfl rfl ?_
        refine wp_iload_n hX (dk DX10_figuresCome 32 rfl) rfl ?_
        refine wp_iload_n hX (dk DX10_figuresCome 33 rfl) rfl ?_
        refine wp_iconst (v := 2) hX (dk DX10_figuresCome 34 rfl) (by decide) ?_
        refine wp_iload hX (dk DX10_figuresCome 35 rfl) rfl ?_
        refine wp_imul hX (dk DX10_figuresCome 36 rfl) ?_
        refine wp_iadd hX (dk DX10_figuresCome 37 rfl) ?_
        rw [ixa]
        refine wp_iconst (v := 1) hX (dk DX10_figuresCome 38 rfl) (by decide) ?_
        refine wp_iadd hX (dk DX10_figuresCome 39 rfl) ?_
        rw [ixb]
        refine w_callV (As := [_, _]) lkX10_318 hX (dk DX10_figuresCome 40 rfl) rfl rfl (by decide) hN (k_at (d + 4) sw f2 g c (p + 2 * k + 1) hc (by omega)) ?_
        show WP _ _ _ 66 [_, _, _, _, _, _, _, _] [_] _
        rw [hEi]
        refine wp_l2i hX (dk DX10_figuresCome 41 rfl) ?_
        refine wp_istore hX (dk DX10_figuresCome 42 rfl) rfl hN (Nat.le_of_ble_eq_true rfl) ?_
        show WP _ _ _ 69 [_, _, _, _, _, _, _, _] [] _
        refine wp_iload hX (dk DX10_figuresCome 43 rfl) rfl ?_
        by_cases c2 : shp (E (p + 2 * k)).toInt32
        · refine w_callS (As := [_]) lkX10_83 hX (dk DX10_figuresCome 44 rfl) rfl (by decide) (k_isShape1 (d + 4) _ _ c2) ?_
          show WP _ _ _ 74 [_, _, _, _, _, _, _, _] [_] _
          refine wp_if_eq (tgt := 120) hX (dk DX10_figuresCome 45 rfl) (by decide) (fun h_ => absurd h_ ((by decide))) (fun _ => ?_)
          refine wp_iload hX (dk DX10_figuresCome 46 rfl) rfl ?_
          by_cases c3 : ∃ w, w ≤ 999 ∧ (E (p + 2 * k + 1)).toInt32 = nI w
          · obtain ⟨w, hw, e3⟩ := c3
            rw [e3]
            refine wp_if_lt (tgt := 120) hX (dk DX10_figuresCome 47 rfl) (by decide) (fun h_ => absurd h_ ((nI_pos (by omega)))) (fun _ => ?_)
            refine wp_iload hX (dk DX10_figuresCome 48 rfl) rfl ?_
            refine wp_most hX fsX10_105 (dk DX10_figuresCome 49 rfl) ?_
            refine wp_iconst (v := 0) hX (dk DX10_figuresCome 50 rfl) (by decide) ?_
            refine wp_t1 hX (dk DX10_figuresCome 51 rfl) (nI_in (c := 0) (N := 3) (by decide) (by decide)) ?_
            rw [show x_most (Int32.toNatClampNeg 0) = nI 999 from rfl]
            refine wp_icmp_gt (tgt := 120) hX (dk DX10_figuresCome 52 rfl) (by decide) (fun h_ => absurd h_ ((nI_nlt (by omega) (by omega)))) (fun _ => ?_)
            by_cases c4 : n + k < 10
            · refine wp_aload_n hX (dk DX10_figuresCome 53 rfl) rfl ?_
              refine w_getr hX flX10_10 (dk DX10_figuresCome 54 rfl) rfl rfl ?_
              refine wp_iload hX (dk DX10_figuresCome 55 rfl) rfl ?_
              refine wp_iload hX (dk DX10_figuresCome 56 rfl) rfl ?_
              refine w_callVQ (As := [_, _]) lkX10_87 hX (dk DX10_figuresCome 57 rfl) rfl rfl (by decide) hN (k_add d sw f2 g (n + k) _ _ (nI w) c4 hs2) (fun v_ sw_ f_ g_ hq_ => ?_)
              obtain ⟨rfl, rfl, rfl, hf3, ht3, hs3⟩ := hq_
              show WP _ _ _ 103 [_, _, _, _, _, _, _, _] [_] _
              refine wp_bipush (v := -3) hX (dk DX10_figuresCome 58 rfl) (by decide) ?_
              refine wp_icmp_ne (tgt := 111) hX (dk DX10_figuresCome 59 rfl) (by decide) (fun _ => ?_) (fun h_ => absurd h_ ((rE_ne3 (n + k) (by omega))))
              have hK : fgK E z p n k := ⟨by omega, c2, ⟨w, hw, e3⟩, c4⟩
              refine wp_iinc hX (dk DX10_figuresCome_1 1 rfl) rfl (nI_inc _) rfl hN ?_
              show WP _ _ _ 114 [_, _, _, _, _, _, _, _] [] _
              refine wp_iinc hX (dk DX10_figuresCome_1 2 rfl) rfl (nI_inc _) rfl hN ?_
              show WP _ _ _ 117 [_, _, _, _, _, _, _, _] [] _
              refine wp_goto (tgt := 6) hX (dk DX10_figuresCome_1 3 rfl) (by decide) ?_
              -- to 6
              refine ih (k + 1) f_ _ _ (by omega) (all_succ h1 hK) (fun b hb => (hf3 b hb).trans (hf b hb)) ?_ ?_
              · funext j
                rw [ht3, ht]
                unfold fgT
                by_cases cj : j = (n + k) * 3
                · subst cj
                  rw [if_pos rfl, if_pos ⟨by omega, by omega, by omega⟩, ← e3]
                  congr 3
                  omega
                · rw [if_neg cj]
                  by_cases cj2 : n * 3 ≤ j ∧ j < (n + k) * 3 ∧ j % 3 = 0
                  · rw [if_pos cj2, if_pos ⟨cj2.1, by omega, cj2.2.2⟩]
                  · rw [if_neg cj2, if_neg (fun q => cj2 ⟨q.1, by omega, q.2.2⟩)]
              · have hfun : (fun i => if i = n + k then (E (p + 2 * k)).toInt32 else fgS E p n k sh i) = fgS E p n (k + 1) sh := by
                  funext j
                  unfold fgS
                  by_cases cj : j = n + k
                  · subst cj
                    rw [if_pos rfl, if_pos ⟨by omega, by omega⟩]
                    congr 3
                    omega
                  · rw [if_neg cj]
                    by_cases cj2 : n ≤ j ∧ j < n + k
                    · rw [if_pos cj2, if_pos ⟨cj2.1, by omega⟩]
                    · rw [if_neg cj2, if_neg (fun q => cj2 ⟨q.1, by omega⟩)]
                rw [← hfun]
                exact hs3
            · have h10 : n + k = 10 := by have := hs2.1.2.1; omega
              refine wp_aload_n hX (dk DX10_figuresCome 53 rfl) rfl ?_
              refine w_getr hX flX10_10 (dk DX10_figuresCome 54 rfl) rfl rfl ?_
              refine wp_iload hX (dk DX10_figuresCome 55 rfl) rfl ?_
              refine wp_iload hX (dk DX10_figuresCome 56 rfl) rfl ?_
              refine w_callV (As := [_, _]) lkX10_87 hX (dk DX10_figuresCome 57 rfl) rfl rfl (by decide) hN (k_add_full (d + 4) sw f2 g _ (nI w) (by rw [← h10]; exact hs2.1.1)) ?_
              show WP _ _ _ 103 [_, _, _, _, _, _, _, _] [_] _
              refine wp_bipush (v := -3) hX (dk DX10_figuresCome 58 rfl) (by decide) ?_
              refine wp_icmp_ne (tgt := 111) hX (dk DX10_figuresCome 59 rfl) (by decide) (fun h_ => absurd ((rfl)) h_) (fun _ => ?_)
              refine wp_goto (tgt := 120) hX (dk DX10_figuresCome_1 0 rfl) (by decide) ?_
              -- to 120
              exact out k f2 _ _ _ (by omega) h1 (Or.inr (fun q => c4 q.2.2.2)) hf ht hs2
          · have nK : ¬ fgK E z p n k := fun q => c3 q.2.2.1
            refine wp_if_lt (tgt := 120) hX (dk DX10_figuresCome 47 rfl) (by decide) (fun h79 => ?_) (fun h79 => ?_)
            · exact out k f2 _ _ _ (by omega) h1 (Or.inr nK) hf ht hs2
            · refine wp_iload hX (dk DX10_figuresCome 48 rfl) rfl ?_
              refine wp_most hX fsX10_105 (dk DX10_figuresCome 49 rfl) ?_
              refine wp_iconst (v := 0) hX (dk DX10_figuresCome 50 rfl) (by decide) ?_
              refine wp_t1 hX (dk DX10_figuresCome 51 rfl) (nI_in (c := 0) (N := 3) (by decide) (by decide)) ?_
              rw [show x_most (Int32.toNatClampNeg 0) = nI 999 from rfl]
              refine wp_icmp_gt (tgt := 120) hX (dk DX10_figuresCome 52 rfl) (by decide) (fun h89 => ?_) (fun h89 => ?_)
              · exact out k f2 _ _ _ (by omega) h1 (Or.inr nK) hf ht hs2
              · exact absurd (by obtain ⟨w, e1, e2⟩ := rg_le (by decide) h79 h89; exact ⟨w, e1, e2⟩) c3
        · refine w_callS (As := [_]) lkX10_83 hX (dk DX10_figuresCome 44 rfl) rfl (by decide) (k_isShape0 (d + 4) _ _ c2) ?_
          show WP _ _ _ 74 [_, _, _, _, _, _, _, _] [_] _
          refine wp_if_eq (tgt := 120) hX (dk DX10_figuresCome 45 rfl) (by decide) (fun _ => ?_) (fun h_ => absurd ((rfl)) h_)
          exact out k f2 _ _ _ (by omega) h1 (Or.inr (fun q => c2 q.2.1)) hf ht hs2
      · skip
        refine wp_if_ne (tgt := 33) hX (dk DX10_figuresCome 17 rfl) (by decide) (fun h_ => absurd ((by rw [jstr_1 hz60 (by omega) hp]; exact c1)) h_) (fun _ => ?_)
        refine wp_goto (tgt := 120) hX (dk DX10_figuresCome 18 rfl) (by decide) ?_
        -- to 120
        exact out k f2 _ _ _ (by omega) h1 (Or.inr (fun q => c1 (by have := q.1; omega))) hf ht hs2
  refine wp_iconst (v := 0) hX (dk DX10_figuresCome 0 rfl) (by decide) ?_
  refine wp_istore hX (dk DX10_figuresCome 1 rfl) rfl hN (Nat.le_of_ble_eq_true rfl) ?_
  show WP _ _ _ 3 [_, _, _, _, _, _, _, _] [] _
  refine wp_iconst (v := 0) hX (dk DX10_figuresCome 2 rfl) (by decide) ?_
  refine wp_istore hX (dk DX10_figuresCome 3 rfl) rfl hN (Nat.le_of_ble_eq_true rfl) ?_
  show WP _ _ _ 6 [_, _, _, _, _, _, _, _] [] _
  have e0 : fgS E p n 0 sh = sh := by
    funext j
    unfold fgS
    rw [if_neg (by omega)]
  exact lo q 0 f none none (by omega) (fun j hj => absurd hj (by omega)) (fun _ _ => rfl) (by funext j; unfold fgT; rw [if_neg (by omega)]) (by rw [e0]; exact hs)
theorem t_figures0 (d : Nat) (sw : Bool) (f : Nat → Nat → Int32) (g : Nat → Nat → Int64) (x y q : Int32) (h : ¬ ((∃ c, c < 6 ∧ x = nI c) ∧ ∃ k, 1 ≤ k ∧ k ≤ 10 ∧ q = nI k)) : CT (d + 110) 0 0 iX10_figures [.ref 0, .int x, .int y, .int q] (S sw f g) (rdC g f (-1)) := by
  refine CT.rdC ?_
  refine CT.of rfl (Nat.le_of_ble_eq_true rfl) (fun X hX hR hN _ => ?_)
  have hX : Good X RX10 cX10_figures (d + 110) 0 0 := hX
  have hN : x_nl X = 4 := hN
  show WP X 0 0 0 [_, _, _, _] [] _
  refine wp_aload_n hX (dk DX10_figures 0 rfl) rfl ?_
  refine w_getr hX flX10_72 (dk DX10_figures 1 rfl) rfl rfl ?_
  refine wp_iload_n hX (dk DX10_figures 2 rfl) rfl ?_
  refine w_callV (As := [_]) lkX10_91 hX (dk DX10_figures 3 rfl) rfl rfl (by decide) hN (k_shas (d + 109) sw f g x) ?_
  show WP _ _ _ 8 [_, _, _, _] [_] _
  refine wp_if_eq (tgt := 22) hX (dk DX10_figures 4 rfl) (by decide) (fun h8 => ?_) (fun h8 => ?_)
  · refine wp_iconst (v := -1) hX (dk DX10_figures 11 rfl) (by decide) ?_
    exact wp_ireturn hX hR (dk DX10_figures 12 rfl) rfl (Nat.le_refl _) (Nat.le_refl _) (⟨rfl, rfl⟩)
  · refine wp_iload_n hX (dk DX10_figures 5 rfl) rfl ?_
    refine wp_iconst (v := 1) hX (dk DX10_figures 6 rfl) (by decide) ?_
    refine wp_icmp_lt (tgt := 22) hX (dk DX10_figures 7 rfl) (by decide) (fun h13 => ?_) (fun h13 => ?_)
    · refine wp_iconst (v := -1) hX (dk DX10_figures 11 rfl) (by decide) ?_
      exact wp_ireturn hX hR (dk DX10_figures 12 rfl) rfl (Nat.le_refl _) (Nat.le_refl _) (⟨rfl, rfl⟩)
    · refine wp_iload_n hX (dk DX10_figures 8 rfl) rfl ?_
      refine wp_bipush (v := 10) hX (dk DX10_figures 9 rfl) (by decide) ?_
      refine wp_icmp_le (tgt := 24) hX (dk DX10_figures 10 rfl) (by decide) (fun h19 => ?_) (fun h19 => ?_)
      · refine absurd ⟨jin_ex (n := 6) (by decide) h8, ?_⟩ h
        obtain ⟨k, k1, rfl⟩ := rg_le2 (k := 10) (x := q) (by decide) (fun e => h13 (Int32.lt_trans e (by decide))) h19
        exact ⟨k, Nat.le_of_not_lt (fun c => h13 (nI_lt (a := k) (b := 1) c (by decide))), k1, rfl⟩
      · refine wp_iconst (v := -1) hX (dk DX10_figures 11 rfl) (by decide) ?_
        exact wp_ireturn hX hR (dk DX10_figures 12 rfl) rfl (Nat.le_refl _) (Nat.le_refl _) (⟨rfl, rfl⟩)
/-- nothing there: 0; no row of ints -/
theorem t_figuresR (d : Nat) (sw : Bool) (f : Nat → Nat → Int32) (g : Nat → Nat → Int64) (c k : Nat) (y : Int32) (hc : c < 6) (hk1 : 1 ≤ k) (hk : k ≤ 10) (h : ¬ f 74 c = 2) : CT (d + 110) 0 0 iX10_figures [.ref 0, .int (nI c), .int y, .int (nI k)] (S sw f g) (rdC g f (if f 74 c = -1 then 0 else -12)) := by
  refine CT.rdC ?_
  refine CT.of rfl (Nat.le_of_ble_eq_true rfl) (fun X hX hR hN _ => ?_)
  have hX : Good X RX10 cX10_figures (d + 110) 0 0 := hX
  have hN : x_nl X = 4 := hN
  show WP X 0 0 0 [_, _, _, _] [] _
  refine wp_aload_n hX (dk DX10_figures 0 rfl) rfl ?_
  refine w_getr hX flX10_72 (dk DX10_figures 1 rfl) rfl rfl ?_
  refine wp_iload_n hX (dk DX10_figures 2 rfl) rfl ?_
  refine w_callV (As := [_]) lkX10_91 hX (dk DX10_figures 3 rfl) rfl rfl (by decide) hN (k_shas (d + 109) sw f g (nI c)) ?_
  show WP _ _ _ 8 [_, _, _, _] [_] _
  rw [show jin (nI c) 6 = 1 from jin_1 (n := 6) (by decide) hc rfl]
  refine wp_if_eq (tgt := 22) hX (dk DX10_figures 4 rfl) (by decide) (fun h_ => absurd h_ (by decide)) (fun _ => ?_)
  refine wp_iload_n hX (dk DX10_figures 5 rfl) rfl ?_
  refine wp_iconst (v := 1) hX (dk DX10_figures 6 rfl) (by decide) ?_
  refine wp_icmp_lt (tgt := 22) hX (dk DX10_figures 7 rfl) (by decide) (fun h_ => absurd h_ (nI_nlt (b := 1) (by omega) (by omega))) (fun _ => ?_)
  refine wp_iload_n hX (dk DX10_figures 8 rfl) rfl ?_
  refine wp_bipush (v := 10) hX (dk DX10_figures 9 rfl) (by decide) ?_
  refine wp_icmp_le (tgt := 24) hX (dk DX10_figures 10 rfl) (by decide) (fun _ => ?_) (fun h_ => absurd (nI_le (b := 10) (by omega) (by omega)) h_)
  refine wp_aload_n hX (dk DX10_figures 13 rfl) rfl ?_
  refine w_getr hX flX10_72 (dk DX10_figures 14 rfl) rfl rfl ?_
  refine wp_iload_n hX (dk DX10_figures 15 rfl) rfl ?_
  refine w_callV (As := [_]) lkX10_94 hX (dk DX10_figures 16 rfl) rfl rfl (by decide) hN (k_sortOf (d + 109) sw f g c hc) ?_
  show WP _ _ _ 32 [_, _, _, _] [_] _
  refine wp_iconst (v := -1) hX (dk DX10_figures 17 rfl) (by decide) ?_
  refine wp_icmp_ne (tgt := 38) hX (dk DX10_figures 18 rfl) (by decide) (fun h33 => ?_) (fun h33 => ?_)
  · refine wp_aload_n hX (dk DX10_figures 21 rfl) rfl ?_
    refine w_getr hX flX10_72 (dk DX10_figures 22 rfl) rfl rfl ?_
    refine wp_iload_n hX (dk DX10_figures 23 rfl) rfl ?_
    refine w_callV (As := [_]) lkX10_94 hX (dk DX10_figures 24 rfl) rfl rfl (by decide) hN (k_sortOf (d + 109) sw f g c hc) ?_
    show WP _ _ _ 46 [_, _, _, _] [_] _
    refine wp_iconst (v := 2) hX (dk DX10_figures 25 rfl) (by decide) ?_
    refine wp_icmp_eq (tgt := 53) hX (dk DX10_figures 26 rfl) (by decide) (fun h_ => absurd h_ (h)) (fun _ => ?_)
    refine wp_bipush (v := -12) hX (dk DX10_figures 27 rfl) (by decide) ?_
    exact wp_ireturn hX hR (dk DX10_figures 28 rfl) rfl (Nat.le_refl _) (Nat.le_refl _) (⟨by simp [h33], rfl⟩)
  · refine wp_iconst (v := 0) hX (dk DX10_figures 19 rfl) (by decide) ?_
    exact wp_ireturn hX hR (dk DX10_figures 20 rfl) rfl (Nat.le_refl _) (Nat.le_refl _) (⟨by simp [h33], rfl⟩)
theorem t_figuresN (d : Nat) (sw : Bool) (f : Nat → Nat → Int32) (g : Nat → Nat → Int64) (c k : Nat) (y : Int32) (hc : c < 6) (hk1 : 1 ≤ k) (hk : k ≤ 10) (h : f 74 c = 2) (hy : y < 0) : CT (d + 110) 0 0 iX10_figures [.ref 0, .int (nI c), .int y, .int (nI k)] (S sw f g) (rdC g f 0) := by
  have key : CT (d + 109) 0 0 iX10_figuresCome [.ref 0, .int (nI c), .int y, .int (nI k)] (S sw f g) (QR (some (.int 0)) (S sw f g)) := by
    refine CT.of rfl (Nat.le_of_ble_eq_true rfl) (fun X hX hR hN _ => ?_)
    have hX : Good X RX10 cX10_figuresCome (d + 109) 0 0 := hX
    have hN : x_nl X = 8 := hN
    show WP X 0 0 0 [_, _, _, _, _, _, _, _] [] _
    refine wp_iconst (v := 0) hX (dk DX10_figuresCome 0 rfl) (by decide) ?_
    refine wp_istore hX (dk DX10_figuresCome 1 rfl) rfl hN (Nat.le_of_ble_eq_true rfl) ?_
    show WP _ _ _ 3 [_, _, _, _, _, _, _, _] [] _
    refine wp_iconst (v := 0) hX (dk DX10_figuresCome 2 rfl) (by decide) ?_
    refine wp_istore hX (dk DX10_figuresCome 3 rfl) rfl hN (Nat.le_of_ble_eq_true rfl) ?_
    show WP _ _ _ 6 [_, _, _, _, _, _, _, _] [] _
    refine wp_iload hX (dk DX10_figuresCome 4 rfl) rfl ?_
    refine wp_iload_n hX (dk DX10_figuresCome 5 rfl) rfl ?_
    refine wp_icmp_ge (tgt := 120) hX (dk DX10_figuresCome 6 rfl) (by decide) (fun h_ => absurd h_ (nI_ge (a := 0) (by omega) (by omega))) (fun _ => ?_)
    refine wp_aload_n hX (dk DX10_figuresCome 7 rfl) rfl ?_
    refine w_getr hX flX10_72 (dk DX10_figuresCome 8 rfl) rfl rfl ?_
    refine wp_iload_n hX (dk DX10_figuresCome 9 rfl) rfl ?_
    refine wp_iload_n hX (dk DX10_figuresCome 10 rfl) rfl ?_
    refine wp_iconst (v := 2) hX (dk DX10_figuresCome 11 rfl) (by decide) ?_
    refine wp_iload hX (dk DX10_figuresCome 12 rfl) rfl ?_
    refine wp_imul hX (dk DX10_figuresCome 13 rfl) ?_
    refine wp_iconst (v := 2) hX (dk DX10_figuresCome 14 rfl) (by decide) ?_
    refine wp_iadd hX (dk DX10_figuresCome 15 rfl) ?_
    refine w_callV (As := [_, _, _]) lkX10_329 hX (dk DX10_figuresCome 16 rfl) rfl rfl (by decide) hN (k_hasStretch (d + 108) sw f g c _ _ hc) ?_
    show WP _ _ _ 27 [_, _, _, _, _, _, _, _] [_] _
    refine wp_if_ne (tgt := 33) hX (dk DX10_figuresCome 17 rfl) (by decide) (fun h_ => absurd (by unfold jstr; rw [if_neg (fun q => q.1 hy)]) h_) (fun _ => ?_)
    refine wp_goto (tgt := 120) hX (dk DX10_figuresCome 18 rfl) (by decide) ?_
    refine wp_iload hX (dk DX10_figuresCome_1 4 rfl) rfl ?_
    exact wp_ireturn hX hR (dk DX10_figuresCome_1 5 rfl) rfl (Nat.le_refl _) (Nat.le_refl _) (⟨rfl, rfl⟩)
  refine CT.rdC ?_
  refine CT.of rfl (Nat.le_of_ble_eq_true rfl) (fun X hX hR hN _ => ?_)
  have hX : Good X RX10 cX10_figures (d + 110) 0 0 := hX
  have hN : x_nl X = 4 := hN
  show WP X 0 0 0 [_, _, _, _] [] _
  refine wp_aload_n hX (dk DX10_figures 0 rfl) rfl ?_
  refine w_getr hX flX10_72 (dk DX10_figures 1 rfl) rfl rfl ?_
  refine wp_iload_n hX (dk DX10_figures 2 rfl) rfl ?_
  refine w_callV (As := [_]) lkX10_91 hX (dk DX10_figures 3 rfl) rfl rfl (by decide) hN (k_shas (d + 109) sw f g (nI c)) ?_
  show WP _ _ _ 8 [_, _, _, _] [_] _
  rw [show jin (nI c) 6 = 1 from jin_1 (n := 6) (by decide) hc rfl]
  refine wp_if_eq (tgt := 22) hX (dk DX10_figures 4 rfl) (by decide) (fun h_ => absurd h_ (by decide)) (fun _ => ?_)
  refine wp_iload_n hX (dk DX10_figures 5 rfl) rfl ?_
  refine wp_iconst (v := 1) hX (dk DX10_figures 6 rfl) (by decide) ?_
  refine wp_icmp_lt (tgt := 22) hX (dk DX10_figures 7 rfl) (by decide) (fun h_ => absurd h_ (nI_nlt (b := 1) (by omega) (by omega))) (fun _ => ?_)
  refine wp_iload_n hX (dk DX10_figures 8 rfl) rfl ?_
  refine wp_bipush (v := 10) hX (dk DX10_figures 9 rfl) (by decide) ?_
  refine wp_icmp_le (tgt := 24) hX (dk DX10_figures 10 rfl) (by decide) (fun _ => ?_) (fun h_ => absurd (nI_le (b := 10) (by omega) (by omega)) h_)
  refine wp_aload_n hX (dk DX10_figures 13 rfl) rfl ?_
  refine w_getr hX flX10_72 (dk DX10_figures 14 rfl) rfl rfl ?_
  refine wp_iload_n hX (dk DX10_figures 15 rfl) rfl ?_
  refine w_callV (As := [_]) lkX10_94 hX (dk DX10_figures 16 rfl) rfl rfl (by decide) hN (k_sortOf (d + 109) sw f g c hc) ?_
  show WP _ _ _ 32 [_, _, _, _] [_] _
  rw [h]
  refine wp_iconst (v := -1) hX (dk DX10_figures 17 rfl) (by decide) ?_
  refine wp_icmp_ne (tgt := 38) hX (dk DX10_figures 18 rfl) (by decide) (fun _ => ?_) (fun h_ => absurd h_ (by decide))
  refine wp_aload_n hX (dk DX10_figures 21 rfl) rfl ?_
  refine w_getr hX flX10_72 (dk DX10_figures 22 rfl) rfl rfl ?_
  refine wp_iload_n hX (dk DX10_figures 23 rfl) rfl ?_
  refine w_callV (As := [_]) lkX10_94 hX (dk DX10_figures 24 rfl) rfl rfl (by decide) hN (k_sortOf (d + 109) sw f g c hc) ?_
  show WP _ _ _ 46 [_, _, _, _] [_] _
  rw [h]
  refine wp_iconst (v := 2) hX (dk DX10_figures 25 rfl) (by decide) ?_
  refine wp_icmp_eq (tgt := 53) hX (dk DX10_figures 26 rfl) (by decide) (fun _ => ?_) (fun h_ => absurd (rfl) h_)
  refine wp_aload_n hX (dk DX10_figures 29 rfl) rfl ?_
  refine wp_iload_n hX (dk DX10_figures 30 rfl) rfl ?_
  refine wp_iload_n hX (dk DX10_figures 31 rfl) rfl ?_
  refine wp_iload_n hX (dk DX10_figures 32 rfl) rfl ?_
  refine w_callV (As := [_, _, _]) lkX10_98 hX (dk DX10_figures 33 rfl) rfl rfl (by decide) hN (key) ?_
  show WP _ _ _ 60 [_, _, _, _] [_] _
  exact wp_ireturn hX hR (dk DX10_figures 34 rfl) rfl (Nat.le_refl _) (Nat.le_refl _) (⟨rfl, rfl⟩)
theorem t_figures1 (d : Nat) (sw : Bool) (f : Nat → Nat → Int32) (g : Nat → Nat → Int64) (n c z p q : Nat) (sh : Nat → Int32) (hs : stk f n sh) (hc : c < 6) (hk1 : 1 ≤ q) (hk : q ≤ 10) (h : f 74 c = 2) (hz : f 75 c = nI z) (hz60 : z ≤ 60) (hp : p < 2 ^ 31) : CT (d + 110) 0 0 iX10_figures [.ref 0, .int (nI c), .int (nI p), .int (nI q)] (S sw f g) (QS (fun r _ f2 g2 => ∃ k, fgC (fun i => g 76 (c * 60 + i)) z p n q k ∧ r = some (.int (nI k)) ∧ g2 = g ∧ (∀ b, ¬ inSt b → f2 b = f b) ∧ f2 3 = fgT (fun i => g 76 (c * 60 + i)) p n k (f 3) ∧ stk f2 (n + k) (fgS (fun i => g 76 (c * 60 + i)) p n k sh))) := by
  refine CT.of rfl (Nat.le_of_ble_eq_true rfl) (fun X hX hR hN _ => ?_)
  have hX : Good X RX10 cX10_figures (d + 110) 0 0 := hX
  have hN : x_nl X = 4 := hN
  show WP X 0 0 0 [_, _, _, _] [] _
  refine wp_aload_n hX (dk DX10_figures 0 rfl) rfl ?_
  refine w_getr hX flX10_72 (dk DX10_figures 1 rfl) rfl rfl ?_
  refine wp_iload_n hX (dk DX10_figures 2 rfl) rfl ?_
  refine w_callV (As := [_]) lkX10_91 hX (dk DX10_figures 3 rfl) rfl rfl (by decide) hN (k_shas (d + 109) sw f g (nI c)) ?_
  show WP _ _ _ 8 [_, _, _, _] [_] _
  rw [show jin (nI c) 6 = 1 from jin_1 (n := 6) (by decide) hc rfl]
  refine wp_if_eq (tgt := 22) hX (dk DX10_figures 4 rfl) (by decide) (fun h_ => absurd h_ (by decide)) (fun _ => ?_)
  refine wp_iload_n hX (dk DX10_figures 5 rfl) rfl ?_
  refine wp_iconst (v := 1) hX (dk DX10_figures 6 rfl) (by decide) ?_
  refine wp_icmp_lt (tgt := 22) hX (dk DX10_figures 7 rfl) (by decide) (fun h_ => absurd h_ (nI_nlt (b := 1) (by omega) (by omega))) (fun _ => ?_)
  refine wp_iload_n hX (dk DX10_figures 8 rfl) rfl ?_
  refine wp_bipush (v := 10) hX (dk DX10_figures 9 rfl) (by decide) ?_
  refine wp_icmp_le (tgt := 24) hX (dk DX10_figures 10 rfl) (by decide) (fun _ => ?_) (fun h_ => absurd (nI_le (b := 10) (by omega) (by omega)) h_)
  refine wp_aload_n hX (dk DX10_figures 13 rfl) rfl ?_
  refine w_getr hX flX10_72 (dk DX10_figures 14 rfl) rfl rfl ?_
  refine wp_iload_n hX (dk DX10_figures 15 rfl) rfl ?_
  refine w_callV (As := [_]) lkX10_94 hX (dk DX10_figures 16 rfl) rfl rfl (by decide) hN (k_sortOf (d + 109) sw f g c hc) ?_
  show WP _ _ _ 32 [_, _, _, _] [_] _
  rw [h]
  refine wp_iconst (v := -1) hX (dk DX10_figures 17 rfl) (by decide) ?_
  refine wp_icmp_ne (tgt := 38) hX (dk DX10_figures 18 rfl) (by decide) (fun _ => ?_) (fun h_ => absurd h_ (by decide))
  refine wp_aload_n hX (dk DX10_figures 21 rfl) rfl ?_
  refine w_getr hX flX10_72 (dk DX10_figures 22 rfl) rfl rfl ?_
  refine wp_iload_n hX (dk DX10_figures 23 rfl) rfl ?_
  refine w_callV (As := [_]) lkX10_94 hX (dk DX10_figures 24 rfl) rfl rfl (by decide) hN (k_sortOf (d + 109) sw f g c hc) ?_
  show WP _ _ _ 46 [_, _, _, _] [_] _
  rw [h]
  refine wp_iconst (v := 2) hX (dk DX10_figures 25 rfl) (by decide) ?_
  refine wp_icmp_eq (tgt := 53) hX (dk DX10_figures 26 rfl) (by decide) (fun _ => ?_) (fun h_ => absurd (rfl) h_)
  refine wp_aload_n hX (dk DX10_figures 29 rfl) rfl ?_
  refine wp_iload_n hX (dk DX10_figures 30 rfl) rfl ?_
  refine wp_iload_n hX (dk DX10_figures 31 rfl) rfl ?_
  refine wp_iload_n hX (dk DX10_figures 32 rfl) rfl ?_
  refine w_callVQ (As := [_, _, _]) lkX10_98 hX (dk DX10_figures 33 rfl) rfl rfl (by decide) hN (k_figCome (d + 104) sw f g n c z p q sh hs hc hz hz60 hp hk) (fun v_ sw_ f_ g_ hq_ => ?_)
  obtain ⟨k, a1, rfl, rfl, a2, a3, a4⟩ := hq_
  show WP _ _ _ 60 [_, _, _, _] [_] _
  exact wp_ireturn hX hR (dk DX10_figures 34 rfl) rfl (Nat.le_refl _) (Nat.le_refl _) (⟨_, _, _, rfl, k, a1, rfl, rfl, a2, a3, a4⟩)
