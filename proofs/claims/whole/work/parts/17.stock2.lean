/-! STOCK: sortIn, add -/
/-- byCells: all figures, those of fewer cells first -/
def srtP (f : Nat → Nat → Int32) (n : Nat) (sh : Nat → Int32) (π : Nat → Nat) : Prop := (∀ i, i < n → f 5 i = nI (π i) ∧ π i < n) ∧ (∀ k, k < n → ∃ i, i < n ∧ π i = k) ∧ ∀ i j, i < j → j < n → jpc (sh (π i)) ≤ jpc (sh (π j))
def srt (f : Nat → Nat → Int32) (n : Nat) (sh : Nat → Int32) : Prop := ∃ π, srtP f n sh π
theorem nI_dec (t : Nat) : nI (t + 1) + Int32.ofInt (-1) = nI t := pk_m1 t
theorem k_sortIn (d : Nat) (sw : Bool) (f : Nat → Nat → Int32) (g : Nat → Nat → Int64) (n : Nat) (sh : Nat → Int32) (hst : stF f (n + 1) sh) (hs : srt f n sh) : CT d 0 0 iX5_sortIn [.ref 1, .int (nI n)] (S sw f g) (QS (fun r sw2 f2 g2 => r = none ∧ sw2 = sw ∧ g2 = g ∧ (∀ b, b ≠ 5 → f2 b = f b) ∧ srt f2 (n + 1) sh)) := by
  have hn10 := hst.2.1
  obtain ⟨π, h1, h2, h3⟩ := hs
  refine CT.of rfl (Nat.le_of_ble_eq_true rfl) (fun X hX hR hN _ => ?_)
  have hX : Good X RX5 cX5_sortIn d 0 0 := hX
  have hN : x_nl X = 3 := hN
  show WP X 0 0 0 [_, _, _] [] _
  refine wp_iload_n hX (dk DX5_sortIn 0 rfl) rfl ?_
  refine wp_istore_n hX (dk DX5_sortIn 1 rfl) rfl rfl hN (Nat.le_of_ble_eq_true rfl) ?_
  show WP _ _ _ 2 [_, _, _] [] _
  -- the end: n is put at t
  have fin : ∀ (t : Nat) (f2 : Nat → Nat → Int32), t ≤ n → (∀ b, b ≠ 5 → f2 b = f b) → (∀ i, i < t → f2 5 i = nI (π i)) → (∀ i, t ≤ i → i < n → f2 5 (i + 1) = nI (π i)) → (∀ i, t ≤ i → i < n → jpc (sh n) ≤ jpc (sh (π i))) → (∀ i, i < t → jpc (sh (π i)) ≤ jpc (sh n)) → WP X 0 0 54 [some (.ref 1), some (.int (nI n)), some (.int (nI t))] [] (S sw f2 g) := by
    intro t f2 ht hf lo hi cb ca
    refine wp_aload_n hX (dk DX5_sortIn 32 rfl) rfl ?_
    refine w_getr hX flX5_24 (dk DX5_sortIn 33 rfl) rfl rfl ?_
    refine wp_iload_n hX (dk DX5_sortIn 34 rfl) rfl ?_
    refine wp_iload_n hX (dk DX5_sortIn 35 rfl) rfl ?_
    refine w_iast (j := _) hX (dk DX5_sortIn 36 rfl) rfl rfl (show _ < 10 by omega) ?_
    refine wp_return hX hR (dk DX5_sortIn 37 rfl) (Nat.le_refl _) (Nat.le_refl _) ⟨sw, _, g, rfl, rfl, rfl, rfl, fun b hb => by rw [u2_ne _ _ _ hb]; exact hf b hb, fun i => if i < t then π i else if i = t then n else π (i - 1), ?_, ?_, ?_⟩
    · intro i hi1
      dsimp only
      by_cases c1 : i < t
      · rw [if_pos c1, u2_off _ _ _ (by omega)]
        exact ⟨lo i c1, by have := (h1 i (by omega)).2; omega⟩
      · rw [if_neg c1]
        by_cases c2 : i = t
        · rw [if_pos c2, c2, u2_at]
          exact ⟨rfl, by omega⟩
        · rw [if_neg c2, u2_off _ _ _ c2]
          have e := hi (i - 1) (by omega) (by omega)
          rw [show i - 1 + 1 = i by omega] at e
          exact ⟨e, by have := (h1 (i - 1) (by omega)).2; omega⟩
    · intro k hk
      by_cases c1 : k = n
      · exact ⟨t, by omega, by dsimp only; rw [if_neg (by omega), if_pos rfl, c1]⟩
      · obtain ⟨i, hi1, hi2⟩ := h2 k (by omega)
        by_cases c2 : i < t
        · exact ⟨i, by omega, by dsimp only; rw [if_pos c2, hi2]⟩
        · exact ⟨i + 1, by omega, by dsimp only; rw [if_neg (by omega), if_neg (by omega)]; exact hi2⟩
    · intro i j hij hj
      dsimp only
      by_cases c1 : i < t
      · rw [if_pos c1]
        by_cases c3 : j < t
        · rw [if_pos c3]; exact h3 i j hij (by omega)
        · rw [if_neg c3]
          by_cases c4 : j = t
          · rw [if_pos c4]; exact ca i c1
          · rw [if_neg c4]; exact h3 i (j - 1) (by omega) (by omega)
      · rw [if_neg c1, if_neg (show ¬ j < t by omega), if_neg (show ¬ j = t by omega)]
        by_cases c2 : i = t
        · rw [if_pos c2]; exact cb (j - 1) (by omega) (by omega)
        · rw [if_neg c2]; exact h3 (i - 1) (j - 1) (by omega) (by omega)
  have lp : ∀ (t : Nat) (f2 : Nat → Nat → Int32), t ≤ n → stF f2 (n + 1) sh → (∀ b, b ≠ 5 → f2 b = f b) → (∀ i, i < t → f2 5 i = nI (π i)) → (∀ i, t ≤ i → i < n → f2 5 (i + 1) = nI (π i)) → (∀ i, t ≤ i → i < n → jpc (sh n) ≤ jpc (sh (π i))) → WP X 0 0 2 [some (.ref 1), some (.int (nI n)), some (.int (nI t))] [] (S sw f2 g) := by
    intro t
    induction t with
    | zero =>
      intro f2 ht hst2 hf lo hi cb
      refine wp_iload_n hX (dk DX5_sortIn 2 rfl) rfl ?_
      refine wp_if_le (tgt := 54) hX (dk DX5_sortIn 3 rfl) (by decide) (fun _ => ?_) (fun h_ => absurd ((by decide)) h_)
      exact fin 0 f2 ht hf lo hi cb (fun i hi => absurd hi (by omega))
    | succ t ih =>
      intro f2 ht hst2 hf lo hi cb
      have hpt := (h1 t (by omega)).2
      refine wp_iload_n hX (dk DX5_sortIn 2 rfl) rfl ?_
      refine wp_if_le (tgt := 54) hX (dk DX5_sortIn 3 rfl) (by decide) (fun h_ => absurd h_ ((nI_nle (by omega) (by omega)))) (fun _ => ?_)
      refine wp_aload_n hX (dk DX5_sortIn 4 rfl) rfl ?_
      refine w_getr hX flX5_11 (dk DX5_sortIn 5 rfl) rfl rfl ?_
      refine wp_aload_n hX (dk DX5_sortIn 6 rfl) rfl ?_
      refine w_getr hX flX5_24 (dk DX5_sortIn 7 rfl) rfl rfl ?_
      refine wp_iload_n hX (dk DX5_sortIn 8 rfl) rfl ?_
      refine wp_iconst (v := 1) hX (dk DX5_sortIn 9 rfl) (by decide) ?_
      refine wp_isub hX (dk DX5_sortIn 10 rfl) ?_
      refine w_iald (j := t) hX (dk DX5_sortIn 11 rfl) rfl (nI_pred t) (show _ < 10 by omega) ?_
      rw [lo t (by omega)]
      refine w_aald (j := _) hX (dk DX5_sortIn 12 rfl) rfl rfl (show _ < 10 by omega) (rf_form sw _ (by omega)) ?_
      refine w_geti hX flX5_61 (dk DX5_sortIn 13 rfl) (by decide) (isF_st _ (by omega)).1 ?_
      refine wp_aload_n hX (dk DX5_sortIn 14 rfl) rfl ?_
      refine w_getr hX flX5_11 (dk DX5_sortIn 15 rfl) rfl rfl ?_
      refine wp_iload_n hX (dk DX5_sortIn 16 rfl) rfl ?_
      refine w_aald (j := _) hX (dk DX5_sortIn 17 rfl) rfl rfl (show _ < 10 by omega) (rf_form sw n (by omega)) ?_
      refine w_geti hX flX5_61 (dk DX5_sortIn 18 rfl) (by decide) (isF_st n (by omega)).1 ?_
      rw [(hst2.2.2 (π t) (by omega)).2.1, (hst2.2.2 n (by omega)).2.1]
      refine wp_icmp_le (tgt := 54) hX (dk DX5_sortIn 19 rfl) (by decide) (fun h => ?_) (fun h => ?_)
      · refine fin (t + 1) f2 ht hf lo hi cb (fun i hi1 => ?_)
        by_cases c : i = t
        · subst c; exact h
        · exact Int32.le_trans (h3 i t (by omega) (by omega)) h
      · refine wp_aload_n hX (dk DX5_sortIn 20 rfl) rfl ?_
        refine w_getr hX flX5_24 (dk DX5_sortIn 21 rfl) rfl rfl ?_
        refine wp_iload_n hX (dk DX5_sortIn 22 rfl) rfl ?_
        refine wp_aload_n hX (dk DX5_sortIn 23 rfl) rfl ?_
        refine w_getr hX flX5_24 (dk DX5_sortIn 24 rfl) rfl rfl ?_
        refine wp_iload_n hX (dk DX5_sortIn 25 rfl) rfl ?_
        refine wp_iconst (v := 1) hX (dk DX5_sortIn 26 rfl) (by decide) ?_
        refine wp_isub hX (dk DX5_sortIn 27 rfl) ?_
        refine w_iald (j := t) hX (dk DX5_sortIn 28 rfl) rfl (nI_pred t) (show _ < 10 by omega) ?_
        rw [lo t (by omega)]
        refine w_iast (j := _) hX (dk DX5_sortIn 29 rfl) rfl rfl (show _ < 10 by omega) ?_
        refine wp_iinc hX (dk DX5_sortIn 30 rfl) rfl (nI_dec t) rfl hN ?_
        show WP _ _ _ 51 [_, _, _] [] _
        refine wp_goto (tgt := 2) hX (dk DX5_sortIn 31 rfl) (by decide) ?_
        -- to 2
        refine ih _ (by omega) (hst2.put (Or.inr (Or.inr rfl))) (fun b hb => by rw [u2_ne _ _ _ hb]; exact hf b hb) (fun i hi1 => ?_) (fun i hi1 hi2 => ?_) (fun i hi1 hi2 => ?_)
        · rw [u2_off _ _ _ (by omega)]; exact lo i (by omega)
        · by_cases c : i = t
          · subst c; rw [u2_at]
          · rw [u2_off _ _ _ (by omega)]; exact hi i (by omega) hi2
        · by_cases c : i = t
          · subst c; exact Int32.le_of_lt (Int32.not_le.mp h)
          · exact cb i (by omega) hi2
  exact lp n f (by omega) hst (fun _ _ => rfl) (fun i hi => (h1 i hi).1) (fun i h1 h2 => absurd h1 (by omega)) (fun i h1 h2 => absurd h1 (by omega))
/-- the whole stock: n figures of shapes sh -/
def stk (f : Nat → Nat → Int32) (n : Nat) (sh : Nat → Int32) : Prop := stF f n sh ∧ blw f n n sh ∧ srt f n sh
/-- cells of the stock -/
def inSt (b : Nat) : Prop := 1 ≤ b ∧ b ≤ 45
theorem fOk.same {f f2 : Nat → Nat → Int32} {a : Nat} {s : Int32} (h : fOk f a s) (h1 : f2 a = f a) (h2 : f2 (a + 1) = f (a + 1)) (h3 : f2 (a + 2) = f (a + 2)) (h4 : f2 (a + 3) = f (a + 3)) : fOk f2 a s := by
  unfold fOk hasP at *
  rw [h1, h2, h3, h4]
  exact h
theorem stk.same {f f2 : Nat → Nat → Int32} {n : Nat} {sh : Nat → Int32} (h : stk f n sh) (he : ∀ b, inSt b → b ≠ 3 → f2 b = f b) : stk f2 n sh := by
  obtain ⟨⟨h1, h2, h3⟩, h4, π, h5, h6⟩ := h
  refine ⟨⟨by rw [he 1 (by unfold inSt; omega) (by omega)]; exact h1, h2, fun i hi => (h3 i hi).same (he _ (by unfold inSt; omega) (by omega)) (he _ (by unfold inSt; omega) (by omega)) (he _ (by unfold inSt; omega) (by omega)) (he _ (by unfold inSt; omega) (by omega))⟩, fun i hi => by rw [he 4 (by unfold inSt; omega) (by omega)]; exact h4 i hi, π, fun i hi => by rw [he 5 (by unfold inSt; omega) (by omega)]; exact h5 i hi, h6⟩
theorem jbs_cong {q r : Nat → Int32} : ∀ (n : Nat), (∀ k, k < n → q k = r k) → jbs q n = jbs r n
  | 0, _ => rfl
  | n + 1, h => by rw [jbs, jbs, h n (by omega), jbs_cong n (fun k hk => h k (by omega))]
theorem k_add_full (d : Nat) (sw : Bool) (f : Nat → Nat → Int32) (g : Nat → Nat → Int64) (x w : Int32) (h : f 1 4 = nI 10) : CT d 0 0 iX5_add [.ref 1, .int x, .int w] (S sw f g) (QR (some (.int (-3))) (S sw f g)) := by
  refine CT.of rfl (Nat.le_of_ble_eq_true rfl) (fun X hX hR hN _ => ?_)
  have hX : Good X RX5 cX5_add d 0 0 := hX
  have hN : x_nl X = 4 := hN
  show WP X 0 0 0 [_, _, _, _] [] _
  refine wp_aload_n hX (dk DX5_add 0 rfl) rfl ?_
  refine w_geti hX flX5_28 (dk DX5_add 1 rfl) (by decide) rfl ?_
  refine wp_bipush (v := 10) hX (dk DX5_add 2 rfl) (by decide) ?_
  rw [h]
  refine wp_icmp_lt (tgt := 12) hX (dk DX5_add 3 rfl) (by decide) (fun h_ => absurd h_ ((by decide))) (fun _ => ?_)
  refine wp_bipush (v := -3) hX (dk DX5_add 4 rfl) (by decide) ?_
  exact wp_ireturn hX hR (dk DX5_add 5 rfl) rfl (Nat.le_refl _) (Nat.le_refl _) (⟨rfl, rfl⟩)
theorem k_add (d : Nat) (sw : Bool) (f : Nat → Nat → Int32) (g : Nat → Nat → Int64) (n : Nat) (sh : Nat → Int32) (x w : Int32) (hn : n < 10) (hs : stk f n sh) : CT (d + 4) 0 0 iX5_add [.ref 1, .int x, .int w] (S sw f g) (QS (fun r sw2 f2 g2 => r = some (.int (nI n)) ∧ sw2 = sw ∧ g2 = g ∧ (∀ b, ¬ inSt b → f2 b = f b) ∧ (∀ i, f2 3 i = if i = n * 3 then w else f 3 i) ∧ stk f2 (n + 1) (fun i => if i = n then x else sh i))) := by
  obtain ⟨⟨hs1, hs2, hs3⟩, hs4, hs5⟩ := hs
  refine CT.of rfl (Nat.le_of_ble_eq_true rfl) (fun X hX hR hN _ => ?_)
  have hX : Good X RX5 cX5_add (d + 4) 0 0 := hX
  have hN : x_nl X = 4 := hN
  show WP X 0 0 0 [_, _, _, _] [] _
  refine wp_aload_n hX (dk DX5_add 0 rfl) rfl ?_
  refine w_geti hX flX5_28 (dk DX5_add 1 rfl) (by decide) rfl ?_
  refine wp_bipush (v := 10) hX (dk DX5_add 2 rfl) (by decide) ?_
  rw [hs1]
  refine wp_icmp_lt (tgt := 12) hX (dk DX5_add 3 rfl) (by decide) (fun _ => ?_) (fun h_ => absurd ((nI_lt (b := 10) hn (by omega))) h_)
  refine wp_aload_n hX (dk DX5_add 6 rfl) rfl ?_
  refine w_geti hX flX5_28 (dk DX5_add 7 rfl) (by decide) rfl ?_
  rw [hs1]
  refine wp_istore_n hX (dk DX5_add 8 rfl) rfl rfl hN (Nat.le_of_ble_eq_true rfl) ?_
  show WP _ _ _ 17 [_, _, _, _] [] _
  refine wp_aload_n hX (dk DX5_add 9 rfl) rfl ?_
  refine w_getr hX flX5_11 (dk DX5_add 10 rfl) rfl rfl ?_
  refine wp_iload_n hX (dk DX5_add 11 rfl) rfl ?_
  refine w_aald (j := _) hX (dk DX5_add 12 rfl) rfl rfl (show _ < 10 by omega) (rf_form sw n hn) ?_
  refine wp_iload_n hX (dk DX5_add 13 rfl) rfl ?_
  refine w_callVQ (As := [_]) lkX5_32 hX (dk DX5_add 14 rfl) (isF_st n hn).1 rfl (by decide) hN (k_take (d + 1) sw f g (6 + 4 * n) x (isF_st n hn)) (fun v_ sw_ f_ g_ hq_ => ?_)
  obtain ⟨rfl, rfl, rfl, hsf, hfo⟩ := hq_
  show WP _ _ _ 27 [_, _, _, _] [] _
  refine wp_aload_n hX (dk DX5_add 15 rfl) rfl ?_
  refine wp_iload_n hX (dk DX5_add 16 rfl) rfl ?_
  refine wp_iconst (v := 0) hX (dk DX5_add 17 rfl) (by decide) ?_
  refine wp_iload_n hX (dk DX5_add 18 rfl) rfl ?_
  refine w_callV (As := [_, _, _]) lkX5_36 hX (dk DX5_add 19 rfl) rfl rfl (by decide) hN (k_setTrait (d + 3) sw_ f_ g_ n 0 w hn (by omega)) ?_
  show WP _ _ _ 34 [_, _, _, _] [] _
  refine wp_aload_n hX (dk DX5_add 20 rfl) rfl ?_
  refine wp_dup hX (dk DX5_add 21 rfl) rfl ?_
  have e0 : ∀ b, b ≠ 3 → (b < 6 + 4 * n ∨ 6 + 4 * n + 3 < b) → u2 f_ 3 (n * 3 + 0) w b = f b := fun b h1 h2 => by
    rw [u2_ne _ _ _ h1]
    exact hsf b (by omega) (by omega) (by omega) (by omega)
  refine w_geti hX flX5_28 (dk DX5_add 22 rfl) (by decide) rfl ?_
  rw [e0 1 (by omega) (by omega), hs1]
  refine wp_iconst (v := 1) hX (dk DX5_add 23 rfl) (by decide) ?_
  refine wp_iadd hX (dk DX5_add 24 rfl) ?_
  refine w_puti hX fpX5_28 (dk DX5_add 25 rfl) rfl ?_
  obtain ⟨f3, hf3⟩ : ∃ z, z = u2 (u2 f_ 3 (n * 3 + 0) w) 1 4 (nI n + 1) := ⟨_, rfl⟩
  rw [← hf3]
  have e1 : ∀ b, b ≠ 3 → b ≠ 1 → (b < 6 + 4 * n ∨ 6 + 4 * n + 3 < b) → f3 b = f b := fun b h1 h2 h3 => by
    rw [hf3, u2_ne _ _ _ h2]
    exact e0 b h1 h3
  have hst3 : stF f3 (n + 1) (fun i => if i = n then x else sh i) := by
    refine ⟨by rw [hf3, u2_at, nI_1], by omega, fun i hi => ?_⟩
    dsimp only
    by_cases c : i = n
    · rw [if_pos c, c]
      refine hfo.same ?_ ?_ ?_ ?_ <;> rw [hf3, u2_ne _ _ _ (by omega), u2_ne _ _ _ (by omega)]
    · rw [if_neg c]
      refine (hs3 i (by omega)).same ?_ ?_ ?_ ?_ <;> exact e1 _ (by omega) (by omega) (by omega)
  have hb3 : blw f3 n n (fun i => if i = n then x else sh i) := by
    intro i hi
    rw [e1 4 (by omega) (by omega) (by omega), hs4 i hi]
    refine jbs_cong n (fun j hj => ?_)
    show jct (sh j) (sh i) = jct (if j = n then x else sh j) (if i = n then x else sh i)
    rw [if_neg (show ¬ j = n by omega), if_neg (show ¬ i = n by omega)]
  have hs3' : srt f3 n (fun i => if i = n then x else sh i) := by
    obtain ⟨π, p1, p2, p3⟩ := hs5
    refine ⟨π, fun i hi => by rw [e1 5 (by omega) (by omega) (by omega)]; exact p1 i hi, p2, fun i j hij hj => ?_⟩
    have c1 := (p1 i (by omega)).2
    have c2 := (p1 j hj).2
    show jpc (if π i = n then x else sh (π i)) ≤ jpc (if π j = n then x else sh (π j))
    rw [if_neg (show ¬ π i = n by omega), if_neg (show ¬ π j = n by omega)]
    exact p3 i j hij hj
  refine wp_aload_n hX (dk DX5_add 26 rfl) rfl ?_
  refine wp_iload_n hX (dk DX5_add 27 rfl) rfl ?_
  refine w_callVQ (As := [_]) lkX5_40 hX (dk DX5_add 28 rfl) rfl rfl (by decide) hN (k_relate d sw_ f3 g_ n _ hst3 hb3) (fun v_ sw_ f_ g_ hq_ => ?_)
  obtain ⟨rfl, rfl, rfl, hf4, hb4⟩ := hq_
  show WP _ _ _ 49 [_, _, _, _] [] _
  have hst4 : stF f_ (n + 1) (fun i => if i = n then x else sh i) := ⟨by rw [hf4 1 (by omega)]; exact hst3.1, hst3.2.1, fun i hi => (hst3.2.2 i hi).same (hf4 _ (by omega)) (hf4 _ (by omega)) (hf4 _ (by omega)) (hf4 _ (by omega))⟩
  have hs4' : srt f_ n (fun i => if i = n then x else sh i) := by
    obtain ⟨π, p1, p2, p3⟩ := hs3'
    exact ⟨π, fun i hi => by rw [hf4 5 (by omega)]; exact p1 i hi, p2, p3⟩
  refine wp_aload_n hX (dk DX5_add 29 rfl) rfl ?_
  refine wp_iload_n hX (dk DX5_add 30 rfl) rfl ?_
  refine w_callVQ (As := [_]) lkX5_43 hX (dk DX5_add 31 rfl) rfl rfl (by decide) hN (k_sortIn (d + 3) sw_ f_ g_ n _ hst4 hs4') (fun v_ sw_ f_ g_ hq_ => ?_)
  obtain ⟨rfl, rfl, rfl, hf5, hs5'⟩ := hq_
  show WP _ _ _ 54 [_, _, _, _] [] _
  refine wp_iload_n hX (dk DX5_add 32 rfl) rfl ?_
  refine wp_ireturn hX hR (dk DX5_add 33 rfl) rfl (Nat.le_refl _) (Nat.le_refl _) ⟨_, _, _, rfl, rfl, rfl, rfl, fun b hb => ?_, fun i => ?_, ⟨?_, ?_, hs5'⟩⟩
  · unfold inSt at hb
    rw [hf5 b (by omega), hf4 b (by omega)]
    exact e1 b (by omega) (by omega) (by omega)
  · rw [hf5 3 (by omega), hf4 3 (by omega), hf3, u2_ne _ _ _ (by omega)]
    by_cases c : i = n * 3
    · rw [if_pos c, c]; exact u2_at _ _ _ _
    · rw [if_neg c, u2_off _ _ _ (by omega), hsf 3 (by omega) (by omega) (by omega) (by omega)]
  · exact ⟨by rw [hf5 1 (by omega)]; exact hst4.1, hst4.2.1, fun i hi => (hst4.2.2 i hi).same (hf5 _ (by omega)) (hf5 _ (by omega)) (hf5 _ (by omega)) (hf5 _ (by omega))⟩
  · intro i hi
    rw [hf5 4 (by omega)]
    exact hb4 i hi
