/-! ROWS: measure, play, draw -/
theorem jct_lt {s x : Int32} (h : ¬ jct s x = 0) : jpc s < jpc x := by
  unfold jct jcan at h
  split at h
  · next c => exact c.1
  · exact absurd rfl h
/-- who is in the set below i has fewer cells -/
theorem stk.cut {f : Nat → Nat → Int32} {n : Nat} {sh : Nat → Int32} (h : stk f n sh) {i j : Nat} (hi : i < n) (hj : j < 32) : bt (f 4 i) j = decide (j < n ∧ ¬ jct (sh j) (sh i) = 0) := by
  rw [h.2.1 i hi, bt_jbs _ n j (by have := h.1.2.1; omega) hj]
theorem stk.lt {f : Nat → Nat → Int32} {n : Nat} {sh : Nat → Int32} (h : stk f n sh) {i j : Nat} (hi : i < n) (hj : j < n) (hb : bt (f 4 i) j = true) : jpc (sh j) < jpc (sh i) := by
  have := h.1.2.1
  rw [h.cut hi (by omega)] at hb
  exact jct_lt (of_decide_eq_true hb).2
theorem jmx_cong {r q : Nat → Int32} {s : Int32} : ∀ (n : Nat), n ≤ 32 → (∀ k, k < n → bt s k = true → r k = q k) → jmx r s n = jmx q s n
  | 0, _, _ => rfl
  | n + 1, hn, h => by
    rw [jmx, jmx, jmx_cong n (by omega) (fun k hk => h k (by omega))]
    by_cases c : jb s n = 0
    · rw [if_pos c, if_pos c]
    · rw [if_neg c, if_neg c, h n (by omega) ((jb_ne s (by omega)).mp c)]
/-- how long the longest row from each figure is -/
def lenOk (r B : Nat → Int32) (al : Int32) (n : Nat) (i : Nat) : Prop := r i = if jb al i = 0 then 0 else 1 + jmx r (B i) n
theorem k_measure (d : Nat) (sw : Bool) (f : Nat → Nat → Int32) (g : Nat → Nat → Int64) (n : Nat) (sh : Nat → Int32) (al : Int32) (hs : stk f n sh) : CT (d + 2) 0 0 iX2_measure [.ref 53, .int al] (S sw f g) (QS (fun r sw2 f2 g2 => r = none ∧ sw2 = sw ∧ g2 = g ∧ (∀ b, b ≠ 54 → f2 b = f b) ∧ ∀ i, i < n → lenOk (f2 54) (f 4) al n i)) := by
  have hn := hs.1.1
  have hn10 := hs.1.2.1
  obtain ⟨π, p1, p2, p3⟩ := hs.2.2
  refine CT.of rfl (Nat.le_of_ble_eq_true rfl) (fun X hX hR hN _ => ?_)
  have hX : Good X RX2 cX2_measure (d + 2) 0 0 := hX
  have hN : x_nl X = 4 := hN
  show WP X 0 0 0 [_, _, _, _] [] _
  refine wp_iconst (v := 0) hX (dk DX2_measure 0 rfl) (by decide) ?_
  refine wp_istore_n hX (dk DX2_measure 1 rfl) rfl rfl hN (Nat.le_of_ble_eq_true rfl) ?_
  show WP _ _ _ 2 [_, _, _, _] [] _
  have lo : ∀ (m i : Nat) (f2 : Nat → Nat → Int32) (z : Option Value), i + m = n → (∀ b, b ≠ 54 → f2 b = f b) → (∀ p, p < i → lenOk (f2 54) (f 4) al n (π p)) → WP X 0 0 2 [some (.ref 53), some (.int al), some (.int (nI i)), z] [] (S sw f2 g) := by
    intro m
    induction m with
    | zero =>
      intro i f2 z hi hf hl
      obtain rfl : i = n := by omega
      refine wp_iload_n hX (dk DX2_measure 2 rfl) rfl ?_
      refine wp_aload_n hX (dk DX2_measure 3 rfl) rfl ?_
      refine w_getr hX flX2_24 (dk DX2_measure 4 rfl) rfl rfl ?_
      refine w_callV (As := []) lkX2_32 hX (dk DX2_measure 5 rfl) rfl rfl (by simp [Value.category]) hN (k_came (d + 1) sw f2 g) ?_
      show WP _ _ _ 10 [_, _, _, _] [_, _] _
      refine wp_icmp_ge (tgt := 60) hX (dk DX2_measure 6 rfl) (by decide) (fun _ => ?_) (fun h_ => absurd ((by rw [hf 1 (by decide), hn]; exact nI_le (by omega) (by omega))) h_)
      refine wp_return hX hR (dk DX2_measure 32 rfl) (Nat.le_refl _) (Nat.le_refl _) ⟨sw, f2, g, rfl, rfl, rfl, rfl, hf, fun a ha => ?_⟩
      obtain ⟨p, hp, rfl⟩ := p2 a ha
      exact hl p hp
    | succ m ih =>
      intro i f2 z hi hf hl
      obtain ⟨e5, ha⟩ := p1 i (by omega)
      obtain ⟨a, hadef⟩ : ∃ a, a = π i := ⟨_, rfl⟩
      rw [← hadef] at e5 ha
      -- the new row
      have key : ∀ v : Int32, v = (if jb al a = 0 then 0 else 1 + jmx (f2 54) (f 4 a) n) → WP X 0 0 54 [some (.ref 53), some (.int al), some (.int (nI i)), some (.int (nI a))] [] (S sw (u2 f2 54 a v) g) := by
        intro v hv
        refine wp_iinc hX (dk DX2_measure 30 rfl) rfl (nI_inc _) rfl hN ?_
        show WP _ _ _ 57 [_, _, _, _] [] _
        refine wp_goto (tgt := 2) hX (dk DX2_measure 31 rfl) (by decide) ?_
        -- to 2
        refine ih (i + 1) _ _ (by omega) (fun b hb => by rw [u2_ne _ _ _ hb]; exact hf b hb) (fun p hp => ?_)
        have own : lenOk (u2 f2 54 a v 54) (f 4) al n a := by
          unfold lenOk
          rw [u2_at, hv]
          have : jmx (u2 f2 54 a v 54) (f 4 a) n = jmx (f2 54) (f 4 a) n := jmx_cong n (by omega) (fun k hk hb => u2_off _ _ _ (fun e => by
            subst e
            exact Int32.lt_irrefl (hs.lt ha hk hb)))
          rw [← hv, this]
          exact hv
        by_cases c : π p = a
        · rw [c]; exact own
        · have hp2 : p < i := by
            by_cases c2 : p = i
            · subst c2; exact absurd hadef.symm c
            · omega
          have old := hl p hp2
          have hpn := (p1 p (by omega)).2
          unfold lenOk at old ⊢
          rw [u2_off _ _ _ c, old]
          have : jmx (u2 f2 54 a v 54) (f 4 (π p)) n = jmx (f2 54) (f 4 (π p)) n := jmx_cong n (by omega) (fun k hk hb => u2_off _ _ _ (fun e => by
            subst e
            have h1 := hs.lt hpn hk hb
            have h2 := p3 p i hp2 (by omega)
            rw [← hadef] at h2
            exact Int32.lt_irrefl (Int32.lt_of_lt_of_le h1 h2)))
          rw [this]
      refine wp_iload_n hX (dk DX2_measure 2 rfl) rfl ?_
      refine wp_aload_n hX (dk DX2_measure 3 rfl) rfl ?_
      refine w_getr hX flX2_24 (dk DX2_measure 4 rfl) rfl rfl ?_
      refine w_callV (As := []) lkX2_32 hX (dk DX2_measure 5 rfl) rfl rfl (by simp [Value.category]) hN (k_came (d + 1) sw f2 g) ?_
      show WP _ _ _ 10 [_, _, _, _] [_, _] _
      refine wp_icmp_ge (tgt := 60) hX (dk DX2_measure 6 rfl) (by decide) (fun h_ => absurd h_ ((by rw [hf 1 (by decide), hn]; exact nI_ge (by omega) (by omega)))) (fun _ => ?_)
      refine wp_aload_n hX (dk DX2_measure 7 rfl) rfl ?_
      refine w_getr hX flX2_24 (dk DX2_measure 8 rfl) rfl rfl ?_
      refine wp_iload_n hX (dk DX2_measure 9 rfl) rfl ?_
      refine w_callV (As := [_]) lkX2_38 hX (dk DX2_measure 10 rfl) rfl rfl (by decide) hN (k_bySize (d + 1) sw f2 g i (by omega)) ?_
      show WP _ _ _ 21 [_, _, _, _] [_] _
      rw [hf 5 (by decide), e5]
      refine wp_istore_n hX (dk DX2_measure 11 rfl) rfl rfl hN (Nat.le_of_ble_eq_true rfl) ?_
      show WP _ _ _ 22 [_, _, _, _] [] _
      refine wp_aload_n hX (dk DX2_measure 12 rfl) rfl ?_
      refine w_getr hX flX2_9 (dk DX2_measure 13 rfl) rfl rfl ?_
      refine wp_iload_n hX (dk DX2_measure 14 rfl) rfl ?_
      refine wp_iload_n hX (dk DX2_measure 15 rfl) rfl ?_
      refine wp_iload_n hX (dk DX2_measure 16 rfl) rfl ?_
      refine w_callS (As := [_, _]) lkX2_42 hX (dk DX2_measure 17 rfl) rfl (by simp [Value.category]) (k_holds (d + 1) al (nI a) _) ?_
      show WP _ _ _ 32 [_, _, _, _] [_, _, _] _
      refine wp_if_eq (tgt := 52) hX (dk DX2_measure 18 rfl) (by decide) (fun h => ?_) (fun h => ?_)
      · refine wp_iconst (v := 0) hX (dk DX2_measure 28 rfl) (by decide) ?_
        refine w_iast (j := _) hX (dk DX2_measure 29 rfl) rfl rfl (show _ < 10 by omega) ?_
        exact key _ (by rw [if_pos h])
      · refine wp_iconst (v := 1) hX (dk DX2_measure 19 rfl) (by decide) ?_
        refine wp_aload_n hX (dk DX2_measure 20 rfl) rfl ?_
        refine wp_aload_n hX (dk DX2_measure 21 rfl) rfl ?_
        refine w_getr hX flX2_24 (dk DX2_measure 22 rfl) rfl rfl ?_
        refine wp_iload_n hX (dk DX2_measure 23 rfl) rfl ?_
        refine w_callV (As := [_]) lkX2_46 hX (dk DX2_measure 24 rfl) rfl rfl (by simp [Value.category]) hN (k_outOf (d + 1) sw f2 g a (by omega)) ?_
        show WP _ _ _ 45 [_, _, _, _] [_, _, _, _, _] _
        rw [hf 4 (by decide)]
        refine w_callV (As := [_]) lkX2_49 hX (dk DX2_measure 25 rfl) rfl rfl (by simp [Value.category]) hN (k_longestOf d sw f2 g n (f 4 a) (by rw [hf 1 (by decide)]; exact hn) hn10) ?_
        show WP _ _ _ 48 [_, _, _, _] [_, _, _, _] _
        refine wp_iadd hX (dk DX2_measure 26 rfl) ?_
        refine wp_goto (tgt := 53) hX (dk DX2_measure 27 rfl) (by decide) ?_
        -- to 53
        refine w_iast (j := _) hX (dk DX2_measure 29 rfl) rfl rfl (show _ < 10 by omega) ?_
        exact key _ (by rw [if_neg h])
  exact lo n 0 f none (by omega) (fun _ _ => rfl) (fun p hp => absurd hp (by omega))
theorem stk.at54 {f f2 : Nat → Nat → Int32} {n : Nat} {sh : Nat → Int32} (h : stk f n sh) (he : ∀ b, b ≠ 54 → f2 b = f b) : stk f2 n sh := h.same (fun b hb _ => he b (by unfold inSt at hb; omega))
theorem k_longestWithout (d : Nat) (sw : Bool) (f : Nat → Nat → Int32) (g : Nat → Nat → Int64) (n i : Nat) (sh : Nat → Int32) (s : Int32) (hs : stk f n sh) : CT (d + 3) 0 0 iX2_longestWithout [.ref 53, .int s, .int (nI i)] (S sw f g) (QS (fun r sw2 f2 g2 => sw2 = sw ∧ g2 = g ∧ (∀ b, b ≠ 54 → f2 b = f b) ∧ (∀ k, k < n → lenOk (f2 54) (f 4) (jall (nI n) &&& (((1 : Int32) <<< (nI i &&& 31)) ^^^ (-1))) n k) ∧ r = some (.int (jmx (f2 54) s n)))) := by
  refine CT.of rfl (Nat.le_of_ble_eq_true rfl) (fun X hX hR hN _ => ?_)
  have hX : Good X RX2 cX2_longestWithout (d + 3) 0 0 := hX
  have hN : x_nl X = 3 := hN
  show WP X 0 0 0 [_, _, _] [] _
  refine wp_aload_n hX (dk DX2_longestWithout 0 rfl) rfl ?_
  refine wp_aload_n hX (dk DX2_longestWithout 1 rfl) rfl ?_
  refine w_getr hX flX2_24 (dk DX2_longestWithout 2 rfl) rfl rfl ?_
  refine w_callV (As := []) lkX2_61 hX (dk DX2_longestWithout 3 rfl) rfl rfl (by simp [Value.category]) hN (k_all (d + 2) sw f g) ?_
  show WP _ _ _ 8 [_, _, _] [_, _] _
  rw [hs.1.1]
  refine wp_iconst (v := 1) hX (dk DX2_longestWithout 4 rfl) (by decide) ?_
  refine wp_iload_n hX (dk DX2_longestWithout 5 rfl) rfl ?_
  refine wp_ishl hX (dk DX2_longestWithout 6 rfl) ?_
  refine wp_iconst (v := -1) hX (dk DX2_longestWithout 7 rfl) (by decide) ?_
  refine wp_ixor hX (dk DX2_longestWithout 8 rfl) ?_
  refine wp_iand hX (dk DX2_longestWithout 9 rfl) ?_
  refine w_callVQ (As := [_]) lkX2_64 hX (dk DX2_longestWithout 10 rfl) rfl rfl (by decide) hN (k_measure d sw f g n sh _ hs) (fun v_ sw_ f_ g_ hq_ => ?_)
  obtain ⟨rfl, rfl, rfl, hf, hl⟩ := hq_
  show WP _ _ _ 17 [_, _, _] [] _
  refine wp_aload_n hX (dk DX2_longestWithout 11 rfl) rfl ?_
  refine wp_iload_n hX (dk DX2_longestWithout 12 rfl) rfl ?_
  refine w_callV (As := [_]) lkX2_49 hX (dk DX2_longestWithout 13 rfl) rfl rfl (by decide) hN (k_longestOf (d + 1) sw_ f_ g_ n s (by rw [hf 1 (by decide)]; exact hs.1.1) hs.1.2.1) ?_
  show WP _ _ _ 22 [_, _, _] [_] _
  exact wp_ireturn hX hR (dk DX2_longestWithout 14 rfl) rfl (Nat.le_refl _) (Nat.le_refl _) (⟨_, _, _, rfl, rfl, rfl, hf, hl, rfl⟩)
/-- over or under figure i -/
def jou (B : Nat → Int32) (n i : Nat) : Int32 := jbs (fun k => jbit (B k) (nI i)) n ||| B i
theorem k_longestWith0 (d : Nat) (sw : Bool) (f : Nat → Nat → Int32) (g : Nat → Nat → Int64) (n i j : Nat) (sh : Nat → Int32) (s : Int32) (hs : stk f n sh) (hi : i < n) (hj : j < n) (hno : ¬ (¬ jb s i = 0 ∧ ¬ jb s j = 0 ∧ ¬ jb (jou (f 4) n i) j = 0)) : CT (d + 3) 0 0 iX2_longestWith [.ref 53, .int s, .int (nI i), .int (nI j)] (S sw f g) (QR (some (.int (-2))) (S sw f g)) := by
  have hn10 := hs.1.2.1
  refine CT.of rfl (Nat.le_of_ble_eq_true rfl) (fun X hX hR hN _ => ?_)
  have hX : Good X RX2 cX2_longestWith (d + 3) 0 0 := hX
  have hN : x_nl X = 6 := hN
  show WP X 0 0 0 [_, _, _, _, _, _] [] _
  have out : WP X 0 0 44 [some (.ref 53), some (.int s), some (.int (nI i)), some (.int (nI j)), some (.int (jou (f 4) n i)), none] [] (S sw f g) := by
    refine wp_bipush (v := -2) hX (dk DX2_longestWith 22 rfl) (by decide) ?_
    exact wp_ireturn hX hR (dk DX2_longestWith 23 rfl) rfl (Nat.le_refl _) (Nat.le_refl _) (⟨rfl, rfl⟩)
  refine wp_aload_n hX (dk DX2_longestWith 0 rfl) rfl ?_
  refine w_getr hX flX2_24 (dk DX2_longestWith 1 rfl) rfl rfl ?_
  refine wp_iload_n hX (dk DX2_longestWith 2 rfl) rfl ?_
  refine w_callV (As := [_]) lkX2_68 hX (dk DX2_longestWith 3 rfl) rfl rfl (by decide) hN (k_above (d + 1) sw f g n (nI i) hs.1.1 hn10) ?_
  show WP _ _ _ 8 [_, _, _, _, _, _] [_] _
  refine wp_aload_n hX (dk DX2_longestWith 4 rfl) rfl ?_
  refine w_getr hX flX2_24 (dk DX2_longestWith 5 rfl) rfl rfl ?_
  refine wp_iload_n hX (dk DX2_longestWith 6 rfl) rfl ?_
  refine w_callV (As := [_]) lkX2_46 hX (dk DX2_longestWith 7 rfl) rfl rfl (by simp [Value.category]) hN (k_outOf (d + 2) sw f g i (by omega)) ?_
  show WP _ _ _ 16 [_, _, _, _, _, _] [_, _] _
  refine wp_ior hX (dk DX2_longestWith 8 rfl) ?_
  refine wp_istore hX (dk DX2_longestWith 9 rfl) rfl hN (Nat.le_of_ble_eq_true rfl) ?_
  show WP _ _ _ 19 [_, _, _, _, _, _] [] _
  refine wp_iload_n hX (dk DX2_longestWith 10 rfl) rfl ?_
  refine wp_iload_n hX (dk DX2_longestWith 11 rfl) rfl ?_
  refine w_callS (As := [_, _]) lkX2_42 hX (dk DX2_longestWith 12 rfl) rfl (by decide) (k_holds (d + 2) s (nI i) _) ?_
  show WP _ _ _ 24 [_, _, _, _, _, _] [_] _
  refine wp_if_eq (tgt := 44) hX (dk DX2_longestWith 13 rfl) (by decide) (fun h1 => ?_) (fun h1 => ?_)
  · exact out
  · refine wp_iload_n hX (dk DX2_longestWith 14 rfl) rfl ?_
    refine wp_iload_n hX (dk DX2_longestWith 15 rfl) rfl ?_
    refine w_callS (As := [_, _]) lkX2_42 hX (dk DX2_longestWith 16 rfl) rfl (by decide) (k_holds (d + 2) s (nI j) _) ?_
    show WP _ _ _ 32 [_, _, _, _, _, _] [_] _
    refine wp_if_eq (tgt := 44) hX (dk DX2_longestWith 17 rfl) (by decide) (fun h2 => ?_) (fun h2 => ?_)
    · exact out
    · refine wp_iload hX (dk DX2_longestWith 18 rfl) rfl ?_
      refine wp_iload_n hX (dk DX2_longestWith 19 rfl) rfl ?_
      refine w_callS (As := [_, _]) lkX2_42 hX (dk DX2_longestWith 20 rfl) rfl (by decide) (k_holds (d + 2) (jou (f 4) n i) (nI j) _) ?_
      show WP _ _ _ 41 [_, _, _, _, _, _] [_] _
      refine wp_if_ne (tgt := 47) hX (dk DX2_longestWith 21 rfl) (by decide) (fun h3 => ?_) (fun h3 => ?_)
      · exact absurd ⟨h1, h2, h3⟩ hno
      · exact out
theorem k_longestWith (d : Nat) (sw : Bool) (f : Nat → Nat → Int32) (g : Nat → Nat → Int64) (n i j : Nat) (sh : Nat → Int32) (s : Int32) (hs : stk f n sh) (hi : i < n) (hj : j < n) (h1 : ¬ jb s i = 0) (h2 : ¬ jb s j = 0) (h3 : ¬ jb (jou (f 4) n i) j = 0) : CT (d + 3) 0 0 iX2_longestWith [.ref 53, .int s, .int (nI i), .int (nI j)] (S sw f g) (QS (fun r sw2 f2 g2 => sw2 = sw ∧ g2 = g ∧ (∀ b, b ≠ 54 → f2 b = f b) ∧ (∀ k, k < n → lenOk (f2 54) (f 4) ((jou (f 4) n i &&& jou (f 4) n j) ||| (((1 : Int32) <<< (nI i &&& 31)) ||| ((1 : Int32) <<< (nI j &&& 31)))) n k) ∧ r = some (.int (jmx (f2 54) s n)))) := by
  have hn10 := hs.1.2.1
  refine CT.of rfl (Nat.le_of_ble_eq_true rfl) (fun X hX hR hN _ => ?_)
  have hX : Good X RX2 cX2_longestWith (d + 3) 0 0 := hX
  have hN : x_nl X = 6 := hN
  show WP X 0 0 0 [_, _, _, _, _, _] [] _
  refine wp_aload_n hX (dk DX2_longestWith 0 rfl) rfl ?_
  refine w_getr hX flX2_24 (dk DX2_longestWith 1 rfl) rfl rfl ?_
  refine wp_iload_n hX (dk DX2_longestWith 2 rfl) rfl ?_
  refine w_callV (As := [_]) lkX2_68 hX (dk DX2_longestWith 3 rfl) rfl rfl (by decide) hN (k_above (d + 1) sw f g n (nI i) hs.1.1 hn10) ?_
  show WP _ _ _ 8 [_, _, _, _, _, _] [_] _
  refine wp_aload_n hX (dk DX2_longestWith 4 rfl) rfl ?_
  refine w_getr hX flX2_24 (dk DX2_longestWith 5 rfl) rfl rfl ?_
  refine wp_iload_n hX (dk DX2_longestWith 6 rfl) rfl ?_
  refine w_callV (As := [_]) lkX2_46 hX (dk DX2_longestWith 7 rfl) rfl rfl (by simp [Value.category]) hN (k_outOf (d + 2) sw f g i (by omega)) ?_
  show WP _ _ _ 16 [_, _, _, _, _, _] [_, _] _
  refine wp_ior hX (dk DX2_longestWith 8 rfl) ?_
  refine wp_istore hX (dk DX2_longestWith 9 rfl) rfl hN (Nat.le_of_ble_eq_true rfl) ?_
  show WP _ _ _ 19 [_, _, _, _, _, _] [] _
  refine wp_iload_n hX (dk DX2_longestWith 10 rfl) rfl ?_
  refine wp_iload_n hX (dk DX2_longestWith 11 rfl) rfl ?_
  refine w_callS (As := [_, _]) lkX2_42 hX (dk DX2_longestWith 12 rfl) rfl (by decide) (k_holds (d + 2) s (nI i) _) ?_
  show WP _ _ _ 24 [_, _, _, _, _, _] [_] _
  refine wp_if_eq (tgt := 44) hX (dk DX2_longestWith 13 rfl) (by decide) (fun h_ => absurd h_ (h1)) (fun _ => ?_)
  refine wp_iload_n hX (dk DX2_longestWith 14 rfl) rfl ?_
  refine wp_iload_n hX (dk DX2_longestWith 15 rfl) rfl ?_
  refine w_callS (As := [_, _]) lkX2_42 hX (dk DX2_longestWith 16 rfl) rfl (by decide) (k_holds (d + 2) s (nI j) _) ?_
  show WP _ _ _ 32 [_, _, _, _, _, _] [_] _
  refine wp_if_eq (tgt := 44) hX (dk DX2_longestWith 17 rfl) (by decide) (fun h_ => absurd h_ (h2)) (fun _ => ?_)
  refine wp_iload hX (dk DX2_longestWith 18 rfl) rfl ?_
  refine wp_iload_n hX (dk DX2_longestWith 19 rfl) rfl ?_
  refine w_callS (As := [_, _]) lkX2_42 hX (dk DX2_longestWith 20 rfl) rfl (by decide) (k_holds (d + 2) (jou (f 4) n i) (nI j) _) ?_
  show WP _ _ _ 41 [_, _, _, _, _, _] [_] _
  refine wp_if_ne (tgt := 47) hX (dk DX2_longestWith 21 rfl) (by decide) (fun _ => ?_) (fun h_ => absurd h_ (h3))
  refine wp_iconst (v := 1) hX (dk DX2_longestWith 24 rfl) (by decide) ?_
  refine wp_iload_n hX (dk DX2_longestWith 25 rfl) rfl ?_
  refine wp_ishl hX (dk DX2_longestWith 26 rfl) ?_
  refine wp_iconst (v := 1) hX (dk DX2_longestWith 27 rfl) (by decide) ?_
  refine wp_iload_n hX (dk DX2_longestWith 28 rfl) rfl ?_
  refine wp_ishl hX (dk DX2_longestWith 29 rfl) ?_
  refine wp_ior hX (dk DX2_longestWith 30 rfl) ?_
  refine wp_istore hX (dk DX2_longestWith 31 rfl) rfl hN (Nat.le_of_ble_eq_true rfl) ?_
  show WP _ _ _ 56 [_, _, _, _, _, _] [] _
  refine wp_aload_n hX (dk DX2_longestWith 32 rfl) rfl ?_
  refine wp_iload hX (dk DX2_longestWith 33 rfl) rfl ?_
  refine wp_aload_n hX (dk DX2_longestWith 34 rfl) rfl ?_
  refine w_getr hX flX2_24 (dk DX2_longestWith 35 rfl) rfl rfl ?_
  refine wp_iload_n hX (dk DX2_longestWith 36 rfl) rfl ?_
  refine w_callV (As := [_]) lkX2_68 hX (dk DX2_longestWith 37 rfl) rfl rfl (by simp [Value.category]) hN (k_above (d + 1) sw f g n (nI j) hs.1.1 hn10) ?_
  show WP _ _ _ 67 [_, _, _, _, _, _] [_, _, _] _
  refine wp_aload_n hX (dk DX2_longestWith 38 rfl) rfl ?_
  refine w_getr hX flX2_24 (dk DX2_longestWith 39 rfl) rfl rfl ?_
  refine wp_iload_n hX (dk DX2_longestWith 40 rfl) rfl ?_
  refine w_callV (As := [_]) lkX2_46 hX (dk DX2_longestWith 41 rfl) rfl rfl (by simp [Value.category]) hN (k_outOf (d + 2) sw f g j (by omega)) ?_
  show WP _ _ _ 75 [_, _, _, _, _, _] [_, _, _, _] _
  refine wp_ior hX (dk DX2_longestWith 42 rfl) ?_
  refine wp_iand hX (dk DX2_longestWith 43 rfl) ?_
  refine wp_iload hX (dk DX2_longestWith 44 rfl) rfl ?_
  refine wp_ior hX (dk DX2_longestWith 45 rfl) ?_
  refine w_callVQ (As := [_]) lkX2_64 hX (dk DX2_longestWith 46 rfl) rfl rfl (by decide) hN (k_measure d sw f g n sh _ hs) (fun v_ sw_ f_ g_ hq_ => ?_)
  obtain ⟨rfl, rfl, rfl, hf, hl⟩ := hq_
  show WP _ _ _ 83 [_, _, _, _, _, _] [] _
  refine wp_aload_n hX (dk DX2_longestWith 47 rfl) rfl ?_
  refine wp_iload_n hX (dk DX2_longestWith 48 rfl) rfl ?_
  refine w_callV (As := [_]) lkX2_49 hX (dk DX2_longestWith 49 rfl) rfl rfl (by decide) hN (k_longestOf (d + 1) sw_ f_ g_ n s (by rw [hf 1 (by decide)]; exact hs.1.1) hs.1.2.1) ?_
  show WP _ _ _ 88 [_, _, _, _, _, _] [_] _
  exact wp_ireturn hX hR (dk DX2_longestWith 50 rfl) rfl (Nat.le_refl _) (Nat.le_refl _) (⟨_, _, _, rfl, rfl, rfl, hf, hl, rfl⟩)
theorem jcm_cong {r q : Nat → Int32} {s : Int32} : ∀ (n : Nat), n ≤ 32 → (∀ k, k < n → bt s k = true → r k = q k) → jcm r s n = jcm q s n
  | 0, _, _ => rfl
  | n + 1, hn, h => by
    rw [jcm, jcm, jcm_cong n (by omega) (fun k hk => h k (by omega))]
    by_cases c : jb s n = 0
    · rw [if_pos c, if_pos c]
    · rw [if_neg c, if_neg c, h n (by omega) ((jb_ne s (by omega)).mp c)]
theorem jcf_cong {r q : Nat → Int32} {s : Int32} : ∀ (n : Nat), n ≤ 32 → (∀ k, k < n → bt s k = true → r k = q k) → jcf r s n = jcf q s n
  | 0, _, _ => rfl
  | n + 1, hn, h => by
    rw [jcf, jcf, jcf_cong n (by omega) (fun k hk => h k (by omega))]
    by_cases c : jb s n = 0
    · rw [if_pos c, if_pos c]
    · rw [if_neg c, if_neg c, h n (by omega) ((jb_ne s (by omega)).mp c)]
theorem jcp_cong {r q : Nat → Int32} {s l m : Int32} {n : Nat} (hn : n ≤ 32) (h : ∀ k, k < n → bt s k = true → r k = q k) (hl : s &&& l = s &&& m) : jcp r s l n = jcp q s m n := by
  unfold jcp
  rw [hl, jcm_cong n hn h]
  congr 1
  exact jcf_cong n hn (fun k hk hb => h k hk (by rw [b_and, Bool.and_eq_true] at hb; exact hb.1))
/-- who is to cut out of i: how many cuts come, whether it loses -/
def plOk (c B : Nat → Int32) (l : Int32) (n i : Nat) : Prop := c i = jcp c (B i) l n ∧ (bt l i = true ↔ jfw (B i &&& l) n 0 = -2)
theorem k_play (d : Nat) (sw : Bool) (f : Nat → Nat → Int32) (g : Nat → Nat → Int64) (n : Nat) (sh : Nat → Int32) (hs : stk f n sh) : CT (d + 2) 0 0 iX2_play [.ref 53] (S sw f g) (QS (fun r sw2 f2 g2 => r = none ∧ sw2 = sw ∧ g2 = g ∧ (∀ b, b ≠ 57 → b ≠ 53 → f2 b = f b) ∧ (∀ i, i < n → plOk (f2 57) (f 4) (f2 53 6) n i) ∧ ∀ i, n ≤ i → i < 32 → bt (f2 53 6) i = false)) := by
  have hn := hs.1.1
  have hn10 := hs.1.2.1
  obtain ⟨π, p1, p2, p3⟩ := hs.2.2
  refine CT.of rfl (Nat.le_of_ble_eq_true rfl) (fun X hX hR hN _ => ?_)
  have hX : Good X RX2 cX2_play (d + 2) 0 0 := hX
  have hN : x_nl X = 3 := hN
  show WP X 0 0 0 [_, _, _] [] _
  refine wp_aload_n hX (dk DX2_play 0 rfl) rfl ?_
  refine wp_iconst (v := 0) hX (dk DX2_play 1 rfl) (by decide) ?_
  refine w_puti hX fpX2_80 (dk DX2_play 2 rfl) rfl ?_
  refine wp_iconst (v := 0) hX (dk DX2_play 3 rfl) (by decide) ?_
  refine wp_istore_n hX (dk DX2_play 4 rfl) rfl rfl hN (Nat.le_of_ble_eq_true rfl) ?_
  show WP _ _ _ 7 [_, _, _] [] _
  have lo : ∀ (m i : Nat) (f2 : Nat → Nat → Int32) (z : Option Value), i + m = n → (∀ b, b ≠ 57 → b ≠ 53 → f2 b = f b) → (∀ p, p < i → plOk (f2 57) (f 4) (f2 53 6) n (π p)) → (∀ a, a < 32 → (∀ p, p < i → π p ≠ a) → bt (f2 53 6) a = false) → WP X 0 0 7 [some (.ref 53), some (.int (nI i)), z] [] (S sw f2 g) := by
    intro m
    induction m with
    | zero =>
      intro i f2 z hi hf hl hu
      obtain rfl : i = n := by omega
      refine wp_iload_n hX (dk DX2_play 5 rfl) rfl ?_
      refine wp_aload_n hX (dk DX2_play 6 rfl) rfl ?_
      refine w_getr hX flX2_24 (dk DX2_play 7 rfl) rfl rfl ?_
      refine w_callV (As := []) lkX2_32 hX (dk DX2_play 8 rfl) rfl rfl (by simp [Value.category]) hN (k_came (d + 1) sw f2 g) ?_
      show WP _ _ _ 15 [_, _, _] [_, _] _
      refine wp_icmp_ge (tgt := 80) hX (dk DX2_play 9 rfl) (by decide) (fun _ => ?_) (fun h_ => absurd ((by rw [hf 1 (by decide) (by decide), hn]; exact nI_le (by omega) (by omega))) h_)
      refine wp_return hX hR (dk DX2_play 43 rfl) (Nat.le_refl _) (Nat.le_refl _) ⟨sw, f2, g, rfl, rfl, rfl, rfl, hf, fun a ha => ?_, fun a h1 h2 => hu a h2 (fun p hp e => ?_)⟩
      · obtain ⟨p, hp, rfl⟩ := p2 a ha
        exact hl p hp
      · have := (p1 p hp).2
        omega
    | succ m ih =>
      intro i f2 z hi hf hl hu
      obtain ⟨e5, ha⟩ := p1 i (by omega)
      obtain ⟨a, hadef⟩ : ∃ a, a = π i := ⟨_, rfl⟩
      rw [← hadef] at e5 ha
      have nota : ∀ p, p ≤ i → ∀ k, k < n → bt (f 4 (π p)) k = true → k ≠ a := by
        intro p hp k hk hb e
        subst e
        have h1 := hs.lt (p1 p (by omega)).2 hk hb
        by_cases c : p = i
        · subst c; rw [← hadef] at h1; exact Int32.lt_irrefl h1
        · have h2 := p3 p i (by omega) (by omega)
          rw [← hadef] at h2
          exact Int32.lt_irrefl (Int32.lt_of_lt_of_le h1 h2)
      -- behind the two writes: v the cuts, l2 who loses
      have key : ∀ (f3 : Nat → Nat → Int32) (l2 : Int32), (∀ b, b ≠ 57 → b ≠ 53 → f3 b = f b) → f3 57 = u2 f2 57 a (jcp (f2 57) (f 4 a) (f2 53 6) n) 57 → f3 53 6 = l2 → (l2 = if jfw (f 4 a &&& f2 53 6) n 0 = -2 then f2 53 6 ||| ((1 : Int32) <<< (nI a &&& 31)) else f2 53 6) → WP X 0 0 74 [some (.ref 53), some (.int (nI i)), some (.int (nI a))] [] (S sw f3 g) := by
        intro f3 l2 hf3 h57 h53 hl2
        have bits : ∀ k, k < 32 → k ≠ a → bt l2 k = bt (f2 53 6) k := by
          intro k hk hka
          rw [hl2]
          split
          · rw [b_or, bt_bit (by omega) hk, decide_eq_false hka, Bool.or_false]
          · rfl
        have ands : ∀ p, p ≤ i → f 4 (π p) &&& l2 = f 4 (π p) &&& f2 53 6 := by
          intro p hp
          apply b_ext
          intro k hk
          rw [b_and, b_and]
          cases hb : bt (f 4 (π p)) k with
          | false => rfl
          | true =>
            have hkn : k < n := by
              rw [hs.cut (p1 p (by omega)).2 hk] at hb
              exact (of_decide_eq_true hb).1
            rw [bits k hk (nota p hp k hkn hb)]
        have rows : ∀ p, p ≤ i → ∀ k, k < n → bt (f 4 (π p)) k = true → f3 57 k = f2 57 k := by
          intro p hp k hk hb
          rw [h57, u2_off _ _ _ (nota p hp k hk hb)]
        have own : plOk (f3 57) (f 4) (f3 53 6) n a := by
          have e1 := ands i (by omega)
          have e2 := rows i (by omega)
          rw [← hadef] at e1 e2
          refine ⟨?_, ?_⟩
          · rw [h57, u2_at, h53, ← h57]
            exact (jcp_cong (by omega) e2 e1).symm
          · rw [h53, e1]
            by_cases c : jfw (f 4 a &&& f2 53 6) n 0 = -2
            · rw [if_pos c] at hl2
              rw [hl2, b_or, bt_bit (by omega) (by omega)]
              simp [c]
            · rw [if_neg c] at hl2
              rw [hl2]
              simp only [c, iff_false]
              by_cases c2 : ∃ p, p < i ∧ π p = a
              · obtain ⟨p, hp1, hp2⟩ := c2
                have := (hl p hp1).2
                rw [hp2] at this
                exact fun q => c (this.mp q)
              · rw [hu a (by omega) (fun p hp e => c2 ⟨p, hp, e⟩)]
                simp
        refine wp_iinc hX (dk DX2_play 41 rfl) rfl (nI_inc _) rfl hN ?_
        show WP _ _ _ 77 [_, _, _] [] _
        refine wp_goto (tgt := 7) hX (dk DX2_play 42 rfl) (by decide) ?_
        -- to 7
        refine ih (i + 1) f3 _ (by omega) hf3 (fun p hp => ?_) (fun k hk hkp => ?_)
        · by_cases c : π p = a
          · rw [c]; exact own
          · have hp2 : p < i := by
              by_cases c2 : p = i
              · subst c2; exact absurd hadef.symm c
              · omega
            have hpn := (p1 p (by omega)).2
            obtain ⟨o1, o2⟩ := hl p hp2
            refine ⟨?_, ?_⟩
            · rw [h53, jcp_cong (by omega) (rows p (by omega)) (ands p (by omega)), ← o1, h57, u2_off _ _ _ c]
            · rw [h53, ands p (by omega), bits _ (by omega) c]
              exact o2
        · rw [h53, bits k hk (fun e => hkp i (by omega) (by rw [← hadef, e]))]
          exact hu k hk (fun p hp => hkp p (by omega))
      refine wp_iload_n hX (dk DX2_play 5 rfl) rfl ?_
      refine wp_aload_n hX (dk DX2_play 6 rfl) rfl ?_
      refine w_getr hX flX2_24 (dk DX2_play 7 rfl) rfl rfl ?_
      refine w_callV (As := []) lkX2_32 hX (dk DX2_play 8 rfl) rfl rfl (by simp [Value.category]) hN (k_came (d + 1) sw f2 g) ?_
      show WP _ _ _ 15 [_, _, _] [_, _] _
      refine wp_icmp_ge (tgt := 80) hX (dk DX2_play 9 rfl) (by decide) (fun h_ => absurd h_ ((by rw [hf 1 (by decide) (by decide), hn]; exact nI_ge (by omega) (by omega)))) (fun _ => ?_)
      refine wp_aload_n hX (dk DX2_play 10 rfl) rfl ?_
      refine w_getr hX flX2_24 (dk DX2_play 11 rfl) rfl rfl ?_
      refine wp_iload_n hX (dk DX2_play 12 rfl) rfl ?_
      refine w_callV (As := [_]) lkX2_38 hX (dk DX2_play 13 rfl) rfl rfl (by decide) hN (k_bySize (d + 1) sw f2 g i (by omega)) ?_
      show WP _ _ _ 26 [_, _, _] [_] _
      rw [hf 5 (by decide) (by decide), e5]
      refine wp_istore_n hX (dk DX2_play 14 rfl) rfl rfl hN (Nat.le_of_ble_eq_true rfl) ?_
      show WP _ _ _ 27 [_, _, _] [] _
      refine wp_aload_n hX (dk DX2_play 15 rfl) rfl ?_
      refine w_getr hX flX2_21 (dk DX2_play 16 rfl) rfl rfl ?_
      refine wp_iload_n hX (dk DX2_play 17 rfl) rfl ?_
      refine wp_aload_n hX (dk DX2_play 18 rfl) rfl ?_
      refine wp_aload_n hX (dk DX2_play 19 rfl) rfl ?_
      refine w_getr hX flX2_24 (dk DX2_play 20 rfl) rfl rfl ?_
      refine wp_iload_n hX (dk DX2_play 21 rfl) rfl ?_
      refine w_callV (As := [_]) lkX2_46 hX (dk DX2_play 22 rfl) rfl rfl (by simp [Value.category]) hN (k_outOf (d + 1) sw f2 g a (by omega)) ?_
      show WP _ _ _ 41 [_, _, _] [_, _, _, _] _
      rw [hf 4 (by decide) (by decide)]
      refine w_callV (As := [_]) lkX2_84 hX (dk DX2_play 23 rfl) rfl rfl (by simp [Value.category]) hN (k_cutsPlayed d sw f2 g n (f 4 a) (by rw [hf 1 (by decide) (by decide)]; exact hn) hn10) ?_
      show WP _ _ _ 44 [_, _, _] [_, _, _] _
      refine w_iast (j := _) hX (dk DX2_play 24 rfl) rfl rfl (show _ < 10 by omega) ?_
      refine wp_aload_n hX (dk DX2_play 25 rfl) rfl ?_
      refine wp_aload_n hX (dk DX2_play 26 rfl) rfl ?_
      refine w_getr hX flX2_24 (dk DX2_play 27 rfl) rfl rfl ?_
      refine wp_iload_n hX (dk DX2_play 28 rfl) rfl ?_
      refine w_callV (As := [_]) lkX2_46 hX (dk DX2_play 29 rfl) rfl rfl (by simp [Value.category]) hN (k_outOf (d + 1) sw _ g a (by omega)) ?_
      show WP _ _ _ 54 [_, _, _] [_, _] _
      rw [show u2 f2 57 a (jcp (f2 57) (f 4 a) (f2 53 6) n) 4 a = f 4 a by rw [u2_ne _ _ _ (by decide), hf 4 (by decide) (by decide)]]
      refine w_callV (As := [_]) lkX2_87 hX (dk DX2_play 30 rfl) rfl rfl (by decide) hN (k_firstWinning d sw _ g n (f 4 a) (by rw [u2_ne _ _ _ (by decide), hf 1 (by decide) (by decide)]; exact hn) hn10) ?_
      show WP _ _ _ 57 [_, _, _] [_] _
      refine wp_bipush (v := -2) hX (dk DX2_play 31 rfl) (by decide) ?_
      rw [show u2 f2 57 a (jcp (f2 57) (f 4 a) (f2 53 6) n) 53 6 = f2 53 6 by rw [u2_ne _ _ _ (by decide)]]
      refine wp_icmp_ne (tgt := 74) hX (dk DX2_play 32 rfl) (by decide) (fun h => ?_) (fun h => ?_)
      · exact key _ (f2 53 6) (fun b h1 h2 => by rw [u2_ne _ _ _ h1]; exact hf b h1 h2) rfl (by rw [u2_ne _ _ _ (by decide)]) (by rw [if_neg h])
      · refine wp_aload_n hX (dk DX2_play 33 rfl) rfl ?_
        refine wp_dup hX (dk DX2_play 34 rfl) rfl ?_
        refine w_geti hX flX2_80 (dk DX2_play 35 rfl) (by decide) rfl ?_
        rw [show u2 f2 57 a (jcp (f2 57) (f 4 a) (f2 53 6) n) 53 6 = f2 53 6 by rw [u2_ne _ _ _ (by decide)]]
        refine wp_iconst (v := 1) hX (dk DX2_play 36 rfl) (by decide) ?_
        refine wp_iload_n hX (dk DX2_play 37 rfl) rfl ?_
        refine wp_ishl hX (dk DX2_play 38 rfl) ?_
        refine wp_ior hX (dk DX2_play 39 rfl) ?_
        refine w_puti hX fpX2_80 (dk DX2_play 40 rfl) rfl ?_
        exact key _ _ (fun b h1 h2 => by rw [u2_ne _ _ _ h2, u2_ne _ _ _ h1]; exact hf b h1 h2) (by rw [u2_ne _ _ _ (by decide)]) (u2_at _ _ _ _) (by rw [if_pos h])
  refine lo n 0 _ none (by omega) (fun b h1 h2 => u2_ne _ _ _ h2) (fun p hp => absurd hp (by omega)) (fun a ha _ => ?_)
  rw [u2_at, b_0]
