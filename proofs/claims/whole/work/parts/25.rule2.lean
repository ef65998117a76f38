/-! RULE: step, workOut, worthOf -/
theorem jtw_bin : ∀ k, k < 16 → 6 ≤ k → (jtw k < 0 ∧ -1000 < jtw k ∧ ¬ jtw k = -3 ∧ ¬ jtw k = -4 ∧ ¬ jtw k = -1 ∧ ¬ jtw k = -2 ∧ -jtw k = nI (jsg k)) := by decide +kernel
theorem jtw_nam : ∀ k, k < 6 → (jtw k < 0 ∧ jtw k ≤ -1000 ∧ ¬ jtw k = -1 ∧ ¬ jtw k = -2 ∧ -1000 - jtw k = nI k) := by decide +kernel
theorem jtw_num {k : Nat} (h : 18 ≤ k) : jtw k = nI (k - 18) := by unfold jtw; rw [if_pos h]
theorem jst_num {nm : Nat → Int32} {k : Nat} {s : List Int32} (h : 18 ≤ k) : jst nm k s = nI (k - 18) :: s := by unfold jst; rw [if_pos h]
theorem jst_nam {nm : Nat → Int32} {k : Nat} {s : List Int32} (h : k < 6) : jst nm k s = nm k :: s := by unfold jst; rw [if_neg (by omega), if_pos h]
theorem jst_bin {nm : Nat → Int32} {k : Nat} {x y : Int32} {r : List Int32} (h : 6 ≤ k) (h2 : k < 16) : jst nm k (y :: x :: r) = jop k x y :: r := by unfold jst; rw [if_neg (by omega), if_neg (by omega), if_neg (by omega), if_neg (by omega)]
theorem k_step (d : Nat) (sw : Bool) (f : Nat → Nat → Int32) (g : Nat → Nat → Int64) (nm : Nat → Int32) (k h2 : Nat) (c : List Nat) (s : List Int32) (hs : skF f s) (hn : ∀ j, j < 6 → f 51 j = nm j) (hh : jhk (k :: c) s.length 64 = some h2) : CT (d + 2) 0 0 iX3_step [.ref 49, .int (jtw k)] (S sw f g) (QS (fun r sw2 f2 g2 => r = none ∧ sw2 = sw ∧ g2 = g ∧ rlS f f2 ∧ skF f2 (jst nm k s))) := by
  simp only [jhk] at hh
  refine CT.of rfl (Nat.le_of_ble_eq_true rfl) (fun X hX hR hN _ => ?_)
  have hX : Good X RX3 cX3_step (d + 2) 0 0 := hX
  have hN : x_nl X = 4 := hN
  show WP X 0 0 0 [_, _, _, _] [] _
  by_cases c18 : 18 ≤ k
  · rw [if_pos (Or.inr c18)] at hh
    have hb : s.length < 64 ∧ k < 10018 := by
      by_cases q : s.length < 64 ∧ k < 10018
      · exact q
      · rw [if_neg q] at hh; cases hh
    rw [jtw_num c18]
    refine wp_iload_n hX (dk DX3_step 0 rfl) rfl ?_
    refine wp_if_lt (tgt := 12) hX (dk DX3_step 1 rfl) (by decide) (fun h_ => absurd h_ (nI_pos (by omega))) (fun _ => ?_)
    refine wp_aload_n hX (dk DX3_step 2 rfl) rfl ?_
    refine wp_iload_n hX (dk DX3_step 3 rfl) rfl ?_
    refine w_callVQ (As := [_]) lkX3_70 hX (dk DX3_step 4 rfl) rfl rfl (by decide) hN (k_push (d + 1) sw f g s _ hs hb.1) (fun v_ sw_ f_ g_ hq_ => ?_)
    obtain ⟨rfl, rfl, rfl, e1, e2⟩ := hq_
    show WP _ _ _ 9 [_, _, _, _] [] _
    refine wp_goto (tgt := 115) hX (dk DX3_step 5 rfl) (by decide) ?_
    exact wp_return hX hR (dk DX3_step_1 0 rfl) (Nat.le_refl _) (Nat.le_refl _) (⟨_, _, _, rfl, rfl, rfl, rfl, e1, by rw [jst_num c18]; exact e2⟩)
  · by_cases c6 : k < 6
    · rw [if_pos (Or.inl c6)] at hh
      have hb : s.length < 64 ∧ k < 10018 := by
        by_cases q : s.length < 64 ∧ k < 10018
        · exact q
        · rw [if_neg q] at hh; cases hh
      obtain ⟨w1, w2, w3, w4, w5⟩ := jtw_nam k c6
      refine wp_iload_n hX (dk DX3_step 0 rfl) rfl ?_
      refine wp_if_lt (tgt := 12) hX (dk DX3_step 1 rfl) (by decide) (fun _ => ?_) (fun h_ => absurd (w1) h_)
      refine wp_iload_n hX (dk DX3_step 6 rfl) rfl ?_
      refine wp_sipush (v := -1000) hX (dk DX3_step 7 rfl) (by decide) ?_
      refine wp_icmp_gt (tgt := 48) hX (dk DX3_step 8 rfl) (by decide) (fun h_ => absurd h_ (Int32.not_lt.mpr w2)) (fun _ => ?_)
      refine wp_sipush (v := -1000) hX (dk DX3_step 9 rfl) (by decide) ?_
      refine wp_iload_n hX (dk DX3_step 10 rfl) rfl ?_
      refine wp_isub hX (dk DX3_step 11 rfl) ?_
      rw [w5]
      refine wp_istore_n hX (dk DX3_step 12 rfl) rfl rfl hN (Nat.le_of_ble_eq_true rfl) ?_
      show WP _ _ _ 25 [_, _, _, _] [] _
      refine wp_aload_n hX (dk DX3_step 13 rfl) rfl ?_
      refine wp_iload_n hX (dk DX3_step 14 rfl) rfl ?_
      refine wp_bipush (v := 6) hX (dk DX3_step 15 rfl) (by decide) ?_
      refine wp_icmp_ge (tgt := 41) hX (dk DX3_step 16 rfl) (by decide) (fun h_ => absurd h_ (nI_ge (b := 6) (by omega) (by omega))) (fun _ => ?_)
      refine wp_aload_n hX (dk DX3_step 17 rfl) rfl ?_
      refine w_getr hX flX3_15 (dk DX3_step 18 rfl) rfl rfl ?_
      refine wp_iload_n hX (dk DX3_step 19 rfl) rfl ?_
      refine w_iald (j := _) hX (dk DX3_step 20 rfl) rfl rfl (show _ < 6 by omega) ?_
      refine wp_goto (tgt := 42) hX (dk DX3_step 21 rfl) (by decide) ?_
      refine w_callVQ (As := [_]) lkX3_70 hX (dk DX3_step 23 rfl) rfl rfl (by decide) hN (k_push (d + 1) sw f g s _ hs hb.1) (fun v_ sw_ f_ g_ hq_ => ?_)
      obtain ⟨rfl, rfl, rfl, e1, e2⟩ := hq_
      show WP _ _ _ 45 [_, _, _, _] [] _
      refine wp_goto (tgt := 115) hX (dk DX3_step 24 rfl) (by decide) ?_
      exact wp_return hX hR (dk DX3_step_1 0 rfl) (Nat.le_refl _) (Nat.le_refl _) (⟨_, _, _, rfl, rfl, rfl, rfl, e1, by rw [jst_nam c6, ← hn k c6]; exact e2⟩)
    · rw [if_neg (by omega)] at hh
      by_cases c16 : k < 16
      · rw [if_pos c16] at hh
        have hb : 2 ≤ s.length := by
          by_cases q : 2 ≤ s.length
          · exact q
          · rw [if_neg q] at hh; cases hh
        obtain ⟨w1, w2, w3, w4, w5, w6, w7⟩ := jtw_bin k c16 (by omega)
        match s, hs, hb with
        | y :: x :: r, hs, hb =>
          refine wp_iload_n hX (dk DX3_step 0 rfl) rfl ?_
          refine wp_if_lt (tgt := 12) hX (dk DX3_step 1 rfl) (by decide) (fun _ => ?_) (fun h_ => absurd (w1) h_)
          refine wp_iload_n hX (dk DX3_step 6 rfl) rfl ?_
          refine wp_sipush (v := -1000) hX (dk DX3_step 7 rfl) (by decide) ?_
          refine wp_icmp_gt (tgt := 48) hX (dk DX3_step 8 rfl) (by decide) (fun _ => ?_) (fun h_ => absurd (w2) h_)
          refine wp_iload_n hX (dk DX3_step 25 rfl) rfl ?_
          refine wp_bipush (v := -3) hX (dk DX3_step 26 rfl) (by decide) ?_
          refine wp_icmp_ne (tgt := 66) hX (dk DX3_step 27 rfl) (by decide) (fun _ => ?_) (fun h_ => absurd h_ (w3))
          refine wp_iload_n hX (dk DX3_step 34 rfl) rfl ?_
          refine wp_bipush (v := -4) hX (dk DX3_step 35 rfl) (by decide) ?_
          refine wp_icmp_ne (tgt := 94) hX (dk DX3_step 36 rfl) (by decide) (fun _ => ?_) (fun h_ => absurd h_ (w4))
          refine wp_aload_n hX (dk DX3_step 47 rfl) rfl ?_
          refine w_callVQ (As := []) lkX3_63 hX (dk DX3_step 48 rfl) rfl rfl (by decide) hN (k_pop (d + 1) sw f g (x :: r) y hs) (fun v_a sw_a f_a g_a hq_a => ?_)
          obtain ⟨rfl, rfl, rfl, e1, e2⟩ := hq_a
          show WP _ _ _ 98 [_, _, _, _] [_] _
          refine wp_istore_n hX (dk DX3_step 49 rfl) rfl rfl hN (Nat.le_of_ble_eq_true rfl) ?_
          show WP _ _ _ 99 [_, _, _, _] [] _
          refine wp_aload_n hX (dk DX3_step 50 rfl) rfl ?_
          refine w_callVQ (As := []) lkX3_63 hX (dk DX3_step 51 rfl) rfl rfl (by decide) hN (k_pop (d + 1) _ f_a _ r x e2) (fun v_b sw_b f_b g_b hq_b => ?_)
          obtain ⟨rfl, rfl, rfl, e3, e4⟩ := hq_b
          show WP _ _ _ 103 [_, _, _, _] [_] _
          refine wp_istore_n hX (dk DX3_step 52 rfl) rfl rfl hN (Nat.le_of_ble_eq_true rfl) ?_
          show WP _ _ _ 104 [_, _, _, _] [] _
          refine wp_aload_n hX (dk DX3_step 53 rfl) rfl ?_
          refine wp_iload_n hX (dk DX3_step 54 rfl) rfl ?_
          refine wp_ineg hX (dk DX3_step 55 rfl) ?_
          rw [w7]
          refine wp_iload_n hX (dk DX3_step 56 rfl) rfl ?_
          refine wp_iload_n hX (dk DX3_step 57 rfl) rfl ?_
          refine w_callS (As := [_, _, _]) lkX3_77 hX (dk DX3_step 58 rfl) rfl (by simp [Value.category]) (k_join d _ f_b _ k x y (by omega) c16) ?_
          show WP _ _ _ 112 [_, _, _, _] [_, _] _
          refine w_callVQ (As := [_]) lkX3_70 hX (dk DX3_step 59 rfl) rfl rfl (by decide) hN (k_push (d + 1) _ f_b _ r _ e4 (by have := e2.2.1; simp at this; omega)) (fun v_c sw_c f_c g_c hq_c => ?_)
          obtain ⟨rfl, rfl, rfl, e5, e6⟩ := hq_c
          show WP _ _ _ 115 [_, _, _, _] [] _
          exact wp_return hX hR (dk DX3_step_1 0 rfl) (Nat.le_refl _) (Nat.le_refl _) (⟨_, _, _, rfl, rfl, rfl, rfl, (e1.trans e3).trans e5, by rw [jst_bin (by omega) c16]; exact e6⟩)
        | [x], hs, hb => simp at hb
        | [], hs, hb => simp at hb
      · rw [if_neg c16] at hh
        have hb : 1 ≤ s.length := by
          by_cases q : 1 ≤ s.length
          · exact q
          · rw [if_neg q] at hh; cases hh
        match s, hs, hb with
        | x :: r, hs, hb =>
          by_cases c17 : k = 17
          · subst c17
            refine wp_iload_n hX (dk DX3_step 0 rfl) rfl ?_
            refine wp_if_lt (tgt := 12) hX (dk DX3_step 1 rfl) (by decide) (fun _ => ?_) (fun h_ => absurd (by decide) h_)
            refine wp_iload_n hX (dk DX3_step 6 rfl) rfl ?_
            refine wp_sipush (v := -1000) hX (dk DX3_step 7 rfl) (by decide) ?_
            refine wp_icmp_gt (tgt := 48) hX (dk DX3_step 8 rfl) (by decide) (fun _ => ?_) (fun h_ => absurd (by decide) h_)
            refine wp_iload_n hX (dk DX3_step 25 rfl) rfl ?_
            refine wp_bipush (v := -3) hX (dk DX3_step 26 rfl) (by decide) ?_
            refine wp_icmp_ne (tgt := 66) hX (dk DX3_step 27 rfl) (by decide) (fun h_ => absurd (by decide) h_) (fun _ => ?_)
            refine wp_aload_n hX (dk DX3_step 28 rfl) rfl ?_
            refine wp_aload_n hX (dk DX3_step 29 rfl) rfl ?_
            refine w_callVQ (As := []) lkX3_63 hX (dk DX3_step 30 rfl) rfl rfl (by simp [Value.category]) hN (k_pop (d + 1) sw f g r x hs) (fun v_a sw_a f_a g_a hq_a => ?_)
            obtain ⟨rfl, rfl, rfl, e1, e2⟩ := hq_a
            show WP _ _ _ 59 [_, _, _, _] [_, _] _
            refine wp_ineg hX (dk DX3_step 31 rfl) ?_
            refine w_callVQ (As := [_]) lkX3_70 hX (dk DX3_step 32 rfl) rfl rfl (by decide) hN (k_push (d + 1) _ f_a _ r _ e2 (by have := hs.2.1; simp at this; omega)) (fun v_b sw_b f_b g_b hq_b => ?_)
            obtain ⟨rfl, rfl, rfl, e3, e4⟩ := hq_b
            show WP _ _ _ 63 [_, _, _, _] [] _
            refine wp_goto (tgt := 115) hX (dk DX3_step 33 rfl) (by decide) ?_
            exact wp_return hX hR (dk DX3_step_1 0 rfl) (Nat.le_refl _) (Nat.le_refl _) (⟨_, _, _, rfl, rfl, rfl, rfl, e1.trans e3, e4⟩)
          · obtain rfl : k = 16 := by omega
            refine wp_iload_n hX (dk DX3_step 0 rfl) rfl ?_
            refine wp_if_lt (tgt := 12) hX (dk DX3_step 1 rfl) (by decide) (fun _ => ?_) (fun h_ => absurd (by decide) h_)
            refine wp_iload_n hX (dk DX3_step 6 rfl) rfl ?_
            refine wp_sipush (v := -1000) hX (dk DX3_step 7 rfl) (by decide) ?_
            refine wp_icmp_gt (tgt := 48) hX (dk DX3_step 8 rfl) (by decide) (fun _ => ?_) (fun h_ => absurd (by decide) h_)
            refine wp_iload_n hX (dk DX3_step 25 rfl) rfl ?_
            refine wp_bipush (v := -3) hX (dk DX3_step 26 rfl) (by decide) ?_
            refine wp_icmp_ne (tgt := 66) hX (dk DX3_step 27 rfl) (by decide) (fun _ => ?_) (fun h_ => absurd h_ (by decide))
            refine wp_iload_n hX (dk DX3_step 34 rfl) rfl ?_
            refine wp_bipush (v := -4) hX (dk DX3_step 35 rfl) (by decide) ?_
            refine wp_icmp_ne (tgt := 94) hX (dk DX3_step 36 rfl) (by decide) (fun h_ => absurd (by decide) h_) (fun _ => ?_)
            refine wp_aload_n hX (dk DX3_step 37 rfl) rfl ?_
            refine wp_aload_n hX (dk DX3_step 38 rfl) rfl ?_
            refine w_callVQ (As := []) lkX3_63 hX (dk DX3_step 39 rfl) rfl rfl (by simp [Value.category]) hN (k_pop (d + 1) sw f g r x hs) (fun v_a sw_a f_a g_a hq_a => ?_)
            obtain ⟨rfl, rfl, rfl, e1, e2⟩ := hq_a
            show WP _ _ _ 77 [_, _, _, _] [_, _] _
            refine wp_if_ne (tgt := 84) hX (dk DX3_step 40 rfl) (by decide) (fun h77 => ?_) (fun h77 => ?_)
            · refine wp_iconst (v := 0) hX (dk DX3_step 43 rfl) (by decide) ?_
              refine w_callS (As := [_]) lkX3_73 hX (dk DX3_step 44 rfl) rfl (by simp [Value.category]) (k_truth (d + 1) _ _) ?_
              show WP _ _ _ 88 [_, _, _, _] [_, _] _
              refine w_callVQ (As := [_]) lkX3_70 hX (dk DX3_step 45 rfl) rfl rfl (by decide) hN (k_push (d + 1) _ f_a _ r _ e2 (by have := hs.2.1; simp at this; omega)) (fun v_b sw_b f_b g_b hq_b => ?_)
              obtain ⟨rfl, rfl, rfl, e3, e4⟩ := hq_b
              show WP _ _ _ 91 [_, _, _, _] [] _
              refine wp_goto (tgt := 115) hX (dk DX3_step 46 rfl) (by decide) ?_
              exact wp_return hX hR (dk DX3_step_1 0 rfl) (Nat.le_refl _) (Nat.le_refl _) (⟨_, _, _, rfl, rfl, rfl, rfl, e1.trans e3, by simpa [jst, h77] using e4⟩)
            · refine wp_iconst (v := 1) hX (dk DX3_step 41 rfl) (by decide) ?_
              refine wp_goto (tgt := 85) hX (dk DX3_step 42 rfl) (by decide) ?_
              refine w_callS (As := [_]) lkX3_73 hX (dk DX3_step 44 rfl) rfl (by simp [Value.category]) (k_truth (d + 1) _ _) ?_
              show WP _ _ _ 88 [_, _, _, _] [_, _] _
              refine w_callVQ (As := [_]) lkX3_70 hX (dk DX3_step 45 rfl) rfl rfl (by decide) hN (k_push (d + 1) _ f_a _ r _ e2 (by have := hs.2.1; simp at this; omega)) (fun v_b sw_b f_b g_b hq_b => ?_)
              obtain ⟨rfl, rfl, rfl, e3, e4⟩ := hq_b
              show WP _ _ _ 91 [_, _, _, _] [] _
              refine wp_goto (tgt := 115) hX (dk DX3_step 46 rfl) (by decide) ?_
              exact wp_return hX hR (dk DX3_step_1 0 rfl) (Nat.le_refl _) (Nat.le_refl _) (⟨_, _, _, rfl, rfl, rfl, rfl, e1.trans e3, by simpa [jst, h77] using e4⟩)
        | [], hs, hb => simp at hb
theorem dr_1 {α : Type} {C : List α} {p : Nat} {w : α} {r : List α} (h : C.drop p = w :: r) : C[p]? = some w ∧ C.drop (p + 1) = r ∧ p < C.length := by
  have h1 : p < C.length := by
    by_cases c : p < C.length
    · exact c
    · rw [List.drop_eq_nil_of_le (by omega)] at h; cases h
  have h2 : C.drop p = C[p] :: C.drop (p + 1) := List.drop_eq_getElem_cons h1
  rw [h2] at h
  injection h with e1 e2
  exact ⟨by rw [List.getElem?_eq_getElem h1, e1], e2, h1⟩
theorem jvl_1 {nm : Nat → Int32} {c : List Nat} (h : jhk c 0 64 = some 1) : jev nm c [] = [jvl nm c] := by
  have := jev_len nm c [] 1 64 h
  unfold jvl
  match hq : jev nm c [], this with
  | [x], _ => rfl
theorem k_workOut (d : Nat) (sw : Bool) (f : Nat → Nat → Int32) (g : Nat → Nat → Int64) (nm : Nat → Int32) (L : List (List Nat × List Nat)) (hr : rlOk f L) (hn : ∀ j, j < 6 → f 51 j = nm j) : CT (d + 3) 0 0 iX3_workOut [.ref 49] (S sw f g) (QS (fun r sw2 f2 g2 => r = some (.int (jln nm L)) ∧ sw2 = sw ∧ g2 = g ∧ rlS f f2)) := by
  obtain ⟨r1, r2, r3, r4⟩ := hr
  obtain ⟨C, hC⟩ : ∃ C, C = jcd L 0 := ⟨_, rfl⟩
  rw [← hC] at r1 r2 r3
  refine CT.of rfl (Nat.le_of_ble_eq_true rfl) (fun X hX hR hN _ => ?_)
  have hX : Good X RX3 cX3_workOut (d + 3) 0 0 := hX
  have hN : x_nl X = 4 := hN
  show WP X 0 0 0 [_, _, _, _] [] _
  have word : ∀ (f2 : Nat → Nat → Int32) (p : Nat) (w : Int32), rlS f f2 → C[p]? = some w → f2 50 p = w := by
    intro f2 p w h1 h2
    rw [h1.1 50 (by decide) (by decide)]
    exact r3 p w h2
  have len : ∀ f2 : Nat → Nat → Int32, rlS f f2 → f2 49 3 = nI C.length := fun f2 h1 => (h1.2 3 (by decide)).trans r1
  -- to the word at p
  have hd : ∀ (p q : Nat) (f2 : Nat → Nat → Int32) (z : Option Value) (w : Int32), C[p]? = some w → p < C.length → q ≤ p → rlS f f2 → WP X 0 0 35 [some (.ref 49), some (.int (nI (p + 1))), some (.int (nI q)), some (.int w)] [] (S sw f2 g) → WP X 0 0 9 [some (.ref 49), some (.int (nI p)), some (.int (nI q)), z] [] (S sw f2 g) := by
    intro p q f2 z w hw hp hq hf k
    refine wp_iload_n hX (dk DX3_workOut 7 rfl) rfl ?_
    refine wp_aload_n hX (dk DX3_workOut 8 rfl) rfl ?_
    refine w_geti hX flX3_25 (dk DX3_workOut 9 rfl) (by decide) rfl ?_
    rw [len f2 hf]
    refine wp_icmp_ge (tgt := 97) hX (dk DX3_workOut 10 rfl) (by decide) (fun h_ => absurd h_ ((nI_ge (by omega) (by omega)))) (fun _ => ?_)
    refine wp_iload_n hX (dk DX3_workOut 11 rfl) rfl ?_
    refine wp_aload_n hX (dk DX3_workOut 12 rfl) rfl ?_
    refine w_geti hX flX3_25 (dk DX3_workOut 13 rfl) (by decide) rfl ?_
    rw [len f2 hf]
    refine wp_icmp_ge (tgt := 97) hX (dk DX3_workOut 14 rfl) (by decide) (fun h_ => absurd h_ ((nI_ge (by omega) (by omega)))) (fun _ => ?_)
    refine wp_aload_n hX (dk DX3_workOut 15 rfl) rfl ?_
    refine w_getr hX flX3_9 (dk DX3_workOut 16 rfl) rfl rfl ?_
    refine wp_iload_n hX (dk DX3_workOut 17 rfl) rfl ?_
    refine w_iald (j := _) hX (dk DX3_workOut 18 rfl) rfl rfl (show _ < 256 by omega) ?_
    rw [word f2 p w hf hw]
    refine wp_istore_n hX (dk DX3_workOut 19 rfl) rfl rfl hN (Nat.le_of_ble_eq_true rfl) ?_
    show WP _ _ _ 32 [_, _, _, _] [] _
    refine wp_iinc hX (dk DX3_workOut 20 rfl) rfl (nI_inc _) rfl hN ?_
    show WP _ _ _ 35 [_, _, _, _] [] _
    exact k
  -- a code of signs
  have sg : ∀ (c : List Nat) (p q : Nat) (f2 : Nat → Nat → Int32) (z : Option Value) (s : List Int32) (h2 : Nat) (rest : List Int32), C.drop p = c.map jtw ++ rest → q ≤ p → rlS f f2 → skF f2 s → jhk c s.length 64 = some h2 → (∀ (f3 : Nat → Nat → Int32) (z3 : Option Value), rlS f f3 → skF f3 (jev nm c s) → C.drop (p + c.length) = rest → WP X 0 0 9 [some (.ref 49), some (.int (nI (p + c.length))), some (.int (nI (q + c.length))), z3] [] (S sw f3 g)) → WP X 0 0 9 [some (.ref 49), some (.int (nI p)), some (.int (nI q)), z] [] (S sw f2 g) := by
    intro c
    induction c with
    | nil =>
      intro p q f2 z s h2 rest e hq hf hs hh k
      exact k f2 z hf hs e
    | cons a c ih =>
      intro p q f2 z s h2 rest e hq hf hs hh k
      obtain ⟨e1, e2, e3⟩ := dr_1 (w := jtw a) (r := c.map jtw ++ rest) e
      refine hd p q f2 z _ e1 e3 hq hf ?_
      have ne : ¬ jtw a = -1 ∧ ¬ jtw a = -2 := by
        have no : ¬ (16 ≤ a ∧ a < 16) := by omega
        by_cases c6 : a < 6
        · obtain ⟨_, _, w3, w4, _⟩ := jtw_nam a c6
          exact ⟨w3, w4⟩
        · by_cases c16 : a < 16
          · obtain ⟨_, _, _, _, w3, w4, _⟩ := jtw_bin a c16 (by omega)
            exact ⟨w3, w4⟩
          · by_cases c18 : 18 ≤ a
            · rw [jtw_num c18]
              have hb : a < 10018 := by
                simp only [jhk] at hh
                rw [if_pos (Or.inr c18)] at hh
                by_cases q : s.length < 64 ∧ a < 10018
                · exact q.2
                · rw [if_neg q] at hh; cases hh
              have := nI_pos (n := a - 18) (by omega)
              exact ⟨fun q => this (by rw [q]; decide), fun q => this (by rw [q]; decide)⟩
            · obtain rfl | rfl : a = 16 ∨ a = 17 := by omega
              · exact ⟨by decide, by decide⟩
              · exact ⟨by decide, by decide⟩
      refine wp_iload_n hX (dk DX3_workOut 21 rfl) rfl ?_
      refine wp_iconst (v := -1) hX (dk DX3_workOut 22 rfl) (by decide) ?_
      refine wp_icmp_ne (tgt := 45) hX (dk DX3_workOut 23 rfl) (by decide) (fun _ => ?_) (fun h_ => absurd h_ (ne.1))
      refine wp_iload_n hX (dk DX3_workOut 27 rfl) rfl ?_
      refine wp_bipush (v := -2) hX (dk DX3_workOut 28 rfl) (by decide) ?_
      refine wp_icmp_ne (tgt := 86) hX (dk DX3_workOut 29 rfl) (by decide) (fun _ => ?_) (fun h_ => absurd h_ (ne.2))
      refine wp_aload_n hX (dk DX3_workOut 49 rfl) rfl ?_
      refine wp_iload_n hX (dk DX3_workOut 50 rfl) rfl ?_
      refine w_callVQ (As := [_]) lkX3_66 hX (dk DX3_workOut 51 rfl) rfl rfl (by decide) hN (k_step d sw f2 g nm a h2 c s hs (fun j hj => by rw [hf.1 51 (by decide) (by decide)]; exact hn j hj) hh) (fun v_ sw_ f_ g_ hq_ => ?_)
      obtain ⟨rfl, rfl, rfl, g1, g2⟩ := hq_
      show WP _ _ _ 91 [_, _, _, _] [] _
      refine wp_iinc hX (dk DX3_workOut 52 rfl) rfl (nI_inc _) rfl hN ?_
      show WP _ _ _ 94 [_, _, _, _] [] _
      refine wp_goto (tgt := 9) hX (dk DX3_workOut 53 rfl) (by decide) ?_
      refine ih (p + 1) (q + 1) _ _ _ h2 rest e2 (by omega) (hf.trans g1) g2 (jst_len nm a s.length h2 64 c s rfl hh) (fun f3 z3 t1 t2 t3 => ?_)
      have := k f3 z3 t1 t2 (by rw [List.length_cons, ← Nat.add_assoc, Nat.add_right_comm]; exact t3)
      simp only [List.length_cons] at this
      rw [show p + (c.length + 1) = p + 1 + c.length by omega, show q + (c.length + 1) = q + 1 + c.length by omega] at this
      exact this
  have ln : ∀ (l : List (List Nat × List Nat)) (p q : Nat) (f2 : Nat → Nat → Int32) (z : Option Value), C.drop p = jcd l p → p ≤ C.length → q ≤ p → rlS f f2 → skF f2 [] → (∀ x ∈ l, jwl x) → jln nm L = jln nm l → WP X 0 0 9 [some (.ref 49), some (.int (nI p)), some (.int (nI q)), z] [] (S sw f2 g) := by
    intro l
    induction l with
    | nil =>
      intro p q f2 z e hp hq hf hs hw hj
      have hp2 : p = C.length := by
        have := congrArg List.length e
        simp [jcd] at this
        omega
      refine wp_iload_n hX (dk DX3_workOut 7 rfl) rfl ?_
      refine wp_aload_n hX (dk DX3_workOut 8 rfl) rfl ?_
      refine w_geti hX flX3_25 (dk DX3_workOut 9 rfl) (by decide) rfl ?_
      rw [len f2 hf]
      refine wp_icmp_ge (tgt := 97) hX (dk DX3_workOut 10 rfl) (by decide) (fun h => ?_) (fun h => ?_)
      · refine wp_iconst (v := 0) hX (dk DX3_workOut 54 rfl) (by decide) ?_
        exact wp_ireturn hX hR (dk DX3_workOut 55 rfl) rfl (Nat.le_refl _) (Nat.le_refl _) (⟨_, _, _, rfl, by rw [hj]; rfl, rfl, rfl, hf⟩)
      · refine wp_iload_n hX (dk DX3_workOut 11 rfl) rfl ?_
        refine wp_aload_n hX (dk DX3_workOut 12 rfl) rfl ?_
        refine w_geti hX flX3_25 (dk DX3_workOut 13 rfl) (by decide) rfl ?_
        rw [len f2 hf]
        refine wp_icmp_ge (tgt := 97) hX (dk DX3_workOut 14 rfl) (by decide) (fun _ => ?_) (fun h_ => absurd ((nI_le (by omega) (by omega))) h_)
        refine wp_iconst (v := 0) hX (dk DX3_workOut 54 rfl) (by decide) ?_
        exact wp_ireturn hX hR (dk DX3_workOut 55 rfl) rfl (Nat.le_refl _) (Nat.le_refl _) (⟨_, _, _, rfl, by rw [hj]; rfl, rfl, rfl, hf⟩)
    | cons x l ih =>
      obtain ⟨a, b⟩ := x
      intro p q f2 z e hp hq hf hs hw hj
      obtain ⟨w1, w2⟩ := hw _ List.mem_cons_self
      have wb : jhk b 0 64 = some 1 := w2 0 64 (by decide)
      -- the body and its end
      have body : ∀ (p2 q2 : Nat) (f3 : Nat → Nat → Int32) (z3 : Option Value) (rest : List Int32), C.drop p2 = b.map jtw ++ (-1 :: rest) → q2 ≤ p2 → rlS f f3 → skF f3 [] → jln nm L = jvl nm b → WP X 0 0 9 [some (.ref 49), some (.int (nI p2)), some (.int (nI q2)), z3] [] (S sw f3 g) := by
        intro p2 q2 f3 z3 rest e3 hq3 hf3 hs3 hj3
        refine sg b p2 q2 f3 z3 [] 1 _ e3 hq3 hf3 hs3 wb (fun f4 z4 hf4 hs4 e4 => ?_)
        rw [jvl_1 wb] at hs4
        obtain ⟨t1, t2, t3⟩ := dr_1 e4
        refine hd _ _ f4 z4 _ t1 t3 (by omega) hf4 ?_
        refine wp_iload_n hX (dk DX3_workOut 21 rfl) rfl ?_
        refine wp_iconst (v := -1) hX (dk DX3_workOut 22 rfl) (by decide) ?_
        refine wp_icmp_ne (tgt := 45) hX (dk DX3_workOut 23 rfl) (by decide) (fun h_ => absurd (rfl) h_) (fun _ => ?_)
        refine wp_aload_n hX (dk DX3_workOut 24 rfl) rfl ?_
        refine w_callVQ (As := []) lkX3_63 hX (dk DX3_workOut 25 rfl) rfl rfl (by decide) hN (k_pop (d + 2) sw f4 g [] _ hs4) (fun v_ sw_ f_ g_ hq_ => ?_)
        obtain ⟨rfl, rfl, rfl, g1, g2⟩ := hq_
        show WP _ _ _ 44 [_, _, _, _] [_] _
        exact wp_ireturn hX hR (dk DX3_workOut 26 rfl) rfl (Nat.le_refl _) (Nat.le_refl _) (⟨_, _, _, rfl, by rw [hj3], rfl, rfl, hf4.trans g1⟩)
      by_cases ca : a = []
      · subst ca
        rw [jcd, jcl, if_pos rfl] at e
        refine body p q f2 z (jcd l (p + (List.map jtw b ++ [-1]).length)) (by rw [e]; simp) hq hf hs (by rw [hj, jln, if_neg (fun q => q.1 rfl)])
      · have wa : jhk a 0 64 = some 1 := (w1.resolve_left ca) 0 64 (by decide)
        rw [jcd, jcl, if_neg ca] at e
        have e' : C.drop p = a.map jtw ++ (-2 :: nI (p + a.length + b.length + 3) :: (b.map jtw ++ (-1 :: jcd l (p + a.length + b.length + 3)))) := by
          rw [e]
          simp
          congr 1
          omega
        refine sg a p q f2 z [] 1 _ e' hq hf hs wa (fun f3 z3 hf3 hs3 e3 => ?_)
        rw [jvl_1 wa] at hs3
        obtain ⟨t1, t2, t3⟩ := dr_1 e3
        obtain ⟨u1, u2, u3⟩ := dr_1 t2
        refine hd _ _ f3 z3 _ t1 t3 (by omega) hf3 ?_
        refine wp_iload_n hX (dk DX3_workOut 21 rfl) rfl ?_
        refine wp_iconst (v := -1) hX (dk DX3_workOut 22 rfl) (by decide) ?_
        refine wp_icmp_ne (tgt := 45) hX (dk DX3_workOut 23 rfl) (by decide) (fun _ => ?_) (fun h_ => absurd h_ ((by decide)))
        refine wp_iload_n hX (dk DX3_workOut 27 rfl) rfl ?_
        refine wp_bipush (v := -2) hX (dk DX3_workOut 28 rfl) (by decide) ?_
        refine wp_icmp_ne (tgt := 86) hX (dk DX3_workOut 29 rfl) (by decide) (fun h_ => absurd ((rfl)) h_) (fun _ => ?_)
        refine wp_aload_n hX (dk DX3_workOut 30 rfl) rfl ?_
        refine w_callVQ (As := []) lkX3_63 hX (dk DX3_workOut 31 rfl) rfl rfl (by decide) hN (k_pop (d + 2) sw f3 g [] _ hs3) (fun v_ sw_ f_ g_ hq_ => ?_)
        obtain ⟨rfl, rfl, rfl, g1, g2⟩ := hq_
        show WP _ _ _ 55 [_, _, _, _] [_] _
        have hf4 := hf3.trans g1
        refine wp_if_ne (tgt := 79) hX (dk DX3_workOut 32 rfl) (by decide) (fun h => ?_) (fun h => ?_)
        · refine wp_iload_n hX (dk DX3_workOut 44 rfl) rfl ?_
          refine wp_iconst (v := 1) hX (dk DX3_workOut 45 rfl) (by decide) ?_
          refine wp_iadd hX (dk DX3_workOut 46 rfl) ?_
          rw [nI_1]
          refine wp_istore_n hX (dk DX3_workOut 47 rfl) rfl rfl hN (Nat.le_of_ble_eq_true rfl) ?_
          show WP _ _ _ 83 [_, _, _, _] [] _
          refine wp_goto (tgt := 91) hX (dk DX3_workOut 48 rfl) (by decide) ?_
          -- to 91
          refine wp_iinc hX (dk DX3_workOut 52 rfl) rfl (nI_inc _) rfl hN ?_
          show WP _ _ _ 94 [_, _, _, _] [] _
          refine wp_goto (tgt := 9) hX (dk DX3_workOut 53 rfl) (by decide) ?_
          -- to 9
          refine body _ (q + a.length + 1) _ _ _ (dr_1 t2).2.1 (by omega) hf4 g2 (by rw [hj, jln, if_neg (fun q => h q.2)])
        · refine wp_iload_n hX (dk DX3_workOut 33 rfl) rfl ?_
          refine wp_aload_n hX (dk DX3_workOut 34 rfl) rfl ?_
          refine w_geti hX flX3_25 (dk DX3_workOut 35 rfl) (by decide) rfl ?_
          rw [len _ hf4]
          refine wp_icmp_ge (tgt := 79) hX (dk DX3_workOut 36 rfl) (by decide) (fun h_ => absurd h_ ((nI_ge (by omega) (by omega)))) (fun _ => ?_)
          refine wp_iload_n hX (dk DX3_workOut 37 rfl) rfl ?_
          refine wp_aload_n hX (dk DX3_workOut 38 rfl) rfl ?_
          refine w_getr hX flX3_9 (dk DX3_workOut 39 rfl) rfl rfl ?_
          refine wp_iload_n hX (dk DX3_workOut 40 rfl) rfl ?_
          refine w_iald (j := _) hX (dk DX3_workOut 41 rfl) rfl rfl (show _ < 256 by omega) ?_
          rw [word _ _ _ hf4 u1]
          refine w_max hX lkX3_41 (dk DX3_workOut 42 rfl) (by decide) ?_
          rw [if_pos (nI_lt (by omega) (by have := congrArg List.length u2; simp at this; omega))]
          refine wp_goto (tgt := 82) hX (dk DX3_workOut 43 rfl) (by decide) ?_
          refine wp_istore_n hX (dk DX3_workOut 47 rfl) rfl rfl hN (Nat.le_of_ble_eq_true rfl) ?_
          show WP _ _ _ 83 [_, _, _, _] [] _
          refine wp_goto (tgt := 91) hX (dk DX3_workOut 48 rfl) (by decide) ?_
          refine wp_iinc hX (dk DX3_workOut 52 rfl) rfl (nI_inc _) rfl hN ?_
          show WP _ _ _ 94 [_, _, _, _] [] _
          refine wp_goto (tgt := 9) hX (dk DX3_workOut 53 rfl) (by decide) ?_
          refine ih _ (q + a.length + 1) _ _ ?_ ?_ ?_ hf4 g2 (fun x hx => hw x (List.mem_cons_of_mem _ hx)) (by rw [hj, jln, if_pos ⟨ca, h⟩])
          · have : C.drop (p + a.length + 1 + 1 + b.length + 1) = jcd l (p + a.length + b.length + 3) := by
              rw [← List.drop_drop, ← List.drop_drop, u2]
              simp
            rw [show p + a.length + b.length + 3 = p + a.length + 1 + 1 + b.length + 1 by omega] at this ⊢
            exact this
          · have := congrArg List.length u2; simp at this; omega
          · omega
  refine wp_aload_n hX (dk DX3_workOut 0 rfl) rfl ?_
  refine wp_iconst (v := 0) hX (dk DX3_workOut 1 rfl) (by decide) ?_
  refine w_puti hX fpX3_60 (dk DX3_workOut 2 rfl) rfl ?_
  refine wp_iconst (v := 0) hX (dk DX3_workOut 3 rfl) (by decide) ?_
  refine wp_istore_n hX (dk DX3_workOut 4 rfl) rfl rfl hN (Nat.le_of_ble_eq_true rfl) ?_
  show WP _ _ _ 7 [_, _, _, _] [] _
  refine wp_iconst (v := 0) hX (dk DX3_workOut 5 rfl) (by decide) ?_
  refine wp_istore_n hX (dk DX3_workOut 6 rfl) rfl rfl hN (Nat.le_of_ble_eq_true rfl) ?_
  show WP _ _ _ 9 [_, _, _, _] [] _
  refine ln L 0 0 _ none (by rw [hC]; rfl) (by omega) (by omega) ⟨fun b h1 h2 => u2_ne _ _ _ h1, fun i hi => u2_off _ _ _ hi⟩ ⟨u2_at _ _ _ _, by decide, trivial⟩ r4 rfl
/-- all but the Rule's own rows is as it was -/
def rwS (f f2 : Nat → Nat → Int32) : Prop := (∀ b, b ≠ 49 → b ≠ 51 → b ≠ 52 → f2 b = f b) ∧ ∀ i, i ≠ 4 → f2 49 i = f 49 i
theorem rwS.rf {f : Nat → Nat → Int32} : rwS f f := ⟨fun _ _ _ _ => rfl, fun _ _ => rfl⟩
theorem rwS.trans {f f2 f3 : Nat → Nat → Int32} (h : rwS f f2) (h2 : rwS f2 f3) : rwS f f3 := ⟨fun b g1 g2 g3 => (h2.1 b g1 g2 g3).trans (h.1 b g1 g2 g3), fun i hi => (h2.2 i hi).trans (h.2 i hi)⟩
theorem rlOk.same {f f2 : Nat → Nat → Int32} {L : List (List Nat × List Nat)} (h : rlOk f L) (h1 : f2 49 3 = f 49 3) (h2 : f2 50 = f 50) : rlOk f2 L := ⟨by rw [h1]; exact h.1, h.2.1, fun j q hj => by rw [h2]; exact h.2.2.1 j q hj, h.2.2.2⟩
theorem rlOk.rw {f f2 : Nat → Nat → Int32} {L : List (List Nat × List Nat)} (h : rlOk f L) (h2 : rwS f f2) : rlOk f2 L := h.same (h2.2 3 (by decide)) (h2.1 50 (by decide) (by decide) (by decide))
def jab (x : Int32) : Int32 := if 0 ≤ x then x else 0 - x
/-- what a figure brings: worth, fades, wanted year; shape, number; the year, how many ahead -/
def jbr (L : List (List Nat × List Nat)) (w fd wa s k y m : Int32) : Int32 := jlw L w fd (jab (y - wa)) (jpc s) m k
theorem jcd_pos {L : List (List Nat × List Nat)} (h : ¬ L = []) (p : Nat) : 0 < (jcd L p).length := by
  match L, h with
  | (a, b) :: r, _ =>
    rw [jcd, List.length_append, jcl]
    split <;> simp <;> omega
theorem k_worthOf (d : Nat) (sw : Bool) (f : Nat → Nat → Int32) (g : Nat → Nat → Int64) (n i : Nat) (sh : Nat → Int32) (y m : Int32) (L : List (List Nat × List Nat)) (hs : stF f n sh) (hr : rlOk f L) (hi : i < n) : CT (d + 4) 0 0 iX3_worthOf [.ref 49, .ref 1, .int (nI i), .int y, .int m] (S sw f g) (QS (fun r sw2 f2 g2 => r = some (.int (jbr L (f 3 (i * 3)) (f 3 (i * 3 + 1)) (f 3 (i * 3 + 2)) (sh i) (nI i) y m)) ∧ sw2 = sw ∧ g2 = g ∧ rwS f f2)) := by
  have hi10 : i < 10 := Nat.lt_of_lt_of_le hi hs.2.1
  have hF := hs.2.2 i hi
  refine CT.of rfl (Nat.le_of_ble_eq_true rfl) (fun X hX hR hN _ => ?_)
  have hX : Good X RX3 cX3_worthOf (d + 4) 0 0 := hX
  have hN : x_nl X = 8 := hN
  show WP X 0 0 0 [_, _, _, _, _, _, _, _] [] _
  refine wp_aload_n hX (dk DX3_worthOf 0 rfl) rfl ?_
  refine wp_iload_n hX (dk DX3_worthOf 1 rfl) rfl ?_
  refine wp_iconst (v := 0) hX (dk DX3_worthOf 2 rfl) (by decide) ?_
  refine w_callV (As := [_, _]) lkX3_29 hX (dk DX3_worthOf 3 rfl) rfl rfl (by decide) hN (k_traitOf (d + 3) sw f g i 0 hi10 (by decide)) ?_
  show WP _ _ _ 6 [_, _, _, _, _, _, _, _] [_] _
  refine wp_istore hX (dk DX3_worthOf 4 rfl) rfl hN (Nat.le_of_ble_eq_true rfl) ?_
  show WP _ _ _ 8 [_, _, _, _, _, _, _, _] [] _
  refine wp_aload_n hX (dk DX3_worthOf 5 rfl) rfl ?_
  refine wp_iload_n hX (dk DX3_worthOf 6 rfl) rfl ?_
  refine wp_iconst (v := 1) hX (dk DX3_worthOf 7 rfl) (by decide) ?_
  refine w_callV (As := [_, _]) lkX3_29 hX (dk DX3_worthOf 8 rfl) rfl rfl (by decide) hN (k_traitOf (d + 3) sw f g i 1 hi10 (by decide)) ?_
  show WP _ _ _ 14 [_, _, _, _, _, _, _, _] [_] _
  refine wp_istore hX (dk DX3_worthOf 9 rfl) rfl hN (Nat.le_of_ble_eq_true rfl) ?_
  show WP _ _ _ 16 [_, _, _, _, _, _, _, _] [] _
  refine wp_iload_n hX (dk DX3_worthOf 10 rfl) rfl ?_
  refine wp_aload_n hX (dk DX3_worthOf 11 rfl) rfl ?_
  refine wp_iload_n hX (dk DX3_worthOf 12 rfl) rfl ?_
  refine wp_iconst (v := 2) hX (dk DX3_worthOf 13 rfl) (by decide) ?_
  refine w_callV (As := [_, _]) lkX3_29 hX (dk DX3_worthOf 14 rfl) rfl rfl (by simp [Value.category]) hN (k_traitOf (d + 3) sw f g i 2 hi10 (by decide)) ?_
  show WP _ _ _ 23 [_, _, _, _, _, _, _, _] [_, _] _
  refine wp_isub hX (dk DX3_worthOf 15 rfl) ?_
  refine w_abs hX lkX3_35 (dk DX3_worthOf 16 rfl) (by decide) ?_
  refine wp_istore hX (dk DX3_worthOf 17 rfl) rfl hN (Nat.le_of_ble_eq_true rfl) ?_
  show WP _ _ _ 29 [_, _, _, _, _, _, _, _] [] _
  refine wp_aload_n hX (dk DX3_worthOf 18 rfl) rfl ?_
  refine w_geti hX flX3_25 (dk DX3_worthOf 19 rfl) (by decide) rfl ?_
  rw [hr.1]
  refine wp_if_ne (tgt := 49) hX (dk DX3_worthOf 20 rfl) (by decide) (fun h => ?_) (fun h => ?_)
  · have hL : ¬ L = [] := by
      intro q
      subst q
      exact h rfl
    refine wp_aload_n hX (dk DX3_worthOf 29 rfl) rfl ?_
    refine w_getr hX flX3_15 (dk DX3_worthOf 30 rfl) rfl rfl ?_
    refine wp_iconst (v := 0) hX (dk DX3_worthOf 31 rfl) (by decide) ?_
    refine wp_iload hX (dk DX3_worthOf 32 rfl) rfl ?_
    refine w_iast (j := 0) hX (dk DX3_worthOf 33 rfl) rfl rfl (by decide) ?_
    refine wp_aload_n hX (dk DX3_worthOf 34 rfl) rfl ?_
    refine w_getr hX flX3_15 (dk DX3_worthOf 35 rfl) rfl rfl ?_
    refine wp_iconst (v := 1) hX (dk DX3_worthOf 36 rfl) (by decide) ?_
    refine wp_iload hX (dk DX3_worthOf 37 rfl) rfl ?_
    refine w_iast (j := 1) hX (dk DX3_worthOf 38 rfl) rfl rfl (by decide) ?_
    refine wp_aload_n hX (dk DX3_worthOf 39 rfl) rfl ?_
    refine w_getr hX flX3_15 (dk DX3_worthOf 40 rfl) rfl rfl ?_
    refine wp_iconst (v := 2) hX (dk DX3_worthOf 41 rfl) (by decide) ?_
    refine wp_iload hX (dk DX3_worthOf 42 rfl) rfl ?_
    refine w_iast (j := 2) hX (dk DX3_worthOf 43 rfl) rfl rfl (by decide) ?_
    refine wp_aload_n hX (dk DX3_worthOf 44 rfl) rfl ?_
    refine w_getr hX flX3_15 (dk DX3_worthOf 45 rfl) rfl rfl ?_
    refine wp_iconst (v := 3) hX (dk DX3_worthOf 46 rfl) (by decide) ?_
    refine wp_aload_n hX (dk DX3_worthOf 47 rfl) rfl ?_
    refine wp_iload_n hX (dk DX3_worthOf 48 rfl) rfl ?_
    refine w_callV (As := [_]) lkX3_44 hX (dk DX3_worthOf 49 rfl) rfl rfl (by simp [Value.category]) hN (k_formOf (d + 3) sw _ g i hi10) ?_
    show WP _ _ _ 83 [_, _, _, _, _, _, _, _] [_, _, _] _
    refine w_geti hX flX3_48 (dk DX3_worthOf 50 rfl) (by decide) (isF_st i hi10).1 ?_
    rw [show (u2 (u2 (u2 f 51 0 (f 3 (i * 3 + 0))) 51 1 (f 3 (i * 3 + 1))) 51 2 (if 0 ≤ y - f 3 (i * 3 + 2) then y - f 3 (i * 3 + 2) else 0 - (y - f 3 (i * 3 + 2)))) (6 + 4 * i) 4 = jpc (sh i) by rw [u2_ne _ _ _ (by omega), u2_ne _ _ _ (by omega), u2_ne _ _ _ (by omega)]; exact hF.2.1]
    refine w_iast (j := _) hX (dk DX3_worthOf 51 rfl) rfl rfl (by decide) ?_
    refine wp_aload_n hX (dk DX3_worthOf 52 rfl) rfl ?_
    refine w_getr hX flX3_15 (dk DX3_worthOf 53 rfl) rfl rfl ?_
    refine wp_iconst (v := 4) hX (dk DX3_worthOf 54 rfl) (by decide) ?_
    refine wp_iload hX (dk DX3_worthOf 55 rfl) rfl ?_
    refine w_iast (j := 4) hX (dk DX3_worthOf 56 rfl) rfl rfl (by decide) ?_
    refine wp_aload_n hX (dk DX3_worthOf 57 rfl) rfl ?_
    refine w_getr hX flX3_15 (dk DX3_worthOf 58 rfl) rfl rfl ?_
    refine wp_iconst (v := 5) hX (dk DX3_worthOf 59 rfl) (by decide) ?_
    refine wp_iload_n hX (dk DX3_worthOf_1 0 rfl) rfl ?_
    refine w_iast (j := 5) hX (dk DX3_worthOf_1 1 rfl) rfl rfl (by decide) ?_
    refine wp_iconst (v := 0) hX (dk DX3_worthOf_1 2 rfl) (by decide) ?_
    refine wp_sipush (v := 9999) hX (dk DX3_worthOf_1 3 rfl) (by decide) ?_
    refine wp_aload_n hX (dk DX3_worthOf_1 4 rfl) rfl ?_
    obtain ⟨f3, hf3⟩ : ∃ f3, f3 = u2 (u2 (u2 (u2 (u2 (u2 f 51 0 (f 3 (i * 3 + 0))) 51 1 (f 3 (i * 3 + 1))) 51 2 (if 0 ≤ y - f 3 (i * 3 + 2) then y - f 3 (i * 3 + 2) else 0 - (y - f 3 (i * 3 + 2)))) 51 3 (jpc (sh i))) 51 4 m) 51 5 (nI i) := ⟨_, rfl⟩
    rw [← hf3]
    have e3 : ∀ b, b ≠ 51 → f3 b = f b := fun b hb => by rw [hf3, u2_ne _ _ _ hb, u2_ne _ _ _ hb, u2_ne _ _ _ hb, u2_ne _ _ _ hb, u2_ne _ _ _ hb, u2_ne _ _ _ hb]
    have e4 : ∀ j, j < 6 → f3 51 j = jnm (f 3 (i * 3)) (f 3 (i * 3 + 1)) (jab (y - f 3 (i * 3 + 2))) (jpc (sh i)) m (nI i) j := by
      intro j hj
      have : j = 0 ∨ j = 1 ∨ j = 2 ∨ j = 3 ∨ j = 4 ∨ j = 5 := by omega
      rw [hf3]
      rcases this with rfl | rfl | rfl | rfl | rfl | rfl <;> simp [u2, jnm, jab]
    refine w_callVQ (As := []) lkX3_53 hX (dk DX3_worthOf_1 5 rfl) rfl rfl (by simp [Value.category]) hN (k_workOut d sw f3 g _ L (hr.same (by rw [e3 49 (by decide)]) (e3 50 (by decide))) e4) (fun v_ sw_ f_ g_ hq_ => ?_)
    obtain ⟨rfl, rfl, rfl, g1⟩ := hq_
    show WP _ _ _ 110 [_, _, _, _, _, _, _, _] [_, _, _] _
    refine w_min hX lkX3_57 (dk DX3_worthOf_1 6 rfl) (by simp [Value.category]) ?_
    refine w_max hX lkX3_41 (dk DX3_worthOf_1 7 rfl) (by decide) ?_
    exact wp_ireturn hX hR (dk DX3_worthOf_1 8 rfl) rfl (Nat.le_refl _) (Nat.le_refl _) (⟨_, _, _, rfl, by rw [jbr, jlw, if_neg hL]; rfl, rfl, rfl, fun b h1 h2 h3 => by rw [g1.1 b h1 h3, e3 b h2], fun j hj => by rw [g1.2 j hj, e3 49 (by decide)]⟩)
  · have hL : L = [] := by
      by_cases q : L = []
      · exact q
      · exact absurd h (nI_ne0 (jcd_pos q 0) (by have := hr.2.1; omega))
    refine wp_iconst (v := 0) hX (dk DX3_worthOf 21 rfl) (by decide) ?_
    refine wp_iload hX (dk DX3_worthOf 22 rfl) rfl ?_
    refine wp_iload hX (dk DX3_worthOf 23 rfl) rfl ?_
    refine wp_iload hX (dk DX3_worthOf 24 rfl) rfl ?_
    refine wp_imul hX (dk DX3_worthOf 25 rfl) ?_
    refine wp_isub hX (dk DX3_worthOf 26 rfl) ?_
    refine w_max hX lkX3_41 (dk DX3_worthOf 27 rfl) (by decide) ?_
    exact wp_ireturn hX hR (dk DX3_worthOf 28 rfl) rfl (Nat.le_refl _) (Nat.le_refl _) (⟨_, _, _, rfl, by rw [jbr, jlw, if_pos hL]; rfl, rfl, rfl, rwS.rf⟩)
