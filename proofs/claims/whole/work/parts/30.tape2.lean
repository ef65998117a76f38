/-! TAPE: bytes, reading -/
/-- the byte at a place; 999 behind the end -/
def pC (T : Nat → Nat) (n a : Nat) : Nat := if a < n then T a else 999
theorem pC_end (T : Nat → Nat) (n : Nat) : ∀ a, n ≤ a → pC T n a = 999 := fun a h => by unfold pC; rw [if_neg (by omega)]
/-- the tape holds n bytes, the reading stands at a -/
def tpO (f : Nat → Nat → Int32) (T : Nat → Nat) (n a : Nat) : Prop := f 46 2 = nI n ∧ n ≤ 120 ∧ (∀ j, j < n → f 47 j = nI (T j) ∧ T j < 256) ∧ f 46 3 = nI a
/-- the words written -/
def wrO (f : Nat → Nat → Int32) (W : List Int32) : Prop := f 46 4 = nI W.length ∧ W.length ≤ 256 ∧ ∀ (j : Nat) (q : Int32), W[j]? = some q → f 48 j = q
/-- all but where it stands and the words is as it was -/
def tS (f f2 : Nat → Nat → Int32) : Prop := (∀ b, b ≠ 46 → b ≠ 48 → f2 b = f b) ∧ ∀ i, i ≠ 3 → i ≠ 4 → f2 46 i = f 46 i
theorem tS.rf {f : Nat → Nat → Int32} : tS f f := ⟨fun _ _ _ => rfl, fun _ _ _ => rfl⟩
theorem tS.trans {f f2 f3 : Nat → Nat → Int32} (h : tS f f2) (h2 : tS f2 f3) : tS f f3 := ⟨fun b g1 g2 => (h2.1 b g1 g2).trans (h.1 b g1 g2), fun i h3 h4 => (h2.2 i h3 h4).trans (h.2 i h3 h4)⟩
theorem tpO.same {f f2 : Nat → Nat → Int32} {T : Nat → Nat} {n a b : Nat} (h : tpO f T n a) (h2 : tS f f2) (h3 : f2 46 3 = nI b) : tpO f2 T n b := ⟨(h2.2 2 (by decide) (by decide)).trans h.1, h.2.1, fun j hj => by rw [h2.1 47 (by decide) (by decide)]; exact h.2.2.1 j hj, h3⟩
theorem tS.at (f : Nat → Nat → Int32) (v : Int32) : tS f (u2 f 46 3 v) := ⟨fun b h1 _ => u2_ne _ _ _ h1, fun i h3 _ => u2_off _ _ _ h3⟩
theorem wrO.at {f : Nat → Nat → Int32} {W : List Int32} (h : wrO f W) (v : Int32) : wrO (u2 f 46 3 v) W := ⟨by rw [u2_off _ _ _ (by decide)]; exact h.1, h.2.1, fun j q hj => by rw [u2_ne _ _ _ (by decide)]; exact h.2.2 j q hj⟩
theorem nI_lt_iff {a b : Nat} (ha : a < 2 ^ 31) (hb : b < 2 ^ 31) : nI a < nI b ↔ a < b := nI_ltI ha hb
theorem k_write7 (d : Nat) (sw : Bool) (f : Nat → Nat → Int32) (g : Nat → Nat → Int64) (W : List Int32) (x : Int32) (h : wrO f W) : CT d 0 0 iX7_write [.ref 46, .int x] (S sw f g) (QS (fun r sw2 f2 g2 => r = none ∧ sw2 = sw ∧ g2 = g ∧ tS f f2 ∧ f2 46 3 = f 46 3 ∧ ∃ W2, wrO f2 W2 ∧ (W.length < 256 → W2 = W ++ [x]))) := by
  obtain ⟨h1, h2, h3⟩ := h
  refine CT.of rfl (Nat.le_of_ble_eq_true rfl) (fun X hX hR hN _ => ?_)
  have hX : Good X RX7 cX7_write d 0 0 := hX
  have hN : x_nl X = 2 := hN
  show WP X 0 0 0 [_, _] [] _
  refine wp_aload_n hX (dk DX7_write 0 rfl) rfl ?_
  refine w_geti hX flX7_25 (dk DX7_write 1 rfl) (by decide) rfl ?_
  refine wp_sipush (v := 256) hX (dk DX7_write 2 rfl) (by decide) ?_
  rw [h1]
  refine wp_icmp_ge (tgt := 30) hX (dk DX7_write 3 rfl) (by decide) (fun h => ?_) (fun h => ?_)
  · exact wp_return hX hR (dk DX7_write 16 rfl) (Nat.le_refl _) (Nat.le_refl _) (⟨_, _, _, rfl, rfl, rfl, rfl, tS.rf, rfl, W, ⟨h1, h2, h3⟩, fun q => absurd h (nI_ge (b := 256) q (by omega))⟩)
  · have hl : W.length < 256 := by
      by_cases c : W.length < 256
      · exact c
      · exact absurd (nI_le (a := 256) (by omega) (by omega)) h
    refine wp_aload_n hX (dk DX7_write 4 rfl) rfl ?_
    refine w_getr hX flX7_15 (dk DX7_write 5 rfl) rfl rfl ?_
    refine wp_aload_n hX (dk DX7_write 6 rfl) rfl ?_
    refine w_geti hX flX7_25 (dk DX7_write 7 rfl) (by decide) rfl ?_
    rw [h1]
    refine wp_iload_n hX (dk DX7_write 8 rfl) rfl ?_
    refine w_iast (j := _) hX (dk DX7_write 9 rfl) rfl rfl (show _ < 256 by omega) ?_
    refine wp_aload_n hX (dk DX7_write 10 rfl) rfl ?_
    refine wp_dup hX (dk DX7_write 11 rfl) rfl ?_
    refine w_geti hX flX7_25 (dk DX7_write 12 rfl) (by decide) rfl ?_
    rw [show u2 f 48 W.length x 46 4 = nI W.length from h1]
    refine wp_iconst (v := 1) hX (dk DX7_write 13 rfl) (by decide) ?_
    refine wp_iadd hX (dk DX7_write 14 rfl) ?_
    rw [nI_1]
    refine w_puti hX fpX7_25 (dk DX7_write 15 rfl) rfl ?_
    refine wp_return hX hR (dk DX7_write 16 rfl) (Nat.le_refl _) (Nat.le_refl _) ⟨sw, _, g, rfl, rfl, rfl, rfl, ⟨fun b g1 g2 => by rw [u2_ne _ _ _ g1, u2_ne _ _ _ g2], fun i h3 h4 => by rw [u2_off _ _ _ h4, u2_ne _ _ _ (by decide)]⟩, by rw [u2_off _ _ _ (by decide), u2_ne _ _ _ (by decide)], W ++ [x], ⟨?_, ?_, ?_⟩, fun _ => rfl⟩
    · rw [u2_at]; simp
    · simp; omega
    · intro j q hj
      rw [u2_ne _ _ _ (by decide)]
      by_cases c : j < W.length
      · rw [List.getElem?_append_left c] at hj
        rw [u2_off _ _ _ (by omega)]
        exact h3 j q hj
      · rw [List.getElem?_append_right (by omega)] at hj
        have : j - W.length = 0 := by
          have := (List.getElem?_eq_some_iff.mp hj).1
          simp at this
          omega
        rw [this] at hj
        cases hj
        rw [show j = W.length by omega, u2_at]
theorem k_isDigit (d : Nat) (sw : Bool) (f : Nat → Nat → Int32) (g : Nat → Nat → Int64) (T : Nat → Nat) (n a : Nat) (h : tpO f T n a) (ha : a ≤ n) : CT d 0 0 iX7_isDigit [.ref 46] (S sw f g) (QR (some (.int (if isDg (pC T n a) then 1 else 0))) (S sw f g)) := by
  obtain ⟨h1, h2, h3, h4⟩ := h
  refine CT.of rfl (Nat.le_of_ble_eq_true rfl) (fun X hX hR hN _ => ?_)
  have hX : Good X RX7 cX7_isDigit d 0 0 := hX
  have hN : x_nl X = 1 := hN
  show WP X 0 0 0 [_] [] _
  refine wp_aload_n hX (dk DX7_isDigit 0 rfl) rfl ?_
  refine w_geti hX flX7_22 (dk DX7_isDigit 1 rfl) (by decide) rfl ?_
  refine wp_aload_n hX (dk DX7_isDigit 2 rfl) rfl ?_
  refine w_geti hX flX7_18 (dk DX7_isDigit 3 rfl) (by decide) rfl ?_
  rw [h1, h4]
  by_cases c : a < n
  · obtain ⟨e1, e2⟩ := h3 a c
    have e3 : pC T n a = T a := by unfold pC; rw [if_pos c]
    refine wp_icmp_ge (tgt := 43) hX (dk DX7_isDigit 4 rfl) (by decide) (fun h_ => absurd h_ (nI_ge c (by omega))) (fun _ => ?_)
    refine wp_aload_n hX (dk DX7_isDigit 5 rfl) rfl ?_
    refine w_getr hX flX7_11 (dk DX7_isDigit 6 rfl) rfl rfl ?_
    refine wp_aload_n hX (dk DX7_isDigit 7 rfl) rfl ?_
    refine w_geti hX flX7_22 (dk DX7_isDigit 8 rfl) (by decide) rfl ?_
    rw [h4]
    refine w_iald (j := _) hX (dk DX7_isDigit 9 rfl) rfl rfl (show _ < 120 by omega) ?_
    rw [e1]
    refine wp_bipush (v := 48) hX (dk DX7_isDigit 10 rfl) (by decide) ?_
    refine wp_icmp_lt (tgt := 43) hX (dk DX7_isDigit 11 rfl) (by decide) (fun h22 => ?_) (fun h22 => ?_)
    · refine wp_iconst (v := 0) hX (dk DX7_isDigit 21 rfl) (by decide) ?_
      exact wp_ireturn hX hR (dk DX7_isDigit 22 rfl) rfl (Nat.le_refl _) (Nat.le_refl _) (⟨by rw [e3]; have q1 := nI_ltI (a := T a) (b := 48) (by omega) (by omega); have q2 := nI_ltI (a := 57) (b := T a) (by omega) (by omega); simp only [show (48 : Int32) = nI 48 from rfl, show (57 : Int32) = nI 57 from rfl, q1, q2] at h22; unfold isDg; simp; omega, rfl⟩)
    · refine wp_aload_n hX (dk DX7_isDigit 12 rfl) rfl ?_
      refine w_getr hX flX7_11 (dk DX7_isDigit 13 rfl) rfl rfl ?_
      refine wp_aload_n hX (dk DX7_isDigit 14 rfl) rfl ?_
      refine w_geti hX flX7_22 (dk DX7_isDigit 15 rfl) (by decide) rfl ?_
      rw [h4]
      refine w_iald (j := _) hX (dk DX7_isDigit 16 rfl) rfl rfl (show _ < 120 by omega) ?_
      rw [e1]
      refine wp_bipush (v := 57) hX (dk DX7_isDigit 17 rfl) (by decide) ?_
      refine wp_icmp_gt (tgt := 43) hX (dk DX7_isDigit 18 rfl) (by decide) (fun h36 => ?_) (fun h36 => ?_)
      · refine wp_iconst (v := 0) hX (dk DX7_isDigit 21 rfl) (by decide) ?_
        exact wp_ireturn hX hR (dk DX7_isDigit 22 rfl) rfl (Nat.le_refl _) (Nat.le_refl _) (⟨by rw [e3]; have q1 := nI_ltI (a := T a) (b := 48) (by omega) (by omega); have q2 := nI_ltI (a := 57) (b := T a) (by omega) (by omega); simp only [show (48 : Int32) = nI 48 from rfl, show (57 : Int32) = nI 57 from rfl, q1, q2] at h22 h36; unfold isDg; simp; omega, rfl⟩)
      · refine wp_iconst (v := 1) hX (dk DX7_isDigit 19 rfl) (by decide) ?_
        refine wp_goto (tgt := 44) hX (dk DX7_isDigit 20 rfl) (by decide) ?_
        exact wp_ireturn hX hR (dk DX7_isDigit 22 rfl) rfl (Nat.le_refl _) (Nat.le_refl _) (⟨by rw [e3]; have q1 := nI_ltI (a := T a) (b := 48) (by omega) (by omega); have q2 := nI_ltI (a := 57) (b := T a) (by omega) (by omega); simp only [show (48 : Int32) = nI 48 from rfl, show (57 : Int32) = nI 57 from rfl, q1, q2] at h22 h36; unfold isDg; simp; omega, rfl⟩)
  · have e3 : pC T n a = 999 := pC_end T n a (by omega)
    refine wp_icmp_ge (tgt := 43) hX (dk DX7_isDigit 4 rfl) (by decide) (fun _ => ?_) (fun h_ => absurd (nI_le (by omega) (by omega)) h_)
    refine wp_iconst (v := 0) hX (dk DX7_isDigit 21 rfl) (by decide) ?_
    exact wp_ireturn hX hR (dk DX7_isDigit 22 rfl) rfl (Nat.le_refl _) (Nat.le_refl _) (⟨by rw [e3]; rfl, rfl⟩)
theorem k_acc1 (d : Nat) (sw : Bool) (f : Nat → Nat → Int32) (g : Nat → Nat → Int64) (T : Nat → Nat) (n a v : Nat) (h : tpO f T n a) (ha : a ≤ n) (hv : v < 256) (hc : pC T n a = v) : CT d 0 0 iX7_accepts [.ref 46, .int (nI v)] (S sw f g) (QR (some (.int 1)) (S sw (u2 f 46 3 (nI (a + 1))) g)) := by
  obtain ⟨h1, h2, h3, h4⟩ := h
  have c : a < n := by
    by_cases c : a < n
    · exact c
    · rw [pC_end T n a (by omega)] at hc; omega
  obtain ⟨e1, e2⟩ := h3 a c
  have e3 : pC T n a = T a := by unfold pC; rw [if_pos c]
  refine CT.of rfl (Nat.le_of_ble_eq_true rfl) (fun X hX hR hN _ => ?_)
  have hX : Good X RX7 cX7_accepts d 0 0 := hX
  have hN : x_nl X = 2 := hN
  show WP X 0 0 0 [_, _] [] _
  refine wp_aload_n hX (dk DX7_accepts 0 rfl) rfl ?_
  refine w_geti hX flX7_22 (dk DX7_accepts 1 rfl) (by decide) rfl ?_
  refine wp_aload_n hX (dk DX7_accepts 2 rfl) rfl ?_
  refine w_geti hX flX7_18 (dk DX7_accepts 3 rfl) (by decide) rfl ?_
  rw [h1, h4]
  refine wp_icmp_ge (tgt := 24) hX (dk DX7_accepts 4 rfl) (by decide) (fun h_ => absurd h_ (nI_ge c (by omega))) (fun _ => ?_)
  refine wp_aload_n hX (dk DX7_accepts 5 rfl) rfl ?_
  refine w_getr hX flX7_11 (dk DX7_accepts 6 rfl) rfl rfl ?_
  refine wp_aload_n hX (dk DX7_accepts 7 rfl) rfl ?_
  refine w_geti hX flX7_22 (dk DX7_accepts 8 rfl) (by decide) rfl ?_
  rw [h4]
  refine w_iald (j := _) hX (dk DX7_accepts 9 rfl) rfl rfl (show _ < 120 by omega) ?_
  rw [e1]
  refine wp_iload_n hX (dk DX7_accepts 10 rfl) rfl ?_
  refine wp_icmp_eq (tgt := 26) hX (dk DX7_accepts 11 rfl) (by decide) (fun _ => ?_) (fun h_ => absurd (by rw [← hc, e3]) h_)
  refine wp_aload_n hX (dk DX7_accepts 14 rfl) rfl ?_
  refine wp_dup hX (dk DX7_accepts 15 rfl) rfl ?_
  refine w_geti hX flX7_22 (dk DX7_accepts 16 rfl) (by decide) rfl ?_
  rw [h4]
  refine wp_iconst (v := 1) hX (dk DX7_accepts 17 rfl) (by decide) ?_
  refine wp_iadd hX (dk DX7_accepts 18 rfl) ?_
  rw [nI_1]
  refine w_puti hX fpX7_22 (dk DX7_accepts 19 rfl) rfl ?_
  refine wp_iconst (v := 1) hX (dk DX7_accepts 20 rfl) (by decide) ?_
  exact wp_ireturn hX hR (dk DX7_accepts 21 rfl) rfl (Nat.le_refl _) (Nat.le_refl _) (⟨rfl, rfl⟩)
theorem k_acc0 (d : Nat) (sw : Bool) (f : Nat → Nat → Int32) (g : Nat → Nat → Int64) (T : Nat → Nat) (n a v : Nat) (h : tpO f T n a) (ha : a ≤ n) (hv : v < 256) (hc : ¬ pC T n a = v) : CT d 0 0 iX7_accepts [.ref 46, .int (nI v)] (S sw f g) (QR (some (.int 0)) (S sw f g)) := by
  obtain ⟨h1, h2, h3, h4⟩ := h
  refine CT.of rfl (Nat.le_of_ble_eq_true rfl) (fun X hX hR hN _ => ?_)
  have hX : Good X RX7 cX7_accepts d 0 0 := hX
  have hN : x_nl X = 2 := hN
  show WP X 0 0 0 [_, _] [] _
  refine wp_aload_n hX (dk DX7_accepts 0 rfl) rfl ?_
  refine w_geti hX flX7_22 (dk DX7_accepts 1 rfl) (by decide) rfl ?_
  refine wp_aload_n hX (dk DX7_accepts 2 rfl) rfl ?_
  refine w_geti hX flX7_18 (dk DX7_accepts 3 rfl) (by decide) rfl ?_
  rw [h1, h4]
  by_cases c : a < n
  · obtain ⟨e1, e2⟩ := h3 a c
    have e3 : pC T n a = T a := by unfold pC; rw [if_pos c]
    refine wp_icmp_ge (tgt := 24) hX (dk DX7_accepts 4 rfl) (by decide) (fun h_ => absurd h_ (nI_ge c (by omega))) (fun _ => ?_)
    refine wp_aload_n hX (dk DX7_accepts 5 rfl) rfl ?_
    refine w_getr hX flX7_11 (dk DX7_accepts 6 rfl) rfl rfl ?_
    refine wp_aload_n hX (dk DX7_accepts 7 rfl) rfl ?_
    refine w_geti hX flX7_22 (dk DX7_accepts 8 rfl) (by decide) rfl ?_
    rw [h4]
    refine w_iald (j := _) hX (dk DX7_accepts 9 rfl) rfl rfl (show _ < 120 by omega) ?_
    rw [e1]
    refine wp_iload_n hX (dk DX7_accepts 10 rfl) rfl ?_
    refine wp_icmp_eq (tgt := 26) hX (dk DX7_accepts 11 rfl) (by decide) (fun h_ => absurd h_ (fun q => hc (by rw [e3]; exact (nI_eq (by omega) (by omega)).mp q))) (fun _ => ?_)
    refine wp_iconst (v := 0) hX (dk DX7_accepts 12 rfl) (by decide) ?_
    exact wp_ireturn hX hR (dk DX7_accepts 13 rfl) rfl (Nat.le_refl _) (Nat.le_refl _) (⟨rfl, rfl⟩)
  · refine wp_icmp_ge (tgt := 24) hX (dk DX7_accepts 4 rfl) (by decide) (fun _ => ?_) (fun h_ => absurd (nI_le (by omega) (by omega)) h_)
    refine wp_iconst (v := 0) hX (dk DX7_accepts 12 rfl) (by decide) ?_
    exact wp_ireturn hX hR (dk DX7_accepts 13 rfl) rfl (Nat.le_refl _) (Nat.le_refl _) (⟨rfl, rfl⟩)
theorem i2c_nI {v : Nat} (h : v < 256) : ((nI v).toUInt32 % 65536).toInt32 = nI v := by
  rw [pk_char, pk_tn (by omega)]
  congr 1
  omega
theorem k_isAhead (d : Nat) (sw : Bool) (f : Nat → Nat → Int32) (g : Nat → Nat → Int64) (T : Nat → Nat) (n a i : Nat) (h : tpO f T n a) (ha : a ≤ n) (hi : i < 6) : CT (d + 4) 0 0 iX7_isAhead [.ref 46, .ref (1010 + i)] (S sw f g) (QR (some (.int (if a < n ∧ 0 ≤ jix i (T a) then 1 else 0))) (S sw f g)) := by
  obtain ⟨h1, h2, h3, h4⟩ := h
  refine CT.of rfl (Nat.le_of_ble_eq_true rfl) (fun X hX hR hN _ => ?_)
  have hX : Good X RX7 cX7_isAhead (d + 4) 0 0 := hX
  have hN : x_nl X = 2 := hN
  show WP X 0 0 0 [_, _] [] _
  refine wp_aload_n hX (dk DX7_isAhead 0 rfl) rfl ?_
  refine w_geti hX flX7_22 (dk DX7_isAhead 1 rfl) (by decide) rfl ?_
  refine wp_aload_n hX (dk DX7_isAhead 2 rfl) rfl ?_
  refine w_geti hX flX7_18 (dk DX7_isAhead 3 rfl) (by decide) rfl ?_
  rw [h1, h4]
  by_cases c : a < n
  · obtain ⟨e1, e2⟩ := h3 a c
    refine wp_icmp_ge (tgt := 32) hX (dk DX7_isAhead 4 rfl) (by decide) (fun h_ => absurd h_ (nI_ge c (by omega))) (fun _ => ?_)
    refine wp_aload_n hX (dk DX7_isAhead 5 rfl) rfl ?_
    refine wp_aload_n hX (dk DX7_isAhead 6 rfl) rfl ?_
    refine w_getr hX flX7_11 (dk DX7_isAhead 7 rfl) rfl rfl ?_
    refine wp_aload_n hX (dk DX7_isAhead 8 rfl) rfl ?_
    refine w_geti hX flX7_22 (dk DX7_isAhead 9 rfl) (by decide) rfl ?_
    rw [h4]
    refine w_iald (j := _) hX (dk DX7_isAhead 10 rfl) rfl rfl (show _ < 120 by omega) ?_
    rw [e1]
    refine wp_i2c hX (dk DX7_isAhead 11 rfl) ?_
    rw [i2c_nI e2]
    refine w_callT (As := [_]) lkX7_70 hX hi (dk DX7_isAhead 12 rfl) rfl (by decide) (k_indexOf d sw f g i (T a) hi e2) ?_
    show WP _ _ _ 25 [_, _] [_] _
    refine wp_if_lt (tgt := 32) hX (dk DX7_isAhead 13 rfl) (by decide) (fun h25 => ?_) (fun h25 => ?_)
    · refine wp_iconst (v := 0) hX (dk DX7_isAhead 16 rfl) (by decide) ?_
      exact wp_ireturn hX hR (dk DX7_isAhead 17 rfl) rfl (Nat.le_refl _) (Nat.le_refl _) (⟨by simp [c, Int32.not_lt, ← Int32.not_lt, h25], rfl⟩)
    · refine wp_iconst (v := 1) hX (dk DX7_isAhead 14 rfl) (by decide) ?_
      refine wp_goto (tgt := 33) hX (dk DX7_isAhead 15 rfl) (by decide) ?_
      exact wp_ireturn hX hR (dk DX7_isAhead 17 rfl) rfl (Nat.le_refl _) (Nat.le_refl _) (⟨by simp [c, Int32.not_lt, ← Int32.not_lt, h25], rfl⟩)
  · refine wp_icmp_ge (tgt := 32) hX (dk DX7_isAhead 4 rfl) (by decide) (fun _ => ?_) (fun h_ => absurd (nI_le (by omega) (by omega)) h_)
    refine wp_iconst (v := 0) hX (dk DX7_isAhead 16 rfl) (by decide) ?_
    exact wp_ireturn hX hR (dk DX7_isAhead 17 rfl) rfl (Nat.le_refl _) (Nat.le_refl _) (⟨by rw [if_neg (fun q => c q.1)], rfl⟩)
