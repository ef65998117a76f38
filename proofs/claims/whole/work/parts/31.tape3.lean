/-! TAPE: numbers, operands, levels -/
theorem jix_nm : ∀ v, v < 256 → ((0 ≤ jix 0 v ↔ pNm v < 6) ∧ (pNm v < 6 → jix 0 v = nI (pNm v))) := by decide +kernel
theorem jix_op : ∀ l, l < 5 → ∀ v, v < 256 → ((0 ≤ jix (l + 1) v ↔ ¬ pOp l v = 0) ∧ (¬ pOp l v = 0 → -nI v = jtw (pOp l v))) := by decide +kernel
theorem pNm_999 : ¬ pNm 999 < 6 := by decide
theorem pOp_999 (l : Nat) : pOp l 999 = 0 := by unfold pOp; simp
theorem k_signsOf (d : Nat) (sw : Bool) (f : Nat → Nat → Int32) (g : Nat → Nat → Int64) (l : Nat) (hl : l < 5) : CT d 0 0 iX7_signsOf [.int (nI l)] (S sw f g) (QR (some (.ref (1010 + (l + 1)))) (S sw f g)) := by
  refine CT.of rfl (Nat.le_of_ble_eq_true rfl) (fun X hX hR hN _ => ?_)
  have hX : Good X RX7 cX7_signsOf d 0 0 := hX
  have hN : x_nl X = 1 := hN
  show WP X 0 0 0 [_] [] _
  have hk : l = 0 ∨ l = 1 ∨ l = 2 ∨ l = 3 ∨ l = 4 := by omega
  refine wp_iload_n hX (dk DX7_signsOf 0 rfl) rfl ?_
  rcases hk with rfl | rfl | rfl | rfl | rfl
  · refine wp_tabAt (c := 0) (off := 31) (tgt := 32) hX (dk DX7_signsOf 1 rfl) (rfl) (by decide) (by decide) (by decide) (by decide) ?_
    refine wp_ldcS (i := 1) hX rfl rfl (dk DX7_signsOf 2 rfl) ?_
    exact wp_areturn hX hR (dk DX7_signsOf 3 rfl) (Or.inl ⟨_, rfl⟩) (Nat.le_refl _) (Nat.le_refl _) (⟨rfl, rfl⟩)
  · refine wp_tabAt (c := 1) (off := 34) (tgt := 35) hX (dk DX7_signsOf 1 rfl) (rfl) (by decide) (by decide) (by decide) (by decide) ?_
    refine wp_ldcS (i := 2) hX rfl rfl (dk DX7_signsOf 4 rfl) ?_
    exact wp_areturn hX hR (dk DX7_signsOf 5 rfl) (Or.inl ⟨_, rfl⟩) (Nat.le_refl _) (Nat.le_refl _) (⟨rfl, rfl⟩)
  · refine wp_tabAt (c := 2) (off := 37) (tgt := 38) hX (dk DX7_signsOf 1 rfl) (rfl) (by decide) (by decide) (by decide) (by decide) ?_
    refine wp_ldcS (i := 3) hX rfl rfl (dk DX7_signsOf 6 rfl) ?_
    exact wp_areturn hX hR (dk DX7_signsOf 7 rfl) (Or.inl ⟨_, rfl⟩) (Nat.le_refl _) (Nat.le_refl _) (⟨rfl, rfl⟩)
  · refine wp_tabAt (c := 3) (off := 40) (tgt := 41) hX (dk DX7_signsOf 1 rfl) (rfl) (by decide) (by decide) (by decide) (by decide) ?_
    refine wp_ldcS (i := 4) hX rfl rfl (dk DX7_signsOf 8 rfl) ?_
    exact wp_areturn hX hR (dk DX7_signsOf 9 rfl) (Or.inl ⟨_, rfl⟩) (Nat.le_refl _) (Nat.le_refl _) (⟨rfl, rfl⟩)
  · refine wp_tabOut (tgt := 44) hX (dk DX7_signsOf 1 rfl) (by decide) (by decide) ?_
    refine wp_ldcS (i := 5) hX rfl rfl (dk DX7_signsOf 10 rfl) ?_
    exact wp_areturn hX hR (dk DX7_signsOf 11 rfl) (Or.inl ⟨_, rfl⟩) (Nat.le_refl _) (Nat.le_refl _) (⟨rfl, rfl⟩)
theorem k_readNumber (d : Nat) (sw : Bool) (f : Nat → Nat → Int32) (g : Nat → Nat → Int64) (T : Nat → Nat) (n a : Nat) (W : List Int32) (h : tpO f T n a) (ha : a ≤ n) (hw : wrO f W) : CT (d + 1) 0 0 iX7_readNumber [.ref 46] (S sw f g) (QS (fun r sw2 f2 g2 => r = none ∧ sw2 = sw ∧ g2 = g ∧ tS f f2 ∧ f2 46 3 = nI (pNu (pC T n) 4 a 0).2 ∧ ∃ W2, wrO f2 W2 ∧ (W.length < 256 → W2 = W ++ [nI (pNu (pC T n) 4 a 0).1]))) := by
  obtain ⟨R0, hR0⟩ : ∃ R0, R0 = pNu (pC T n) 4 a 0 := ⟨_, rfl⟩
  rw [← hR0]
  refine CT.of rfl (Nat.le_of_ble_eq_true rfl) (fun X hX hR hN _ => ?_)
  have hX : Good X RX7 cX7_readNumber (d + 1) 0 0 := hX
  have hN : x_nl X = 3 := hN
  show WP X 0 0 0 [_, _, _] [] _
  refine wp_iconst (v := 0) hX (dk DX7_readNumber 0 rfl) (by decide) ?_
  refine wp_istore_n hX (dk DX7_readNumber 1 rfl) rfl rfl hN (Nat.le_of_ble_eq_true rfl) ?_
  show WP _ _ _ 2 [_, _, _] [] _
  refine wp_iconst (v := 0) hX (dk DX7_readNumber 2 rfl) (by decide) ?_
  refine wp_istore_n hX (dk DX7_readNumber 3 rfl) rfl rfl hN (Nat.le_of_ble_eq_true rfl) ?_
  show WP _ _ _ 4 [_, _, _] [] _
  have out : ∀ (b v : Nat) (f2 : Nat → Nat → Int32) (z : Option Value), R0 = (v, b) → tpO f2 T n b → tS f f2 → wrO f2 W → WP X 0 0 50 [some (.ref 46), some (.int (nI v)), z] [] (S sw f2 g) := by
    intro b v f2 z e h2 hs hw2
    refine wp_aload_n hX (dk DX7_readNumber 30 rfl) rfl ?_
    refine wp_iload_n hX (dk DX7_readNumber 31 rfl) rfl ?_
    refine w_callVQ (As := [_]) lkX7_46 hX (dk DX7_readNumber 32 rfl) rfl rfl (by decide) hN (k_write7 d sw f2 g W _ hw2) (fun v_ sw_ f_ g_ hq_ => ?_)
    obtain ⟨rfl, rfl, rfl, e1, e2, W2, e3, e4⟩ := hq_
    show WP _ _ _ 55 [_, _, _] [] _
    exact wp_return hX hR (dk DX7_readNumber 33 rfl) (Nat.le_refl _) (Nat.le_refl _) (⟨_, _, _, rfl, rfl, rfl, rfl, hs.trans e1, by rw [e2, e]; exact h2.2.2.2, W2, e3, by rw [e]; exact e4⟩)
  have lo : ∀ (k j b v : Nat) (f2 : Nat → Nat → Int32), j + k = 4 → R0 = pNu (pC T n) k b v → b ≤ n → tpO f2 T n b → tS f f2 → wrO f2 W → WP X 0 0 4 [some (.ref 46), some (.int (nI v)), some (.int (nI j))] [] (S sw f2 g) := by
    intro k
    induction k with
    | zero =>
      intro j b v f2 hj e hb h2 hs hw2
      obtain rfl : j = 4 := by omega
      refine wp_iload_n hX (dk DX7_readNumber 4 rfl) rfl ?_
      refine wp_iconst (v := 4) hX (dk DX7_readNumber 5 rfl) (by decide) ?_
      refine wp_icmp_ge (tgt := 50) hX (dk DX7_readNumber 6 rfl) (by decide) (fun _ => ?_) (fun h_ => absurd ((by decide)) h_)
      exact out b v f2 _ e h2 hs hw2
    | succ k ih =>
      intro j b v f2 hj e hb h2 hs hw2
      rw [pNu] at e
      refine wp_iload_n hX (dk DX7_readNumber 4 rfl) rfl ?_
      refine wp_iconst (v := 4) hX (dk DX7_readNumber 5 rfl) (by decide) ?_
      refine wp_icmp_ge (tgt := 50) hX (dk DX7_readNumber 6 rfl) (by decide) (fun h_ => absurd h_ ((nI_ge (b := 4) (by omega) (by omega)))) (fun _ => ?_)
      refine wp_aload_n hX (dk DX7_readNumber 7 rfl) rfl ?_
      refine w_callV (As := []) lkX7_62 hX (dk DX7_readNumber 8 rfl) rfl rfl (by decide) hN (k_isDigit d sw f2 g T n b h2 hb) ?_
      show WP _ _ _ 13 [_, _, _] [_] _
      by_cases c : isDg (pC T n b) = true
      · rw [if_pos c] at e ⊢
        have hd := of_decide_eq_true c
        have hbn : b < n := by
          by_cases q : b < n
          · exact q
          · rw [pC_end T n b (by omega)] at hd; omega
        have hT : pC T n b = T b := by unfold pC; rw [if_pos hbn]
        rw [hT] at hd e
        refine wp_if_eq (tgt := 50) hX (dk DX7_readNumber 9 rfl) (by decide) (fun h_ => absurd h_ ((by decide))) (fun _ => ?_)
        refine wp_bipush (v := 10) hX (dk DX7_readNumber 10 rfl) (by decide) ?_
        refine wp_iload_n hX (dk DX7_readNumber 11 rfl) rfl ?_
        refine wp_imul hX (dk DX7_readNumber 12 rfl) ?_
        refine wp_aload_n hX (dk DX7_readNumber 13 rfl) rfl ?_
        refine w_getr hX flX7_11 (dk DX7_readNumber 14 rfl) rfl rfl ?_
        refine wp_aload_n hX (dk DX7_readNumber 15 rfl) rfl ?_
        refine w_geti hX flX7_22 (dk DX7_readNumber 16 rfl) (by decide) rfl ?_
        rw [h2.2.2.2]
        refine w_iald (j := _) hX (dk DX7_readNumber 17 rfl) rfl rfl (show _ < 120 by have := h2.2.1; omega) ?_
        refine wp_iadd hX (dk DX7_readNumber 18 rfl) ?_
        refine wp_bipush (v := 48) hX (dk DX7_readNumber 19 rfl) (by decide) ?_
        refine wp_isub hX (dk DX7_readNumber 20 rfl) ?_
        rw [(h2.2.2.1 b hbn).1, show (10 : Int32) * nI v + nI (T b) - 48 = nI (10 * v + (T b - 48)) by rw [show (10 : Int32) = nI 10 from rfl, show (48 : Int32) = nI 48 from rfl, pk_mul, nI_add, pk_sub (by omega)]; congr 1; omega]
        refine wp_istore_n hX (dk DX7_readNumber 21 rfl) rfl rfl hN (Nat.le_of_ble_eq_true rfl) ?_
        show WP _ _ _ 34 [_, _, _] [] _
        refine wp_aload_n hX (dk DX7_readNumber 22 rfl) rfl ?_
        refine wp_dup hX (dk DX7_readNumber 23 rfl) rfl ?_
        refine w_geti hX flX7_22 (dk DX7_readNumber 24 rfl) (by decide) rfl ?_
        rw [h2.2.2.2]
        refine wp_iconst (v := 1) hX (dk DX7_readNumber 25 rfl) (by decide) ?_
        refine wp_iadd hX (dk DX7_readNumber 26 rfl) ?_
        rw [nI_1]
        refine w_puti hX fpX7_22 (dk DX7_readNumber 27 rfl) rfl ?_
        refine wp_iinc hX (dk DX7_readNumber 28 rfl) rfl (nI_inc _) rfl hN ?_
        show WP _ _ _ 47 [_, _, _] [] _
        refine wp_goto (tgt := 4) hX (dk DX7_readNumber 29 rfl) (by decide) ?_
        -- to 4
        exact ih (j + 1) (b + 1) _ _ (by omega) e (by omega) (h2.same (tS.at f2 _) (u2_at _ _ _ _)) (hs.trans (tS.at f2 _)) (hw2.at _)
      · rw [if_neg c] at e ⊢
        refine wp_if_eq (tgt := 50) hX (dk DX7_readNumber 9 rfl) (by decide) (fun _ => ?_) (fun h_ => absurd ((rfl)) h_)
        exact out b v f2 _ e h2 hs hw2
  exact lo 4 0 a 0 f (by omega) hR0 ha h tS.rf hw
/-- what readJoined and readOperand leave -/
def rdQ (sw : Bool) (g : Nat → Nat → Int64) (f : Nat → Nat → Int32) (W : List Int32) (R : pR) : Option Value → mM → Prop := QS (fun r sw2 f2 g2 => r = some (.int (if R.1 then 1 else 0)) ∧ sw2 = sw ∧ g2 = g ∧ tS f f2 ∧ f2 46 3 = nI R.2.1 ∧ ∃ W2, wrO f2 W2 ∧ (R.1 = true → W.length + R.2.2.length ≤ 256 → W2 = W ++ R.2.2.map jtw))
def rk (l o : Nat) : Nat := (6 - o) * 7 + (5 - l) + 1
def rjC (D m : Nat) : Prop := ∀ (sw : Bool) (f : Nat → Nat → Int32) (g : Nat → Nat → Int64) (T : Nat → Nat) (n a l o : Nat) (W : List Int32), tpO f T n a → a ≤ n → wrO f W → l ≤ 5 → o ≤ 6 → rk l o ≤ m → CT D 0 0 iX7_readJoined [.ref 46, .int (nI l), .int (nI o)] (S sw f g) (rdQ sw g f W (pJ (pC T n) m l o a))
def roC (D m : Nat) : Prop := ∀ (sw : Bool) (f : Nat → Nat → Int32) (g : Nat → Nat → Int64) (T : Nat → Nat) (n a o : Nat) (W : List Int32), tpO f T n a → a ≤ n → wrO f W → o ≤ 6 → rk 5 o ≤ m → CT D 0 0 iX7_readOperand [.ref 46, .int (nI o)] (S sw f g) (rdQ sw g f W (pJ (pC T n) m 5 o a))
theorem k_ro (D m : Nat) (hJ : rjC (D + 6) m) (hO : roC (D + 6) m) : roC (D + 7) (m + 1) := by
  intro sw f g T n a o W h ha hw ho hr
  have hrk : ¬ 6 ≤ o → rk 0 (o + 1) ≤ m ∧ rk 5 (o + 1) ≤ m := by unfold rk at hr ⊢; omega
  obtain ⟨c, hc⟩ : ∃ c, c = pC T n := ⟨_, rfl⟩
  rw [pJ, if_neg (by decide), ← hc]
  refine CT.of rfl (Nat.le_of_ble_eq_true rfl) (fun X hX hR hN _ => ?_)
  have hX : Good X RX7 cX7_readOperand (D + 7) 0 0 := hX
  have hN : x_nl X = 3 := hN
  show WP X 0 0 0 [_, _, _] [] _
  refine wp_aload_n hX (dk DX7_readOperand 0 rfl) rfl ?_
  refine w_callV (As := []) lkX7_62 hX (dk DX7_readOperand 1 rfl) rfl rfl (by decide) hN (k_isDigit (D + 6) sw f g T n a h ha) ?_
  show WP _ _ _ 4 [_, _, _] [_] _
  rw [← hc]
  by_cases c1 : isDg (c a) = true
  · rw [if_pos c1] at hR ⊢
    refine wp_if_eq (tgt := 13) hX (dk DX7_readOperand 2 rfl) (by decide) (fun h_ => absurd h_ (by decide)) (fun _ => ?_)
    refine wp_aload_n hX (dk DX7_readOperand 3 rfl) rfl ?_
    refine w_callVQ (As := []) lkX7_65 hX (dk DX7_readOperand 4 rfl) rfl rfl (by decide) hN (k_readNumber (D + 5) sw f g T n a W h ha hw) (fun v_ sw_ f_ g_ hq_ => ?_)
    obtain ⟨rfl, rfl, rfl, e1, e2, W2, e3, e4⟩ := hq_
    show WP _ _ _ 11 [_, _, _] [] _
    refine wp_iconst (v := 1) hX (dk DX7_readOperand 5 rfl) (by decide) ?_
    exact wp_ireturn hX hR (dk DX7_readOperand 6 rfl) rfl (Nat.le_refl _) (Nat.le_refl _) (⟨_, _, _, rfl, rfl, rfl, rfl, e1, by rw [e2, hc], W2, e3, fun _ hl => by rw [e4 (by simp at hl; omega), hc, List.map_singleton, jtw_num (by omega), Nat.add_sub_cancel_left]⟩)
  · rw [if_neg c1] at hR ⊢
    refine wp_if_eq (tgt := 13) hX (dk DX7_readOperand 2 rfl) (by decide) (fun _ => ?_) (fun h_ => absurd ((rfl)) h_)
    refine wp_aload_n hX (dk DX7_readOperand 7 rfl) rfl ?_
    refine wp_ldcS (i := 0) hX rfl rfl (dk DX7_readOperand 8 rfl) ?_
    refine w_callV (As := [_]) lkX7_58 hX (dk DX7_readOperand 9 rfl) rfl rfl (by decide) hN (k_isAhead (D + 2) sw f g T n a 0 h ha (by decide)) ?_
    show WP _ _ _ 19 [_, _, _] [_] _
    by_cases c2 : pNm (c a) < 6
    · rw [if_pos c2] at hR
      have han : a < n := by
        by_cases q : a < n
        · exact q
        · rw [hc, pC_end T n a (by omega)] at c2; exact absurd c2 pNm_999
      have hT : c a = T a := by rw [hc]; unfold pC; rw [if_pos han]
      obtain ⟨e1, e2⟩ := h.2.2.1 a han
      rw [hT] at c2 hR
      rw [if_pos ⟨han, (jix_nm _ e2).1.mpr c2⟩]
      refine wp_if_eq (tgt := 57) hX (dk DX7_readOperand 10 rfl) (by decide) (fun h_ => absurd h_ ((by decide))) (fun _ => ?_)
      refine wp_aload_n hX (dk DX7_readOperand 11 rfl) rfl ?_
      refine wp_sipush (v := -1000) hX (dk DX7_readOperand 12 rfl) (by decide) ?_
      refine wp_ldcS (i := 0) hX rfl rfl (dk DX7_readOperand 13 rfl) ?_
      refine wp_aload_n hX (dk DX7_readOperand 14 rfl) rfl ?_
      refine w_getr hX flX7_11 (dk DX7_readOperand 15 rfl) rfl rfl ?_
      refine wp_aload_n hX (dk DX7_readOperand 16 rfl) rfl ?_
      refine w_geti hX flX7_22 (dk DX7_readOperand 17 rfl) (by decide) rfl ?_
      rw [h.2.2.2]
      refine w_iald (j := _) hX (dk DX7_readOperand 18 rfl) rfl rfl (show _ < 120 by have := h.2.1; omega) ?_
      rw [e1]
      refine wp_i2c hX (dk DX7_readOperand 19 rfl) ?_
      rw [i2c_nI e2]
      refine w_callT (As := [_]) lkX7_70 hX (by decide) (dk DX7_readOperand 20 rfl) rfl (by simp [Value.category]) (k_indexOf (D + 3) sw f g 0 (T a) (by decide) e2) ?_
      show WP _ _ _ 41 [_, _, _] [_, _, _] _
      refine wp_isub hX (dk DX7_readOperand 21 rfl) ?_
      rw [(jix_nm _ e2).2 c2]
      refine w_callVQ (As := [_]) lkX7_46 hX (dk DX7_readOperand 22 rfl) rfl rfl (by decide) hN (k_write7 (D + 6) sw f g W _ hw) (fun v_ sw_ f_ g_ hq_ => ?_)
      obtain ⟨rfl, rfl, rfl, e3, e4, W2, e5, e6⟩ := hq_
      show WP _ _ _ 45 [_, _, _] [] _
      refine wp_aload_n hX (dk DX7_readOperand 23 rfl) rfl ?_
      refine wp_dup hX (dk DX7_readOperand 24 rfl) rfl ?_
      refine w_geti hX flX7_22 (dk DX7_readOperand 25 rfl) (by decide) rfl ?_
      rw [e4, h.2.2.2]
      refine wp_iconst (v := 1) hX (dk DX7_readOperand 26 rfl) (by decide) ?_
      refine wp_iadd hX (dk DX7_readOperand 27 rfl) ?_
      rw [nI_1]
      refine w_puti hX fpX7_22 (dk DX7_readOperand 28 rfl) rfl ?_
      refine wp_iconst (v := 1) hX (dk DX7_readOperand 29 rfl) (by decide) ?_
      exact wp_ireturn hX hR (dk DX7_readOperand 30 rfl) rfl (Nat.le_refl _) (Nat.le_refl _) (⟨_, _, _, rfl, rfl, rfl, rfl, e3.trans (tS.at _ _), u2_at _ _ _ _, W2, e5.at _, fun _ hl => by rw [e6 (by simp at hl; omega)]; unfold jtw; simp [c2, show ¬ 18 ≤ pNm (T a) by omega]⟩)
    · rw [if_neg c2] at hR
      have hno : ¬ (a < n ∧ 0 ≤ jix 0 (T a)) := fun q => by
        have hT : c a = T a := by rw [hc]; unfold pC; rw [if_pos q.1]
        rw [hT] at c2
        exact c2 ((jix_nm _ (h.2.2.1 a q.1).2).1.mp q.2)
      rw [if_neg hno]
      refine wp_if_eq (tgt := 57) hX (dk DX7_readOperand 10 rfl) (by decide) (fun _ => ?_) (fun h_ => absurd ((rfl)) h_)
      refine wp_iload_n hX (dk DX7_readOperand 31 rfl) rfl ?_
      refine wp_bipush (v := 6) hX (dk DX7_readOperand 32 rfl) (by decide) ?_
      by_cases c3 : 6 ≤ o
      · rw [if_pos c3] at hR
        refine wp_icmp_lt (tgt := 65) hX (dk DX7_readOperand 33 rfl) (by decide) (fun h_ => absurd h_ (nI_nlt (b := 6) (by omega) (by omega))) (fun _ => ?_)
        refine wp_iconst (v := 0) hX (dk DX7_readOperand 34 rfl) (by decide) ?_
        exact wp_ireturn hX hR (dk DX7_readOperand 35 rfl) rfl (Nat.le_refl _) (Nat.le_refl _) (⟨_, _, _, rfl, rfl, rfl, rfl, tS.rf, h.2.2.2, W, hw, fun q => Bool.noConfusion q⟩)
      · rw [if_neg c3] at hR
        obtain ⟨rk1, rk2⟩ := hrk c3
        refine wp_icmp_lt (tgt := 65) hX (dk DX7_readOperand 33 rfl) (by decide) (fun _ => ?_) (fun h_ => absurd ((nI_lt (b := 6) (by omega) (by omega))) h_)
        by_cases c4 : c a = 40
        · rw [if_pos c4] at hR
          have a1 : a + 1 ≤ n := by
            by_cases q : a + 1 ≤ n
            · exact q
            · rw [hc, pC_end T n a (by omega)] at c4; omega
          refine wp_aload_n hX (dk DX7_readOperand 36 rfl) rfl ?_
          refine wp_bipush (v := 40) hX (dk DX7_readOperand 37 rfl) (by decide) ?_
          refine w_callV (As := [_]) lkX7_32 hX (dk DX7_readOperand 38 rfl) rfl rfl (by decide) hN (k_acc1 (D + 6) sw f g T n a 40 h ha (by decide) (by rw [← hc]; exact c4)) ?_
          show WP _ _ _ 71 [_, _, _] [_] _
          refine wp_if_eq (tgt := 100) hX (dk DX7_readOperand 39 rfl) (by decide) (fun h_ => absurd h_ ((by decide))) (fun _ => ?_)
          have h2 := h.same (tS.at f (nI (a + 1))) (u2_at _ _ _ _)
          have hG := pJ_ok (c := c) (by rw [hc]; exact pC_end T n) m 0 (o + 1) (a + 1) (by decide) a1
          refine wp_aload_n hX (dk DX7_readOperand 40 rfl) rfl ?_
          refine wp_iconst (v := 0) hX (dk DX7_readOperand 41 rfl) (by decide) ?_
          refine wp_iload_n hX (dk DX7_readOperand 42 rfl) rfl ?_
          refine wp_iconst (v := 1) hX (dk DX7_readOperand 43 rfl) (by decide) ?_
          refine wp_iadd hX (dk DX7_readOperand 44 rfl) ?_
          rw [nI_1]
          refine w_callVQ (As := [_, _]) lkX7_42 hX (dk DX7_readOperand 45 rfl) rfl rfl (by decide) hN (hJ sw _ g T n (a + 1) 0 (o + 1) W h2 a1 (hw.at _) (by decide) (by omega) rk1) (fun v_ sw_ f_ g_ hq_ => ?_)
          obtain ⟨rfl, rfl, rfl, e1, e2, W2, e3, e4⟩ := hq_
          rw [← hc] at e2 e4 ⊢
          show WP _ _ _ 82 [_, _, _] [_] _
          by_cases c5 : (pJ c m 0 (o + 1) (a + 1)).1 = true
          · rw [if_pos c5] at hR ⊢
            refine wp_if_eq (tgt := 98) hX (dk DX7_readOperand 46 rfl) (by decide) (fun h_ => absurd h_ ((by decide))) (fun _ => ?_)
            by_cases c6 : c (pJ c m 0 (o + 1) (a + 1)).2.1 = 41
            · rw [if_pos c6] at hR
              refine wp_aload_n hX (dk DX7_readOperand 47 rfl) rfl ?_
              refine wp_bipush (v := 41) hX (dk DX7_readOperand 48 rfl) (by decide) ?_
              refine w_callV (As := [_]) lkX7_32 hX (dk DX7_readOperand 49 rfl) rfl rfl (by decide) hN (k_acc1 (D + 6) _ f_ _ T n _ 41 (h2.same e1 e2) hG.2.1 (by decide) (by rw [← hc]; exact c6)) ?_
              show WP _ _ _ 91 [_, _, _] [_] _
              refine wp_if_eq (tgt := 98) hX (dk DX7_readOperand 50 rfl) (by decide) (fun h_ => absurd h_ (by decide)) (fun _ => ?_)
              refine wp_iconst (v := 1) hX (dk DX7_readOperand 51 rfl) (by decide) ?_
              refine wp_goto (tgt := 99) hX (dk DX7_readOperand 52 rfl) (by decide) ?_
              exact wp_ireturn hX hR (dk DX7_readOperand 54 rfl) rfl (Nat.le_refl _) (Nat.le_refl _) (⟨_, _, _, rfl, rfl, rfl, rfl, ((tS.at _ _).trans e1).trans (tS.at _ _), u2_at _ _ _ _, W2, e3.at _, fun _ hl => e4 c5 hl⟩)
            · rw [if_neg c6] at hR
              refine wp_aload_n hX (dk DX7_readOperand 47 rfl) rfl ?_
              refine wp_bipush (v := 41) hX (dk DX7_readOperand 48 rfl) (by decide) ?_
              refine w_callV (As := [_]) lkX7_32 hX (dk DX7_readOperand 49 rfl) rfl rfl (by decide) hN (k_acc0 (D + 6) _ f_ _ T n _ 41 (h2.same e1 e2) hG.2.1 (by decide) (by rw [← hc]; exact c6)) ?_
              show WP _ _ _ 91 [_, _, _] [_] _
              refine wp_if_eq (tgt := 98) hX (dk DX7_readOperand 50 rfl) (by decide) (fun _ => ?_) (fun h_ => absurd (rfl) h_)
              refine wp_iconst (v := 0) hX (dk DX7_readOperand 53 rfl) (by decide) ?_
              exact wp_ireturn hX hR (dk DX7_readOperand 54 rfl) rfl (Nat.le_refl _) (Nat.le_refl _) (⟨_, _, _, rfl, rfl, rfl, rfl, (tS.at _ _).trans e1, e2, W2, e3, fun q => Bool.noConfusion q⟩)
          · rw [if_neg c5] at hR ⊢
            refine wp_if_eq (tgt := 98) hX (dk DX7_readOperand 46 rfl) (by decide) (fun _ => ?_) (fun h_ => absurd (rfl) h_)
            refine wp_iconst (v := 0) hX (dk DX7_readOperand 53 rfl) (by decide) ?_
            exact wp_ireturn hX hR (dk DX7_readOperand 54 rfl) rfl (Nat.le_refl _) (Nat.le_refl _) (⟨_, _, _, rfl, rfl, rfl, rfl, (tS.at _ _).trans e1, e2, W2, e3, fun q => Bool.noConfusion q⟩)
        · rw [if_neg c4] at hR
          refine wp_aload_n hX (dk DX7_readOperand 36 rfl) rfl ?_
          refine wp_bipush (v := 40) hX (dk DX7_readOperand 37 rfl) (by decide) ?_
          refine w_callV (As := [_]) lkX7_32 hX (dk DX7_readOperand 38 rfl) rfl rfl (by decide) hN (k_acc0 (D + 6) sw f g T n a 40 h ha (by decide) (by rw [← hc]; exact c4)) ?_
          show WP _ _ _ 71 [_, _, _] [_] _
          refine wp_if_eq (tgt := 100) hX (dk DX7_readOperand 39 rfl) (by decide) (fun _ => ?_) (fun h_ => absurd ((rfl)) h_)
          by_cases c7 : c a = 33
          · rw [if_pos c7] at hR
            have a1 : a + 1 ≤ n := by
              by_cases q : a + 1 ≤ n
              · exact q
              · rw [hc, pC_end T n a (by omega)] at c7; omega
            have h2 := h.same (tS.at f (nI (a + 1))) (u2_at _ _ _ _)
            refine wp_aload_n hX (dk DX7_readOperand 55 rfl) rfl ?_
            refine wp_bipush (v := 33) hX (dk DX7_readOperand 56 rfl) (by decide) ?_
            refine w_callV (As := [_]) lkX7_32 hX (dk DX7_readOperand 57 rfl) rfl rfl (by decide) hN (k_acc1 (D + 6) sw f g T n a 33 h ha (by decide) (by rw [← hc]; exact c7)) ?_
            show WP _ _ _ 106 [_, _, _] [_] _
            refine wp_if_eq (tgt := 125) hX (dk DX7_readOperand 58 rfl) (by decide) (fun h_ => absurd h_ (by decide)) (fun _ => ?_)
            refine wp_aload_n hX (dk DX7_readOperand 59 rfl) rfl ?_
            refine wp_iload_n hX (dk DX7_readOperand_1 0 rfl) rfl ?_
            refine wp_iconst (v := 1) hX (dk DX7_readOperand_1 1 rfl) (by decide) ?_
            refine wp_iadd hX (dk DX7_readOperand_1 2 rfl) ?_
            rw [nI_1]
            refine w_callVQ (As := [_]) lkX7_50 hX (dk DX7_readOperand_1 3 rfl) rfl rfl (by decide) hN (hO sw _ g T n (a + 1) (o + 1) W h2 a1 (hw.at _) (by omega) rk2) (fun v_a sw_a f_a g_a hq_a => ?_)
            obtain ⟨rfl, rfl, rfl, e1, e2, W2, e3, e4⟩ := hq_a
            rw [← hc] at e2 e4 ⊢
            show WP _ _ _ 116 [_, _, _] [_] _
            refine wp_istore_n hX (dk DX7_readOperand_1 4 rfl) rfl rfl hN (Nat.le_of_ble_eq_true rfl) ?_
            show WP _ _ _ 117 [_, _, _] [] _
            refine wp_aload_n hX (dk DX7_readOperand_1 5 rfl) rfl ?_
            refine wp_bipush (v := -4) hX (dk DX7_readOperand_1 6 rfl) (by decide) ?_
            refine w_callVQ (As := [_]) lkX7_46 hX (dk DX7_readOperand_1 7 rfl) rfl rfl (by decide) hN (k_write7 (D + 6) _ f_a _ W2 _ e3) (fun v_b sw_b f_b g_b hq_b => ?_)
            obtain ⟨rfl, rfl, rfl, g1, g2, W3, g3, g4⟩ := hq_b
            show WP _ _ _ 123 [_, _, _] [] _
            refine wp_iload_n hX (dk DX7_readOperand_1 8 rfl) rfl ?_
            exact wp_ireturn hX hR (dk DX7_readOperand_1 9 rfl) (by cases (pJ c m 5 (o + 1) (a + 1)).1 <;> rfl) (Nat.le_refl _) (Nat.le_refl _) (⟨_, _, _, rfl, rfl, rfl, rfl, ((tS.at _ _).trans e1).trans g1, by rw [g2, e2], W3, g3, fun q hl => by simp only [List.length_append, List.length_singleton] at hl; rw [g4 (by rw [e4 q (by omega)]; simp; omega), e4 q (by omega)]; simp [jtw]⟩)
          · rw [if_neg c7] at hR
            refine wp_aload_n hX (dk DX7_readOperand 55 rfl) rfl ?_
            refine wp_bipush (v := 33) hX (dk DX7_readOperand 56 rfl) (by decide) ?_
            refine w_callV (As := [_]) lkX7_32 hX (dk DX7_readOperand 57 rfl) rfl rfl (by decide) hN (k_acc0 (D + 6) sw f g T n a 33 h ha (by decide) (by rw [← hc]; exact c7)) ?_
            show WP _ _ _ 106 [_, _, _] [_] _
            refine wp_if_eq (tgt := 125) hX (dk DX7_readOperand 58 rfl) (by decide) (fun _ => ?_) (fun h_ => absurd ((rfl)) h_)
            by_cases c8 : c a = 45
            · rw [if_pos c8] at hR
              have a1 : a + 1 ≤ n := by
                by_cases q : a + 1 ≤ n
                · exact q
                · rw [hc, pC_end T n a (by omega)] at c8; omega
              have h2 := h.same (tS.at f (nI (a + 1))) (u2_at _ _ _ _)
              refine wp_aload_n hX (dk DX7_readOperand_1 10 rfl) rfl ?_
              refine wp_bipush (v := 45) hX (dk DX7_readOperand_1 11 rfl) (by decide) ?_
              refine w_callV (As := [_]) lkX7_32 hX (dk DX7_readOperand_1 12 rfl) rfl rfl (by decide) hN (k_acc1 (D + 6) sw f g T n a 45 h ha (by decide) (by rw [← hc]; exact c8)) ?_
              show WP _ _ _ 131 [_, _, _] [_] _
              refine wp_if_eq (tgt := 150) hX (dk DX7_readOperand_1 13 rfl) (by decide) (fun h_ => absurd h_ (by decide)) (fun _ => ?_)
              refine wp_aload_n hX (dk DX7_readOperand_1 14 rfl) rfl ?_
              refine wp_iload_n hX (dk DX7_readOperand_1 15 rfl) rfl ?_
              refine wp_iconst (v := 1) hX (dk DX7_readOperand_1 16 rfl) (by decide) ?_
              refine wp_iadd hX (dk DX7_readOperand_1 17 rfl) ?_
              rw [nI_1]
              refine w_callVQ (As := [_]) lkX7_50 hX (dk DX7_readOperand_1 18 rfl) rfl rfl (by decide) hN (hO sw _ g T n (a + 1) (o + 1) W h2 a1 (hw.at _) (by omega) rk2) (fun v_a sw_a f_a g_a hq_a => ?_)
              obtain ⟨rfl, rfl, rfl, e1, e2, W2, e3, e4⟩ := hq_a
              rw [← hc] at e2 e4 ⊢
              show WP _ _ _ 141 [_, _, _] [_] _
              refine wp_istore_n hX (dk DX7_readOperand_1 19 rfl) rfl rfl hN (Nat.le_of_ble_eq_true rfl) ?_
              show WP _ _ _ 142 [_, _, _] [] _
              refine wp_aload_n hX (dk DX7_readOperand_1 20 rfl) rfl ?_
              refine wp_bipush (v := -3) hX (dk DX7_readOperand_1 21 rfl) (by decide) ?_
              refine w_callVQ (As := [_]) lkX7_46 hX (dk DX7_readOperand_1 22 rfl) rfl rfl (by decide) hN (k_write7 (D + 6) _ f_a _ W2 _ e3) (fun v_b sw_b f_b g_b hq_b => ?_)
              obtain ⟨rfl, rfl, rfl, g1, g2, W3, g3, g4⟩ := hq_b
              show WP _ _ _ 148 [_, _, _] [] _
              refine wp_iload_n hX (dk DX7_readOperand_1 23 rfl) rfl ?_
              exact wp_ireturn hX hR (dk DX7_readOperand_1 24 rfl) (by cases (pJ c m 5 (o + 1) (a + 1)).1 <;> rfl) (Nat.le_refl _) (Nat.le_refl _) (⟨_, _, _, rfl, rfl, rfl, rfl, ((tS.at _ _).trans e1).trans g1, by rw [g2, e2], W3, g3, fun q hl => by simp only [List.length_append, List.length_singleton] at hl; rw [g4 (by rw [e4 q (by omega)]; simp; omega), e4 q (by omega)]; simp [jtw]⟩)
            · rw [if_neg c8] at hR
              refine wp_aload_n hX (dk DX7_readOperand_1 10 rfl) rfl ?_
              refine wp_bipush (v := 45) hX (dk DX7_readOperand_1 11 rfl) (by decide) ?_
              refine w_callV (As := [_]) lkX7_32 hX (dk DX7_readOperand_1 12 rfl) rfl rfl (by decide) hN (k_acc0 (D + 6) sw f g T n a 45 h ha (by decide) (by rw [← hc]; exact c8)) ?_
              show WP _ _ _ 131 [_, _, _] [_] _
              refine wp_if_eq (tgt := 150) hX (dk DX7_readOperand_1 13 rfl) (by decide) (fun _ => ?_) (fun h_ => absurd (rfl) h_)
              refine wp_iconst (v := 0) hX (dk DX7_readOperand_1 25 rfl) (by decide) ?_
              exact wp_ireturn hX hR (dk DX7_readOperand_1 26 rfl) rfl (Nat.le_refl _) (Nat.le_refl _) (⟨_, _, _, rfl, rfl, rfl, rfl, tS.rf, h.2.2.2, W, hw, fun q => Bool.noConfusion q⟩)
theorem k_rj5 (D m : Nat) (hO : roC (D + 7) m) (sw : Bool) (f : Nat → Nat → Int32) (g : Nat → Nat → Int64) (T : Nat → Nat) (n a o : Nat) (W : List Int32) (h : tpO f T n a) (ha : a ≤ n) (hw : wrO f W) (ho : o ≤ 6) (hr : rk 5 o ≤ m) : CT (D + 8) 0 0 iX7_readJoined [.ref 46, .int (nI 5), .int (nI o)] (S sw f g) (rdQ sw g f W (pJ (pC T n) m 5 o a)) := by
  refine CT.of rfl (Nat.le_of_ble_eq_true rfl) (fun X hX hR hN _ => ?_)
  have hX : Good X RX7 cX7_readJoined (D + 8) 0 0 := hX
  have hN : x_nl X = 6 := hN
  show WP X 0 0 0 [_, _, _, _, _, _] [] _
  refine wp_iload_n hX (dk DX7_readJoined 0 rfl) rfl ?_
  refine wp_iconst (v := 5) hX (dk DX7_readJoined 1 rfl) (by decide) ?_
  refine wp_icmp_lt (tgt := 11) hX (dk DX7_readJoined 2 rfl) (by decide) (fun h_ => absurd h_ (by decide)) (fun _ => ?_)
  refine wp_aload_n hX (dk DX7_readJoined 3 rfl) rfl ?_
  refine wp_iload_n hX (dk DX7_readJoined 4 rfl) rfl ?_
  refine w_callVQ (As := [_]) lkX7_50 hX (dk DX7_readJoined 5 rfl) rfl rfl (by decide) hN (hO sw f g T n a o W h ha hw ho hr) (fun v_ sw_ f_ g_ hq_ => ?_)
  obtain ⟨rfl, rfl, rfl, e1, e2, e3⟩ := hq_
  show WP _ _ _ 10 [_, _, _, _, _, _] [_] _
  exact wp_ireturn hX hR (dk DX7_readJoined 6 rfl) (by cases (pJ (pC T n) m 5 o a).1 <;> rfl) (Nat.le_refl _) (Nat.le_refl _) (⟨_, _, _, rfl, rfl, rfl, rfl, e1, e2, e3⟩)
theorem k_rjl (D m l : Nat) (hl : l < 5) (hJ : rjC (D + 8) m) (sw : Bool) (f : Nat → Nat → Int32) (g : Nat → Nat → Int64) (T : Nat → Nat) (n a o : Nat) (W : List Int32) (h : tpO f T n a) (ha : a ≤ n) (hw : wrO f W) (ho : o ≤ 6) (hr : rk l o ≤ m + 1) : CT (D + 9) 0 0 iX7_readJoined [.ref 46, .int (nI l), .int (nI o)] (S sw f g) (rdQ sw g f W (pJ (pC T n) (m + 1) l o a)) := by
  have hrk : rk (l + 1) o ≤ m := by unfold rk at hr ⊢; omega
  obtain ⟨c, hc⟩ : ∃ c, c = pC T n := ⟨_, rfl⟩
  have hend : ∀ a, n ≤ a → c a = 999 := by rw [hc]; exact pC_end T n
  rw [pJ, if_pos hl, ← hc]
  obtain ⟨nx, hnx⟩ : ∃ nx, nx = fun b => pJ c m (l + 1) o b := ⟨_, rfl⟩
  have hx : ∀ b, pJ c m (l + 1) o b = nx b := fun b => by rw [hnx]
  have hG : ∀ b, b ≤ n → pG n (pB (l + 1) o) b (nx b) := fun b hb => by rw [hnx]; exact pJ_ok hend m (l + 1) o b (by omega) hb
  rw [hx, show (fun b => pJ c m (l + 1) o b) = nx from hnx.symm]
  refine CT.of rfl (Nat.le_of_ble_eq_true rfl) (fun X hX hR hN _ => ?_)
  have hX : Good X RX7 cX7_readJoined (D + 9) 0 0 := hX
  have hN : x_nl X = 6 := hN
  show WP X 0 0 0 [_, _, _, _, _, _] [] _
  refine wp_iload_n hX (dk DX7_readJoined 0 rfl) rfl ?_
  refine wp_iconst (v := 5) hX (dk DX7_readJoined 1 rfl) (by decide) ?_
  refine wp_icmp_lt (tgt := 11) hX (dk DX7_readJoined 2 rfl) (by decide) (fun _ => ?_) (fun h_ => absurd ((nI_lt (b := 5) (by omega) (by omega))) h_)
  refine wp_aload_n hX (dk DX7_readJoined 7 rfl) rfl ?_
  refine wp_iload_n hX (dk DX7_readJoined 8 rfl) rfl ?_
  refine wp_iconst (v := 1) hX (dk DX7_readJoined 9 rfl) (by decide) ?_
  refine wp_iadd hX (dk DX7_readJoined 10 rfl) ?_
  rw [nI_1]
  refine wp_iload_n hX (dk DX7_readJoined 11 rfl) rfl ?_
  refine w_callVQ (As := [_, _]) lkX7_42 hX (dk DX7_readJoined 12 rfl) rfl rfl (by decide) hN (hJ sw f g T n a (l + 1) o W h ha hw (by omega) ho hrk) (fun v_ sw_ f_ g_ hq_ => ?_)
  obtain ⟨rfl, rfl, rfl, e1, e2, W1, e3, e4⟩ := hq_
  rw [← hc, hx] at e2 e4 ⊢
  show WP _ _ _ 19 [_, _, _, _, _, _] [_] _
  have h1 := h.same e1 e2
  have g1 := hG a ha
  by_cases c1 : (nx a).1 = true
  · rw [if_pos c1] at hR ⊢
    obtain ⟨Q, hQ⟩ : ∃ Q : Nat, Q = if l = 2 then 1 else 120 := ⟨_, rfl⟩
    have hQn : Q ≤ 120 := by rw [hQ]; split <;> omega
    rw [← hQ] at hR
    obtain ⟨R0, hR0⟩ : ∃ R0, R0 = pJr c l nx Q (nx a).2.1 (nx a).2.2 := ⟨_, rfl⟩
    rw [← hR0] at hR
    have lo : ∀ (q j b : Nat) (k : List Nat) (f2 : Nat → Nat → Int32) (W2 : List Int32) (z : Option Value), j + q = Q → tpO f2 T n b → b ≤ n → tS f f2 → wrO f2 W2 → (W.length + k.length ≤ 256 → W2 = W ++ k.map jtw) → R0 = pJr c l nx q b k → WP X 0 0 39 [some (.ref 46), some (.int (nI l)), some (.int (nI o)), some (.int (nI Q)), some (.int (nI j)), z] [] (S sw_ f2 g_) := by
      intro q
      induction q with
      | zero =>
        intro j b k f2 W2 z hj h2 hb hs hw2 hk e
        obtain rfl : j = Q := by omega
        rw [pJr] at e
        refine wp_iload hX (dk DX7_readJoined 25 rfl) rfl ?_
        refine wp_iload_n hX (dk DX7_readJoined 26 rfl) rfl ?_
        refine wp_icmp_ge (tgt := 103) hX (dk DX7_readJoined 27 rfl) (by decide) (fun _ => ?_) (fun h_ => absurd (nI_le (by omega) (by omega)) h_)
        refine wp_iconst (v := 1) hX (dk DX7_readJoined_1 0 rfl) (by decide) ?_
        exact wp_ireturn hX hR (dk DX7_readJoined_1 1 rfl) rfl (Nat.le_refl _) (Nat.le_refl _) (⟨_, _, _, rfl, by rw [e]; rfl, rfl, rfl, hs, by rw [e]; exact h2.2.2.2, W2, hw2, fun _ hl => by rw [e] at hl ⊢; exact hk hl⟩)
      | succ q ih =>
        intro j b k f2 W2 z hj h2 hb hs hw2 hk e
        rw [pJr] at e
        refine wp_iload hX (dk DX7_readJoined 25 rfl) rfl ?_
        refine wp_iload_n hX (dk DX7_readJoined 26 rfl) rfl ?_
        refine wp_icmp_ge (tgt := 103) hX (dk DX7_readJoined 27 rfl) (by decide) (fun h_ => absurd h_ ((nI_ge (by omega) (by omega)))) (fun _ => ?_)
        refine wp_aload_n hX (dk DX7_readJoined 28 rfl) rfl ?_
        refine wp_iload_n hX (dk DX7_readJoined 29 rfl) rfl ?_
        refine w_callS (As := [_]) lkX7_54 hX (dk DX7_readJoined 30 rfl) rfl (by simp [Value.category]) (k_signsOf (D + 8) sw_ f2 g_ l hl) ?_
        show WP _ _ _ 50 [_, _, _, _, _, _] [_, _] _
        refine w_callV (As := [_]) lkX7_58 hX (dk DX7_readJoined 31 rfl) rfl rfl (by decide) hN (k_isAhead (D + 4) sw_ f2 g_ T n b (l + 1) h2 hb (by omega)) ?_
        show WP _ _ _ 53 [_, _, _, _, _, _] [_] _
        by_cases c2 : pOp l (c b) = 0
        · rw [if_pos c2] at e
          have hno : ¬ (b < n ∧ 0 ≤ jix (l + 1) (T b)) := fun q => by
            have hT : c b = T b := by rw [hc]; unfold pC; rw [if_pos q.1]
            rw [hT] at c2
            exact (jix_op l hl _ (h2.2.2.1 b q.1).2).1.mp q.2 c2
          rw [if_neg hno]
          refine wp_if_eq (tgt := 103) hX (dk DX7_readJoined 32 rfl) (by decide) (fun _ => ?_) (fun h_ => absurd (rfl) h_)
          refine wp_iconst (v := 1) hX (dk DX7_readJoined_1 0 rfl) (by decide) ?_
          exact wp_ireturn hX hR (dk DX7_readJoined_1 1 rfl) rfl (Nat.le_refl _) (Nat.le_refl _) (⟨_, _, _, rfl, by rw [e]; rfl, rfl, rfl, hs, by rw [e]; exact h2.2.2.2, W2, hw2, fun _ hl => by rw [e] at hl ⊢; exact hk hl⟩)
        · rw [if_neg c2] at e
          have hbn : b < n := by
            by_cases q : b < n
            · exact q
            · rw [hend b (by omega), pOp_999] at c2; exact absurd rfl c2
          have hT : c b = T b := by rw [hc]; unfold pC; rw [if_pos hbn]
          obtain ⟨t1, t2⟩ := h2.2.2.1 b hbn
          rw [hT] at c2 e
          rw [if_pos ⟨hbn, (jix_op l hl _ t2).1.mpr c2⟩]
          refine wp_if_eq (tgt := 103) hX (dk DX7_readJoined 32 rfl) (by decide) (fun h_ => absurd h_ ((by decide))) (fun _ => ?_)
          refine wp_aload_n hX (dk DX7_readJoined 33 rfl) rfl ?_
          refine w_getr hX flX7_11 (dk DX7_readJoined 34 rfl) rfl rfl ?_
          refine wp_aload_n hX (dk DX7_readJoined 35 rfl) rfl ?_
          refine w_geti hX flX7_22 (dk DX7_readJoined 36 rfl) (by decide) rfl ?_
          rw [h2.2.2.2]
          refine w_iald (j := _) hX (dk DX7_readJoined 37 rfl) rfl rfl (show _ < 120 by have := h2.2.1; omega) ?_
          rw [t1]
          refine wp_istore hX (dk DX7_readJoined 38 rfl) rfl hN (Nat.le_of_ble_eq_true rfl) ?_
          show WP _ _ _ 67 [_, _, _, _, _, _] [] _
          refine wp_aload_n hX (dk DX7_readJoined 39 rfl) rfl ?_
          refine wp_dup hX (dk DX7_readJoined 40 rfl) rfl ?_
          refine w_geti hX flX7_22 (dk DX7_readJoined 41 rfl) (by decide) rfl ?_
          rw [h2.2.2.2]
          refine wp_iconst (v := 1) hX (dk DX7_readJoined 42 rfl) (by decide) ?_
          refine wp_iadd hX (dk DX7_readJoined 43 rfl) ?_
          rw [nI_1]
          refine w_puti hX fpX7_22 (dk DX7_readJoined 44 rfl) rfl ?_
          refine wp_aload_n hX (dk DX7_readJoined 45 rfl) rfl ?_
          refine wp_iload_n hX (dk DX7_readJoined 46 rfl) rfl ?_
          refine wp_iconst (v := 1) hX (dk DX7_readJoined 47 rfl) (by decide) ?_
          refine wp_iadd hX (dk DX7_readJoined 48 rfl) ?_
          rw [nI_1]
          have h3 := h2.same (tS.at f2 (nI (b + 1))) (u2_at _ _ _ _)
          have g2 := hG (b + 1) hbn
          refine wp_iload_n hX (dk DX7_readJoined 49 rfl) rfl ?_
          refine w_callVQ (As := [_, _]) lkX7_42 hX (dk DX7_readJoined 50 rfl) rfl rfl (by decide) hN (hJ sw_ _ g_ T n (b + 1) (l + 1) o W2 h3 hbn (hw2.at _) (by omega) ho hrk) (fun v_b sw_b f_b g_b hq_b => ?_)
          obtain ⟨rfl, rfl, rfl, d1, d2, W3, d3, d4⟩ := hq_b
          rw [← hc, hx] at d2 d4 ⊢
          show WP _ _ _ 85 [_, _, _, _, _, _] [_] _
          by_cases c3 : (nx (b + 1)).1 = true
          · rw [if_pos c3] at e ⊢
            refine wp_if_ne (tgt := 90) hX (dk DX7_readJoined 51 rfl) (by decide) (fun _ => ?_) (fun h_ => absurd h_ (by decide))
            refine wp_aload_n hX (dk DX7_readJoined 54 rfl) rfl ?_
            refine wp_iload hX (dk DX7_readJoined 55 rfl) rfl ?_
            refine wp_ineg hX (dk DX7_readJoined 56 rfl) ?_
            rw [(jix_op l hl _ t2).2 c2]
            refine w_callVQ (As := [_]) lkX7_46 hX (dk DX7_readJoined 57 rfl) rfl rfl (by decide) hN (k_write7 (D + 8) _ f_b _ W3 _ d3) (fun v_d sw_d f_d g_d hq_d => ?_)
            obtain ⟨rfl, rfl, rfl, y1, y2, W4, y3, y4⟩ := hq_d
            show WP _ _ _ 97 [_, _, _, _, _, _] [] _
            refine wp_iinc hX (dk DX7_readJoined 58 rfl) rfl (nI_inc _) rfl hN ?_
            show WP _ _ _ 100 [_, _, _, _, _, _] [] _
            refine wp_goto (tgt := 39) hX (dk DX7_readJoined 59 rfl) (by decide) ?_
            refine ih (j + 1) (nx (b + 1)).2.1 _ _ W4 _ (by omega) (h3.same (d1.trans y1) (y2.trans d2)) g2.2.1 (((hs.trans (tS.at f2 _)).trans d1).trans y1) y3 (fun hl => ?_) e
            simp only [List.length_append, List.length_singleton] at hl
            have k1 := hk (by omega)
            have k2 := d4 c3 (by rw [k1]; simp; omega)
            rw [y4 (by rw [k2, k1]; simp; omega), k2, k1]
            simp
          · rw [if_neg c3] at e ⊢
            refine wp_if_ne (tgt := 90) hX (dk DX7_readJoined 51 rfl) (by decide) (fun h_ => absurd (rfl) h_) (fun _ => ?_)
            refine wp_iconst (v := 0) hX (dk DX7_readJoined 52 rfl) (by decide) ?_
            exact wp_ireturn hX hR (dk DX7_readJoined 53 rfl) rfl (Nat.le_refl _) (Nat.le_refl _) (⟨_, _, _, rfl, by rw [e]; rfl, rfl, rfl, (hs.trans (tS.at f2 _)).trans d1, by rw [e]; exact d2, W3, d3, fun q => by rw [e] at q; exact Bool.noConfusion q⟩)
    have start : WP X 0 0 35 [some (.ref 46), some (.int (nI l)), some (.int (nI o)), none, none, none] [.int (nI Q)] (S sw_ f_ g_) := by
      refine wp_istore_n hX (dk DX7_readJoined 22 rfl) rfl rfl hN (Nat.le_of_ble_eq_true rfl) ?_
      show WP _ _ _ 36 [_, _, _, _, _, _] [] _
      refine wp_iconst (v := 0) hX (dk DX7_readJoined 23 rfl) (by decide) ?_
      refine wp_istore hX (dk DX7_readJoined 24 rfl) rfl hN (Nat.le_of_ble_eq_true rfl) ?_
      show WP _ _ _ 39 [_, _, _, _, _, _] [] _
      exact lo Q 0 (nx a).2.1 (nx a).2.2 f_ W1 _ (by omega) h1 g1.2.1 e1 e3 (e4 c1) hR0
    refine wp_if_ne (tgt := 24) hX (dk DX7_readJoined 13 rfl) (by decide) (fun _ => ?_) (fun h_ => absurd h_ ((by decide)))
    refine wp_iload_n hX (dk DX7_readJoined 16 rfl) rfl ?_
    refine wp_iconst (v := 2) hX (dk DX7_readJoined 17 rfl) (by decide) ?_
    by_cases c5 : l = 2
    · refine wp_icmp_ne (tgt := 33) hX (dk DX7_readJoined 18 rfl) (by decide) (fun h_ => absurd (by rw [c5]; rfl) h_) (fun _ => ?_)
      refine wp_iconst (v := 1) hX (dk DX7_readJoined 19 rfl) (by decide) ?_
      refine wp_goto (tgt := 35) hX (dk DX7_readJoined 20 rfl) (by decide) ?_
      rw [show (1 : Int32) = nI Q by rw [hQ, if_pos c5]; rfl]
      exact start
    · refine wp_icmp_ne (tgt := 33) hX (dk DX7_readJoined 18 rfl) (by decide) (fun _ => ?_) (fun h_ => absurd h_ (fun q => c5 ((nI_eq (b := 2) (by omega) (by omega)).mp q)))
      refine wp_bipush (v := 120) hX (dk DX7_readJoined 21 rfl) (by decide) ?_
      rw [show (120 : Int32) = nI Q by rw [hQ, if_neg c5]; rfl]
      exact start
  · rw [if_neg c1] at hR ⊢
    refine wp_if_ne (tgt := 24) hX (dk DX7_readJoined 13 rfl) (by decide) (fun h_ => absurd (rfl) h_) (fun _ => ?_)
    refine wp_iconst (v := 0) hX (dk DX7_readJoined 14 rfl) (by decide) ?_
    exact wp_ireturn hX hR (dk DX7_readJoined 15 rfl) rfl (Nat.le_refl _) (Nat.le_refl _) (⟨_, _, _, rfl, rfl, rfl, rfl, e1, e2, W1, e3, fun q => Bool.noConfusion q⟩)
theorem k_read (m : Nat) : ∀ D, roC (D + 7 + 2 * m) m ∧ rjC (D + 8 + 2 * m) m := by
  induction m with
  | zero =>
    intro D
    refine ⟨fun sw f g T n a o W h ha hw ho hr => ?_, fun sw f g T n a l o W h ha hw hl ho hr => ?_⟩
    · exact absurd hr (by unfold rk; omega)
    · exact absurd hr (by unfold rk; omega)
  | succ m ih =>
    intro D
    have hO : roC (D + 7 + 2 * (m + 1)) (m + 1) := by
      have := k_ro (D + 2 * m + 2) m (by have := (ih D).2; rw [show D + 2 * m + 2 + 6 = D + 8 + 2 * m by omega]; exact this) (by have := (ih (D + 1)).1; rw [show D + 2 * m + 2 + 6 = D + 1 + 7 + 2 * m by omega]; exact this)
      rw [show D + 7 + 2 * (m + 1) = D + 2 * m + 2 + 7 by omega]
      exact this
    refine ⟨hO, fun sw f g T n a l o W h ha hw hl ho hr => ?_⟩
    by_cases c : l = 5
    · subst c
      have := k_rj5 (D + 2 * (m + 1)) (m + 1) (by rw [show D + 2 * (m + 1) + 7 = D + 7 + 2 * (m + 1) by omega]; exact hO) sw f g T n a o W h ha hw ho hr
      rw [show D + 8 + 2 * (m + 1) = D + 2 * (m + 1) + 8 by omega]
      exact this
    · have := k_rjl (D + 2 * m + 1) m l (by omega) (by have := (ih (D + 1)).2; rw [show D + 2 * m + 1 + 8 = D + 1 + 8 + 2 * m by omega]; exact this) sw f g T n a o W h ha hw ho hr
      rw [show D + 8 + 2 * (m + 1) = D + 2 * m + 1 + 9 by omega]
      exact this
/-- a whole E -/
theorem k_rE (d : Nat) (sw : Bool) (f : Nat → Nat → Int32) (g : Nat → Nat → Int64) (T : Nat → Nat) (n a : Nat) (W : List Int32) (h : tpO f T n a) (ha : a ≤ n) (hw : wrO f W) : CT (d + 104) 0 0 iX7_readJoined [.ref 46, .int 0, .int 0] (S sw f g) (rdQ sw g f W (pJ (pC T n) 48 0 0 a)) := (k_read 48 d).2 sw f g T n a 0 0 W h ha hw (by decide) (by decide) (by decide)
