/-! TAPE: lines, the whole text, what the Rule takes -/
theorem jcl_len (a b : List Nat) (p : Nat) : (jcl a b p).length = if a = [] then b.length + 1 else a.length + b.length + 3 := by
  unfold jcl
  split
  · simp
  · simp; omega
theorem k_readLine (d : Nat) (sw : Bool) (f : Nat → Nat → Int32) (g : Nat → Nat → Int64) (T : Nat → Nat) (n a : Nat) (W : List Int32) (h : tpO f T n a) (ha : a ≤ n) (hw : wrO f W) (hW : W.length ≤ 2 * a) : CT (d + 105) 0 0 iX7_readLine [.ref 46] (S sw f g) (QS (fun r sw2 f2 g2 => r = some (.int (if (pLn (pC T n) a).1 then 1 else 0)) ∧ sw2 = sw ∧ g2 = g ∧ tS f f2 ∧ f2 46 3 = nI (pLn (pC T n) a).2.1 ∧ ∃ W2, wrO f2 W2 ∧ ((pLn (pC T n) a).1 = true → W2 = W ++ jcl (pLn (pC T n) a).2.2.1 (pLn (pC T n) a).2.2.2 W.length))) := by
  obtain ⟨c, hc⟩ : ∃ c, c = pC T n := ⟨_, rfl⟩
  have hend : ∀ a, n ≤ a → c a = 999 := by rw [hc]; exact pC_end T n
  have hn := h.2.1
  obtain ⟨x1, x2, x3⟩ := pJ_ok hend 48 0 0 a (by decide) ha
  rw [← hc]
  refine CT.of rfl (Nat.le_of_ble_eq_true rfl) (fun X hX hR hN _ => ?_)
  have hX : Good X RX7 cX7_readLine (d + 105) 0 0 := hX
  have hN : x_nl X = 2 := hN
  show WP X 0 0 0 [_, _] [] _
  refine wp_aload_n hX (dk DX7_readLine 0 rfl) rfl ?_
  refine wp_iconst (v := 0) hX (dk DX7_readLine 1 rfl) (by decide) ?_
  refine wp_iconst (v := 0) hX (dk DX7_readLine 2 rfl) (by decide) ?_
  refine w_callVQ (As := [_, _]) lkX7_42 hX (dk DX7_readLine 3 rfl) rfl rfl (by decide) hN (k_rE d sw f g T n a W h ha hw) (fun v_ sw_ f_ g_ hq_ => ?_)
  obtain ⟨rfl, rfl, rfl, e1, e2, W1, e3, e4⟩ := hq_
  rw [← hc] at e2 e4 ⊢
  show WP _ _ _ 6 [_, _] [_] _
  have h1 := h.same e1 e2
  unfold pLn at hR
  by_cases c1 : (pJ c 48 0 0 a).1 = true
  · obtain ⟨y1, y2, y3⟩ := x3 c1
    rw [if_pos c1] at hR ⊢
    have w1 := e4 c1 (by omega)
    refine wp_if_ne (tgt := 11) hX (dk DX7_readLine 4 rfl) (by decide) (fun _ => ?_) (fun h_ => absurd h_ ((by decide)))
    by_cases c2 : c (pJ c 48 0 0 a).2.1 = 63
    · rw [if_pos c2] at hR
      have a2 : (pJ c 48 0 0 a).2.1 + 1 ≤ n := by
        by_cases q : (pJ c 48 0 0 a).2.1 + 1 ≤ n
        · exact q
        · rw [hend _ (by omega)] at c2; omega
      obtain ⟨z1, z2, z3⟩ := pJ_ok hend 48 0 0 _ (by decide) a2
      refine wp_aload_n hX (dk DX7_readLine 7 rfl) rfl ?_
      refine wp_bipush (v := 63) hX (dk DX7_readLine 8 rfl) (by decide) ?_
      refine w_callV (As := [_]) lkX7_32 hX (dk DX7_readLine 9 rfl) rfl rfl (by decide) hN (k_acc1 (d + 104) _ f_ _ T n _ 63 h1 x2 (by decide) (by rw [← hc]; exact c2)) ?_
      show WP _ _ _ 17 [_, _] [_] _
      refine wp_if_ne (tgt := 27) hX (dk DX7_readLine 10 rfl) (by decide) (fun _ => ?_) (fun h_ => absurd h_ ((by decide)))
      have h2 := h1.same (tS.at f_ (nI ((pJ c 48 0 0 a).2.1 + 1))) (u2_at _ _ _ _)
      refine wp_aload_n hX (dk DX7_readLine 16 rfl) rfl ?_
      refine wp_bipush (v := -2) hX (dk DX7_readLine 17 rfl) (by decide) ?_
      refine w_callVQ (As := [_]) lkX7_46 hX (dk DX7_readLine 18 rfl) rfl rfl (by decide) hN (k_write7 (d + 104) _ _ _ W1 _ (e3.at _)) (fun v_b sw_b f_b g_b hq_b => ?_)
      obtain ⟨rfl, rfl, rfl, g1, g2, W2, g3, g4⟩ := hq_b
      show WP _ _ _ 33 [_, _] [] _
      refine wp_aload_n hX (dk DX7_readLine 19 rfl) rfl ?_
      have w2 := g4 (by rw [w1]; simp; omega)
      refine w_geti hX flX7_25 (dk DX7_readLine 20 rfl) (by decide) rfl ?_
      refine wp_istore_n hX (dk DX7_readLine 21 rfl) rfl rfl hN (Nat.le_of_ble_eq_true rfl) ?_
      show WP _ _ _ 38 [_, _] [] _
      rw [g3.1]
      refine wp_aload_n hX (dk DX7_readLine 22 rfl) rfl ?_
      refine wp_iconst (v := 0) hX (dk DX7_readLine 23 rfl) (by decide) ?_
      refine w_callVQ (As := [_]) lkX7_46 hX (dk DX7_readLine 24 rfl) rfl rfl (by decide) hN (k_write7 (d + 104) _ _ _ W2 _ g3) (fun v_d sw_d f_d g_d hq_d => ?_)
      obtain ⟨rfl, rfl, rfl, j1, j2, W3, j3, j4⟩ := hq_d
      show WP _ _ _ 43 [_, _] [] _
      refine wp_aload_n hX (dk DX7_readLine 25 rfl) rfl ?_
      refine wp_iconst (v := 0) hX (dk DX7_readLine 26 rfl) (by decide) ?_
      refine wp_iconst (v := 0) hX (dk DX7_readLine 27 rfl) (by decide) ?_
      refine w_callVQ (As := [_, _]) lkX7_42 hX (dk DX7_readLine 28 rfl) rfl rfl (by decide) hN (k_rE d _ _ _ T n ((pJ c 48 0 0 a).2.1 + 1) W3 (h2.same (g1.trans j1) (by rw [j2, g2]; exact u2_at _ _ _ _)) a2 j3) (fun v_e sw_e f_e g_e hq_e => ?_)
      obtain ⟨rfl, rfl, rfl, i1, i2, W4, i3, i4⟩ := hq_e
      rw [← hc] at i2 i4 ⊢
      show WP _ _ _ 49 [_, _] [_] _
      have w3 := j4 (by rw [w2, w1]; simp; omega)
      have hs := (((e1.trans (tS.at f_ (nI ((pJ c 48 0 0 a).2.1 + 1)))).trans g1).trans j1).trans i1
      by_cases c3 : (pJ c 48 0 0 ((pJ c 48 0 0 a).2.1 + 1)).1 = true
      · rw [if_pos c3]
        obtain ⟨u1, u2_, u3⟩ := z3 c3
        have w4 := i4 c3 (by rw [w3, w2, w1]; simp; omega)
        refine wp_if_ne (tgt := 54) hX (dk DX7_readLine 29 rfl) (by decide) (fun _ => ?_) (fun h_ => absurd h_ ((by decide)))
        refine wp_aload_n hX (dk DX7_readLine 32 rfl) rfl ?_
        refine wp_iconst (v := -1) hX (dk DX7_readLine 33 rfl) (by decide) ?_
        refine w_callVQ (As := [_]) lkX7_46 hX (dk DX7_readLine 34 rfl) rfl rfl (by decide) hN (k_write7 (d + 104) _ _ _ W4 _ i3) (fun v_k sw_k f_k g_k hq_k => ?_)
        obtain ⟨rfl, rfl, rfl, l1, l2, W5, l3, l4⟩ := hq_k
        show WP _ _ _ 59 [_, _] [] _
        refine wp_iload_n hX (dk DX7_readLine 35 rfl) rfl ?_
        refine wp_sipush (v := 256) hX (dk DX7_readLine 36 rfl) (by decide) ?_
        have w5 := l4 (by rw [w4, w3, w2, w1]; simp; omega)
        have hlt : W2.length < 256 := by rw [w2, w1]; simp; omega
        refine wp_icmp_ge (tgt := 76) hX (dk DX7_readLine 37 rfl) (by decide) (fun h_ => absurd h_ ((nI_ge (b := 256) hlt (by decide)))) (fun _ => ?_)
        refine wp_aload_n hX (dk DX7_readLine 38 rfl) rfl ?_
        refine w_getr hX flX7_15 (dk DX7_readLine 39 rfl) rfl rfl ?_
        refine wp_iload_n hX (dk DX7_readLine 40 rfl) rfl ?_
        refine wp_aload_n hX (dk DX7_readLine 41 rfl) rfl ?_
        refine w_geti hX flX7_25 (dk DX7_readLine 42 rfl) (by decide) rfl ?_
        rw [l3.1]
        refine w_iast (j := _) hX (dk DX7_readLine 43 rfl) rfl rfl hlt ?_
        refine wp_iconst (v := 1) hX (dk DX7_readLine 44 rfl) (by decide) ?_
        have hk : ¬ (pJ c 48 0 0 a).2.2 = [] := jwf_ne y3
        refine wp_ireturn hX hR (dk DX7_readLine 45 rfl) rfl (Nat.le_refl _) (Nat.le_refl _) ⟨_, _, _, rfl, by simp only [c3]; rfl, rfl, rfl, (hs.trans l1).trans ⟨fun b h1 h2 => u2_ne _ _ _ h2, fun i h3 h4 => by rw [u2_ne _ _ _ (by decide)]⟩, by rw [u2_ne _ _ _ (by decide), l2, i2], W5.set W2.length (nI W5.length), ⟨by rw [u2_ne _ _ _ (by decide), List.length_set]; exact l3.1, by rw [List.length_set]; exact l3.2.1, fun j q hj => ?_⟩, fun _ => ?_⟩
        · by_cases cj : j = W2.length
          · subst cj
            rw [List.getElem?_set_self (by have := (List.getElem?_eq_some_iff.mp hj).1; rw [List.length_set] at this; exact this)] at hj
            cases hj
            exact u2_at _ _ _ _
          · rw [List.getElem?_set_ne (fun e => cj e.symm)] at hj
            rw [u2_off _ _ _ cj]
            exact l3.2.2 j q hj
        · rw [jcl, if_neg hk, w5, w4, w3, w2, w1]
          simp only [List.append_assoc, List.length_append, List.length_map, List.length_cons, List.length_nil]
          rw [List.set_append_right _ _ (by omega), List.set_append_right _ _ (by simp), List.set_append_right _ _ (by simp)]
          simp only [List.length_map, List.length_cons, List.length_nil, List.singleton_append]
          rw [show W.length + ((pJ c 48 0 0 a).2.2.length + (0 + 1)) - W.length - (pJ c 48 0 0 a).2.2.length - (0 + 1) = 0 by omega]
          simp only [List.set_cons_zero, List.append_cancel_left_eq]
          congr 2
          congr 1
          omega
      · rw [if_neg c3]
        refine wp_if_ne (tgt := 54) hX (dk DX7_readLine 29 rfl) (by decide) (fun h_ => absurd (rfl) h_) (fun _ => ?_)
        refine wp_iconst (v := 0) hX (dk DX7_readLine 30 rfl) (by decide) ?_
        exact wp_ireturn hX hR (dk DX7_readLine 31 rfl) rfl (Nat.le_refl _) (Nat.le_refl _) (⟨_, _, _, rfl, by simp only [c3]; rfl, rfl, rfl, hs, i2, W4, i3, fun q => absurd q c3⟩)
    · rw [if_neg c2] at hR
      refine wp_aload_n hX (dk DX7_readLine 7 rfl) rfl ?_
      refine wp_bipush (v := 63) hX (dk DX7_readLine 8 rfl) (by decide) ?_
      refine w_callV (As := [_]) lkX7_32 hX (dk DX7_readLine 9 rfl) rfl rfl (by decide) hN (k_acc0 (d + 104) _ f_ _ T n _ 63 h1 x2 (by decide) (by rw [← hc]; exact c2)) ?_
      show WP _ _ _ 17 [_, _] [_] _
      refine wp_if_ne (tgt := 27) hX (dk DX7_readLine 10 rfl) (by decide) (fun h_ => absurd (rfl) h_) (fun _ => ?_)
      refine wp_aload_n hX (dk DX7_readLine 11 rfl) rfl ?_
      refine wp_iconst (v := -1) hX (dk DX7_readLine 12 rfl) (by decide) ?_
      refine w_callVQ (As := [_]) lkX7_46 hX (dk DX7_readLine 13 rfl) rfl rfl (by decide) hN (k_write7 (d + 104) _ _ _ W1 _ e3) (fun v_b sw_b f_b g_b hq_b => ?_)
      obtain ⟨rfl, rfl, rfl, g1, g2, W2, g3, g4⟩ := hq_b
      show WP _ _ _ 25 [_, _] [] _
      refine wp_iconst (v := 1) hX (dk DX7_readLine 14 rfl) (by decide) ?_
      exact wp_ireturn hX hR (dk DX7_readLine 15 rfl) rfl (Nat.le_refl _) (Nat.le_refl _) (⟨_, _, _, rfl, rfl, rfl, rfl, e1.trans g1, by rw [g2, e2], W2, g3, fun _ => by rw [g4 (by rw [w1]; simp; omega), w1, jcl, if_pos rfl, List.append_assoc]⟩)
  · rw [if_neg c1] at hR ⊢
    refine wp_if_ne (tgt := 11) hX (dk DX7_readLine 4 rfl) (by decide) (fun h_ => absurd (rfl) h_) (fun _ => ?_)
    refine wp_iconst (v := 0) hX (dk DX7_readLine 5 rfl) (by decide) ?_
    exact wp_ireturn hX hR (dk DX7_readLine 6 rfl) rfl (Nat.le_refl _) (Nat.le_refl _) (⟨_, _, _, rfl, rfl, rfl, rfl, e1, e2, W1, e3, fun q => Bool.noConfusion q⟩)
theorem jcd_app : ∀ (L : List (List Nat × List Nat)) (l : List Nat × List Nat) (p : Nat), jcd (L ++ [l]) p = jcd L p ++ jcl l.1 l.2 (p + (jcd L p).length)
  | [], (a, b), p => by simp [jcd]
  | (a, b) :: r, l, p => by
    rw [List.cons_append, jcd, jcd_app r l, jcd, List.append_assoc]
    congr 2
    rw [List.length_append, Nat.add_assoc]
/-- the fault; -2: none -/
def pF (r : List (List Nat × List Nat) × Nat) : Int32 := if r.1 = [] then nI r.2 else -2
theorem pLs_ne {c : Nat → Nat} {n : Nat} : ∀ (q a : Nat) (L : List (List Nat × List Nat)), (pLs c n q a L).1 = [] ∨ ∃ K l, (pLs c n q a L).1 = L ++ K ++ [l]
  | 0, _, _ => Or.inl rfl
  | q + 1, a, L => by
    rw [pLs]
    split
    · split
      · exact Or.inr ⟨[], (pLn c a).2.2, by simp⟩
      · split
        · rcases pLs_ne q _ (L ++ [(pLn c a).2.2]) with h | ⟨K, l, h⟩
          · exact Or.inl h
          · exact Or.inr ⟨(pLn c a).2.2 :: K, l, by rw [h]; simp⟩
        · exact Or.inl rfl
    · exact Or.inl rfl
theorem k_readAll (d : Nat) (sw : Bool) (f : Nat → Nat → Int32) (g : Nat → Nat → Int64) (T : Nat → Nat) (n a0 : Nat) (h : tpO f T n a0) : CT (d + 106) 0 0 iX7_read [.ref 46] (S sw f g) (QS (fun r sw2 f2 g2 => r = some (.int (pF (pLs (pC T n) n 121 0 []))) ∧ sw2 = sw ∧ g2 = g ∧ tS f f2 ∧ (¬ (pLs (pC T n) n 121 0 []).1 = [] → wrO f2 (jcd (pLs (pC T n) n 121 0 []).1 0) ∧ ∀ l ∈ (pLs (pC T n) n 121 0 []).1, jwl l))) := by
  obtain ⟨c, hc⟩ : ∃ c, c = pC T n := ⟨_, rfl⟩
  have hend : ∀ a, n ≤ a → c a = 999 := by rw [hc]; exact pC_end T n
  have hn := h.2.1
  obtain ⟨R0, hR0⟩ : ∃ R0, R0 = pLs c n 121 0 [] := ⟨_, rfl⟩
  rw [← hc, ← hR0]
  refine CT.of rfl (Nat.le_of_ble_eq_true rfl) (fun X hX hR hN _ => ?_)
  have hX : Good X RX7 cX7_read (d + 106) 0 0 := hX
  have hN : x_nl X = 2 := hN
  show WP X 0 0 0 [_, _] [] _
  have lo : ∀ (q j a : Nat) (L : List (List Nat × List Nat)) (f2 : Nat → Nat → Int32) (W : List Int32), j + q = 121 → tpO f2 T n a → a ≤ n → n + 1 ≤ a + q → tS f f2 → wrO f2 W → W = jcd L 0 → W.length ≤ 2 * a → (∀ l ∈ L, jwl l) → R0 = pLs c n q a L → WP X 0 0 12 [some (.ref 46), some (.int (nI j))] [] (S sw f2 g) := by
    intro q
    induction q with
    | zero => intro j a L f2 W hj h2 ha hq; omega
    | succ q ih =>
      intro j a L f2 W hj h2 ha hq hs hw hWL hW hl e
      obtain ⟨x1, x2, x3⟩ := pLn_ok hend ha
      rw [pLs] at e
      refine wp_iload_n hX (dk DX7_read 8 rfl) rfl ?_
      refine wp_bipush (v := 120) hX (dk DX7_read 9 rfl) (by decide) ?_
      refine wp_icmp_gt (tgt := 64) hX (dk DX7_read 10 rfl) (by decide) (fun h_ => absurd h_ ((fun q => Int32.not_le.mpr q (nI_le (b := 120) (by omega) (by omega))))) (fun _ => ?_)
      refine wp_aload_n hX (dk DX7_read 11 rfl) rfl ?_
      refine w_callVQ (As := []) lkX7_28 hX (dk DX7_read 12 rfl) rfl rfl (by decide) hN (k_readLine d sw f2 g T n a W h2 ha hw hW) (fun v_ sw_ f_ g_ hq_ => ?_)
      obtain ⟨rfl, rfl, rfl, e1, e2, W1, e3, e4⟩ := hq_
      rw [← hc] at e2 e4 ⊢
      show WP _ _ _ 22 [_, _] [_] _
      have h3 := h2.same e1 e2
      by_cases c1 : (pLn c a).1 = true
      · rw [if_pos c1] at e ⊢
        obtain ⟨y1, y2, y3⟩ := x3 c1
        have w1 := e4 c1
        have hW1 : W1.length = W.length + (jcl (pLn c a).2.2.1 (pLn c a).2.2.2 W.length).length := by rw [w1, List.length_append]
        have hcd : W1 = jcd (L ++ [(pLn c a).2.2]) 0 := by rw [w1, jcd_app, ← hWL, Nat.zero_add]
        have hl2 : ∀ l ∈ L ++ [(pLn c a).2.2], jwl l := fun l hl3 => by
          rcases List.mem_append.mp hl3 with q | q
          · exact hl l q
          · rw [List.mem_singleton.mp q]; exact y2
        rw [jcl_len] at hW1
        refine wp_if_ne (tgt := 30) hX (dk DX7_read 13 rfl) (by decide) (fun _ => ?_) (fun h_ => absurd h_ ((by decide)))
        refine wp_aload_n hX (dk DX7_read 17 rfl) rfl ?_
        refine w_geti hX flX7_22 (dk DX7_read 18 rfl) (by decide) rfl ?_
        refine wp_aload_n hX (dk DX7_read 19 rfl) rfl ?_
        refine w_geti hX flX7_18 (dk DX7_read 20 rfl) (by decide) rfl ?_
        rw [e2, h3.1]
        by_cases c2 : (pLn c a).2.1 = n
        · rw [if_pos c2] at e
          refine wp_icmp_ne (tgt := 44) hX (dk DX7_read 21 rfl) (by decide) (fun h_ => absurd ((by rw [c2])) h_) (fun _ => ?_)
          refine wp_bipush (v := -2) hX (dk DX7_read 22 rfl) (by decide) ?_
          refine wp_ireturn hX hR (dk DX7_read 23 rfl) rfl (Nat.le_refl _) (Nat.le_refl _) ⟨_, _, _, rfl, by rw [e, pF, if_neg (by simp)], rfl, rfl, hs.trans e1, fun _ => ?_⟩
          rw [e]
          exact ⟨by rw [← hcd]; exact e3, hl2⟩
        · rw [if_neg c2] at e
          refine wp_icmp_ne (tgt := 44) hX (dk DX7_read 21 rfl) (by decide) (fun _ => ?_) (fun h_ => absurd h_ ((fun q => c2 ((nI_eq (by omega) (by omega)).mp q))))
          by_cases c3 : c (pLn c a).2.1 = 59
          · rw [if_pos c3] at e
            have a2 : (pLn c a).2.1 + 1 ≤ n := by omega
            refine wp_aload_n hX (dk DX7_read 24 rfl) rfl ?_
            refine wp_bipush (v := 59) hX (dk DX7_read 25 rfl) (by decide) ?_
            refine w_callV (As := [_]) lkX7_32 hX (dk DX7_read 26 rfl) rfl rfl (by decide) hN (k_acc1 (d + 105) _ f_ _ T n _ 59 h3 x2 (by decide) (by rw [← hc]; exact c3)) ?_
            show WP _ _ _ 50 [_, _] [_] _
            refine wp_if_ne (tgt := 58) hX (dk DX7_read 27 rfl) (by decide) (fun _ => ?_) (fun h_ => absurd h_ (by decide))
            refine wp_iinc hX (dk DX7_read 31 rfl) rfl (nI_inc _) rfl hN ?_
            show WP _ _ _ 61 [_, _] [] _
            refine wp_goto (tgt := 12) hX (dk DX7_read 32 rfl) (by decide) ?_
            refine ih (j + 1) _ _ _ W1 (by omega) (h3.same (tS.at f_ (nI ((pLn c a).2.1 + 1))) (u2_at _ _ _ _)) a2 (by omega) ((hs.trans e1).trans (tS.at _ _)) (e3.at _) hcd ?_ hl2 e
            rcases y3 with ⟨q1, q2⟩ | ⟨q1, q2, q3⟩
            · rw [if_pos q1] at hW1; omega
            · rw [if_neg q1] at hW1; omega
          · rw [if_neg c3] at e
            refine wp_aload_n hX (dk DX7_read 24 rfl) rfl ?_
            refine wp_bipush (v := 59) hX (dk DX7_read 25 rfl) (by decide) ?_
            refine w_callV (As := [_]) lkX7_32 hX (dk DX7_read 26 rfl) rfl rfl (by decide) hN (k_acc0 (d + 105) _ f_ _ T n _ 59 h3 x2 (by decide) (by rw [← hc]; exact c3)) ?_
            show WP _ _ _ 50 [_, _] [_] _
            refine wp_if_ne (tgt := 58) hX (dk DX7_read 27 rfl) (by decide) (fun h_ => absurd (rfl) h_) (fun _ => ?_)
            refine wp_aload_n hX (dk DX7_read 28 rfl) rfl ?_
            refine w_geti hX flX7_22 (dk DX7_read 29 rfl) (by decide) rfl ?_
            rw [e2]
            exact wp_ireturn hX hR (dk DX7_read 30 rfl) rfl (Nat.le_refl _) (Nat.le_refl _) (⟨_, _, _, rfl, by rw [e, pF, if_pos rfl], rfl, rfl, hs.trans e1, fun q => absurd (by rw [e]) q⟩)
      · rw [if_neg c1] at e ⊢
        refine wp_if_ne (tgt := 30) hX (dk DX7_read 13 rfl) (by decide) (fun h_ => absurd (rfl) h_) (fun _ => ?_)
        refine wp_aload_n hX (dk DX7_read 14 rfl) rfl ?_
        refine w_geti hX flX7_22 (dk DX7_read 15 rfl) (by decide) rfl ?_
        rw [e2]
        exact wp_ireturn hX hR (dk DX7_read 16 rfl) rfl (Nat.le_refl _) (Nat.le_refl _) (⟨_, _, _, rfl, by rw [e, pF, if_pos rfl], rfl, rfl, hs.trans e1, fun q => absurd (by rw [e]) q⟩)
  refine wp_aload_n hX (dk DX7_read 0 rfl) rfl ?_
  refine wp_iconst (v := 0) hX (dk DX7_read 1 rfl) (by decide) ?_
  refine w_puti hX fpX7_22 (dk DX7_read 2 rfl) rfl ?_
  refine wp_aload_n hX (dk DX7_read 3 rfl) rfl ?_
  refine wp_iconst (v := 0) hX (dk DX7_read 4 rfl) (by decide) ?_
  refine w_puti hX fpX7_25 (dk DX7_read 5 rfl) rfl ?_
  refine wp_iconst (v := 0) hX (dk DX7_read 6 rfl) (by decide) ?_
  refine wp_istore_n hX (dk DX7_read 7 rfl) rfl rfl hN (Nat.le_of_ble_eq_true rfl) ?_
  show WP _ _ _ 12 [_, _] [] _
  have h0 : tpO (u2 (u2 f 46 3 0) 46 4 0) T n 0 := ⟨by rw [u2_off _ _ _ (by decide), u2_off _ _ _ (by decide)]; exact h.1, h.2.1, fun j hj => by rw [u2_ne _ _ _ (by decide), u2_ne _ _ _ (by decide)]; exact h.2.2.1 j hj, by rw [u2_off _ _ _ (by decide), u2_at]; rfl⟩
  exact lo 121 0 0 [] _ [] (by omega) h0 (by omega) (by omega) ⟨fun b h1 _ => by rw [u2_ne _ _ _ h1, u2_ne _ _ _ h1], fun i h3 h4 => by rw [u2_off _ _ _ h4, u2_off _ _ _ h3]⟩ ⟨u2_at _ _ _ _, by decide, fun j q hj => by simp at hj⟩ rfl (by decide) (fun l hl => by simp at hl) hR0
theorem k_tlength (d : Nat) (sw : Bool) (f : Nat → Nat → Int32) (g : Nat → Nat → Int64) : CT d 0 0 iX7_length [.ref 46] (S sw f g) (QR (some (.int (f 46 2))) (S sw f g)) := by
  refine CT.of rfl (Nat.le_of_ble_eq_true rfl) (fun X hX hR hN _ => ?_)
  have hX : Good X RX7 cX7_length d 0 0 := hX
  have hN : x_nl X = 1 := hN
  show WP X 0 0 0 [_] [] _
  refine wp_aload_n hX (dk DX7_length 0 rfl) rfl ?_
  refine w_geti hX flX7_18 (dk DX7_length 1 rfl) (by decide) rfl ?_
  exact wp_ireturn hX hR (dk DX7_length 2 rfl) rfl (Nat.le_refl _) (Nat.le_refl _) (⟨rfl, rfl⟩)
theorem k_tclear (d : Nat) (sw : Bool) (f : Nat → Nat → Int32) (g : Nat → Nat → Int64) : CT d 0 0 iX7_clear [.ref 46] (S sw f g) (QR none (S sw (u2 f 46 2 0) g)) := by
  refine CT.of rfl (Nat.le_of_ble_eq_true rfl) (fun X hX hR hN _ => ?_)
  have hX : Good X RX7 cX7_clear d 0 0 := hX
  have hN : x_nl X = 1 := hN
  show WP X 0 0 0 [_] [] _
  refine wp_aload_n hX (dk DX7_clear 0 rfl) rfl ?_
  refine wp_iconst (v := 0) hX (dk DX7_clear 1 rfl) (by decide) ?_
  refine w_puti hX fpX7_18 (dk DX7_clear 2 rfl) rfl ?_
  exact wp_return hX hR (dk DX7_clear 3 rfl) (Nat.le_refl _) (Nat.le_refl _) (⟨rfl, rfl⟩)
theorem k_tadd_full (d : Nat) (sw : Bool) (f : Nat → Nat → Int32) (g : Nat → Nat → Int64) (x : Int32) (h : f 46 2 = nI 120) : CT d 0 0 iX7_add [.ref 46, .int x] (S sw f g) (QR (some (.int (-3))) (S sw f g)) := by
  refine CT.of rfl (Nat.le_of_ble_eq_true rfl) (fun X hX hR hN _ => ?_)
  have hX : Good X RX7 cX7_add d 0 0 := hX
  have hN : x_nl X = 2 := hN
  show WP X 0 0 0 [_, _] [] _
  refine wp_aload_n hX (dk DX7_add 0 rfl) rfl ?_
  refine w_geti hX flX7_18 (dk DX7_add 1 rfl) (by decide) rfl ?_
  refine wp_bipush (v := 120) hX (dk DX7_add 2 rfl) (by decide) ?_
  rw [h]
  refine wp_icmp_lt (tgt := 12) hX (dk DX7_add 3 rfl) (by decide) (fun h_ => absurd h_ (by decide)) (fun _ => ?_)
  refine wp_bipush (v := -3) hX (dk DX7_add 4 rfl) (by decide) ?_
  exact wp_ireturn hX hR (dk DX7_add 5 rfl) rfl (Nat.le_refl _) (Nat.le_refl _) (⟨rfl, rfl⟩)
theorem k_tadd (d : Nat) (sw : Bool) (f : Nat → Nat → Int32) (g : Nat → Nat → Int64) (n : Nat) (x : Int32) (hn : n < 120) (h : f 46 2 = nI n) : CT d 0 0 iX7_add [.ref 46, .int x] (S sw f g) (QR (some (.int (nI (n + 1)))) (S sw (u2 (u2 f 47 n x) 46 2 (nI (n + 1))) g)) := by
  refine CT.of rfl (Nat.le_of_ble_eq_true rfl) (fun X hX hR hN _ => ?_)
  have hX : Good X RX7 cX7_add d 0 0 := hX
  have hN : x_nl X = 2 := hN
  show WP X 0 0 0 [_, _] [] _
  refine wp_aload_n hX (dk DX7_add 0 rfl) rfl ?_
  refine w_geti hX flX7_18 (dk DX7_add 1 rfl) (by decide) rfl ?_
  refine wp_bipush (v := 120) hX (dk DX7_add 2 rfl) (by decide) ?_
  rw [h]
  refine wp_icmp_lt (tgt := 12) hX (dk DX7_add 3 rfl) (by decide) (fun _ => ?_) (fun h_ => absurd ((nI_lt (b := 120) (by omega) (by omega))) h_)
  refine wp_aload_n hX (dk DX7_add 6 rfl) rfl ?_
  refine w_getr hX flX7_11 (dk DX7_add 7 rfl) rfl rfl ?_
  refine wp_aload_n hX (dk DX7_add 8 rfl) rfl ?_
  refine w_geti hX flX7_18 (dk DX7_add 9 rfl) (by decide) rfl ?_
  rw [h]
  refine wp_iload_n hX (dk DX7_add 10 rfl) rfl ?_
  refine w_iast (j := _) hX (dk DX7_add 11 rfl) rfl rfl (show _ < 120 by omega) ?_
  refine wp_aload_n hX (dk DX7_add 12 rfl) rfl ?_
  refine wp_dup hX (dk DX7_add 13 rfl) rfl ?_
  refine w_geti hX flX7_18 (dk DX7_add 14 rfl) (by decide) rfl ?_
  rw [show u2 f 47 n x 46 2 = nI n from h]
  refine wp_iconst (v := 1) hX (dk DX7_add 15 rfl) (by decide) ?_
  refine wp_iadd hX (dk DX7_add 16 rfl) ?_
  rw [nI_1]
  refine w_puti hX fpX7_18 (dk DX7_add 17 rfl) rfl ?_
  refine wp_aload_n hX (dk DX7_add 18 rfl) rfl ?_
  refine w_geti hX flX7_18 (dk DX7_add 19 rfl) (by decide) rfl ?_
  rw [u2_at]
  exact wp_ireturn hX hR (dk DX7_add 20 rfl) rfl (Nat.le_refl _) (Nat.le_refl _) (⟨rfl, rfl⟩)
theorem k_copyCode (d : Nat) (sw : Bool) (f : Nat → Nat → Int32) (g : Nat → Nat → Int64) (W : List Int32) (h : wrO f W) : CT (d + 1) 0 0 iX7_copyCode [.ref 46, .ref 50] (S sw f g) (QR (some (.int (nI W.length))) (S sw (u1 f 50 (va_cpy (f 48) (f 50) 0 0 W.length)) g)) := by
  have h2 := h.2.1
  refine CT.of rfl (Nat.le_of_ble_eq_true rfl) (fun X hX hR hN _ => ?_)
  have hX : Good X RX7 cX7_copyCode (d + 1) 0 0 := hX
  have hN : x_nl X = 2 := hN
  show WP X 0 0 0 [_, _] [] _
  refine wp_aload_n hX (dk DX7_copyCode 0 rfl) rfl ?_
  refine w_getr hX flX7_15 (dk DX7_copyCode 1 rfl) rfl rfl ?_
  refine wp_iconst (v := 0) hX (dk DX7_copyCode 2 rfl) (by decide) ?_
  refine wp_aload_n hX (dk DX7_copyCode 3 rfl) rfl ?_
  refine wp_iconst (v := 0) hX (dk DX7_copyCode 4 rfl) (by decide) ?_
  refine wp_aload_n hX (dk DX7_copyCode 5 rfl) rfl ?_
  refine w_geti hX flX7_25 (dk DX7_copyCode 6 rfl) (by decide) rfl ?_
  rw [h.1]
  refine w_copyi (sp := 0) (dp := 0) (n := W.length) hX lkX7_36 (dk DX7_copyCode 7 rfl) (by decide) rfl rfl rfl rfl rfl (show 0 + W.length ≤ 256 by omega) (show 0 + W.length ≤ 256 by omega) ?_
  refine wp_aload_n hX (dk DX7_copyCode 8 rfl) rfl ?_
  refine w_geti hX flX7_25 (dk DX7_copyCode 9 rfl) (by decide) rfl ?_
  rw [show u1 f 50 (va_cpy (f 48) (f 50) 0 0 W.length) 46 4 = nI W.length by rw [u1_ne _ _ (by decide)]; exact h.1]
  exact wp_ireturn hX hR (dk DX7_copyCode 10 rfl) rfl (Nat.le_refl _) (Nat.le_refl _) (⟨rfl, rfl⟩)
theorem k_rtake (d : Nat) (sw : Bool) (f : Nat → Nat → Int32) (g : Nat → Nat → Int64) (L : List (List Nat × List Nat)) (h : wrO f (jcd L 0)) (hl : ∀ l ∈ L, jwl l) : CT (d + 2) 0 0 iX3_take [.ref 49, .ref 46] (S sw f g) (QS (fun r sw2 f2 g2 => r = none ∧ sw2 = sw ∧ g2 = g ∧ (∀ b, b ≠ 49 → b ≠ 50 → f2 b = f b) ∧ rlOk f2 L)) := by
  refine CT.of rfl (Nat.le_of_ble_eq_true rfl) (fun X hX hR hN _ => ?_)
  have hX : Good X RX3 cX3_take (d + 2) 0 0 := hX
  have hN : x_nl X = 2 := hN
  show WP X 0 0 0 [_, _] [] _
  refine wp_aload_n hX (dk DX3_take 0 rfl) rfl ?_
  refine wp_aload_n hX (dk DX3_take 1 rfl) rfl ?_
  refine wp_aload_n hX (dk DX3_take 2 rfl) rfl ?_
  refine w_getr hX flX3_9 (dk DX3_take 3 rfl) rfl rfl ?_
  refine w_callV (As := [_]) lkX3_21 hX (dk DX3_take 4 rfl) rfl rfl (by simp [Value.category]) hN (k_copyCode d sw f g _ h) ?_
  show WP _ _ _ 9 [_, _] [_, _] _
  refine w_puti hX fpX3_25 (dk DX3_take 5 rfl) rfl ?_
  refine wp_return hX hR (dk DX3_take 6 rfl) (Nat.le_refl _) (Nat.le_refl _) ⟨_, _, _, rfl, rfl, rfl, rfl, fun b h1 h2 => by rw [u2_ne _ _ _ h1, u1_ne _ _ h2], ⟨u2_at _ _ _ _, h.2.1, fun j q hj => ?_, hl⟩⟩
  rw [u2_ne _ _ _ (by decide), u1_row, pk_cpy_in (Nat.zero_le _) (by have := (List.getElem?_eq_some_iff.mp hj).1; omega)]
  exact h.2.2 _ q (by rw [Nat.zero_add, Nat.sub_zero]; exact hj)
