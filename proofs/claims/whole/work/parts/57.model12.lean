/-! REFERENCE: what a figure brings -/
theorem lcd_at {L : List (List Nat × List Nat)} {j : Nat} {l : List Nat × List Nat} (h : L[j]? = some l) : ∃ r, (lcd L).drop (lof L j) = l.1 ++ l.2 ++ r ∧ lof L j + l.1.length + l.2.length ≤ (lcd L).length := by
  obtain ⟨h1, h2⟩ := List.getElem?_eq_some_iff.mp h
  have e : L = L.take j ++ (l :: L.drop (j + 1)) := by
    rw [← h2, ← List.drop_eq_getElem_cons h1, List.take_append_drop]
  have e2 : lcd L = lcd (L.take j) ++ (l.1 ++ l.2 ++ lcd (L.drop (j + 1))) := by
    have := lcd_app (L.take j) (l :: L.drop (j + 1))
    rw [← e] at this
    exact this
  refine ⟨lcd (L.drop (j + 1)), ?_, ?_⟩
  · rw [e2]
    exact List.drop_left
  · rw [e2]
    simp [lof]
    omega
/-- the codes of a line's two parts -/
theorem mlOk.at {f : Nat → Nat → Int32} {L : List (List Nat × List Nat)} {j : Nat} {l : List Nat × List Nat} (hm : mlOk f L) (h : L[j]? = some l) : lof L j + l.1.length + l.2.length ≤ 120 ∧ (∀ (i k : Nat), l.1[i]? = some k → f 92 (lof L j + i) = nI k) ∧ (∀ (i k : Nat), l.2[i]? = some k → f 92 (lof L j + l.1.length + i) = nI k) := by
  obtain ⟨r, e1, e2⟩ := lcd_at h
  obtain ⟨_, _, _, h4, _, h6⟩ := hm
  refine ⟨by omega, fun i k hi => h6 _ _ ?_, fun i k hi => h6 _ _ ?_⟩
  · rw [← List.getElem?_drop, e1, List.append_assoc, List.getElem?_append_left (List.getElem?_eq_some_iff.mp hi).1]
    exact hi
  · rw [Nat.add_assoc, ← List.getElem?_drop, e1, List.append_assoc, List.getElem?_append_right (by omega), Nat.add_sub_cancel_left, List.getElem?_append_left (List.getElem?_eq_some_iff.mp hi).1]
    exact hi
theorem mlOk.cg {f f2 : Nat → Nat → Int32} {L : List (List Nat × List Nat)} (h : mlOk f L) (h0 : f2 81 11 = f 81 11) (h1 : f2 81 12 = f 81 12) (h2 : ∀ b, 88 < b → b < 93 → f2 b = f b) : mlOk f2 L := ⟨by rw [h0]; exact h.1, by rw [h1]; exact h.2.1, h.2.2.1, h.2.2.2.1, fun i l hi => by rw [h2 89 (by decide) (by decide), h2 90 (by decide) (by decide), h2 91 (by decide) (by decide)]; exact h.2.2.2.2.1 i l hi, fun j k hj => by rw [h2 92 (by decide) (by decide)]; exact h.2.2.2.2.2 j k hj⟩
theorem k_mbrings (d : Nat) (sw : Bool) (f : Nat → Nat → Int32) (g : Nat → Nat → Int64) (n i : Nat) (sh : Nat → Int32) (L : List (List Nat × List Nat)) (y m : Int32) (hF : mFg f n sh) (hi : i < n) (hm : mlOk f L) (hw : ∀ l ∈ L, jwl l) : CT (d + 2) 0 0 iX11_bringsIn [.ref 81, .int (nI i), .int y, .int m] (S sw f g) (QS (fun r sw2 f2 g2 => r = some (.int (jbr L (f 83 i) (f 84 i) (f 85 i) (sh i) (nI i) y m)) ∧ sw2 = sw ∧ g2 = g ∧ ∀ b, b ≠ 97 → b ≠ 98 → f2 b = f b)) := by
  obtain ⟨hn, hn10, hsh⟩ := hF
  have hi10 : i < 10 := by omega
  refine CT.of rfl (Nat.le_of_ble_eq_true rfl) (fun X hX hR hN _ => ?_)
  have hX : Good X RX11 cX11_bringsIn (d + 2) 0 0 := hX
  have hN : x_nl X = 5 := hN
  show WP X 0 0 0 [_, _, _, _, _] [] _
  obtain ⟨nm, hnm⟩ : ∃ nm, nm = jnm (f 83 i) (f 84 i) (jab (y - f 85 i)) (jpc (sh i)) m (nI i) := ⟨_, rfl⟩
  obtain ⟨f2, hf2⟩ : ∃ f2, f2 = u2 (u2 (u2 f 98 0 (f 83 i)) 98 1 (f 84 i)) 98 2 (jab (y - f 85 i)) := ⟨_, rfl⟩
  have w2 : ∀ b, b ≠ 98 → f2 b = f b := fun b hb => by rw [hf2, u2_ne _ _ _ hb, u2_ne _ _ _ hb, u2_ne _ _ _ hb]
  obtain ⟨f3, hf3⟩ : ∃ f3, f3 = u2 (u2 (u2 f2 98 3 (jpc (sh i))) 98 4 m) 98 5 (nI i) := ⟨_, rfl⟩
  have w3 : ∀ b, b ≠ 98 → f3 b = f b := fun b hb => by rw [hf3, u2_ne _ _ _ hb, u2_ne _ _ _ hb, u2_ne _ _ _ hb, w2 b hb]
  have w4 : ∀ j, j < 6 → f3 98 j = nm j := by
    intro j hj
    have : j = 0 ∨ j = 1 ∨ j = 2 ∨ j = 3 ∨ j = 4 ∨ j = 5 := by omega
    rw [hf3, hf2, hnm]
    rcases this with rfl | rfl | rfl | rfl | rfl | rfl <;> simp [u2, jnm]
  have hm3 : mlOk f3 L := hm.cg (by rw [w3 81 (by decide)]) (by rw [w3 81 (by decide)]) (fun b h1 h2 => w3 b (by omega))
  have wm : ∀ (c : List Nat) (p e : Nat) (f4 : Nat → Nat → Int32), p + c.length = e → e ≤ 120 → (∀ (i k : Nat), c[i]? = some k → f 92 (p + i) = nI k) → jwf 40 c → (∀ b, b ≠ 97 → f4 b = f3 b) → CT (d + 1) 0 0 iX11_worked [.ref 81, .int (nI p), .int (nI e)] (S sw f4 g) (QS (fun r sw2 f2 g2 => r = some (.int (jvl nm c)) ∧ sw2 = sw ∧ g2 = g ∧ ∀ b, b ≠ 97 → f2 b = f4 b)) := fun c p e f4 h1 h2 h3 h4 h5 => k_worked d sw f4 g nm c p e h1 h2 (fun i k hk => by rw [h5 92 (by decide), w3 92 (by decide)]; exact h3 i k hk) (fun j hj => by rw [h5 98 (by decide)]; exact w4 j hj) h4
  have lo : ¬ L = [] → ∀ (q j : Nat) (f4 : Nat → Nat → Int32), j + q = L.length → (∀ b, b ≠ 97 → f4 b = f3 b) → jln nm L = jln nm (L.drop j) → WP X 0 0 105 [some (.ref 81), some (.int (nI i)), some (.int y), some (.int m), some (.int (nI j))] [] (S sw f4 g) := by
    intro hL q
    have hv : jbr L (f 83 i) (f 84 i) (f 85 i) (sh i) (nI i) y m = imx 0 (imn 9999 (jln nm L)) := by rw [jbr, jlw, if_neg hL, hnm]
    rw [hv] at hR
    induction q with
    | zero =>
      intro j f4 hj h4 hl
      obtain rfl : j = L.length := by omega
      rw [List.drop_length] at hl
      rw [show jln nm L = 0 from hl] at hR
      refine wp_iload hX (dk DX11_bringsIn_1 8 rfl) rfl ?_
      refine wp_aload_n hX (dk DX11_bringsIn_1 9 rfl) rfl ?_
      refine w_geti hX flX11_252 (dk DX11_bringsIn_1 10 rfl) (by decide) rfl ?_
      rw [show f4 81 12 = nI L.length by rw [h4 81 (by decide)]; exact hm3.2.1]
      refine wp_icmp_ge (tgt := 190) hX (dk DX11_bringsIn_1 11 rfl) (by decide) (fun _ => ?_) (fun h_ => absurd (nI_le (by omega) (by have := hm.2.2.1; omega)) h_)
      refine wp_iconst (v := 0) hX (dk DX11_bringsIn_1 50 rfl) (by decide) ?_
      exact wp_ireturn hX hR (dk DX11_bringsIn_1 51 rfl) rfl (Nat.le_refl _) (Nat.le_refl _) (⟨_, _, _, rfl, rfl, rfl, rfl, fun b h1 h2 => by rw [h4 b h1, w3 b h2]⟩)
    | succ q ih =>
      intro j f4 hj h4 hl
      have hjl : j < L.length := by omega
      have hg : L[j]? = some L[j] := List.getElem?_eq_getElem hjl
      obtain ⟨l, hl0⟩ : ∃ l, l = L[j] := ⟨_, rfl⟩
      rw [← hl0] at hg
      rw [List.drop_eq_getElem_cons hjl, ← hl0] at hl
      obtain ⟨t1, t2, t3⟩ := hm.at hg
      obtain ⟨r1, r2, r3⟩ := hm.2.2.2.2.1 j l hg
      obtain ⟨z1, z2⟩ := hw l (by rw [hl0]; exact List.getElem_mem hjl)
      have hL6 := hm.2.2.1
      obtain ⟨a, b⟩ := l
      have b1 : f4 89 j = nI (lof L j) := by rw [h4 89 (by decide), w3 89 (by decide)]; exact r1
      have b2 : f4 90 j = nI (lof L j + a.length) := by rw [h4 90 (by decide), w3 90 (by decide)]; exact r2
      have b3 : f4 91 j = nI (lof L j + a.length + b.length) := by rw [h4 91 (by decide), w3 91 (by decide)]; exact r3
      have t1 : lof L j + a.length + b.length ≤ 120 := t1
      have gives : ∀ (f5 : Nat → Nat → Int32), (∀ b, b ≠ 97 → f5 b = f3 b) → jln nm L = jvl nm b → WP X 0 0 155 [some (.ref 81), some (.int (nI i)), some (.int y), some (.int m), some (.int (nI j))] [] (S sw f5 g) := by
        intro f5 h5 he
        rw [he] at hR
        have b2 : f5 90 j = nI (lof L j + a.length) := by rw [h5 90 (by decide), w3 90 (by decide)]; exact r2
        have b3 : f5 91 j = nI (lof L j + a.length + b.length) := by rw [h5 91 (by decide), w3 91 (by decide)]; exact r3
        refine wp_iconst (v := 0) hX (dk DX11_bringsIn_1 33 rfl) (by decide) ?_
        refine wp_sipush (v := 9999) hX (dk DX11_bringsIn_1 34 rfl) (by decide) ?_
        refine wp_aload_n hX (dk DX11_bringsIn_1 35 rfl) rfl ?_
        refine wp_aload_n hX (dk DX11_bringsIn_1 36 rfl) rfl ?_
        refine w_getr hX flX11_36 (dk DX11_bringsIn_1 37 rfl) rfl rfl ?_
        refine wp_iload hX (dk DX11_bringsIn_1 38 rfl) rfl ?_
        refine w_iald (j := _) hX (dk DX11_bringsIn_1 39 rfl) rfl rfl (show _ < 60 by omega) ?_
        rw [b2]
        refine wp_aload_n hX (dk DX11_bringsIn_1 40 rfl) rfl ?_
        refine w_getr hX flX11_39 (dk DX11_bringsIn_1 41 rfl) rfl rfl ?_
        refine wp_iload hX (dk DX11_bringsIn_1 42 rfl) rfl ?_
        refine w_iald (j := _) hX (dk DX11_bringsIn_1 43 rfl) rfl rfl (show _ < 60 by omega) ?_
        rw [b3]
        refine w_callVQ (As := [_, _]) lkX11_266 hX (dk DX11_bringsIn_1 44 rfl) rfl rfl (by simp [Value.category]) hN (wm b _ _ f5 rfl t1 t3 z2 h5) (fun v_ sw_ f_ g_ hq_ => ?_)
        obtain ⟨rfl, rfl, rfl, e1⟩ := hq_
        show WP _ _ _ 177 [_, _, _, _, _] [_, _, _] _
        refine w_min hX lkX11_269 (dk DX11_bringsIn_1 45 rfl) (by simp [Value.category]) ?_
        refine w_max hX lkX11_263 (dk DX11_bringsIn_1 46 rfl) (by decide) ?_
        exact wp_ireturn hX hR (dk DX11_bringsIn_1 47 rfl) rfl (Nat.le_refl _) (Nat.le_refl _) (⟨_, _, _, rfl, rfl, rfl, rfl, fun b h1 h2 => by rw [e1 b h1, h5 b h1, w3 b h2]⟩)
      by_cases ca : a = []
      · subst ca
        refine wp_iload hX (dk DX11_bringsIn_1 8 rfl) rfl ?_
        refine wp_aload_n hX (dk DX11_bringsIn_1 9 rfl) rfl ?_
        refine w_geti hX flX11_252 (dk DX11_bringsIn_1 10 rfl) (by decide) rfl ?_
        rw [show f4 81 12 = nI L.length by rw [h4 81 (by decide)]; exact hm3.2.1]
        refine wp_icmp_ge (tgt := 190) hX (dk DX11_bringsIn_1 11 rfl) (by decide) (fun h_ => absurd h_ (nI_ge (by omega) (by omega))) (fun _ => ?_)
        refine wp_aload_n hX (dk DX11_bringsIn_1 12 rfl) rfl ?_
        refine w_getr hX flX11_36 (dk DX11_bringsIn_1 13 rfl) rfl rfl ?_
        refine wp_iload hX (dk DX11_bringsIn_1 14 rfl) rfl ?_
        refine w_iald (j := _) hX (dk DX11_bringsIn_1 15 rfl) rfl rfl (show _ < 60 by omega) ?_
        rw [b2]
        refine wp_aload_n hX (dk DX11_bringsIn_1 16 rfl) rfl ?_
        refine w_getr hX flX11_33 (dk DX11_bringsIn_1 17 rfl) rfl rfl ?_
        refine wp_iload hX (dk DX11_bringsIn_1 18 rfl) rfl ?_
        refine w_iald (j := _) hX (dk DX11_bringsIn_1 19 rfl) rfl rfl (show _ < 60 by omega) ?_
        rw [b1]
        refine wp_icmp_le (tgt := 155) hX (dk DX11_bringsIn_1 20 rfl) (by decide) (fun _ => ?_) (fun h_ => absurd (nI_le (by simp) (by omega)) h_)
        exact gives f4 h4 (by rw [hl, jln, if_neg (fun q => q.1 rfl)])
      · have hal : 0 < a.length := List.length_pos_iff.mpr ca
        have wa : jwf 40 a := z1.resolve_left ca
        by_cases cv : jvl nm a = 0
        · rw [jln, if_pos ⟨ca, cv⟩] at hl
          refine wp_iload hX (dk DX11_bringsIn_1 8 rfl) rfl ?_
          refine wp_aload_n hX (dk DX11_bringsIn_1 9 rfl) rfl ?_
          refine w_geti hX flX11_252 (dk DX11_bringsIn_1 10 rfl) (by decide) rfl ?_
          rw [show f4 81 12 = nI L.length by rw [h4 81 (by decide)]; exact hm3.2.1]
          refine wp_icmp_ge (tgt := 190) hX (dk DX11_bringsIn_1 11 rfl) (by decide) (fun h_ => absurd h_ (nI_ge (by omega) (by omega))) (fun _ => ?_)
          refine wp_aload_n hX (dk DX11_bringsIn_1 12 rfl) rfl ?_
          refine w_getr hX flX11_36 (dk DX11_bringsIn_1 13 rfl) rfl rfl ?_
          refine wp_iload hX (dk DX11_bringsIn_1 14 rfl) rfl ?_
          refine w_iald (j := _) hX (dk DX11_bringsIn_1 15 rfl) rfl rfl (show _ < 60 by omega) ?_
          rw [b2]
          refine wp_aload_n hX (dk DX11_bringsIn_1 16 rfl) rfl ?_
          refine w_getr hX flX11_33 (dk DX11_bringsIn_1 17 rfl) rfl rfl ?_
          refine wp_iload hX (dk DX11_bringsIn_1 18 rfl) rfl ?_
          refine w_iald (j := _) hX (dk DX11_bringsIn_1 19 rfl) rfl rfl (show _ < 60 by omega) ?_
          rw [b1]
          refine wp_icmp_le (tgt := 155) hX (dk DX11_bringsIn_1 20 rfl) (by decide) (fun h_ => absurd h_ (nI_ge (by omega) (by omega))) (fun _ => ?_)
          refine wp_aload_n hX (dk DX11_bringsIn_1 21 rfl) rfl ?_
          refine wp_aload_n hX (dk DX11_bringsIn_1 22 rfl) rfl ?_
          refine w_getr hX flX11_33 (dk DX11_bringsIn_1 23 rfl) rfl rfl ?_
          refine wp_iload hX (dk DX11_bringsIn_1 24 rfl) rfl ?_
          refine w_iald (j := _) hX (dk DX11_bringsIn_1 25 rfl) rfl rfl (show _ < 60 by omega) ?_
          rw [b1]
          refine wp_aload_n hX (dk DX11_bringsIn_1 26 rfl) rfl ?_
          refine w_getr hX flX11_36 (dk DX11_bringsIn_1 27 rfl) rfl rfl ?_
          refine wp_iload hX (dk DX11_bringsIn_1 28 rfl) rfl ?_
          refine w_iald (j := _) hX (dk DX11_bringsIn_1 29 rfl) rfl rfl (show _ < 60 by omega) ?_
          rw [b2]
          refine w_callVQ (As := [_, _]) lkX11_266 hX (dk DX11_bringsIn_1 30 rfl) rfl rfl (by decide) hN (wm a _ _ f4 rfl (by omega) t2 wa h4) (fun v_ sw_ f_ g_ hq_ => ?_)
          obtain ⟨rfl, rfl, rfl, e1⟩ := hq_
          show WP _ _ _ 149 [_, _, _, _, _] [_] _
          refine wp_if_ne (tgt := 155) hX (dk DX11_bringsIn_1 31 rfl) (by decide) (fun h_ => absurd (cv) h_) (fun _ => ?_)
          refine wp_goto (tgt := 184) hX (dk DX11_bringsIn_1 32 rfl) (by decide) ?_
          refine wp_iinc hX (dk DX11_bringsIn_1 48 rfl) rfl (nI_inc _) rfl hN ?_
          show WP _ _ _ 187 [_, _, _, _, _] [] _
          refine wp_goto (tgt := 105) hX (dk DX11_bringsIn_1 49 rfl) (by decide) ?_
          exact ih (j + 1) f_ (by omega) (fun b hb => by rw [e1 b hb, h4 b hb]) hl
        · refine wp_iload hX (dk DX11_bringsIn_1 8 rfl) rfl ?_
          refine wp_aload_n hX (dk DX11_bringsIn_1 9 rfl) rfl ?_
          refine w_geti hX flX11_252 (dk DX11_bringsIn_1 10 rfl) (by decide) rfl ?_
          rw [show f4 81 12 = nI L.length by rw [h4 81 (by decide)]; exact hm3.2.1]
          refine wp_icmp_ge (tgt := 190) hX (dk DX11_bringsIn_1 11 rfl) (by decide) (fun h_ => absurd h_ (nI_ge (by omega) (by omega))) (fun _ => ?_)
          refine wp_aload_n hX (dk DX11_bringsIn_1 12 rfl) rfl ?_
          refine w_getr hX flX11_36 (dk DX11_bringsIn_1 13 rfl) rfl rfl ?_
          refine wp_iload hX (dk DX11_bringsIn_1 14 rfl) rfl ?_
          refine w_iald (j := _) hX (dk DX11_bringsIn_1 15 rfl) rfl rfl (show _ < 60 by omega) ?_
          rw [b2]
          refine wp_aload_n hX (dk DX11_bringsIn_1 16 rfl) rfl ?_
          refine w_getr hX flX11_33 (dk DX11_bringsIn_1 17 rfl) rfl rfl ?_
          refine wp_iload hX (dk DX11_bringsIn_1 18 rfl) rfl ?_
          refine w_iald (j := _) hX (dk DX11_bringsIn_1 19 rfl) rfl rfl (show _ < 60 by omega) ?_
          rw [b1]
          refine wp_icmp_le (tgt := 155) hX (dk DX11_bringsIn_1 20 rfl) (by decide) (fun h_ => absurd h_ (nI_ge (by omega) (by omega))) (fun _ => ?_)
          refine wp_aload_n hX (dk DX11_bringsIn_1 21 rfl) rfl ?_
          refine wp_aload_n hX (dk DX11_bringsIn_1 22 rfl) rfl ?_
          refine w_getr hX flX11_33 (dk DX11_bringsIn_1 23 rfl) rfl rfl ?_
          refine wp_iload hX (dk DX11_bringsIn_1 24 rfl) rfl ?_
          refine w_iald (j := _) hX (dk DX11_bringsIn_1 25 rfl) rfl rfl (show _ < 60 by omega) ?_
          rw [b1]
          refine wp_aload_n hX (dk DX11_bringsIn_1 26 rfl) rfl ?_
          refine w_getr hX flX11_36 (dk DX11_bringsIn_1 27 rfl) rfl rfl ?_
          refine wp_iload hX (dk DX11_bringsIn_1 28 rfl) rfl ?_
          refine w_iald (j := _) hX (dk DX11_bringsIn_1 29 rfl) rfl rfl (show _ < 60 by omega) ?_
          rw [b2]
          refine w_callVQ (As := [_, _]) lkX11_266 hX (dk DX11_bringsIn_1 30 rfl) rfl rfl (by decide) hN (wm a _ _ f4 rfl (by omega) t2 wa h4) (fun v_ sw_ f_ g_ hq_ => ?_)
          obtain ⟨rfl, rfl, rfl, e1⟩ := hq_
          show WP _ _ _ 149 [_, _, _, _, _] [_] _
          refine wp_if_ne (tgt := 155) hX (dk DX11_bringsIn_1 31 rfl) (by decide) (fun _ => ?_) (fun h_ => absurd h_ (cv))
          exact gives f_ (fun b hb => by rw [e1 b hb, h4 b hb]) (by rw [hl, jln, if_neg (fun q => cv q.2)])
  by_cases hL : L = []
  · have hv : jbr L (f 83 i) (f 84 i) (f 85 i) (sh i) (nI i) y m = imx 0 (f 83 i - f 84 i * jab (y - f 85 i)) := by rw [jbr, jlw, if_pos hL]
    rw [hv] at hR
    refine wp_aload_n hX (dk DX11_bringsIn 0 rfl) rfl ?_
    refine w_getr hX flX11_60 (dk DX11_bringsIn 1 rfl) rfl rfl ?_
    refine wp_iconst (v := 0) hX (dk DX11_bringsIn 2 rfl) (by decide) ?_
    refine wp_aload_n hX (dk DX11_bringsIn 3 rfl) rfl ?_
    refine w_getr hX flX11_15 (dk DX11_bringsIn 4 rfl) rfl rfl ?_
    refine wp_iload_n hX (dk DX11_bringsIn 5 rfl) rfl ?_
    refine w_iald (j := _) hX (dk DX11_bringsIn 6 rfl) rfl rfl (show _ < 10 by omega) ?_
    refine w_iast (j := 0) hX (dk DX11_bringsIn 7 rfl) rfl rfl (by decide) ?_
    refine wp_aload_n hX (dk DX11_bringsIn 8 rfl) rfl ?_
    refine w_getr hX flX11_60 (dk DX11_bringsIn 9 rfl) rfl rfl ?_
    refine wp_iconst (v := 1) hX (dk DX11_bringsIn 10 rfl) (by decide) ?_
    refine wp_aload_n hX (dk DX11_bringsIn 11 rfl) rfl ?_
    refine w_getr hX flX11_18 (dk DX11_bringsIn 12 rfl) rfl rfl ?_
    refine wp_iload_n hX (dk DX11_bringsIn 13 rfl) rfl ?_
    refine w_iald (j := _) hX (dk DX11_bringsIn 14 rfl) rfl rfl (show _ < 10 by omega) ?_
    rw [u2_ne _ _ _ (by decide)]
    refine w_iast (j := 1) hX (dk DX11_bringsIn 15 rfl) rfl rfl (by decide) ?_
    refine wp_aload_n hX (dk DX11_bringsIn 16 rfl) rfl ?_
    refine w_getr hX flX11_60 (dk DX11_bringsIn 17 rfl) rfl rfl ?_
    refine wp_iconst (v := 2) hX (dk DX11_bringsIn 18 rfl) (by decide) ?_
    refine wp_iload_n hX (dk DX11_bringsIn 19 rfl) rfl ?_
    refine wp_aload_n hX (dk DX11_bringsIn 20 rfl) rfl ?_
    refine w_getr hX flX11_21 (dk DX11_bringsIn 21 rfl) rfl rfl ?_
    refine wp_iload_n hX (dk DX11_bringsIn 22 rfl) rfl ?_
    refine w_iald (j := _) hX (dk DX11_bringsIn 23 rfl) rfl rfl (show _ < 10 by omega) ?_
    rw [u2_ne _ _ _ (by decide), u2_ne _ _ _ (by decide)]
    refine wp_isub hX (dk DX11_bringsIn 24 rfl) ?_
    refine w_abs hX lkX11_258 (dk DX11_bringsIn 25 rfl) (by simp [Value.category]) ?_
    refine w_iast (j := 2) hX (dk DX11_bringsIn 26 rfl) rfl rfl (by decide) ?_
    rw [show (if 0 ≤ y - f 85 i then y - f 85 i else 0 - (y - f 85 i)) = jab (y - f 85 i) from rfl, ← hf2]
    refine wp_aload_n hX (dk DX11_bringsIn 27 rfl) rfl ?_
    refine w_getr hX flX11_60 (dk DX11_bringsIn 28 rfl) rfl rfl ?_
    refine wp_iconst (v := 3) hX (dk DX11_bringsIn 29 rfl) (by decide) ?_
    refine wp_aload_n hX (dk DX11_bringsIn 30 rfl) rfl ?_
    refine w_getr hX flX11_9 (dk DX11_bringsIn 31 rfl) rfl rfl ?_
    refine wp_iload_n hX (dk DX11_bringsIn 32 rfl) rfl ?_
    refine w_iald (j := _) hX (dk DX11_bringsIn 33 rfl) rfl rfl (show _ < 10 by omega) ?_
    rw [w2 82 (by decide), (hsh i hi).1]
    refine w_callS (As := [_]) lkX11_156 hX (dk DX11_bringsIn 34 rfl) rfl (by simp [Value.category]) (k_mcells d sw f2 g _) ?_
    show WP _ _ _ 55 [_, _, _, _, _] [_, _, _] _
    refine w_iast (j := 3) hX (dk DX11_bringsIn 35 rfl) rfl rfl (by decide) ?_
    refine wp_aload_n hX (dk DX11_bringsIn 36 rfl) rfl ?_
    refine w_getr hX flX11_60 (dk DX11_bringsIn 37 rfl) rfl rfl ?_
    refine wp_iconst (v := 4) hX (dk DX11_bringsIn 38 rfl) (by decide) ?_
    refine wp_iload_n hX (dk DX11_bringsIn 39 rfl) rfl ?_
    refine w_iast (j := 4) hX (dk DX11_bringsIn 40 rfl) rfl rfl (by decide) ?_
    refine wp_aload_n hX (dk DX11_bringsIn 41 rfl) rfl ?_
    refine w_getr hX flX11_60 (dk DX11_bringsIn 42 rfl) rfl rfl ?_
    refine wp_iconst (v := 5) hX (dk DX11_bringsIn 43 rfl) (by decide) ?_
    refine wp_iload_n hX (dk DX11_bringsIn 44 rfl) rfl ?_
    refine w_iast (j := 5) hX (dk DX11_bringsIn 45 rfl) rfl rfl (by decide) ?_
    rw [← hf3]
    refine wp_aload_n hX (dk DX11_bringsIn 46 rfl) rfl ?_
    refine w_geti hX flX11_248 (dk DX11_bringsIn 47 rfl) (by decide) rfl ?_
    rw [show f3 81 11 = 0 by rw [hm3.1, if_pos hL]]
    refine wp_if_ne (tgt := 102) hX (dk DX11_bringsIn 48 rfl) (by decide) (fun h_ => absurd (rfl) h_) (fun _ => ?_)
    refine wp_iconst (v := 0) hX (dk DX11_bringsIn 49 rfl) (by decide) ?_
    refine wp_aload_n hX (dk DX11_bringsIn 50 rfl) rfl ?_
    refine w_getr hX flX11_15 (dk DX11_bringsIn 51 rfl) rfl rfl ?_
    refine wp_iload_n hX (dk DX11_bringsIn 52 rfl) rfl ?_
    refine w_iald (j := _) hX (dk DX11_bringsIn 53 rfl) rfl rfl (show _ < 10 by omega) ?_
    rw [w3 83 (by decide)]
    refine wp_aload_n hX (dk DX11_bringsIn 54 rfl) rfl ?_
    refine w_getr hX flX11_18 (dk DX11_bringsIn 55 rfl) rfl rfl ?_
    refine wp_iload_n hX (dk DX11_bringsIn 56 rfl) rfl ?_
    refine w_iald (j := _) hX (dk DX11_bringsIn 57 rfl) rfl rfl (show _ < 10 by omega) ?_
    rw [w3 84 (by decide)]
    refine wp_aload_n hX (dk DX11_bringsIn 58 rfl) rfl ?_
    refine w_getr hX flX11_60 (dk DX11_bringsIn 59 rfl) rfl rfl ?_
    refine wp_iconst (v := 2) hX (dk DX11_bringsIn_1 0 rfl) (by decide) ?_
    refine w_iald (j := 2) hX (dk DX11_bringsIn_1 1 rfl) rfl rfl (by decide) ?_
    rw [show f3 98 2 = jab (y - f 85 i) by rw [w4 2 (by decide), hnm]; rfl]
    refine wp_imul hX (dk DX11_bringsIn_1 2 rfl) ?_
    refine wp_isub hX (dk DX11_bringsIn_1 3 rfl) ?_
    refine w_max hX lkX11_263 (dk DX11_bringsIn_1 4 rfl) (by decide) ?_
    exact wp_ireturn hX hR (dk DX11_bringsIn_1 5 rfl) rfl (Nat.le_refl _) (Nat.le_refl _) (⟨_, _, _, rfl, rfl, rfl, rfl, fun b h1 h2 => w3 b h2⟩)
  · refine wp_aload_n hX (dk DX11_bringsIn 0 rfl) rfl ?_
    refine w_getr hX flX11_60 (dk DX11_bringsIn 1 rfl) rfl rfl ?_
    refine wp_iconst (v := 0) hX (dk DX11_bringsIn 2 rfl) (by decide) ?_
    refine wp_aload_n hX (dk DX11_bringsIn 3 rfl) rfl ?_
    refine w_getr hX flX11_15 (dk DX11_bringsIn 4 rfl) rfl rfl ?_
    refine wp_iload_n hX (dk DX11_bringsIn 5 rfl) rfl ?_
    refine w_iald (j := _) hX (dk DX11_bringsIn 6 rfl) rfl rfl (show _ < 10 by omega) ?_
    refine w_iast (j := 0) hX (dk DX11_bringsIn 7 rfl) rfl rfl (by decide) ?_
    refine wp_aload_n hX (dk DX11_bringsIn 8 rfl) rfl ?_
    refine w_getr hX flX11_60 (dk DX11_bringsIn 9 rfl) rfl rfl ?_
    refine wp_iconst (v := 1) hX (dk DX11_bringsIn 10 rfl) (by decide) ?_
    refine wp_aload_n hX (dk DX11_bringsIn 11 rfl) rfl ?_
    refine w_getr hX flX11_18 (dk DX11_bringsIn 12 rfl) rfl rfl ?_
    refine wp_iload_n hX (dk DX11_bringsIn 13 rfl) rfl ?_
    refine w_iald (j := _) hX (dk DX11_bringsIn 14 rfl) rfl rfl (show _ < 10 by omega) ?_
    rw [u2_ne _ _ _ (by decide)]
    refine w_iast (j := 1) hX (dk DX11_bringsIn 15 rfl) rfl rfl (by decide) ?_
    refine wp_aload_n hX (dk DX11_bringsIn 16 rfl) rfl ?_
    refine w_getr hX flX11_60 (dk DX11_bringsIn 17 rfl) rfl rfl ?_
    refine wp_iconst (v := 2) hX (dk DX11_bringsIn 18 rfl) (by decide) ?_
    refine wp_iload_n hX (dk DX11_bringsIn 19 rfl) rfl ?_
    refine wp_aload_n hX (dk DX11_bringsIn 20 rfl) rfl ?_
    refine w_getr hX flX11_21 (dk DX11_bringsIn 21 rfl) rfl rfl ?_
    refine wp_iload_n hX (dk DX11_bringsIn 22 rfl) rfl ?_
    refine w_iald (j := _) hX (dk DX11_bringsIn 23 rfl) rfl rfl (show _ < 10 by omega) ?_
    rw [u2_ne _ _ _ (by decide), u2_ne _ _ _ (by decide)]
    refine wp_isub hX (dk DX11_bringsIn 24 rfl) ?_
    refine w_abs hX lkX11_258 (dk DX11_bringsIn 25 rfl) (by simp [Value.category]) ?_
    refine w_iast (j := 2) hX (dk DX11_bringsIn 26 rfl) rfl rfl (by decide) ?_
    rw [show (if 0 ≤ y - f 85 i then y - f 85 i else 0 - (y - f 85 i)) = jab (y - f 85 i) from rfl, ← hf2]
    refine wp_aload_n hX (dk DX11_bringsIn 27 rfl) rfl ?_
    refine w_getr hX flX11_60 (dk DX11_bringsIn 28 rfl) rfl rfl ?_
    refine wp_iconst (v := 3) hX (dk DX11_bringsIn 29 rfl) (by decide) ?_
    refine wp_aload_n hX (dk DX11_bringsIn 30 rfl) rfl ?_
    refine w_getr hX flX11_9 (dk DX11_bringsIn 31 rfl) rfl rfl ?_
    refine wp_iload_n hX (dk DX11_bringsIn 32 rfl) rfl ?_
    refine w_iald (j := _) hX (dk DX11_bringsIn 33 rfl) rfl rfl (show _ < 10 by omega) ?_
    rw [w2 82 (by decide), (hsh i hi).1]
    refine w_callS (As := [_]) lkX11_156 hX (dk DX11_bringsIn 34 rfl) rfl (by simp [Value.category]) (k_mcells d sw f2 g _) ?_
    show WP _ _ _ 55 [_, _, _, _, _] [_, _, _] _
    refine w_iast (j := 3) hX (dk DX11_bringsIn 35 rfl) rfl rfl (by decide) ?_
    refine wp_aload_n hX (dk DX11_bringsIn 36 rfl) rfl ?_
    refine w_getr hX flX11_60 (dk DX11_bringsIn 37 rfl) rfl rfl ?_
    refine wp_iconst (v := 4) hX (dk DX11_bringsIn 38 rfl) (by decide) ?_
    refine wp_iload_n hX (dk DX11_bringsIn 39 rfl) rfl ?_
    refine w_iast (j := 4) hX (dk DX11_bringsIn 40 rfl) rfl rfl (by decide) ?_
    refine wp_aload_n hX (dk DX11_bringsIn 41 rfl) rfl ?_
    refine w_getr hX flX11_60 (dk DX11_bringsIn 42 rfl) rfl rfl ?_
    refine wp_iconst (v := 5) hX (dk DX11_bringsIn 43 rfl) (by decide) ?_
    refine wp_iload_n hX (dk DX11_bringsIn 44 rfl) rfl ?_
    refine w_iast (j := 5) hX (dk DX11_bringsIn 45 rfl) rfl rfl (by decide) ?_
    rw [← hf3]
    refine wp_aload_n hX (dk DX11_bringsIn 46 rfl) rfl ?_
    refine w_geti hX flX11_248 (dk DX11_bringsIn 47 rfl) (by decide) rfl ?_
    rw [show f3 81 11 = 1 by rw [hm3.1, if_neg hL]]
    refine wp_if_ne (tgt := 102) hX (dk DX11_bringsIn 48 rfl) (by decide) (fun _ => ?_) (fun h_ => absurd h_ (by decide))
    refine wp_iconst (v := 0) hX (dk DX11_bringsIn_1 6 rfl) (by decide) ?_
    refine wp_istore hX (dk DX11_bringsIn_1 7 rfl) rfl hN (Nat.le_of_ble_eq_true rfl) ?_
    show WP _ _ _ 105 [_, _, _, _, _] [] _
    exact lo hL L.length 0 f3 (by omega) (fun _ _ => rfl) rfl
theorem u_brings0 (d : Nat) (sw : Bool) (f : Nat → Nat → Int32) (g : Nat → Nat → Int64) (n : Nat) (x y q : Int32) (hn : f 81 0 = nI n) (hn10 : n ≤ 10) (h : ¬ ((∃ i, i < n ∧ x = nI i) ∧ (∃ z, z < 100 ∧ y = nI z) ∧ ∃ k, k < 100 ∧ q = nI k)) : CT (d + 110) 0 0 iX11_brings [.ref 81, .int x, .int y, .int q] (S sw f g) (rdM g f (-1)) := by
  refine CT.rdM ?_
  refine CT.of rfl (Nat.le_of_ble_eq_true rfl) (fun X hX hR hN _ => ?_)
  have hX : Good X RX11 cX11_brings (d + 110) 0 0 := hX
  have hN : x_nl X = 4 := hN
  show WP X 0 0 0 [_, _, _, _] [] _
  by_cases c1 : ∃ i, i < n ∧ x = nI i
  · obtain ⟨i, hi, rfl⟩ := c1
    by_cases c2 : ∃ z, z < 100 ∧ y = nI z
    · obtain ⟨z, hz, rfl⟩ := c2
      refine wp_aload_n hX (dk DX11_brings 0 rfl) rfl ?_
      refine wp_iload_n hX (dk DX11_brings 1 rfl) rfl ?_
      refine w_callV (As := [_]) lkX11_127 hX (dk DX11_brings 2 rfl) rfl rfl (by decide) hN (k_mF1 (d + 108) sw f g n i hn hn10 hi) ?_
      show WP _ _ _ 5 [_, _, _, _] [_] _
      refine wp_if_eq (tgt := 32) hX (dk DX11_brings 3 rfl) (by decide) (fun h_ => absurd h_ (by decide)) (fun _ => ?_)
      refine wp_iload_n hX (dk DX11_brings 4 rfl) rfl ?_
      refine w_callS (As := [_]) lkX11_272 hX (dk DX11_brings 5 rfl) rfl (by decide) (k_mY1 (d + 108) sw f g z hz) ?_
      show WP _ _ _ 12 [_, _, _, _] [_] _
      refine wp_if_eq (tgt := 32) hX (dk DX11_brings 6 rfl) (by decide) (fun h_ => absurd h_ (by decide)) (fun _ => ?_)
      refine wp_iload_n hX (dk DX11_brings 7 rfl) rfl ?_
      refine w_callS (As := [_]) lkX11_272 hX (dk DX11_brings 8 rfl) rfl (by decide) (k_mY0 (d + 108) sw f g q (fun q2 => h ⟨⟨i, hi, rfl⟩, ⟨z, hz, rfl⟩, q2⟩)) ?_
      show WP _ _ _ 19 [_, _, _, _] [_] _
      refine wp_if_eq (tgt := 32) hX (dk DX11_brings 9 rfl) (by decide) (fun _ => ?_) (fun h_ => absurd (rfl) h_)
      refine wp_iconst (v := -1) hX (dk DX11_brings 16 rfl) (by decide) ?_
      exact wp_ireturn hX hR (dk DX11_brings 17 rfl) rfl (Nat.le_refl _) (Nat.le_refl _) (⟨rfl, rfl⟩)
    · refine wp_aload_n hX (dk DX11_brings 0 rfl) rfl ?_
      refine wp_iload_n hX (dk DX11_brings 1 rfl) rfl ?_
      refine w_callV (As := [_]) lkX11_127 hX (dk DX11_brings 2 rfl) rfl rfl (by decide) hN (k_mF1 (d + 108) sw f g n i hn hn10 hi) ?_
      show WP _ _ _ 5 [_, _, _, _] [_] _
      refine wp_if_eq (tgt := 32) hX (dk DX11_brings 3 rfl) (by decide) (fun h_ => absurd h_ (by decide)) (fun _ => ?_)
      refine wp_iload_n hX (dk DX11_brings 4 rfl) rfl ?_
      refine w_callS (As := [_]) lkX11_272 hX (dk DX11_brings 5 rfl) rfl (by decide) (k_mY0 (d + 108) sw f g y c2) ?_
      show WP _ _ _ 12 [_, _, _, _] [_] _
      refine wp_if_eq (tgt := 32) hX (dk DX11_brings 6 rfl) (by decide) (fun _ => ?_) (fun h_ => absurd (rfl) h_)
      refine wp_iconst (v := -1) hX (dk DX11_brings 16 rfl) (by decide) ?_
      exact wp_ireturn hX hR (dk DX11_brings 17 rfl) rfl (Nat.le_refl _) (Nat.le_refl _) (⟨rfl, rfl⟩)
  · refine wp_aload_n hX (dk DX11_brings 0 rfl) rfl ?_
    refine wp_iload_n hX (dk DX11_brings 1 rfl) rfl ?_
    refine w_callV (As := [_]) lkX11_127 hX (dk DX11_brings 2 rfl) rfl rfl (by decide) hN (k_mF0 (d + 108) sw f g n x hn hn10 c1) ?_
    show WP _ _ _ 5 [_, _, _, _] [_] _
    refine wp_if_eq (tgt := 32) hX (dk DX11_brings 3 rfl) (by decide) (fun _ => ?_) (fun h_ => absurd (rfl) h_)
    refine wp_iconst (v := -1) hX (dk DX11_brings 16 rfl) (by decide) ?_
    exact wp_ireturn hX hR (dk DX11_brings 17 rfl) rfl (Nat.le_refl _) (Nat.le_refl _) (⟨rfl, rfl⟩)
theorem u_brings1 (d : Nat) (sw : Bool) (f : Nat → Nat → Int32) (g : Nat → Nat → Int64) (n i y k : Nat) (sh : Nat → Int32) (L : List (List Nat × List Nat)) (hF : mFg f n sh) (hm : mlOk f L) (hw : ∀ l ∈ L, jwl l) (hi : i < n) (hy : y < 100) (hk : k < 100) : CT (d + 110) 0 0 iX11_brings [.ref 81, .int (nI i), .int (nI y), .int (nI k)] (S sw f g) (rdM g f (jbr L (f 83 i) (f 84 i) (f 85 i) (sh i) (nI i) (nI y) (nI k))) := by
  refine CT.of rfl (Nat.le_of_ble_eq_true rfl) (fun X hX hR hN _ => ?_)
  have hX : Good X RX11 cX11_brings (d + 110) 0 0 := hX
  have hN : x_nl X = 4 := hN
  show WP X 0 0 0 [_, _, _, _] [] _
  refine wp_aload_n hX (dk DX11_brings 0 rfl) rfl ?_
  refine wp_iload_n hX (dk DX11_brings 1 rfl) rfl ?_
  refine w_callV (As := [_]) lkX11_127 hX (dk DX11_brings 2 rfl) rfl rfl (by decide) hN (k_mF1 (d + 108) sw f g n i hF.1 hF.2.1 hi) ?_
  show WP _ _ _ 5 [_, _, _, _] [_] _
  refine wp_if_eq (tgt := 32) hX (dk DX11_brings 3 rfl) (by decide) (fun h_ => absurd h_ (by decide)) (fun _ => ?_)
  refine wp_iload_n hX (dk DX11_brings 4 rfl) rfl ?_
  refine w_callS (As := [_]) lkX11_272 hX (dk DX11_brings 5 rfl) rfl (by decide) (k_mY1 (d + 108) sw f g y hy) ?_
  show WP _ _ _ 12 [_, _, _, _] [_] _
  refine wp_if_eq (tgt := 32) hX (dk DX11_brings 6 rfl) (by decide) (fun h_ => absurd h_ (by decide)) (fun _ => ?_)
  refine wp_iload_n hX (dk DX11_brings 7 rfl) rfl ?_
  refine w_callS (As := [_]) lkX11_272 hX (dk DX11_brings 8 rfl) rfl (by decide) (k_mY1 (d + 108) sw f g k hk) ?_
  show WP _ _ _ 19 [_, _, _, _] [_] _
  refine wp_if_eq (tgt := 32) hX (dk DX11_brings 9 rfl) (by decide) (fun h_ => absurd h_ (by decide)) (fun _ => ?_)
  refine wp_aload_n hX (dk DX11_brings 10 rfl) rfl ?_
  refine wp_iload_n hX (dk DX11_brings 11 rfl) rfl ?_
  refine wp_iload_n hX (dk DX11_brings 12 rfl) rfl ?_
  refine wp_iload_n hX (dk DX11_brings 13 rfl) rfl ?_
  refine w_callVQ (As := [_, _, _]) lkX11_275 hX (dk DX11_brings 14 rfl) rfl rfl (by decide) hN (k_mbrings (d + 107) sw f g n i sh L _ _ hF hi hm hw) (fun v_ sw_ f_ g_ hq_ => ?_)
  obtain ⟨rfl, rfl, rfl, e1⟩ := hq_
  show WP _ _ _ 29 [_, _, _, _] [_] _
  refine wp_goto (tgt := 33) hX (dk DX11_brings 15 rfl) (by decide) ?_
  exact wp_ireturn hX hR (dk DX11_brings 17 rfl) rfl (Nat.le_refl _) (Nat.le_refl _) (⟨_, _, _, rfl, rfl, rfl, ⟨fun b h1 h2 h3 => e1 b (by omega) (by omega), fun i _ => by rw [e1 81 (by decide) (by decide)]⟩⟩)
