/-! REFERENCE: the longest way from a set to a figure -/
def bwl (v : Nat → Int32) (q : Nat → Bool) : Nat → Int32
  | 0 => 1
  | m + 1 => if q m = true then imx (bwl v q m) (1 + v m) else bwl v q m
def BW (B : Nat → Int32) (n t : Nat) : Nat → Int32 → Int32
  | 0, _ => -2
  | k + 1, s => if jb s t = 0 then -2 else bwl (fun m => BW B n t k (B m)) (fun m => decide (¬ m = t ∧ ¬ jb s m = 0 ∧ ¬ jb (B m) t = 0)) n
theorem jb_tr {s : Int32} {i : Nat} (hi : i < 32) : ¬ jb s i = 0 ↔ bt s i = true := by
  rw [jb_bt s hi]
  by_cases c : bt s i = true
  · rw [if_pos c]; exact ⟨fun _ => c, fun _ => by decide⟩
  · rw [if_neg c]; exact ⟨fun q => absurd rfl q, fun q => absurd q c⟩
theorem k_mbtw (sw : Bool) (f : Nat → Nat → Int32) (g : Nat → Nat → Int64) (n t : Nat) (sh : Nat → Int32) (x : Int32) (hF : mFg f n sh) (ho : ofO f n sh x) (ht : t < n) : ∀ (k d i : Nat), i < 11 → (∀ j, j < n → bt (f 109 i) j = true → pct (sh j) < k) → CT (d + k + 1) 0 0 iX11_between [.ref 81, .int (nI i), .int (nI t)] (S sw f g) (QR (some (.int (BW (BB sh n) n t (k + 1) (f 109 i)))) (S sw f g)) := by
  obtain ⟨hn, hn10, hsh⟩ := hF
  intro k
  induction k with
  | zero =>
    intro d i hi hp
    have c : jb (f 109 i) t = 0 := by
      by_cases q : jb (f 109 i) t = 0
      · exact q
      · exact absurd (hp t ht ((jb_tr (by omega)).mp q)) (Nat.not_lt_zero _)
    rw [BW, if_pos c]
    refine CT.of rfl (Nat.le_of_ble_eq_true rfl) (fun X hX hR hN _ => ?_)
    have hX : Good X RX11 cX11_between (d + 0 + 1) 0 0 := hX
    have hN : x_nl X = 5 := hN
    show WP X 0 0 0 [_, _, _, _, _] [] _
    refine wp_aload_n hX (dk DX11_between 0 rfl) rfl ?_
    refine w_getr hX flX11_94 (dk DX11_between 1 rfl) rfl rfl ?_
    refine wp_iload_n hX (dk DX11_between 2 rfl) rfl ?_
    refine w_iald (j := _) hX (dk DX11_between 3 rfl) rfl rfl (show _ < 11 by omega) ?_
    refine wp_iload_n hX (dk DX11_between 4 rfl) rfl ?_
    refine w_callS (As := [_, _]) lkX11_138 hX (dk DX11_between 5 rfl) rfl (by decide) (k_mhas (d + 0) _ _ _) ?_
    show WP _ _ _ 10 [_, _, _, _, _] [_] _
    refine wp_if_ne (tgt := 16) hX (dk DX11_between 6 rfl) (by decide) (fun h_ => absurd (c) h_) (fun _ => ?_)
    refine wp_bipush (v := -2) hX (dk DX11_between 7 rfl) (by decide) ?_
    exact wp_ireturn hX hR (dk DX11_between 8 rfl) rfl (Nat.le_refl _) (Nat.le_refl _) (⟨rfl, rfl⟩)
  | succ k ih =>
    intro d i hi hp
    by_cases c : jb (f 109 i) t = 0
    · rw [BW, if_pos c]
      refine CT.of rfl (Nat.le_of_ble_eq_true rfl) (fun X hX hR hN _ => ?_)
      have hX : Good X RX11 cX11_between (d + (k + 1) + 1) 0 0 := hX
      have hN : x_nl X = 5 := hN
      show WP X 0 0 0 [_, _, _, _, _] [] _
      refine wp_aload_n hX (dk DX11_between 0 rfl) rfl ?_
      refine w_getr hX flX11_94 (dk DX11_between 1 rfl) rfl rfl ?_
      refine wp_iload_n hX (dk DX11_between 2 rfl) rfl ?_
      refine w_iald (j := _) hX (dk DX11_between 3 rfl) rfl rfl (show _ < 11 by omega) ?_
      refine wp_iload_n hX (dk DX11_between 4 rfl) rfl ?_
      refine w_callS (As := [_, _]) lkX11_138 hX (dk DX11_between 5 rfl) rfl (by decide) (k_mhas (d + (k + 1)) _ _ _) ?_
      show WP _ _ _ 10 [_, _, _, _, _] [_] _
      refine wp_if_ne (tgt := 16) hX (dk DX11_between 6 rfl) (by decide) (fun h_ => absurd (c) h_) (fun _ => ?_)
      refine wp_bipush (v := -2) hX (dk DX11_between 7 rfl) (by decide) ?_
      exact wp_ireturn hX hR (dk DX11_between 8 rfl) rfl (Nat.le_refl _) (Nat.le_refl _) (⟨rfl, rfl⟩)
    · rw [BW, if_neg c]
      refine CT.of rfl (Nat.le_of_ble_eq_true rfl) (fun X hX hR hN _ => ?_)
      have hX : Good X RX11 cX11_between (d + (k + 1) + 1) 0 0 := hX
      have hN : x_nl X = 5 := hN
      show WP X 0 0 0 [_, _, _, _, _] [] _
      obtain ⟨v, hv⟩ : ∃ v : Nat → Int32, v = fun m => BW (BB sh n) n t (k + 1) (BB sh n m) := ⟨_, rfl⟩
      obtain ⟨P, hP⟩ : ∃ P : Nat → Bool, P = fun m => decide (¬ m = t ∧ ¬ jb (f 109 i) m = 0 ∧ ¬ jb (BB sh n m) t = 0) := ⟨_, rfl⟩
      rw [← hv, ← hP] at hR
      have lo : ∀ (q m : Nat), m + q = n → WP X 0 0 21 [some (.ref 81), some (.int (nI i)), some (.int (nI t)), some (.int (bwl v P m)), some (.int (nI m))] [] (S sw f g) := by
        intro q
        induction q with
        | zero =>
          intro m hm
          obtain rfl : m = n := by omega
          refine wp_iload hX (dk DX11_between 13 rfl) rfl ?_
          refine wp_aload_n hX (dk DX11_between 14 rfl) rfl ?_
          refine w_geti hX flX11_112 (dk DX11_between 15 rfl) (by decide) rfl ?_
          rw [hn]
          refine wp_icmp_ge (tgt := 84) hX (dk DX11_between 16 rfl) (by decide) (fun _ => ?_) (fun h_ => absurd (nI_le (by omega) (by omega)) h_)
          refine wp_iload_n hX (dk DX11_between 45 rfl) rfl ?_
          exact wp_ireturn hX hR (dk DX11_between 46 rfl) rfl (Nat.le_refl _) (Nat.le_refl _) (⟨rfl, rfl⟩)
        | succ q ih2 =>
          intro m hm
          have hmn : m < n := by omega
          have next := ih2 (m + 1) (by omega)
          rw [bwl] at next
          have em : f 109 m = BB sh n m := ho.1 m hmn
          by_cases cp : ¬ m = t ∧ ¬ jb (f 109 i) m = 0 ∧ ¬ jb (BB sh n m) t = 0
          · rw [if_pos (by rw [hP]; exact decide_eq_true cp)] at next
            have hpm := hp m hmn ((jb_tr (by omega)).mp cp.2.1)
            have call := ih d m (by omega) (fun j hj hb => by rw [em] at hb; have := (jfo_pct hn10 (by omega) hb).2; omega)
            rw [em] at call
            have call2 : CT (d + (k + 1)) 0 0 iX11_between [.ref 81, .int (nI m), .int (nI t)] (S sw f g) (QR (some (.int (v m))) (S sw f g)) := by rw [hv]; exact call
            refine wp_iload hX (dk DX11_between 13 rfl) rfl ?_
            refine wp_aload_n hX (dk DX11_between 14 rfl) rfl ?_
            refine w_geti hX flX11_112 (dk DX11_between 15 rfl) (by decide) rfl ?_
            rw [hn]
            refine wp_icmp_ge (tgt := 84) hX (dk DX11_between 16 rfl) (by decide) (fun h_ => absurd h_ (nI_ge (by omega) (by omega))) (fun _ => ?_)
            refine wp_iload hX (dk DX11_between 17 rfl) rfl ?_
            refine wp_iload_n hX (dk DX11_between 18 rfl) rfl ?_
            refine wp_icmp_eq (tgt := 78) hX (dk DX11_between 19 rfl) (by decide) (fun h_ => absurd h_ (fun q => cp.1 ((nI_eq (by omega) (by omega)).mp q))) (fun _ => ?_)
            refine wp_aload_n hX (dk DX11_between 20 rfl) rfl ?_
            refine w_getr hX flX11_94 (dk DX11_between 21 rfl) rfl rfl ?_
            refine wp_iload_n hX (dk DX11_between 22 rfl) rfl ?_
            refine w_iald (j := _) hX (dk DX11_between 23 rfl) rfl rfl (show _ < 11 by omega) ?_
            refine wp_iload hX (dk DX11_between 24 rfl) rfl ?_
            refine w_callS (As := [_, _]) lkX11_138 hX (dk DX11_between 25 rfl) rfl (by decide) (k_mhas (d + (k + 1)) _ _ _) ?_
            show WP _ _ _ 47 [_, _, _, _, _] [_] _
            refine wp_if_eq (tgt := 78) hX (dk DX11_between 26 rfl) (by decide) (fun h_ => absurd h_ (cp.2.1)) (fun _ => ?_)
            refine wp_aload_n hX (dk DX11_between 27 rfl) rfl ?_
            refine w_getr hX flX11_94 (dk DX11_between 28 rfl) rfl rfl ?_
            refine wp_iload hX (dk DX11_between 29 rfl) rfl ?_
            refine w_iald (j := _) hX (dk DX11_between 30 rfl) rfl rfl (show _ < 11 by omega) ?_
            rw [em]
            refine wp_iload_n hX (dk DX11_between 31 rfl) rfl ?_
            refine w_callS (As := [_, _]) lkX11_138 hX (dk DX11_between 32 rfl) rfl (by decide) (k_mhas (d + (k + 1)) _ _ _) ?_
            show WP _ _ _ 61 [_, _, _, _, _] [_] _
            refine wp_if_eq (tgt := 78) hX (dk DX11_between 33 rfl) (by decide) (fun h_ => absurd h_ (cp.2.2)) (fun _ => ?_)
            refine wp_iload_n hX (dk DX11_between 34 rfl) rfl ?_
            refine wp_iconst (v := 1) hX (dk DX11_between 35 rfl) (by decide) ?_
            refine wp_aload_n hX (dk DX11_between 36 rfl) rfl ?_
            refine wp_iload hX (dk DX11_between 37 rfl) rfl ?_
            refine wp_iload_n hX (dk DX11_between 38 rfl) rfl ?_
            refine w_callV (As := [_, _]) lkX11_303 hX (dk DX11_between 39 rfl) rfl rfl (by simp [Value.category]) hN (call2) ?_
            show WP _ _ _ 73 [_, _, _, _, _] [_, _, _] _
            refine wp_iadd hX (dk DX11_between 40 rfl) ?_
            refine w_max hX lkX11_263 (dk DX11_between 41 rfl) (by decide) ?_
            refine wp_istore_n hX (dk DX11_between 42 rfl) rfl rfl hN (Nat.le_of_ble_eq_true rfl) ?_
            show WP _ _ _ 78 [_, _, _, _, _] [] _
            refine wp_iinc hX (dk DX11_between 43 rfl) rfl (nI_inc _) rfl hN ?_
            show WP _ _ _ 81 [_, _, _, _, _] [] _
            refine wp_goto (tgt := 21) hX (dk DX11_between 44 rfl) (by decide) ?_
            exact next
          · rw [if_neg (by rw [hP]; exact fun q => cp (of_decide_eq_true q))] at next
            refine wp_iload hX (dk DX11_between 13 rfl) rfl ?_
            refine wp_aload_n hX (dk DX11_between 14 rfl) rfl ?_
            refine w_geti hX flX11_112 (dk DX11_between 15 rfl) (by decide) rfl ?_
            rw [hn]
            refine wp_icmp_ge (tgt := 84) hX (dk DX11_between 16 rfl) (by decide) (fun h_ => absurd h_ (nI_ge (by omega) (by omega))) (fun _ => ?_)
            refine wp_iload hX (dk DX11_between 17 rfl) rfl ?_
            refine wp_iload_n hX (dk DX11_between 18 rfl) rfl ?_
            refine wp_icmp_eq (tgt := 78) hX (dk DX11_between 19 rfl) (by decide) (fun h33 => ?_) (fun h33 => ?_)
            · refine wp_iinc hX (dk DX11_between 43 rfl) rfl (nI_inc _) rfl hN ?_
              show WP _ _ _ 81 [_, _, _, _, _] [] _
              refine wp_goto (tgt := 21) hX (dk DX11_between 44 rfl) (by decide) ?_
              first | exact next | exact absurd ⟨fun q => h33 (by rw [q]), h47, h61⟩ cp
            · refine wp_aload_n hX (dk DX11_between 20 rfl) rfl ?_
              refine w_getr hX flX11_94 (dk DX11_between 21 rfl) rfl rfl ?_
              refine wp_iload_n hX (dk DX11_between 22 rfl) rfl ?_
              refine w_iald (j := _) hX (dk DX11_between 23 rfl) rfl rfl (show _ < 11 by omega) ?_
              refine wp_iload hX (dk DX11_between 24 rfl) rfl ?_
              refine w_callS (As := [_, _]) lkX11_138 hX (dk DX11_between 25 rfl) rfl (by decide) (k_mhas (d + (k + 1)) _ _ _) ?_
              show WP _ _ _ 47 [_, _, _, _, _] [_] _
              refine wp_if_eq (tgt := 78) hX (dk DX11_between 26 rfl) (by decide) (fun h47 => ?_) (fun h47 => ?_)
              · refine wp_iinc hX (dk DX11_between 43 rfl) rfl (nI_inc _) rfl hN ?_
                show WP _ _ _ 81 [_, _, _, _, _] [] _
                refine wp_goto (tgt := 21) hX (dk DX11_between 44 rfl) (by decide) ?_
                first | exact next | exact absurd ⟨fun q => h33 (by rw [q]), h47, h61⟩ cp
              · refine wp_aload_n hX (dk DX11_between 27 rfl) rfl ?_
                refine w_getr hX flX11_94 (dk DX11_between 28 rfl) rfl rfl ?_
                refine wp_iload hX (dk DX11_between 29 rfl) rfl ?_
                refine w_iald (j := _) hX (dk DX11_between 30 rfl) rfl rfl (show _ < 11 by omega) ?_
                rw [em]
                refine wp_iload_n hX (dk DX11_between 31 rfl) rfl ?_
                refine w_callS (As := [_, _]) lkX11_138 hX (dk DX11_between 32 rfl) rfl (by decide) (k_mhas (d + (k + 1)) _ _ _) ?_
                show WP _ _ _ 61 [_, _, _, _, _] [_] _
                refine wp_if_eq (tgt := 78) hX (dk DX11_between 33 rfl) (by decide) (fun h61 => ?_) (fun h61 => ?_)
                · refine wp_iinc hX (dk DX11_between 43 rfl) rfl (nI_inc _) rfl hN ?_
                  show WP _ _ _ 81 [_, _, _, _, _] [] _
                  refine wp_goto (tgt := 21) hX (dk DX11_between 44 rfl) (by decide) ?_
                  first | exact next | exact absurd ⟨fun q => h33 (by rw [q]), h47, h61⟩ cp
                · exact absurd ⟨fun q => h33 (by rw [q]), h47, h61⟩ cp
      refine wp_aload_n hX (dk DX11_between 0 rfl) rfl ?_
      refine w_getr hX flX11_94 (dk DX11_between 1 rfl) rfl rfl ?_
      refine wp_iload_n hX (dk DX11_between 2 rfl) rfl ?_
      refine w_iald (j := _) hX (dk DX11_between 3 rfl) rfl rfl (show _ < 11 by omega) ?_
      refine wp_iload_n hX (dk DX11_between 4 rfl) rfl ?_
      refine w_callS (As := [_, _]) lkX11_138 hX (dk DX11_between 5 rfl) rfl (by decide) (k_mhas (d + (k + 1)) _ _ _) ?_
      show WP _ _ _ 10 [_, _, _, _, _] [_] _
      refine wp_if_ne (tgt := 16) hX (dk DX11_between 6 rfl) (by decide) (fun _ => ?_) (fun h_ => absurd h_ (c))
      refine wp_iconst (v := 1) hX (dk DX11_between 9 rfl) (by decide) ?_
      refine wp_istore_n hX (dk DX11_between 10 rfl) rfl rfl hN (Nat.le_of_ble_eq_true rfl) ?_
      show WP _ _ _ 18 [_, _, _, _, _] [] _
      refine wp_iconst (v := 0) hX (dk DX11_between 11 rfl) (by decide) ?_
      refine wp_istore hX (dk DX11_between 12 rfl) rfl hN (Nat.le_of_ble_eq_true rfl) ?_
      show WP _ _ _ 21 [_, _, _, _, _] [] _
      exact lo n 0 (by omega)
