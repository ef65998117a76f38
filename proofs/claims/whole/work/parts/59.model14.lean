/-! REFERENCE: rows of figures -/
theorem k_mmost (d : Nat) (sw : Bool) (f : Nat → Nat → Int32) (g : Nat → Nat → Int64) (n i : Nat) (s : Int32) (hn : f 81 0 = nI n) (hn10 : n ≤ 10) (hi : i < 11) : CT (d + 2) 0 0 iX11_mostOf [.ref 81, .int (nI i), .int s] (S sw f g) (QR (some (.int (jmx (fun j => f 110 j + 1) (f 109 i &&& s) n))) (S sw f g)) := by
  refine CT.of rfl (Nat.le_of_ble_eq_true rfl) (fun X hX hR hN _ => ?_)
  have hX : Good X RX11 cX11_mostOf (d + 2) 0 0 := hX
  have hN : x_nl X = 5 := hN
  show WP X 0 0 0 [_, _, _, _, _] [] _
  have lo : ∀ (m j : Nat), j + m = n → WP X 0 0 5 [some (.ref 81), some (.int (nI i)), some (.int s), some (.int (jmx (fun j => f 110 j + 1) (f 109 i &&& s) j)), some (.int (nI j))] [] (S sw f g) := by
    intro m
    induction m with
    | zero =>
      intro j hj
      obtain rfl : j = n := by omega
      refine wp_iload hX (dk DX11_mostOf 4 rfl) rfl ?_
      refine wp_aload_n hX (dk DX11_mostOf 5 rfl) rfl ?_
      refine w_geti hX flX11_112 (dk DX11_mostOf 6 rfl) (by decide) rfl ?_
      rw [hn]
      refine wp_icmp_ge (tgt := 50) hX (dk DX11_mostOf 7 rfl) (by decide) (fun _ => ?_) (fun h_ => absurd (nI_le (by omega) (by omega)) h_)
      refine wp_iload_n hX (dk DX11_mostOf 28 rfl) rfl ?_
      exact wp_ireturn hX hR (dk DX11_mostOf 29 rfl) rfl (Nat.le_refl _) (Nat.le_refl _) (⟨rfl, rfl⟩)
    | succ m ih =>
      intro j hj
      refine wp_iload hX (dk DX11_mostOf 4 rfl) rfl ?_
      refine wp_aload_n hX (dk DX11_mostOf 5 rfl) rfl ?_
      refine w_geti hX flX11_112 (dk DX11_mostOf 6 rfl) (by decide) rfl ?_
      rw [hn]
      refine wp_icmp_ge (tgt := 50) hX (dk DX11_mostOf 7 rfl) (by decide) (fun h_ => absurd h_ (nI_ge (by omega) (by omega))) (fun _ => ?_)
      refine wp_aload_n hX (dk DX11_mostOf 8 rfl) rfl ?_
      refine w_getr hX flX11_94 (dk DX11_mostOf 9 rfl) rfl rfl ?_
      refine wp_iload_n hX (dk DX11_mostOf 10 rfl) rfl ?_
      refine w_iald (j := _) hX (dk DX11_mostOf 11 rfl) rfl rfl (show _ < 11 by omega) ?_
      refine wp_iload_n hX (dk DX11_mostOf 12 rfl) rfl ?_
      refine wp_iand hX (dk DX11_mostOf 13 rfl) ?_
      refine wp_iload hX (dk DX11_mostOf 14 rfl) rfl ?_
      refine w_callS (As := [_, _]) lkX11_138 hX (dk DX11_mostOf 15 rfl) rfl (by decide) (k_mhas (d + 1) _ _ _) ?_
      show WP _ _ _ 27 [_, _, _, _, _] [_] _
      refine wp_if_eq (tgt := 44) hX (dk DX11_mostOf 16 rfl) (by decide) (fun h27 => ?_) (fun h27 => ?_)
      · refine wp_iinc hX (dk DX11_mostOf 26 rfl) rfl (nI_inc _) rfl hN ?_
        show WP _ _ _ 47 [_, _, _, _, _] [] _
        refine wp_goto (tgt := 5) hX (dk DX11_mostOf 27 rfl) (by decide) ?_
        have := ih (j + 1) (by omega)
        rw [jmx] at this
        by_cases c : jb (f 109 i &&& s) j = 0
        · rw [if_pos c] at this; first | exact this | exact absurd c h27
        · rw [if_neg c] at this; first | exact this | exact absurd h27 c
      · refine wp_iload_n hX (dk DX11_mostOf 17 rfl) rfl ?_
        refine wp_aload_n hX (dk DX11_mostOf 18 rfl) rfl ?_
        refine w_getr hX flX11_97 (dk DX11_mostOf 19 rfl) rfl rfl ?_
        refine wp_iload hX (dk DX11_mostOf 20 rfl) rfl ?_
        refine w_iald (j := _) hX (dk DX11_mostOf 21 rfl) rfl rfl (show _ < 11 by omega) ?_
        refine wp_iconst (v := 1) hX (dk DX11_mostOf 22 rfl) (by decide) ?_
        refine wp_iadd hX (dk DX11_mostOf 23 rfl) ?_
        refine w_max hX lkX11_263 (dk DX11_mostOf 24 rfl) (by decide) ?_
        refine wp_istore_n hX (dk DX11_mostOf 25 rfl) rfl rfl hN (Nat.le_of_ble_eq_true rfl) ?_
        show WP _ _ _ 44 [_, _, _, _, _] [] _
        refine wp_iinc hX (dk DX11_mostOf 26 rfl) rfl (nI_inc _) rfl hN ?_
        show WP _ _ _ 47 [_, _, _, _, _] [] _
        refine wp_goto (tgt := 5) hX (dk DX11_mostOf 27 rfl) (by decide) ?_
        have := ih (j + 1) (by omega)
        rw [jmx] at this
        by_cases c : jb (f 109 i &&& s) j = 0
        · rw [if_pos c] at this; first | exact this | exact absurd c h27
        · rw [if_neg c] at this; first | exact this | exact absurd h27 c
  refine wp_iconst (v := 0) hX (dk DX11_mostOf 0 rfl) (by decide) ?_
  refine wp_istore_n hX (dk DX11_mostOf 1 rfl) rfl rfl hN (Nat.le_of_ble_eq_true rfl) ?_
  show WP _ _ _ 2 [_, _, _, _, _] [] _
  refine wp_iconst (v := 0) hX (dk DX11_mostOf 2 rfl) (by decide) ?_
  refine wp_istore hX (dk DX11_mostOf 3 rfl) rfl hN (Nat.le_of_ble_eq_true rfl) ?_
  show WP _ _ _ 5 [_, _, _, _, _] [] _
  exact lo n 0 (by omega)
/-- the first of the set s that has l, of the k from i on -/
def mfl (r : Nat → Int32) (s l : Int32) : Nat → Nat → Int32
  | 0, _ => -2
  | k + 1, i => if ¬ jb s i = 0 ∧ r i = l then nI i else mfl r s l k (i + 1)
theorem k_mfirst (d : Nat) (sw : Bool) (f : Nat → Nat → Int32) (g : Nat → Nat → Int64) (n i : Nat) (l : Int32) (hn : f 81 0 = nI n) (hn10 : n ≤ 10) (hi : i < 11) : CT (d + 2) 0 0 iX11_firstOf [.ref 81, .int (nI i), .int l] (S sw f g) (QR (some (.int (mfl (f 110) (f 109 i) l n 0))) (S sw f g)) := by
  refine CT.of rfl (Nat.le_of_ble_eq_true rfl) (fun X hX hR hN _ => ?_)
  have hX : Good X RX11 cX11_firstOf (d + 2) 0 0 := hX
  have hN : x_nl X = 4 := hN
  show WP X 0 0 0 [_, _, _, _] [] _
  have lo : ∀ (m j : Nat), j + m = n → mfl (f 110) (f 109 i) l n 0 = mfl (f 110) (f 109 i) l m j → WP X 0 0 2 [some (.ref 81), some (.int (nI i)), some (.int l), some (.int (nI j))] [] (S sw f g) := by
    intro m
    induction m with
    | zero =>
      intro j hj e
      obtain rfl : j = n := by omega
      rw [e] at hR
      refine wp_iload_n hX (dk DX11_firstOf 2 rfl) rfl ?_
      refine wp_aload_n hX (dk DX11_firstOf 3 rfl) rfl ?_
      refine w_geti hX flX11_112 (dk DX11_firstOf 4 rfl) (by decide) rfl ?_
      rw [hn]
      refine wp_icmp_ge (tgt := 41) hX (dk DX11_firstOf 5 rfl) (by decide) (fun _ => ?_) (fun h_ => absurd (nI_le (by omega) (by omega)) h_)
      refine wp_bipush (v := -2) hX (dk DX11_firstOf 23 rfl) (by decide) ?_
      exact wp_ireturn hX hR (dk DX11_firstOf 24 rfl) rfl (Nat.le_refl _) (Nat.le_refl _) (⟨rfl, rfl⟩)
    | succ m ih =>
      intro j hj e
      rw [mfl] at e
      by_cases c : ¬ jb (f 109 i) j = 0 ∧ f 110 j = l
      · rw [if_pos c] at e
        rw [e] at hR
        refine wp_iload_n hX (dk DX11_firstOf 2 rfl) rfl ?_
        refine wp_aload_n hX (dk DX11_firstOf 3 rfl) rfl ?_
        refine w_geti hX flX11_112 (dk DX11_firstOf 4 rfl) (by decide) rfl ?_
        rw [hn]
        refine wp_icmp_ge (tgt := 41) hX (dk DX11_firstOf 5 rfl) (by decide) (fun h_ => absurd h_ (nI_ge (by omega) (by omega))) (fun _ => ?_)
        refine wp_aload_n hX (dk DX11_firstOf 6 rfl) rfl ?_
        refine w_getr hX flX11_94 (dk DX11_firstOf 7 rfl) rfl rfl ?_
        refine wp_iload_n hX (dk DX11_firstOf 8 rfl) rfl ?_
        refine w_iald (j := _) hX (dk DX11_firstOf 9 rfl) rfl rfl (show _ < 11 by omega) ?_
        refine wp_iload_n hX (dk DX11_firstOf 10 rfl) rfl ?_
        refine w_callS (As := [_, _]) lkX11_138 hX (dk DX11_firstOf 11 rfl) rfl (by decide) (k_mhas (d + 1) _ _ _) ?_
        show WP _ _ _ 20 [_, _, _, _] [_] _
        refine wp_if_eq (tgt := 35) hX (dk DX11_firstOf 12 rfl) (by decide) (fun h_ => absurd h_ (c.1)) (fun _ => ?_)
        refine wp_aload_n hX (dk DX11_firstOf 13 rfl) rfl ?_
        refine w_getr hX flX11_97 (dk DX11_firstOf 14 rfl) rfl rfl ?_
        refine wp_iload_n hX (dk DX11_firstOf 15 rfl) rfl ?_
        refine w_iald (j := _) hX (dk DX11_firstOf 16 rfl) rfl rfl (show _ < 11 by omega) ?_
        refine wp_iload_n hX (dk DX11_firstOf 17 rfl) rfl ?_
        refine wp_icmp_ne (tgt := 35) hX (dk DX11_firstOf 18 rfl) (by decide) (fun h_ => absurd (c.2) h_) (fun _ => ?_)
        refine wp_iload_n hX (dk DX11_firstOf 19 rfl) rfl ?_
        exact wp_ireturn hX hR (dk DX11_firstOf 20 rfl) rfl (Nat.le_refl _) (Nat.le_refl _) (⟨rfl, rfl⟩)
      · rw [if_neg c] at e
        refine wp_iload_n hX (dk DX11_firstOf 2 rfl) rfl ?_
        refine wp_aload_n hX (dk DX11_firstOf 3 rfl) rfl ?_
        refine w_geti hX flX11_112 (dk DX11_firstOf 4 rfl) (by decide) rfl ?_
        rw [hn]
        refine wp_icmp_ge (tgt := 41) hX (dk DX11_firstOf 5 rfl) (by decide) (fun h_ => absurd h_ (nI_ge (by omega) (by omega))) (fun _ => ?_)
        refine wp_aload_n hX (dk DX11_firstOf 6 rfl) rfl ?_
        refine w_getr hX flX11_94 (dk DX11_firstOf 7 rfl) rfl rfl ?_
        refine wp_iload_n hX (dk DX11_firstOf 8 rfl) rfl ?_
        refine w_iald (j := _) hX (dk DX11_firstOf 9 rfl) rfl rfl (show _ < 11 by omega) ?_
        refine wp_iload_n hX (dk DX11_firstOf 10 rfl) rfl ?_
        refine w_callS (As := [_, _]) lkX11_138 hX (dk DX11_firstOf 11 rfl) rfl (by decide) (k_mhas (d + 1) _ _ _) ?_
        show WP _ _ _ 20 [_, _, _, _] [_] _
        refine wp_if_eq (tgt := 35) hX (dk DX11_firstOf 12 rfl) (by decide) (fun h20 => ?_) (fun h20 => ?_)
        · refine wp_iinc hX (dk DX11_firstOf 21 rfl) rfl (nI_inc _) rfl hN ?_
          show WP _ _ _ 38 [_, _, _, _] [] _
          refine wp_goto (tgt := 2) hX (dk DX11_firstOf 22 rfl) (by decide) ?_
          exact ih (j + 1) (by omega) e
        · refine wp_aload_n hX (dk DX11_firstOf 13 rfl) rfl ?_
          refine w_getr hX flX11_97 (dk DX11_firstOf 14 rfl) rfl rfl ?_
          refine wp_iload_n hX (dk DX11_firstOf 15 rfl) rfl ?_
          refine w_iald (j := _) hX (dk DX11_firstOf 16 rfl) rfl rfl (show _ < 11 by omega) ?_
          refine wp_iload_n hX (dk DX11_firstOf 17 rfl) rfl ?_
          refine wp_icmp_ne (tgt := 35) hX (dk DX11_firstOf 18 rfl) (by decide) (fun h30 => ?_) (fun h30 => ?_)
          · refine wp_iinc hX (dk DX11_firstOf 21 rfl) rfl (nI_inc _) rfl hN ?_
            show WP _ _ _ 38 [_, _, _, _] [] _
            refine wp_goto (tgt := 2) hX (dk DX11_firstOf 22 rfl) (by decide) ?_
            exact ih (j + 1) (by omega) e
          · exact absurd ⟨h20, h30⟩ c
  refine wp_iconst (v := 0) hX (dk DX11_firstOf 0 rfl) (by decide) ?_
  refine wp_istore_n hX (dk DX11_firstOf 1 rfl) rfl rfl hN (Nat.le_of_ble_eq_true rfl) ?_
  show WP _ _ _ 2 [_, _, _, _] [] _
  exact lo n 0 (by omega) rfl
