/-! THE CLASS'S CALLS: told, drawn -/
/-- shelf c holds z elements -/
def jrf (s : Int32) : Int32 := if s = -1 then -11 else if s = 0 then 0 else -12
theorem k_refT0 (d : Nat) (sw : Bool) (f : Nat → Nat → Int32) (g : Nat → Nat → Int64) (m : Nat) (x y : Int32) (hm : f 61 6 = nI m) (hm6 : m ≤ 6) (h : ¬ ((∃ c, c < 6 ∧ x = nI c) ∧ ∃ b, b < m ∧ y = nI b)) : CT (d + 1) 0 0 iX10_refusalOfTold [.ref 0, .int x, .int y] (S sw f g) (QR (some (.int (-1))) (S sw f g)) := by
  refine CT.of rfl (Nat.le_of_ble_eq_true rfl) (fun X hX hR hN _ => ?_)
  have hX : Good X RX10 cX10_refusalOfTold (d + 1) 0 0 := hX
  have hN : x_nl X = 3 := hN
  show WP X 0 0 0 [_, _, _] [] _
  refine wp_aload_n hX (dk DX10_refusalOfTold 0 rfl) rfl ?_
  refine w_getr hX flX10_72 (dk DX10_refusalOfTold 1 rfl) rfl rfl ?_
  refine wp_iload_n hX (dk DX10_refusalOfTold 2 rfl) rfl ?_
  refine w_callV (As := [_]) lkX10_91 hX (dk DX10_refusalOfTold 3 rfl) rfl rfl (by decide) hN (k_shas d sw f g x) ?_
  show WP _ _ _ 8 [_, _, _] [_] _
  refine wp_if_eq (tgt := 22) hX (dk DX10_refusalOfTold 4 rfl) (by decide) (fun h8 => ?_) (fun h8 => ?_)
  · refine wp_iconst (v := -1) hX (dk DX10_refusalOfTold 10 rfl) (by decide) ?_
    exact wp_ireturn hX hR (dk DX10_refusalOfTold 11 rfl) rfl (Nat.le_refl _) (Nat.le_refl _) (⟨rfl, rfl⟩)
  · refine wp_aload_n hX (dk DX10_refusalOfTold 5 rfl) rfl ?_
    refine w_getr hX flX10_51 (dk DX10_refusalOfTold 6 rfl) rfl rfl ?_
    refine wp_iload_n hX (dk DX10_refusalOfTold 7 rfl) rfl ?_
    refine w_callV (As := [_]) lkX10_127 hX (dk DX10_refusalOfTold 8 rfl) rfl rfl (by decide) hN (k_yhas d sw f g y) ?_
    show WP _ _ _ 19 [_, _, _] [_] _
    rw [hm]
    refine wp_if_ne (tgt := 24) hX (dk DX10_refusalOfTold 9 rfl) (by decide) (fun h19 => ?_) (fun h19 => ?_)
    · exact absurd ⟨jin_ex (n := 6) (by decide) h8, jin_ex (by omega) h19⟩ h
    · refine wp_iconst (v := -1) hX (dk DX10_refusalOfTold 10 rfl) (by decide) ?_
      exact wp_ireturn hX hR (dk DX10_refusalOfTold 11 rfl) rfl (Nat.le_refl _) (Nat.le_refl _) (⟨rfl, rfl⟩)
theorem k_refT1 (d : Nat) (sw : Bool) (f : Nat → Nat → Int32) (g : Nat → Nat → Int64) (m c b : Nat) (hm : f 61 6 = nI m) (hm6 : m ≤ 6) (hc : c < 6) (hb : b < m) : CT (d + 1) 0 0 iX10_refusalOfTold [.ref 0, .int (nI c), .int (nI b)] (S sw f g) (QR (some (.int (jrf (f 74 c)))) (S sw f g)) := by
  refine CT.of rfl (Nat.le_of_ble_eq_true rfl) (fun X hX hR hN _ => ?_)
  have hX : Good X RX10 cX10_refusalOfTold (d + 1) 0 0 := hX
  have hN : x_nl X = 3 := hN
  show WP X 0 0 0 [_, _, _] [] _
  refine wp_aload_n hX (dk DX10_refusalOfTold 0 rfl) rfl ?_
  refine w_getr hX flX10_72 (dk DX10_refusalOfTold 1 rfl) rfl rfl ?_
  refine wp_iload_n hX (dk DX10_refusalOfTold 2 rfl) rfl ?_
  refine w_callV (As := [_]) lkX10_91 hX (dk DX10_refusalOfTold 3 rfl) rfl rfl (by decide) hN (k_shas d sw f g (nI c)) ?_
  show WP _ _ _ 8 [_, _, _] [_] _
  rw [show jin (nI c) 6 = 1 from jin_1 (n := 6) (by decide) hc rfl]
  refine wp_if_eq (tgt := 22) hX (dk DX10_refusalOfTold 4 rfl) (by decide) (fun h_ => absurd h_ (by decide)) (fun _ => ?_)
  refine wp_aload_n hX (dk DX10_refusalOfTold 5 rfl) rfl ?_
  refine w_getr hX flX10_51 (dk DX10_refusalOfTold 6 rfl) rfl rfl ?_
  refine wp_iload_n hX (dk DX10_refusalOfTold 7 rfl) rfl ?_
  refine w_callV (As := [_]) lkX10_127 hX (dk DX10_refusalOfTold 8 rfl) rfl rfl (by decide) hN (k_yhas d sw f g (nI b)) ?_
  show WP _ _ _ 19 [_, _, _] [_] _
  rw [hm, jin_1 (by omega) hb rfl]
  refine wp_if_ne (tgt := 24) hX (dk DX10_refusalOfTold 9 rfl) (by decide) (fun _ => ?_) (fun h_ => absurd h_ (by decide))
  refine wp_aload_n hX (dk DX10_refusalOfTold 12 rfl) rfl ?_
  refine w_getr hX flX10_72 (dk DX10_refusalOfTold 13 rfl) rfl rfl ?_
  refine wp_iload_n hX (dk DX10_refusalOfTold 14 rfl) rfl ?_
  refine w_callV (As := [_]) lkX10_94 hX (dk DX10_refusalOfTold 15 rfl) rfl rfl (by decide) hN (k_sortOf d sw f g c hc) ?_
  show WP _ _ _ 32 [_, _, _] [_] _
  refine wp_iconst (v := -1) hX (dk DX10_refusalOfTold 16 rfl) (by decide) ?_
  refine wp_icmp_ne (tgt := 39) hX (dk DX10_refusalOfTold 17 rfl) (by decide) (fun h33 => ?_) (fun h33 => ?_)
  · refine wp_aload_n hX (dk DX10_refusalOfTold 20 rfl) rfl ?_
    refine w_getr hX flX10_72 (dk DX10_refusalOfTold 21 rfl) rfl rfl ?_
    refine wp_iload_n hX (dk DX10_refusalOfTold 22 rfl) rfl ?_
    refine w_callV (As := [_]) lkX10_94 hX (dk DX10_refusalOfTold 23 rfl) rfl rfl (by decide) hN (k_sortOf d sw f g c hc) ?_
    show WP _ _ _ 47 [_, _, _] [_] _
    refine wp_if_ne (tgt := 54) hX (dk DX10_refusalOfTold 24 rfl) (by decide) (fun h47 => ?_) (fun h47 => ?_)
    · refine wp_bipush (v := -12) hX (dk DX10_refusalOfTold 27 rfl) (by decide) ?_
      exact wp_ireturn hX hR (dk DX10_refusalOfTold 28 rfl) rfl (Nat.le_refl _) (Nat.le_refl _) (⟨by simp [jrf, h33, h47], rfl⟩)
    · refine wp_iconst (v := 0) hX (dk DX10_refusalOfTold 25 rfl) (by decide) ?_
      refine wp_goto (tgt := 56) hX (dk DX10_refusalOfTold 26 rfl) (by decide) ?_
      exact wp_ireturn hX hR (dk DX10_refusalOfTold 28 rfl) rfl (Nat.le_refl _) (Nat.le_refl _) (⟨by simp [jrf, h33, h47], rfl⟩)
  · refine wp_bipush (v := -11) hX (dk DX10_refusalOfTold 18 rfl) (by decide) ?_
    exact wp_ireturn hX hR (dk DX10_refusalOfTold 19 rfl) rfl (Nat.le_refl _) (Nat.le_refl _) (⟨by simp [jrf, h33], rfl⟩)
theorem t_judge0 (d : Nat) (sw : Bool) (f : Nat → Nat → Int32) (g : Nat → Nat → Int64) (m : Nat) (x y : Int32) (hm : f 61 6 = nI m) (hm6 : m ≤ 6) (h : ¬ ((∃ c, c < 6 ∧ x = nI c) ∧ ∃ b, b < m ∧ y = nI b)) : CT (d + 110) 0 0 iX10_judge [.ref 0, .int x, .int y] (S sw f g) (rdC g f (-1)) := by
  refine CT.rdC ?_
  refine CT.of rfl (Nat.le_of_ble_eq_true rfl) (fun X hX hR hN _ => ?_)
  have hX : Good X RX10 cX10_judge (d + 110) 0 0 := hX
  have hN : x_nl X = 4 := hN
  show WP X 0 0 0 [_, _, _, _] [] _
  refine wp_aload_n hX (dk DX10_judge 0 rfl) rfl ?_
  refine wp_iload_n hX (dk DX10_judge 1 rfl) rfl ?_
  refine wp_iload_n hX (dk DX10_judge 2 rfl) rfl ?_
  refine w_callV (As := [_, _]) lkX10_254 hX (dk DX10_judge 3 rfl) rfl rfl (by decide) hN (k_refT0 (d + 108) sw f g m x y hm hm6 h) ?_
  show WP _ _ _ 6 [_, _, _, _] [_] _
  refine wp_istore_n hX (dk DX10_judge 4 rfl) rfl rfl hN (Nat.le_of_ble_eq_true rfl) ?_
  show WP _ _ _ 7 [_, _, _, _] [] _
  refine wp_iload_n hX (dk DX10_judge 5 rfl) rfl ?_
  refine wp_if_eq (tgt := 13) hX (dk DX10_judge 6 rfl) (by decide) (fun h_ => absurd h_ (by decide)) (fun _ => ?_)
  refine wp_iload_n hX (dk DX10_judge 7 rfl) rfl ?_
  exact wp_ireturn hX hR (dk DX10_judge 8 rfl) rfl (Nat.le_refl _) (Nat.le_refl _) (⟨rfl, rfl⟩)
theorem t_judgeR (d : Nat) (sw : Bool) (f : Nat → Nat → Int32) (g : Nat → Nat → Int64) (m c b : Nat) (hm : f 61 6 = nI m) (hm6 : m ≤ 6) (hc : c < 6) (hb : b < m) (h : ¬ jrf (f 74 c) = 0) : CT (d + 110) 0 0 iX10_judge [.ref 0, .int (nI c), .int (nI b)] (S sw f g) (rdC g f (jrf (f 74 c))) := by
  refine CT.rdC ?_
  refine CT.of rfl (Nat.le_of_ble_eq_true rfl) (fun X hX hR hN _ => ?_)
  have hX : Good X RX10 cX10_judge (d + 110) 0 0 := hX
  have hN : x_nl X = 4 := hN
  show WP X 0 0 0 [_, _, _, _] [] _
  refine wp_aload_n hX (dk DX10_judge 0 rfl) rfl ?_
  refine wp_iload_n hX (dk DX10_judge 1 rfl) rfl ?_
  refine wp_iload_n hX (dk DX10_judge 2 rfl) rfl ?_
  refine w_callV (As := [_, _]) lkX10_254 hX (dk DX10_judge 3 rfl) rfl rfl (by decide) hN (k_refT1 (d + 108) sw f g m c b hm hm6 hc hb) ?_
  show WP _ _ _ 6 [_, _, _, _] [_] _
  refine wp_istore_n hX (dk DX10_judge 4 rfl) rfl rfl hN (Nat.le_of_ble_eq_true rfl) ?_
  show WP _ _ _ 7 [_, _, _, _] [] _
  refine wp_iload_n hX (dk DX10_judge 5 rfl) rfl ?_
  refine wp_if_eq (tgt := 13) hX (dk DX10_judge 6 rfl) (by decide) (fun h_ => absurd h_ (h)) (fun _ => ?_)
  refine wp_iload_n hX (dk DX10_judge 7 rfl) rfl ?_
  exact wp_ireturn hX hR (dk DX10_judge 8 rfl) rfl (Nat.le_refl _) (Nat.le_refl _) (⟨rfl, rfl⟩)
theorem t_judge1 (d : Nat) (sw : Bool) (f : Nat → Nat → Int32) (g : Nat → Nat → Int64) (n m c b z : Nat) (sh : Nat → Int32) (hs : stF f n sh) (hm : f 61 6 = nI m) (hm6 : m ≤ 6) (hc : c < 6) (hb : b < m) (h : f 74 c = 0) (hz : f 75 c = nI z) (hz60 : z ≤ 60) : CT (d + 110) 0 0 iX10_judge [.ref 0, .int (nI c), .int (nI b)] (S sw f g) (rdC g f (tN (f 4) n (fun i => g 76 (c * 60 + i)) z 0 (jfo sh n (f 62 b)) 0).1) := by
  have hn10 := hs.2.1
  have e := tN_cong (B := f 4) (n := n) (E := jov (fun i => g 76 (c * 60 + i)) (-1) (-1)) (E2 := fun i => g 76 (c * 60 + i)) z 0 (jfo sh n (f 62 b)) 0 (fun k _ h2 => jov_none _ z hz60 k (by omega))
  refine CT.of rfl (Nat.le_of_ble_eq_true rfl) (fun X hX hR hN _ => ?_)
  have hX : Good X RX10 cX10_judge (d + 110) 0 0 := hX
  have hN : x_nl X = 4 := hN
  show WP X 0 0 0 [_, _, _, _] [] _
  refine wp_aload_n hX (dk DX10_judge 0 rfl) rfl ?_
  refine wp_iload_n hX (dk DX10_judge 1 rfl) rfl ?_
  refine wp_iload_n hX (dk DX10_judge 2 rfl) rfl ?_
  refine w_callV (As := [_, _]) lkX10_254 hX (dk DX10_judge 3 rfl) rfl rfl (by decide) hN (k_refT1 (d + 108) sw f g m c b hm hm6 hc hb) ?_
  show WP _ _ _ 6 [_, _, _, _] [_] _
  rw [show jrf (f 74 c) = 0 by rw [h]; rfl]
  refine wp_istore_n hX (dk DX10_judge 4 rfl) rfl rfl hN (Nat.le_of_ble_eq_true rfl) ?_
  show WP _ _ _ 7 [_, _, _, _] [] _
  refine wp_iload_n hX (dk DX10_judge 5 rfl) rfl ?_
  refine wp_if_eq (tgt := 13) hX (dk DX10_judge 6 rfl) (by decide) (fun _ => ?_) (fun h_ => absurd (rfl) h_)
  refine wp_aload_n hX (dk DX10_judge 9 rfl) rfl ?_
  refine w_getr hX flX10_44 (dk DX10_judge 10 rfl) rfl rfl ?_
  refine wp_aload_n hX (dk DX10_judge 11 rfl) rfl ?_
  refine w_getr hX flX10_72 (dk DX10_judge 12 rfl) rfl rfl ?_
  refine wp_iload_n hX (dk DX10_judge 13 rfl) rfl ?_
  refine wp_aload_n hX (dk DX10_judge 14 rfl) rfl ?_
  refine wp_iload_n hX (dk DX10_judge 15 rfl) rfl ?_
  refine w_callV (As := [_]) lkX10_204 hX (dk DX10_judge 16 rfl) rfl rfl (by simp [Value.category]) hN (k_firstOut (d + 106) sw f g n b sh hs (by omega)) ?_
  show WP _ _ _ 27 [_, _, _, _] [_, _, _, _] _
  refine wp_iconst (v := -1) hX (dk DX10_judge 17 rfl) (by decide) ?_
  refine wp_iconst (v := -1) hX (dk DX10_judge 18 rfl) (by decide) ?_
  refine w_callVQ (As := [_, _, _, _, _]) lkX10_257 hX (dk DX10_judge 19 rfl) rfl rfl (by decide) hN (k_firstWrong (d + 107) sw f g n c z _ (-1) (-1) hs.1 hn10 hc hz hz60) (fun v_ sw_ f_ g_ hq_ => ?_)
  obtain ⟨rfl, rfl, rfl, hf, hl⟩ := hq_
  show WP _ _ _ 32 [_, _, _, _] [_] _
  exact wp_ireturn hX hR (dk DX10_judge 20 rfl) rfl (Nat.le_refl _) (Nat.le_refl _) (⟨_, _, _, rfl, by rw [e], rfl, fun b h1 h2 h3 => hf b (by omega), fun i _ => by rw [hf 49 (by decide)]⟩)
theorem t_last0 (d : Nat) (sw : Bool) (f : Nat → Nat → Int32) (g : Nat → Nat → Int64) (m : Nat) (x y : Int32) (hm : f 61 6 = nI m) (hm6 : m ≤ 6) (h : ¬ ((∃ c, c < 6 ∧ x = nI c) ∧ ∃ b, b < m ∧ y = nI b)) : CT (d + 110) 0 0 iX10_last [.ref 0, .int x, .int y] (S sw f g) (rdC g f (-1)) := by
  refine CT.rdC ?_
  refine CT.of rfl (Nat.le_of_ble_eq_true rfl) (fun X hX hR hN _ => ?_)
  have hX : Good X RX10 cX10_last (d + 110) 0 0 := hX
  have hN : x_nl X = 4 := hN
  show WP X 0 0 0 [_, _, _, _] [] _
  refine wp_aload_n hX (dk DX10_last 0 rfl) rfl ?_
  refine wp_iload_n hX (dk DX10_last 1 rfl) rfl ?_
  refine wp_iload_n hX (dk DX10_last 2 rfl) rfl ?_
  refine w_callV (As := [_, _]) lkX10_254 hX (dk DX10_last 3 rfl) rfl rfl (by decide) hN (k_refT0 (d + 108) sw f g m x y hm hm6 h) ?_
  show WP _ _ _ 6 [_, _, _, _] [_] _
  refine wp_istore_n hX (dk DX10_last 4 rfl) rfl rfl hN (Nat.le_of_ble_eq_true rfl) ?_
  show WP _ _ _ 7 [_, _, _, _] [] _
  refine wp_iload_n hX (dk DX10_last 5 rfl) rfl ?_
  refine wp_if_eq (tgt := 13) hX (dk DX10_last 6 rfl) (by decide) (fun h_ => absurd h_ (by decide)) (fun _ => ?_)
  refine wp_iload_n hX (dk DX10_last 7 rfl) rfl ?_
  exact wp_ireturn hX hR (dk DX10_last 8 rfl) rfl (Nat.le_refl _) (Nat.le_refl _) (⟨rfl, rfl⟩)
theorem t_lastR (d : Nat) (sw : Bool) (f : Nat → Nat → Int32) (g : Nat → Nat → Int64) (m c b : Nat) (hm : f 61 6 = nI m) (hm6 : m ≤ 6) (hc : c < 6) (hb : b < m) (h : ¬ jrf (f 74 c) = 0) : CT (d + 110) 0 0 iX10_last [.ref 0, .int (nI c), .int (nI b)] (S sw f g) (rdC g f (jrf (f 74 c))) := by
  refine CT.rdC ?_
  refine CT.of rfl (Nat.le_of_ble_eq_true rfl) (fun X hX hR hN _ => ?_)
  have hX : Good X RX10 cX10_last (d + 110) 0 0 := hX
  have hN : x_nl X = 4 := hN
  show WP X 0 0 0 [_, _, _, _] [] _
  refine wp_aload_n hX (dk DX10_last 0 rfl) rfl ?_
  refine wp_iload_n hX (dk DX10_last 1 rfl) rfl ?_
  refine wp_iload_n hX (dk DX10_last 2 rfl) rfl ?_
  refine w_callV (As := [_, _]) lkX10_254 hX (dk DX10_last 3 rfl) rfl rfl (by decide) hN (k_refT1 (d + 108) sw f g m c b hm hm6 hc hb) ?_
  show WP _ _ _ 6 [_, _, _, _] [_] _
  refine wp_istore_n hX (dk DX10_last 4 rfl) rfl rfl hN (Nat.le_of_ble_eq_true rfl) ?_
  show WP _ _ _ 7 [_, _, _, _] [] _
  refine wp_iload_n hX (dk DX10_last 5 rfl) rfl ?_
  refine wp_if_eq (tgt := 13) hX (dk DX10_last 6 rfl) (by decide) (fun h_ => absurd h_ (h)) (fun _ => ?_)
  refine wp_iload_n hX (dk DX10_last 7 rfl) rfl ?_
  exact wp_ireturn hX hR (dk DX10_last 8 rfl) rfl (Nat.le_refl _) (Nat.le_refl _) (⟨rfl, rfl⟩)
theorem t_last1 (d : Nat) (sw : Bool) (f : Nat → Nat → Int32) (g : Nat → Nat → Int64) (n m c b z : Nat) (sh : Nat → Int32) (hs : stF f n sh) (hm : f 61 6 = nI m) (hm6 : m ≤ 6) (hc : c < 6) (hb : b < m) (h : f 74 c = 0) (hz : f 75 c = nI z) (hz60 : z ≤ 60) : CT (d + 110) 0 0 iX10_last [.ref 0, .int (nI c), .int (nI b)] (S sw f g) (rdC g f (if (tN (f 4) n (fun i => g 76 (c * 60 + i)) z 0 (jfo sh n (f 62 b)) 0).1 = -2 then (tN (f 4) n (fun i => g 76 (c * 60 + i)) z 0 (jfo sh n (f 62 b)) 0).2 else 0)) := by
  have hn10 := hs.2.1
  refine CT.of rfl (Nat.le_of_ble_eq_true rfl) (fun X hX hR hN _ => ?_)
  have hX : Good X RX10 cX10_last (d + 110) 0 0 := hX
  have hN : x_nl X = 4 := hN
  show WP X 0 0 0 [_, _, _, _] [] _
  refine wp_aload_n hX (dk DX10_last 0 rfl) rfl ?_
  refine wp_iload_n hX (dk DX10_last 1 rfl) rfl ?_
  refine wp_iload_n hX (dk DX10_last 2 rfl) rfl ?_
  refine w_callV (As := [_, _]) lkX10_254 hX (dk DX10_last 3 rfl) rfl rfl (by decide) hN (k_refT1 (d + 108) sw f g m c b hm hm6 hc hb) ?_
  show WP _ _ _ 6 [_, _, _, _] [_] _
  rw [show jrf (f 74 c) = 0 by rw [h]; rfl]
  refine wp_istore_n hX (dk DX10_last 4 rfl) rfl rfl hN (Nat.le_of_ble_eq_true rfl) ?_
  show WP _ _ _ 7 [_, _, _, _] [] _
  refine wp_iload_n hX (dk DX10_last 5 rfl) rfl ?_
  refine wp_if_eq (tgt := 13) hX (dk DX10_last 6 rfl) (by decide) (fun _ => ?_) (fun h_ => absurd (rfl) h_)
  refine wp_aload_n hX (dk DX10_last 9 rfl) rfl ?_
  refine w_getr hX flX10_44 (dk DX10_last 10 rfl) rfl rfl ?_
  refine wp_aload_n hX (dk DX10_last 11 rfl) rfl ?_
  refine w_getr hX flX10_72 (dk DX10_last 12 rfl) rfl rfl ?_
  refine wp_iload_n hX (dk DX10_last 13 rfl) rfl ?_
  refine wp_aload_n hX (dk DX10_last 14 rfl) rfl ?_
  refine wp_iload_n hX (dk DX10_last 15 rfl) rfl ?_
  refine w_callV (As := [_]) lkX10_204 hX (dk DX10_last 16 rfl) rfl rfl (by simp [Value.category]) hN (k_firstOut (d + 106) sw f g n b sh hs (by omega)) ?_
  show WP _ _ _ 27 [_, _, _, _] [_, _, _, _] _
  refine w_callVQ (As := [_, _, _]) lkX10_268 hX (dk DX10_last 17 rfl) rfl rfl (by decide) hN (k_lastOnes (d + 106) sw f g n c z _ hs.1 hn10 hc hz hz60) (fun v_ sw_ f_ g_ hq_ => ?_)
  obtain ⟨rfl, rfl, rfl, hf⟩ := hq_
  show WP _ _ _ 30 [_, _, _, _] [_] _
  exact wp_ireturn hX hR (dk DX10_last 18 rfl) rfl (Nat.le_refl _) (Nat.le_refl _) (⟨_, _, _, rfl, rfl, rfl, fun b h1 h2 h3 => hf b (by omega), fun i _ => by rw [hf 49 (by decide)]⟩)
theorem t_filled0 (d : Nat) (sw : Bool) (f : Nat → Nat → Int32) (g : Nat → Nat → Int64) (m : Nat) (x y w : Int32) (hm : f 61 6 = nI m) (hm6 : m ≤ 6) (h : ¬ ((∃ c, c < 6 ∧ x = nI c) ∧ (∃ b, b < m ∧ y = nI b) ∧ ∃ q, q < 2 ∧ w = nI q)) : CT (d + 110) 0 0 iX10_filled [.ref 0, .int x, .int y, .int w] (S sw f g) (rdC g f (-1)) := by
  refine CT.rdC ?_
  refine CT.of rfl (Nat.le_of_ble_eq_true rfl) (fun X hX hR hN _ => ?_)
  have hX : Good X RX10 cX10_filled (d + 110) 0 0 := hX
  have hN : x_nl X = 6 := hN
  show WP X 0 0 0 [_, _, _, _, _, _] [] _
  refine wp_iload_n hX (dk DX10_filled 0 rfl) rfl ?_
  refine wp_if_lt (tgt := 9) hX (dk DX10_filled 1 rfl) (by decide) (fun h1 => ?_) (fun h1 => ?_)
  · refine wp_iconst (v := -1) hX (dk DX10_filled 5 rfl) (by decide) ?_
    refine wp_goto (tgt := 19) hX (dk DX10_filled 6 rfl) (by decide) ?_
    refine wp_istore hX (dk DX10_filled 11 rfl) rfl hN (Nat.le_of_ble_eq_true rfl) ?_
    show WP _ _ _ 21 [_, _, _, _, _, _] [] _
    refine wp_iload hX (dk DX10_filled 12 rfl) rfl ?_
    refine wp_if_eq (tgt := 29) hX (dk DX10_filled 13 rfl) (by decide) (fun h_ => absurd h_ (by decide)) (fun _ => ?_)
    refine wp_iload hX (dk DX10_filled 14 rfl) rfl ?_
    exact wp_ireturn hX hR (dk DX10_filled 15 rfl) rfl (Nat.le_refl _) (Nat.le_refl _) (⟨rfl, rfl⟩)
  · refine wp_iload_n hX (dk DX10_filled 2 rfl) rfl ?_
    refine wp_iconst (v := 1) hX (dk DX10_filled 3 rfl) (by decide) ?_
    refine wp_icmp_le (tgt := 13) hX (dk DX10_filled 4 rfl) (by decide) (fun h6 => ?_) (fun h6 => ?_)
    · have hw : ∃ q, q < 2 ∧ w = nI q := by obtain ⟨w, h1, h2⟩ := rg_le2 (k := 1) (by decide) h1 h6; exact ⟨w, by omega, h2⟩
      refine wp_aload_n hX (dk DX10_filled 7 rfl) rfl ?_
      refine wp_iload_n hX (dk DX10_filled 8 rfl) rfl ?_
      refine wp_iload_n hX (dk DX10_filled 9 rfl) rfl ?_
      refine w_callV (As := [_, _]) lkX10_254 hX (dk DX10_filled 10 rfl) rfl rfl (by decide) hN (k_refT0 (d + 108) sw f g m x y hm hm6 (fun q => h ⟨q.1, q.2, hw⟩)) ?_
      show WP _ _ _ 19 [_, _, _, _, _, _] [_] _
      refine wp_istore hX (dk DX10_filled 11 rfl) rfl hN (Nat.le_of_ble_eq_true rfl) ?_
      show WP _ _ _ 21 [_, _, _, _, _, _] [] _
      refine wp_iload hX (dk DX10_filled 12 rfl) rfl ?_
      refine wp_if_eq (tgt := 29) hX (dk DX10_filled 13 rfl) (by decide) (fun h_ => absurd h_ (by decide)) (fun _ => ?_)
      refine wp_iload hX (dk DX10_filled 14 rfl) rfl ?_
      exact wp_ireturn hX hR (dk DX10_filled 15 rfl) rfl (Nat.le_refl _) (Nat.le_refl _) (⟨rfl, rfl⟩)
    · refine wp_iconst (v := -1) hX (dk DX10_filled 5 rfl) (by decide) ?_
      refine wp_goto (tgt := 19) hX (dk DX10_filled 6 rfl) (by decide) ?_
      refine wp_istore hX (dk DX10_filled 11 rfl) rfl hN (Nat.le_of_ble_eq_true rfl) ?_
      show WP _ _ _ 21 [_, _, _, _, _, _] [] _
      refine wp_iload hX (dk DX10_filled 12 rfl) rfl ?_
      refine wp_if_eq (tgt := 29) hX (dk DX10_filled 13 rfl) (by decide) (fun h_ => absurd h_ (by decide)) (fun _ => ?_)
      refine wp_iload hX (dk DX10_filled 14 rfl) rfl ?_
      exact wp_ireturn hX hR (dk DX10_filled 15 rfl) rfl (Nat.le_refl _) (Nat.le_refl _) (⟨rfl, rfl⟩)
theorem t_filledR (d : Nat) (sw : Bool) (f : Nat → Nat → Int32) (g : Nat → Nat → Int64) (m c b w : Nat) (hm : f 61 6 = nI m) (hm6 : m ≤ 6) (hc : c < 6) (hb : b < m) (hw : w < 2) (h : ¬ jrf (f 74 c) = 0) : CT (d + 110) 0 0 iX10_filled [.ref 0, .int (nI c), .int (nI b), .int (nI w)] (S sw f g) (rdC g f (jrf (f 74 c))) := by
  refine CT.rdC ?_
  refine CT.of rfl (Nat.le_of_ble_eq_true rfl) (fun X hX hR hN _ => ?_)
  have hX : Good X RX10 cX10_filled (d + 110) 0 0 := hX
  have hN : x_nl X = 6 := hN
  show WP X 0 0 0 [_, _, _, _, _, _] [] _
  refine wp_iload_n hX (dk DX10_filled 0 rfl) rfl ?_
  refine wp_if_lt (tgt := 9) hX (dk DX10_filled 1 rfl) (by decide) (fun h_ => absurd h_ (nI_pos (by omega))) (fun _ => ?_)
  refine wp_iload_n hX (dk DX10_filled 2 rfl) rfl ?_
  refine wp_iconst (v := 1) hX (dk DX10_filled 3 rfl) (by decide) ?_
  refine wp_icmp_le (tgt := 13) hX (dk DX10_filled 4 rfl) (by decide) (fun _ => ?_) (fun h_ => absurd (nI_le (b := 1) (by omega) (by omega)) h_)
  refine wp_aload_n hX (dk DX10_filled 7 rfl) rfl ?_
  refine wp_iload_n hX (dk DX10_filled 8 rfl) rfl ?_
  refine wp_iload_n hX (dk DX10_filled 9 rfl) rfl ?_
  refine w_callV (As := [_, _]) lkX10_254 hX (dk DX10_filled 10 rfl) rfl rfl (by decide) hN (k_refT1 (d + 108) sw f g m c b hm hm6 hc hb) ?_
  show WP _ _ _ 19 [_, _, _, _, _, _] [_] _
  refine wp_istore hX (dk DX10_filled 11 rfl) rfl hN (Nat.le_of_ble_eq_true rfl) ?_
  show WP _ _ _ 21 [_, _, _, _, _, _] [] _
  refine wp_iload hX (dk DX10_filled 12 rfl) rfl ?_
  refine wp_if_eq (tgt := 29) hX (dk DX10_filled 13 rfl) (by decide) (fun h_ => absurd h_ (h)) (fun _ => ?_)
  refine wp_iload hX (dk DX10_filled 14 rfl) rfl ?_
  exact wp_ireturn hX hR (dk DX10_filled 15 rfl) rfl (Nat.le_refl _) (Nat.le_refl _) (⟨rfl, rfl⟩)
theorem t_filled1 (d : Nat) (sw : Bool) (f : Nat → Nat → Int32) (g : Nat → Nat → Int64) (n m c b z w : Nat) (sh : Nat → Int32) (hs : stF f n sh) (hm : f 61 6 = nI m) (hm6 : m ≤ 6) (hc : c < 6) (hb : b < m) (hw : w < 2) (h : f 74 c = 0) (hz : f 75 c = nI z) (hz60 : z ≤ 60) : CT (d + 110) 0 0 iX10_filled [.ref 0, .int (nI c), .int (nI b), .int (nI w)] (S sw f g) (rdC g f (if w = 0 then gC (f 4) n z (fun i => g 76 (c * 60 + i)) (jfo sh n (f 62 b)) else (if jun (fun i => g 76 (c * 60 + i)) z 0 = -2 then -2 else jff (f 4) n z (fun i => g 76 (c * 60 + i)) (jfo sh n (f 62 b)) (jun (fun i => g 76 (c * 60 + i)) z 0) n 0))) := by
  have hn10 := hs.2.1
  refine CT.of rfl (Nat.le_of_ble_eq_true rfl) (fun X hX hR hN _ => ?_)
  have hX : Good X RX10 cX10_filled (d + 110) 0 0 := hX
  have hN : x_nl X = 6 := hN
  show WP X 0 0 0 [_, _, _, _, _, _] [] _
  refine wp_iload_n hX (dk DX10_filled 0 rfl) rfl ?_
  refine wp_if_lt (tgt := 9) hX (dk DX10_filled 1 rfl) (by decide) (fun h_ => absurd h_ (nI_pos (by omega))) (fun _ => ?_)
  refine wp_iload_n hX (dk DX10_filled 2 rfl) rfl ?_
  refine wp_iconst (v := 1) hX (dk DX10_filled 3 rfl) (by decide) ?_
  refine wp_icmp_le (tgt := 13) hX (dk DX10_filled 4 rfl) (by decide) (fun _ => ?_) (fun h_ => absurd (nI_le (b := 1) (by omega) (by omega)) h_)
  refine wp_aload_n hX (dk DX10_filled 7 rfl) rfl ?_
  refine wp_iload_n hX (dk DX10_filled 8 rfl) rfl ?_
  refine wp_iload_n hX (dk DX10_filled 9 rfl) rfl ?_
  refine w_callV (As := [_, _]) lkX10_254 hX (dk DX10_filled 10 rfl) rfl rfl (by decide) hN (k_refT1 (d + 108) sw f g m c b hm hm6 hc hb) ?_
  show WP _ _ _ 19 [_, _, _, _, _, _] [_] _
  rw [show jrf (f 74 c) = 0 by rw [h]; rfl]
  refine wp_istore hX (dk DX10_filled 11 rfl) rfl hN (Nat.le_of_ble_eq_true rfl) ?_
  show WP _ _ _ 21 [_, _, _, _, _, _] [] _
  refine wp_iload hX (dk DX10_filled 12 rfl) rfl ?_
  refine wp_if_eq (tgt := 29) hX (dk DX10_filled 13 rfl) (by decide) (fun _ => ?_) (fun h_ => absurd (rfl) h_)
  refine wp_aload_n hX (dk DX10_filled 16 rfl) rfl ?_
  refine wp_iload_n hX (dk DX10_filled 17 rfl) rfl ?_
  refine w_callV (As := [_]) lkX10_204 hX (dk DX10_filled 18 rfl) rfl rfl (by decide) hN (k_firstOut (d + 106) sw f g n b sh hs (by omega)) ?_
  show WP _ _ _ 34 [_, _, _, _, _, _] [_] _
  refine wp_istore hX (dk DX10_filled 19 rfl) rfl hN (Nat.le_of_ble_eq_true rfl) ?_
  show WP _ _ _ 36 [_, _, _, _, _, _] [] _
  refine wp_iload_n hX (dk DX10_filled 20 rfl) rfl ?_
  refine wp_if_ne (tgt := 57) hX (dk DX10_filled 21 rfl) (by decide) (fun h37 => ?_) (fun h37 => ?_)
  · refine wp_aload_n hX (dk DX10_filled 30 rfl) rfl ?_
    refine w_getr hX flX10_44 (dk DX10_filled 31 rfl) rfl rfl ?_
    refine wp_aload_n hX (dk DX10_filled 32 rfl) rfl ?_
    refine w_getr hX flX10_72 (dk DX10_filled 33 rfl) rfl rfl ?_
    refine wp_iload_n hX (dk DX10_filled 34 rfl) rfl ?_
    refine wp_iload hX (dk DX10_filled 35 rfl) rfl ?_
    refine w_callVQ (As := [_, _, _]) lkX10_265 hX (dk DX10_filled 36 rfl) rfl rfl (by decide) hN (k_firstFilling (d + 106) sw f g n c z _ hs.1 hn10 hc hz hz60) (fun v_ sw_ f_ g_ hq_ => ?_)
    obtain ⟨rfl, rfl, rfl, hf⟩ := hq_
    show WP _ _ _ 71 [_, _, _, _, _, _] [_] _
    exact wp_ireturn hX hR (dk DX10_filled 37 rfl) rfl (Nat.le_refl _) (Nat.le_refl _) (⟨_, _, _, rfl, by simp only [nIz (show w < 2 ^ 31 by omega)] at h37; simp [h37], rfl, fun b h1 h2 h3 => (by first | exact hf b (by omega) | exact hf b (by omega) (by omega)), fun i _ => (by first | rw [hf 49 (by decide) (by decide)] | rw [hf 49 (by decide)])⟩)
  · refine wp_aload_n hX (dk DX10_filled 22 rfl) rfl ?_
    refine w_getr hX flX10_44 (dk DX10_filled 23 rfl) rfl rfl ?_
    refine wp_aload_n hX (dk DX10_filled 24 rfl) rfl ?_
    refine w_getr hX flX10_72 (dk DX10_filled 25 rfl) rfl rfl ?_
    refine wp_iload_n hX (dk DX10_filled 26 rfl) rfl ?_
    refine wp_iload hX (dk DX10_filled 27 rfl) rfl ?_
    refine w_callVQ (As := [_, _, _]) lkX10_261 hX (dk DX10_filled 28 rfl) rfl rfl (by decide) hN (k_countFillings (d + 106) sw f g n c z _ hs.1 hn10 hc hz hz60) (fun v_ sw_ f_ g_ hq_ => ?_)
    obtain ⟨rfl, rfl, hf⟩ := hq_
    show WP _ _ _ 54 [_, _, _, _, _, _] [_] _
    refine wp_goto (tgt := 71) hX (dk DX10_filled 29 rfl) (by decide) ?_
    exact wp_ireturn hX hR (dk DX10_filled 37 rfl) rfl (Nat.le_refl _) (Nat.le_refl _) (⟨_, _, _, rfl, by simp only [nIz (show w < 2 ^ 31 by omega)] at h37; simp [h37], rfl, fun b h1 h2 h3 => (by first | exact hf b (by omega) | exact hf b (by omega) (by omega)), fun i _ => (by first | rw [hf 49 (by decide) (by decide)] | rw [hf 49 (by decide)])⟩)
theorem t_drawn0 (d : Nat) (sw : Bool) (f : Nat → Nat → Int32) (g : Nat → Nat → Int64) (n m : Nat) (x z q y : Int32) (hn : f 1 4 = nI n) (hn10 : n ≤ 10) (hm : f 61 6 = nI m) (hm6 : m ≤ 6) (h : ¬ ((∃ b, b < m ∧ x = nI b) ∧ (∃ k, 1 ≤ k ∧ k ≤ 50 ∧ q = nI k) ∧ (y = -1 ∨ ∃ i, i < n ∧ y = nI i))) : CT (d + 110) 0 0 iX10_drawn [.ref 0, .int x, .int z, .int q, .int y] (S sw f g) (rdC g f (-1)) := by
  have hq : ¬ q < 1 → ¬ 50 < q → ∃ k, 1 ≤ k ∧ k ≤ 50 ∧ q = nI k := by
    intro h1 h2
    obtain ⟨k, k1, rfl⟩ := rg_le (k := 50) (x := q) (by decide) (fun e => h1 (Int32.lt_trans e (by decide))) h2
    exact ⟨k, Nat.le_of_not_lt (fun c => h1 (nI_lt (a := k) (b := 1) c (by decide))), k1, rfl⟩
  refine CT.rdC ?_
  refine CT.of rfl (Nat.le_of_ble_eq_true rfl) (fun X hX hR hN _ => ?_)
  have hX : Good X RX10 cX10_drawn (d + 110) 0 0 := hX
  have hN : x_nl X = 5 := hN
  show WP X 0 0 0 [_, _, _, _, _] [] _
  refine wp_aload_n hX (dk DX10_drawn 0 rfl) rfl ?_
  refine w_getr hX flX10_51 (dk DX10_drawn 1 rfl) rfl rfl ?_
  refine wp_iload_n hX (dk DX10_drawn 2 rfl) rfl ?_
  refine w_callV (As := [_]) lkX10_127 hX (dk DX10_drawn 3 rfl) rfl rfl (by decide) hN (k_yhas (d + 109) sw f g x) ?_
  show WP _ _ _ 8 [_, _, _, _, _] [_] _
  rw [hm]
  refine wp_if_eq (tgt := 40) hX (dk DX10_drawn 4 rfl) (by decide) (fun h8 => ?_) (fun h8 => ?_)
  · refine wp_iconst (v := -1) hX (dk DX10_drawn 19 rfl) (by decide) ?_
    exact wp_ireturn hX hR (dk DX10_drawn 20 rfl) rfl (Nat.le_refl _) (Nat.le_refl _) (⟨rfl, rfl⟩)
  · refine wp_iload_n hX (dk DX10_drawn 5 rfl) rfl ?_
    refine wp_iconst (v := 1) hX (dk DX10_drawn 6 rfl) (by decide) ?_
    refine wp_icmp_lt (tgt := 40) hX (dk DX10_drawn 7 rfl) (by decide) (fun h13 => ?_) (fun h13 => ?_)
    · refine wp_iconst (v := -1) hX (dk DX10_drawn 19 rfl) (by decide) ?_
      exact wp_ireturn hX hR (dk DX10_drawn 20 rfl) rfl (Nat.le_refl _) (Nat.le_refl _) (⟨rfl, rfl⟩)
    · refine wp_iload_n hX (dk DX10_drawn 8 rfl) rfl ?_
      refine wp_bipush (v := 50) hX (dk DX10_drawn 9 rfl) (by decide) ?_
      refine wp_icmp_gt (tgt := 40) hX (dk DX10_drawn 10 rfl) (by decide) (fun h19 => ?_) (fun h19 => ?_)
      · refine wp_iconst (v := -1) hX (dk DX10_drawn 19 rfl) (by decide) ?_
        exact wp_ireturn hX hR (dk DX10_drawn 20 rfl) rfl (Nat.le_refl _) (Nat.le_refl _) (⟨rfl, rfl⟩)
      · refine wp_iload hX (dk DX10_drawn 11 rfl) rfl ?_
        refine wp_iconst (v := -1) hX (dk DX10_drawn 12 rfl) (by decide) ?_
        refine wp_icmp_eq (tgt := 42) hX (dk DX10_drawn 13 rfl) (by decide) (fun h25 => ?_) (fun h25 => ?_)
        · have hy : y = -1 ∨ ∃ i, i < n ∧ y = nI i := Or.inl h25
          exact absurd ⟨jin_ex (by omega) h8, hq h13 h19, hy⟩ h
        · refine wp_aload_n hX (dk DX10_drawn 14 rfl) rfl ?_
          refine w_getr hX flX10_10 (dk DX10_drawn 15 rfl) rfl rfl ?_
          refine wp_iload hX (dk DX10_drawn 16 rfl) rfl ?_
          refine w_callV (As := [_]) lkX10_104 hX (dk DX10_drawn 17 rfl) rfl rfl (by decide) hN (k_has (d + 109) sw f g y) ?_
          show WP _ _ _ 37 [_, _, _, _, _] [_] _
          rw [hn]
          refine wp_if_ne (tgt := 42) hX (dk DX10_drawn 18 rfl) (by decide) (fun h37 => ?_) (fun h37 => ?_)
          · have hy : y = -1 ∨ ∃ i, i < n ∧ y = nI i := Or.inr (jin_ex (by omega) h37)
            exact absurd ⟨jin_ex (by omega) h8, hq h13 h19, hy⟩ h
          · refine wp_iconst (v := -1) hX (dk DX10_drawn 19 rfl) (by decide) ?_
            exact wp_ireturn hX hR (dk DX10_drawn 20 rfl) rfl (Nat.le_refl _) (Nat.le_refl _) (⟨rfl, rfl⟩)
theorem t_drawn1 (d : Nat) (sw : Bool) (f : Nat → Nat → Int32) (g : Nat → Nat → Int64) (n m b k : Nat) (z y : Int32) (sh : Nat → Int32) (hs : stF f n sh) (hm : f 61 6 = nI m) (hm6 : m ≤ 6) (hb : b < m) (hk1 : 1 ≤ k) (hk : k ≤ 50) (hy : y = -1 ∨ ∃ i, i < n ∧ y = nI i) : CT (d + 110) 0 0 iX10_drawn [.ref 0, .int (nI b), .int z, .int (nI k), .int y] (S sw f g) (rdC g f (if y = -1 then (drN (f 4) n (jfo sh n (f 62 b)) y k (z, 0, 0)).2.1 else (drN (f 4) n (jfo sh n (f 62 b)) y k (z, 0, 0)).2.2)) := by
  have hn10 := hs.2.1
  refine CT.rdC ?_
  refine CT.of rfl (Nat.le_of_ble_eq_true rfl) (fun X hX hR hN _ => ?_)
  have hX : Good X RX10 cX10_drawn (d + 110) 0 0 := hX
  have hN : x_nl X = 5 := hN
  show WP X 0 0 0 [_, _, _, _, _] [] _
  refine wp_aload_n hX (dk DX10_drawn 0 rfl) rfl ?_
  refine w_getr hX flX10_51 (dk DX10_drawn 1 rfl) rfl rfl ?_
  refine wp_iload_n hX (dk DX10_drawn 2 rfl) rfl ?_
  refine w_callV (As := [_]) lkX10_127 hX (dk DX10_drawn 3 rfl) rfl rfl (by decide) hN (k_yhas (d + 109) sw f g (nI b)) ?_
  show WP _ _ _ 8 [_, _, _, _, _] [_] _
  rw [hm, jin_1 (by omega) hb rfl]
  refine wp_if_eq (tgt := 40) hX (dk DX10_drawn 4 rfl) (by decide) (fun h_ => absurd h_ (by decide)) (fun _ => ?_)
  refine wp_iload_n hX (dk DX10_drawn 5 rfl) rfl ?_
  refine wp_iconst (v := 1) hX (dk DX10_drawn 6 rfl) (by decide) ?_
  refine wp_icmp_lt (tgt := 40) hX (dk DX10_drawn 7 rfl) (by decide) (fun h_ => absurd h_ (nI_nlt (b := 1) (by omega) (by omega))) (fun _ => ?_)
  refine wp_iload_n hX (dk DX10_drawn 8 rfl) rfl ?_
  refine wp_bipush (v := 50) hX (dk DX10_drawn 9 rfl) (by decide) ?_
  refine wp_icmp_gt (tgt := 40) hX (dk DX10_drawn 10 rfl) (by decide) (fun h_ => absurd h_ (nI_nlt (a := 50) (by omega) (by omega))) (fun _ => ?_)
  refine wp_iload hX (dk DX10_drawn 11 rfl) rfl ?_
  refine wp_iconst (v := -1) hX (dk DX10_drawn 12 rfl) (by decide) ?_
  refine wp_icmp_eq (tgt := 42) hX (dk DX10_drawn 13 rfl) (by decide) (fun h25 => ?_) (fun h25 => ?_)
  · refine wp_aload_n hX (dk DX10_drawn 21 rfl) rfl ?_
    refine w_getr hX flX10_35 (dk DX10_drawn 22 rfl) rfl rfl ?_
    refine wp_aload_n hX (dk DX10_drawn 23 rfl) rfl ?_
    refine wp_iload_n hX (dk DX10_drawn 24 rfl) rfl ?_
    refine w_callV (As := [_]) lkX10_204 hX (dk DX10_drawn 25 rfl) rfl rfl (by simp [Value.category]) hN (k_firstOut (d + 106) sw f g n b sh hs (by omega)) ?_
    show WP _ _ _ 51 [_, _, _, _, _] [_, _] _
    refine wp_iload_n hX (dk DX10_drawn 26 rfl) rfl ?_
    refine wp_iload_n hX (dk DX10_drawn 27 rfl) rfl ?_
    refine wp_iload hX (dk DX10_drawn 28 rfl) rfl ?_
    refine w_callV (As := [_, _, _, _]) lkX10_271 hX (dk DX10_drawn 29 rfl) rfl rfl (by decide) hN (k_draw (d + 107) sw f g n k _ z y hs.1 hn10 (by omega)) ?_
    show WP _ _ _ 58 [_, _, _, _, _] [_] _
    exact wp_ireturn hX hR (dk DX10_drawn 30 rfl) rfl (Nat.le_refl _) (Nat.le_refl _) (⟨rfl, rfl⟩)
  · refine wp_aload_n hX (dk DX10_drawn 14 rfl) rfl ?_
    refine w_getr hX flX10_10 (dk DX10_drawn 15 rfl) rfl rfl ?_
    refine wp_iload hX (dk DX10_drawn 16 rfl) rfl ?_
    refine w_callV (As := [_]) lkX10_104 hX (dk DX10_drawn 17 rfl) rfl rfl (by decide) hN (k_has (d + 109) sw f g y) ?_
    show WP _ _ _ 37 [_, _, _, _, _] [_] _
    rw [hs.1]
    refine wp_if_ne (tgt := 42) hX (dk DX10_drawn 18 rfl) (by decide) (fun _ => ?_) (fun h_ => absurd h_ (by obtain ⟨i, hi, e⟩ := hy.resolve_left h25; rw [jin_1 (by omega) hi e]; decide))
    refine wp_aload_n hX (dk DX10_drawn 21 rfl) rfl ?_
    refine w_getr hX flX10_35 (dk DX10_drawn 22 rfl) rfl rfl ?_
    refine wp_aload_n hX (dk DX10_drawn 23 rfl) rfl ?_
    refine wp_iload_n hX (dk DX10_drawn 24 rfl) rfl ?_
    refine w_callV (As := [_]) lkX10_204 hX (dk DX10_drawn 25 rfl) rfl rfl (by simp [Value.category]) hN (k_firstOut (d + 106) sw f g n b sh hs (by omega)) ?_
    show WP _ _ _ 51 [_, _, _, _, _] [_, _] _
    refine wp_iload_n hX (dk DX10_drawn 26 rfl) rfl ?_
    refine wp_iload_n hX (dk DX10_drawn 27 rfl) rfl ?_
    refine wp_iload hX (dk DX10_drawn 28 rfl) rfl ?_
    refine w_callV (As := [_, _, _, _]) lkX10_271 hX (dk DX10_drawn 29 rfl) rfl rfl (by decide) hN (k_draw (d + 107) sw f g n k _ z y hs.1 hn10 (by omega)) ?_
    show WP _ _ _ 58 [_, _, _, _, _] [_] _
    exact wp_ireturn hX hR (dk DX10_drawn 30 rfl) rfl (Nat.le_refl _) (Nat.le_refl _) (⟨rfl, rfl⟩)
