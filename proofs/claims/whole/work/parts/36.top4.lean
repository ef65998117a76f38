/-! THE CLASS'S CALLS: when, smallest, leave, by turns, egg, told, drawn -/
/-- the first year below k in which most comes, that -/
def wnF (v : Nat → Int32) : Nat → Int32 × Int32
  | 0 => (0, -1)
  | y + 1 => if (wnF v y).2 < v y then (nI y, v y) else wnF v y
/-- what figure i brings in year y, first -/
def jwv (f : Nat → Nat → Int32) (L : List (List Nat × List Nat)) (sh : Nat → Int32) (i y : Nat) : Int32 := jbr L (f 3 (i * 3)) (f 3 (i * 3 + 1)) (f 3 (i * 3 + 2)) (sh i) (nI i) (nI y) 0
theorem stF.rw {f f2 : Nat → Nat → Int32} {n : Nat} {sh : Nat → Int32} (h : stF f n sh) (h2 : rwS f f2) : stF f2 n sh := by
  have hn := h.2.1
  exact ⟨by rw [h2.1 1 (by decide) (by decide) (by decide)]; exact h.1, hn, fun i hi => (h.2.2 i hi).same (h2.1 _ (by omega) (by omega) (by omega)) (h2.1 _ (by omega) (by omega) (by omega)) (h2.1 _ (by omega) (by omega) (by omega)) (h2.1 _ (by omega) (by omega) (by omega))⟩
theorem t_when0 (d : Nat) (sw : Bool) (f : Nat → Nat → Int32) (g : Nat → Nat → Int64) (n : Nat) (x y : Int32) (hn : f 1 4 = nI n) (hn10 : n ≤ 10) (h : ¬ ((∃ i, i < n ∧ x = nI i) ∧ ∃ w, w < 2 ∧ y = nI w)) : CT (d + 110) 0 0 iX10_when [.ref 0, .int x, .int y] (S sw f g) (rdC g f (-1)) := by
  refine CT.rdC ?_
  refine CT.of rfl (Nat.le_of_ble_eq_true rfl) (fun X hX hR hN _ => ?_)
  have hX : Good X RX10 cX10_when (d + 110) 0 0 := hX
  have hN : x_nl X = 7 := hN
  show WP X 0 0 0 [_, _, _, _, _, _, _] [] _
  refine wp_aload_n hX (dk DX10_when 0 rfl) rfl ?_
  refine w_getr hX flX10_10 (dk DX10_when 1 rfl) rfl rfl ?_
  refine wp_iload_n hX (dk DX10_when 2 rfl) rfl ?_
  refine w_callV (As := [_]) lkX10_104 hX (dk DX10_when 3 rfl) rfl rfl (by decide) hN (k_has (d + 109) sw f g x) ?_
  show WP _ _ _ 8 [_, _, _, _, _, _, _] [_] _
  rw [hn]
  refine wp_if_eq (tgt := 20) hX (dk DX10_when 4 rfl) (by decide) (fun h8 => ?_) (fun h8 => ?_)
  · refine wp_iconst (v := -1) hX (dk DX10_when 10 rfl) (by decide) ?_
    exact wp_ireturn hX hR (dk DX10_when 11 rfl) rfl (Nat.le_refl _) (Nat.le_refl _) (⟨rfl, rfl⟩)
  · refine wp_iload_n hX (dk DX10_when 5 rfl) rfl ?_
    refine wp_if_lt (tgt := 20) hX (dk DX10_when 6 rfl) (by decide) (fun h12 => ?_) (fun h12 => ?_)
    · refine wp_iconst (v := -1) hX (dk DX10_when 10 rfl) (by decide) ?_
      exact wp_ireturn hX hR (dk DX10_when 11 rfl) rfl (Nat.le_refl _) (Nat.le_refl _) (⟨rfl, rfl⟩)
    · refine wp_iload_n hX (dk DX10_when 7 rfl) rfl ?_
      refine wp_iconst (v := 1) hX (dk DX10_when 8 rfl) (by decide) ?_
      refine wp_icmp_le (tgt := 22) hX (dk DX10_when 9 rfl) (by decide) (fun h17 => ?_) (fun h17 => ?_)
      · exact absurd ⟨jin_ex (by omega) h8, by obtain ⟨w, h1, h2⟩ := rg_le2 (k := 1) (by decide) h12 h17; exact ⟨w, by omega, h2⟩⟩ h
      · refine wp_iconst (v := -1) hX (dk DX10_when 10 rfl) (by decide) ?_
        exact wp_ireturn hX hR (dk DX10_when 11 rfl) rfl (Nat.le_refl _) (Nat.le_refl _) (⟨rfl, rfl⟩)
theorem t_when1 (d : Nat) (sw : Bool) (f : Nat → Nat → Int32) (g : Nat → Nat → Int64) (n i w : Nat) (sh : Nat → Int32) (L : List (List Nat × List Nat)) (hs : stF f n sh) (hr : rlOk f L) (hi : i < n) (hw : w < 2) : CT (d + 110) 0 0 iX10_when [.ref 0, .int (nI i), .int (nI w)] (S sw f g) (rdC g f (if w = 0 then (wnF (jwv f L sh i) 100).1 else (wnF (jwv f L sh i) 100).2)) := by
  have hn10 := hs.2.1
  obtain ⟨v, hv⟩ : ∃ v : Nat → Int32, v = jwv f L sh i := ⟨_, rfl⟩
  rw [← hv]
  refine CT.of rfl (Nat.le_of_ble_eq_true rfl) (fun X hX hR hN _ => ?_)
  have hX : Good X RX10 cX10_when (d + 110) 0 0 := hX
  have hN : x_nl X = 7 := hN
  show WP X 0 0 0 [_, _, _, _, _, _, _] [] _
  have lo : ∀ (q y : Nat) (f2 : Nat → Nat → Int32) (z : Option Value), y + q = 100 → rwS f f2 → WP X 0 0 30 [some (.ref 0), some (.int (nI i)), some (.int (nI w)), some (.int (wnF v y).1), some (.int (wnF v y).2), some (.int (nI y)), z] [] (S sw f2 g) := by
    intro q
    induction q with
    | zero =>
      intro y f2 z hy hf
      obtain rfl : y = 100 := by omega
      refine wp_iload hX (dk DX10_when 18 rfl) rfl ?_
      refine wp_bipush (v := 99) hX (dk DX10_when 19 rfl) (by decide) ?_
      refine wp_icmp_gt (tgt := 74) hX (dk DX10_when 20 rfl) (by decide) (fun _ => ?_) (fun h_ => absurd (by decide) h_)
      refine wp_iload_n hX (dk DX10_when 39 rfl) rfl ?_
      refine wp_if_ne (tgt := 82) hX (dk DX10_when 40 rfl) (by decide) (fun h75 => ?_) (fun h75 => ?_)
      · refine wp_iload hX (dk DX10_when 43 rfl) rfl ?_
        exact wp_ireturn hX hR (dk DX10_when 44 rfl) rfl (Nat.le_refl _) (Nat.le_refl _) (⟨_, _, _, rfl, by simp only [nIz (show w < 2 ^ 31 by omega)] at h75; simp [h75], rfl, hf.q⟩)
      · refine wp_iload_n hX (dk DX10_when 41 rfl) rfl ?_
        refine wp_goto (tgt := 84) hX (dk DX10_when 42 rfl) (by decide) ?_
        exact wp_ireturn hX hR (dk DX10_when 44 rfl) rfl (Nat.le_refl _) (Nat.le_refl _) (⟨_, _, _, rfl, by simp only [nIz (show w < 2 ^ 31 by omega)] at h75; simp [h75], rfl, hf.q⟩)
    | succ q ih =>
      intro y f2 z hy hf
      refine wp_iload hX (dk DX10_when 18 rfl) rfl ?_
      refine wp_bipush (v := 99) hX (dk DX10_when 19 rfl) (by decide) ?_
      refine wp_icmp_gt (tgt := 74) hX (dk DX10_when 20 rfl) (by decide) (fun h_ => absurd h_ (by rw [k99]; exact nI_nlt (by omega) (by omega))) (fun _ => ?_)
      refine wp_aload_n hX (dk DX10_when 21 rfl) rfl ?_
      refine w_getr hX flX10_26 (dk DX10_when 22 rfl) rfl rfl ?_
      refine wp_aload_n hX (dk DX10_when 23 rfl) rfl ?_
      refine w_getr hX flX10_10 (dk DX10_when 24 rfl) rfl rfl ?_
      refine wp_iload_n hX (dk DX10_when 25 rfl) rfl ?_
      refine wp_iload hX (dk DX10_when 26 rfl) rfl ?_
      refine wp_iconst (v := 0) hX (dk DX10_when 27 rfl) (by decide) ?_
      refine w_callVQ (As := [_, _, _, _]) lkX10_152 hX (dk DX10_when 28 rfl) rfl rfl (by decide) hN (k_worthOf (d + 105) sw f2 g n i sh (nI y) 0 L (hs.rw hf) (hr.rw hf) hi) (fun v_ sw_ f_ g_ hq_ => ?_)
      obtain ⟨rfl, rfl, rfl, hf2⟩ := hq_
      rw [hf.1 3 (by decide) (by decide) (by decide), show jbr L (f 3 (i * 3)) (f 3 (i * 3 + 1)) (f 3 (i * 3 + 2)) (sh i) (nI i) (nI y) 0 = v y by rw [hv]; rfl]
      show WP _ _ _ 52 [_, _, _, _, _, _, _] [_] _
      refine wp_istore hX (dk DX10_when 29 rfl) rfl hN (Nat.le_of_ble_eq_true rfl) ?_
      show WP _ _ _ 54 [_, _, _, _, _, _, _] [] _
      refine wp_iload hX (dk DX10_when 30 rfl) rfl ?_
      refine wp_iload hX (dk DX10_when 31 rfl) rfl ?_
      refine wp_icmp_le (tgt := 68) hX (dk DX10_when 32 rfl) (by decide) (fun h58 => ?_) (fun h58 => ?_)
      · refine wp_iinc hX (dk DX10_when 37 rfl) rfl (nI_inc _) rfl hN ?_
        show WP _ _ _ 71 [_, _, _, _, _, _, _] [] _
        refine wp_goto (tgt := 30) hX (dk DX10_when 38 rfl) (by decide) ?_
        have := ih (y + 1) _ (some (.int (v y))) (by omega) (hf.trans hf2)
        rw [wnF] at this
        first | rw [if_neg (Int32.not_lt.mpr h58)] at this; exact this | rw [if_pos (Int32.not_le.mp h58)] at this; exact this
      · refine wp_iload hX (dk DX10_when 33 rfl) rfl ?_
        refine wp_istore_n hX (dk DX10_when 34 rfl) rfl rfl hN (Nat.le_of_ble_eq_true rfl) ?_
        show WP _ _ _ 64 [_, _, _, _, _, _, _] [] _
        refine wp_iload hX (dk DX10_when 35 rfl) rfl ?_
        refine wp_istore hX (dk DX10_when 36 rfl) rfl hN (Nat.le_of_ble_eq_true rfl) ?_
        show WP _ _ _ 68 [_, _, _, _, _, _, _] [] _
        refine wp_iinc hX (dk DX10_when 37 rfl) rfl (nI_inc _) rfl hN ?_
        show WP _ _ _ 71 [_, _, _, _, _, _, _] [] _
        refine wp_goto (tgt := 30) hX (dk DX10_when 38 rfl) (by decide) ?_
        have := ih (y + 1) _ (some (.int (v y))) (by omega) (hf.trans hf2)
        rw [wnF] at this
        first | rw [if_neg (Int32.not_lt.mpr h58)] at this; exact this | rw [if_pos (Int32.not_le.mp h58)] at this; exact this
  refine wp_aload_n hX (dk DX10_when 0 rfl) rfl ?_
  refine w_getr hX flX10_10 (dk DX10_when 1 rfl) rfl rfl ?_
  refine wp_iload_n hX (dk DX10_when 2 rfl) rfl ?_
  refine w_callV (As := [_]) lkX10_104 hX (dk DX10_when 3 rfl) rfl rfl (by decide) hN (k_has (d + 109) sw f g (nI i)) ?_
  show WP _ _ _ 8 [_, _, _, _, _, _, _] [_] _
  rw [hs.1, jin_1 (by omega) hi rfl]
  refine wp_if_eq (tgt := 20) hX (dk DX10_when 4 rfl) (by decide) (fun h_ => absurd h_ (by decide)) (fun _ => ?_)
  refine wp_iload_n hX (dk DX10_when 5 rfl) rfl ?_
  refine wp_if_lt (tgt := 20) hX (dk DX10_when 6 rfl) (by decide) (fun h_ => absurd h_ (nI_pos (by omega))) (fun _ => ?_)
  refine wp_iload_n hX (dk DX10_when 7 rfl) rfl ?_
  refine wp_iconst (v := 1) hX (dk DX10_when 8 rfl) (by decide) ?_
  refine wp_icmp_le (tgt := 22) hX (dk DX10_when 9 rfl) (by decide) (fun _ => ?_) (fun h_ => absurd (nI_le (b := 1) (by omega) (by omega)) h_)
  refine wp_iconst (v := 0) hX (dk DX10_when 12 rfl) (by decide) ?_
  refine wp_istore_n hX (dk DX10_when 13 rfl) rfl rfl hN (Nat.le_of_ble_eq_true rfl) ?_
  show WP _ _ _ 24 [_, _, _, _, _, _, _] [] _
  refine wp_iconst (v := -1) hX (dk DX10_when 14 rfl) (by decide) ?_
  refine wp_istore hX (dk DX10_when 15 rfl) rfl hN (Nat.le_of_ble_eq_true rfl) ?_
  show WP _ _ _ 27 [_, _, _, _, _, _, _] [] _
  refine wp_iconst (v := 0) hX (dk DX10_when 16 rfl) (by decide) ?_
  refine wp_istore hX (dk DX10_when 17 rfl) rfl hN (Nat.le_of_ble_eq_true rfl) ?_
  show WP _ _ _ 30 [_, _, _, _, _, _, _] [] _
  exact lo 100 0 f none (by omega) rwS.rf
/-- how many of a shape's places are unlike ones -/
def ju (s : Int32) : Nat := if jturn s 1 = jturn s 0 then jn s / 4 else if jturn s 2 = jturn s 0 then jn s / 2 else jn s
theorem ju_le (s : Int32) : ju s ≤ jn s := by
  unfold ju
  split
  · omega
  · split <;> omega
theorem junl_ju {t : Nat → Int32} {s : Int32} (h : ∀ k, k < 4 → t k = jturn s k) : junl t (nI (jn s)) = nI (ju s) := by
  have := jn_le s
  unfold junl ju
  rw [h 0 (by decide), h 1 (by decide), h 2 (by decide)]
  split
  · rw [show (4 : Int32) = nI 4 from rfl, pk_div (by omega) (by decide) (by decide)]
  · split
    · rw [show (2 : Int32) = nI 2 from rfl, pk_div (by omega) (by decide) (by decide)]
    · rfl
theorem jli_cong {p : Int32} {q r : Nat → Int32} : ∀ (m j : Nat) (b : Int32 × Int32), (∀ k, j ≤ k → k < j + m → q k = r k) → jli p q m j b = jli p r m j b
  | 0, _, _, _ => rfl
  | m + 1, j, b, h => by rw [jli, jli, h j (by omega) (by omega), jli_cong m (j + 1) _ (fun k h1 h2 => h k (by omega) (by omega))]
theorem jlo_cong {p p2 q q2 : Nat → Int32} {m : Nat} (hq : ∀ k, k < m → q k = q2 k) : ∀ (k i : Nat) (b : Int32 × Int32), (∀ l, i ≤ l → l < i + k → p l = p2 l) → jlo p q m k i b = jlo p2 q2 m k i b
  | 0, _, _, _ => rfl
  | k + 1, i, b, h => by rw [jlo, jlo, h i (by omega) (by omega), jli_cong m 0 b (fun l _ hl => hq l (by omega)), jlo_cong hq k (i + 1) _ (fun l h1 h2 => h l (by omega) (by omega))]
/-- the least shape that both fit -/
def jsm (s t : Int32) : Int32 := (jlo (jP s) (jP t) (ju t) (ju s) 0 (33554431, 25)).1
theorem t_small0 (d : Nat) (sw : Bool) (f : Nat → Nat → Int32) (g : Nat → Nat → Int64) (n : Nat) (x y : Int32) (hn : f 1 4 = nI n) (hn10 : n ≤ 10) (h : ¬ (two n x ∧ ∃ w, w < 2 ∧ y = nI w)) : CT (d + 110) 0 0 iX10_smallest [.ref 0, .int x, .int y] (S sw f g) (rdC g f (-1)) := by
  refine CT.rdC ?_
  refine CT.of rfl (Nat.le_of_ble_eq_true rfl) (fun X hX hR hN _ => ?_)
  have hX : Good X RX10 cX10_smallest (d + 110) 0 0 := hX
  have hN : x_nl X = 4 := hN
  show WP X 0 0 0 [_, _, _, _] [] _
  by_cases c : two n x
  · obtain ⟨a, b, ha, hb, hab, ha10, hb10, rfl⟩ := c
    refine wp_aload_n hX (dk DX10_smallest 0 rfl) rfl ?_
    refine wp_iload_n hX (dk DX10_smallest 1 rfl) rfl ?_
    refine w_callV (As := [_]) lkX10_188 hX (dk DX10_smallest 2 rfl) rfl rfl (by decide) hN (k_is21 (d + 108) sw f g n a b hn hn10 ha hb hab) ?_
    show WP _ _ _ 5 [_, _, _, _] [_] _
    refine wp_if_eq (tgt := 17) hX (dk DX10_smallest 3 rfl) (by decide) (fun h_ => absurd h_ (by decide)) (fun _ => ?_)
    refine wp_iload_n hX (dk DX10_smallest 4 rfl) rfl ?_
    refine wp_if_lt (tgt := 17) hX (dk DX10_smallest 5 rfl) (by decide) (fun h9 => ?_) (fun h9 => ?_)
    · refine wp_iconst (v := -1) hX (dk DX10_smallest 9 rfl) (by decide) ?_
      exact wp_ireturn hX hR (dk DX10_smallest 10 rfl) rfl (Nat.le_refl _) (Nat.le_refl _) (⟨rfl, rfl⟩)
    · refine wp_iload_n hX (dk DX10_smallest 6 rfl) rfl ?_
      refine wp_iconst (v := 1) hX (dk DX10_smallest 7 rfl) (by decide) ?_
      refine wp_icmp_le (tgt := 19) hX (dk DX10_smallest 8 rfl) (by decide) (fun h14 => ?_) (fun h14 => ?_)
      · exact absurd ⟨⟨a, b, ha, hb, hab, ha10, hb10, rfl⟩, by obtain ⟨w, h1, h2⟩ := rg_le2 (k := 1) (by decide) h9 h14; exact ⟨w, by omega, h2⟩⟩ h
      · refine wp_iconst (v := -1) hX (dk DX10_smallest 9 rfl) (by decide) ?_
        exact wp_ireturn hX hR (dk DX10_smallest 10 rfl) rfl (Nat.le_refl _) (Nat.le_refl _) (⟨rfl, rfl⟩)
  · refine wp_aload_n hX (dk DX10_smallest 0 rfl) rfl ?_
    refine wp_iload_n hX (dk DX10_smallest 1 rfl) rfl ?_
    refine w_callV (As := [_]) lkX10_188 hX (dk DX10_smallest 2 rfl) rfl rfl (by decide) hN (k_is20 (d + 108) sw f g n x hn hn10 c) ?_
    show WP _ _ _ 5 [_, _, _, _] [_] _
    refine wp_if_eq (tgt := 17) hX (dk DX10_smallest 3 rfl) (by decide) (fun _ => ?_) (fun h_ => absurd (rfl) h_)
    refine wp_iconst (v := -1) hX (dk DX10_smallest 9 rfl) (by decide) ?_
    exact wp_ireturn hX hR (dk DX10_smallest 10 rfl) rfl (Nat.le_refl _) (Nat.le_refl _) (⟨rfl, rfl⟩)
theorem t_small1 (d : Nat) (sw : Bool) (f : Nat → Nat → Int32) (g : Nat → Nat → Int64) (n a b w : Nat) (sh : Nat → Int32) (hs : stF f n sh) (ha : a < n) (hb : b < n) (hab : a ≠ b) (hw : w < 2) : CT (d + 110) 0 0 iX10_smallest [.ref 0, .int (nI (10 * a + b)), .int (nI w)] (S sw f g) (rdC g f (if w = 0 then jpc (jsm (sh a) (sh b)) else jsm (sh a) (sh b))) := by
  have hn10 := hs.2.1
  have hA := hs.2.2 a ha
  have hB := hs.2.2 b hb
  have fA := isF_st a (by omega)
  have fB := isF_st b (by omega)
  have key : (jlo (f (6 + 4 * a + 2)) (f (6 + 4 * b + 2)) (ju (sh b)) (ju (sh a)) 0 (33554431, 25)).1 = jsm (sh a) (sh b) := by
    rw [jsm, jlo_cong (fun k hk => (hB.P (Nat.lt_of_lt_of_le hk (ju_le _))).1) (ju (sh a)) 0 _ (fun l _ hl => (hA.P (Nat.lt_of_lt_of_le (show l < ju (sh a) by omega) (ju_le _))).1)]
  refine CT.rdC ?_
  refine CT.of rfl (Nat.le_of_ble_eq_true rfl) (fun X hX hR hN _ => ?_)
  have hX : Good X RX10 cX10_smallest (d + 110) 0 0 := hX
  have hN : x_nl X = 4 := hN
  show WP X 0 0 0 [_, _, _, _] [] _
  refine wp_aload_n hX (dk DX10_smallest 0 rfl) rfl ?_
  refine wp_iload_n hX (dk DX10_smallest 1 rfl) rfl ?_
  refine w_callV (As := [_]) lkX10_188 hX (dk DX10_smallest 2 rfl) rfl rfl (by decide) hN (k_is21 (d + 108) sw f g n a b hs.1 hn10 ha hb hab) ?_
  show WP _ _ _ 5 [_, _, _, _] [_] _
  refine wp_if_eq (tgt := 17) hX (dk DX10_smallest 3 rfl) (by decide) (fun h_ => absurd h_ (by decide)) (fun _ => ?_)
  refine wp_iload_n hX (dk DX10_smallest 4 rfl) rfl ?_
  refine wp_if_lt (tgt := 17) hX (dk DX10_smallest 5 rfl) (by decide) (fun h_ => absurd h_ (nI_pos (by omega))) (fun _ => ?_)
  refine wp_iload_n hX (dk DX10_smallest 6 rfl) rfl ?_
  refine wp_iconst (v := 1) hX (dk DX10_smallest 7 rfl) (by decide) ?_
  refine wp_icmp_le (tgt := 19) hX (dk DX10_smallest 8 rfl) (by decide) (fun _ => ?_) (fun h_ => absurd (nI_le (b := 1) (by omega) (by omega)) h_)
  refine wp_aload_n hX (dk DX10_smallest 11 rfl) rfl ?_
  refine w_getr hX flX10_10 (dk DX10_smallest 12 rfl) rfl rfl ?_
  refine wp_iload_n hX (dk DX10_smallest 13 rfl) rfl ?_
  refine wp_bipush (v := 10) hX (dk DX10_smallest 14 rfl) (by decide) ?_
  refine wp_idiv hX (dk DX10_smallest 15 rfl) (by decide) ?_
  rw [dv10 (by omega) (by omega)]
  refine w_callV (As := [_]) lkX10_119 hX (dk DX10_smallest 16 rfl) rfl rfl (by decide) hN (k_formOf (d + 109) sw f g a (by omega)) ?_
  show WP _ _ _ 30 [_, _, _, _] [_] _
  refine wp_aload_n hX (dk DX10_smallest 17 rfl) rfl ?_
  refine w_getr hX flX10_10 (dk DX10_smallest 18 rfl) rfl rfl ?_
  refine wp_iload_n hX (dk DX10_smallest 19 rfl) rfl ?_
  refine wp_bipush (v := 10) hX (dk DX10_smallest 20 rfl) (by decide) ?_
  refine wp_irem hX (dk DX10_smallest 21 rfl) (by decide) ?_
  rw [rm10 (by omega) (by omega)]
  refine w_callV (As := [_]) lkX10_119 hX (dk DX10_smallest 22 rfl) rfl rfl (by simp [Value.category]) hN (k_formOf (d + 109) sw f g b (by omega)) ?_
  show WP _ _ _ 41 [_, _, _, _] [_, _] _
  refine w_callV (As := [_]) lkX10_235 hX (dk DX10_smallest 23 rfl) fA.1 rfl (by decide) hN (k_leastWith (d + 108) sw f g _ _ (ju (sh a)) (ju (sh b)) fA fB (by rw [hA.n]; exact junl_ju hA.2.2.1) (by rw [hB.n]; exact junl_ju hB.2.2.1) (Nat.le_trans (ju_le _) (jn_le _)) (Nat.le_trans (ju_le _) (jn_le _))) ?_
  show WP _ _ _ 44 [_, _, _, _] [_] _
  rw [key]
  refine wp_istore_n hX (dk DX10_smallest 24 rfl) rfl rfl hN (Nat.le_of_ble_eq_true rfl) ?_
  show WP _ _ _ 45 [_, _, _, _] [] _
  refine wp_iload_n hX (dk DX10_smallest 25 rfl) rfl ?_
  refine wp_if_ne (tgt := 56) hX (dk DX10_smallest 26 rfl) (by decide) (fun h46 => ?_) (fun h46 => ?_)
  · refine wp_iload_n hX (dk DX10_smallest 30 rfl) rfl ?_
    exact wp_ireturn hX hR (dk DX10_smallest 31 rfl) rfl (Nat.le_refl _) (Nat.le_refl _) (⟨by simp only [nIz (show w < 2 ^ 31 by omega)] at h46; simp [h46], rfl⟩)
  · refine wp_iload_n hX (dk DX10_smallest 27 rfl) rfl ?_
    refine w_callS (As := [_]) lkX10_183 hX (dk DX10_smallest 28 rfl) rfl (by decide) (k_bitCount (d + 109) _ _) ?_
    show WP _ _ _ 53 [_, _, _, _] [_] _
    refine wp_goto (tgt := 57) hX (dk DX10_smallest 29 rfl) (by decide) ?_
    exact wp_ireturn hX hR (dk DX10_smallest 31 rfl) rfl (Nat.le_refl _) (Nat.le_refl _) (⟨by simp only [nIz (show w < 2 ^ 31 by omega)] at h46; simp [h46], rfl⟩)
/-- which to cut of the first k: which leaves most -/
def lvF (s : Int32) (c : Nat → Int32) : Nat → Int32 × Int32
  | 0 => (-2, -1)
  | i + 1 => if ¬ jb s i = 0 ∧ (lvF s c i).2 < c i then (nI i, c i) else lvF s c i
theorem t_leave0 (d : Nat) (sw : Bool) (f : Nat → Nat → Int32) (g : Nat → Nat → Int64) (m : Nat) (x y : Int32) (hm : f 61 6 = nI m) (hm6 : m ≤ 6) (h : ¬ ((∃ b, b < m ∧ x = nI b) ∧ ∃ w, w < 2 ∧ y = nI w)) : CT (d + 110) 0 0 iX10_leave [.ref 0, .int x, .int y] (S sw f g) (rdC g f (-1)) := by
  refine CT.rdC ?_
  refine CT.of rfl (Nat.le_of_ble_eq_true rfl) (fun X hX hR hN _ => ?_)
  have hX : Good X RX10 cX10_leave (d + 110) 0 0 := hX
  have hN : x_nl X = 7 := hN
  show WP X 0 0 0 [_, _, _, _, _, _, _] [] _
  refine wp_aload_n hX (dk DX10_leave 0 rfl) rfl ?_
  refine w_getr hX flX10_51 (dk DX10_leave 1 rfl) rfl rfl ?_
  refine wp_iload_n hX (dk DX10_leave 2 rfl) rfl ?_
  refine w_callV (As := [_]) lkX10_127 hX (dk DX10_leave 3 rfl) rfl rfl (by decide) hN (k_yhas (d + 109) sw f g x) ?_
  show WP _ _ _ 8 [_, _, _, _, _, _, _] [_] _
  rw [hm]
  refine wp_if_eq (tgt := 20) hX (dk DX10_leave 4 rfl) (by decide) (fun h8 => ?_) (fun h8 => ?_)
  · refine wp_iconst (v := -1) hX (dk DX10_leave 10 rfl) (by decide) ?_
    exact wp_ireturn hX hR (dk DX10_leave 11 rfl) rfl (Nat.le_refl _) (Nat.le_refl _) (⟨rfl, rfl⟩)
  · refine wp_iload_n hX (dk DX10_leave 5 rfl) rfl ?_
    refine wp_if_lt (tgt := 20) hX (dk DX10_leave 6 rfl) (by decide) (fun h12 => ?_) (fun h12 => ?_)
    · refine wp_iconst (v := -1) hX (dk DX10_leave 10 rfl) (by decide) ?_
      exact wp_ireturn hX hR (dk DX10_leave 11 rfl) rfl (Nat.le_refl _) (Nat.le_refl _) (⟨rfl, rfl⟩)
    · refine wp_iload_n hX (dk DX10_leave 7 rfl) rfl ?_
      refine wp_iconst (v := 1) hX (dk DX10_leave 8 rfl) (by decide) ?_
      refine wp_icmp_le (tgt := 22) hX (dk DX10_leave 9 rfl) (by decide) (fun h17 => ?_) (fun h17 => ?_)
      · exact absurd ⟨jin_ex (by omega) h8, by obtain ⟨w, h1, h2⟩ := rg_le2 (k := 1) (by decide) h12 h17; exact ⟨w, by omega, h2⟩⟩ h
      · refine wp_iconst (v := -1) hX (dk DX10_leave 10 rfl) (by decide) ?_
        exact wp_ireturn hX hR (dk DX10_leave 11 rfl) rfl (Nat.le_refl _) (Nat.le_refl _) (⟨rfl, rfl⟩)
theorem t_leave1 (d : Nat) (sw : Bool) (f : Nat → Nat → Int32) (g : Nat → Nat → Int64) (n m b w : Nat) (sh : Nat → Int32) (hs : stF f n sh) (hm : f 61 6 = nI m) (hm6 : m ≤ 6) (hb : b < m) (hw : w < 2) : CT (d + 110) 0 0 iX10_leave [.ref 0, .int (nI b), .int (nI w)] (S sw f g) (rdC g f (if w = 0 ∨ (lvF (jfo sh n (f 62 b)) (fun i => jpc (f 4 i)) 10).1 = -2 then (lvF (jfo sh n (f 62 b)) (fun i => jpc (f 4 i)) 10).1 else (lvF (jfo sh n (f 62 b)) (fun i => jpc (f 4 i)) 10).2)) := by
  have hn10 := hs.2.1
  refine CT.rdC ?_
  obtain ⟨v, hv⟩ : ∃ v : Nat → Int32 × Int32, v = lvF (jfo sh n (f 62 b)) (fun i => jpc (f 4 i)) := ⟨_, rfl⟩
  rw [← hv]
  refine CT.of rfl (Nat.le_of_ble_eq_true rfl) (fun X hX hR hN _ => ?_)
  have hX : Good X RX10 cX10_leave (d + 110) 0 0 := hX
  have hN : x_nl X = 7 := hN
  show WP X 0 0 0 [_, _, _, _, _, _, _] [] _
  have lo : ∀ (q i : Nat), i + q = 10 → WP X 0 0 38 [some (.ref 0), some (.int (nI b)), some (.int (nI w)), some (.int (jfo sh n (f 62 b))), some (.int (v i).1), some (.int (v i).2), some (.int (nI i))] [] (S sw f g) := by
    intro q
    induction q with
    | zero =>
      intro i hi
      obtain rfl : i = 10 := by omega
      refine wp_iload hX (dk DX10_leave 22 rfl) rfl ?_
      refine wp_bipush (v := 10) hX (dk DX10_leave 23 rfl) (by decide) ?_
      refine wp_icmp_ge (tgt := 95) hX (dk DX10_leave 24 rfl) (by decide) (fun _ => ?_) (fun h_ => absurd (by decide) h_)
      refine wp_iload_n hX (dk DX10_leave 46 rfl) rfl ?_
      refine wp_if_eq (tgt := 106) hX (dk DX10_leave 47 rfl) (by decide) (fun h96 => ?_) (fun h96 => ?_)
      · refine wp_iload hX (dk DX10_leave 51 rfl) rfl ?_
        refine wp_goto (tgt := 113) hX (dk DX10_leave 52 rfl) (by decide) ?_
        exact wp_ireturn hX hR (dk DX10_leave 54 rfl) rfl (Nat.le_refl _) (Nat.le_refl _) (⟨by simp only [nIz (show w < 2 ^ 31 by omega)] at h96; simp [h96], rfl⟩)
      · refine wp_iload hX (dk DX10_leave 48 rfl) rfl ?_
        refine wp_bipush (v := -2) hX (dk DX10_leave 49 rfl) (by decide) ?_
        refine wp_icmp_ne (tgt := 111) hX (dk DX10_leave 50 rfl) (by decide) (fun h103 => ?_) (fun h103 => ?_)
        · refine wp_iload hX (dk DX10_leave 53 rfl) rfl ?_
          exact wp_ireturn hX hR (dk DX10_leave 54 rfl) rfl (Nat.le_refl _) (Nat.le_refl _) (⟨by simp only [nIz (show w < 2 ^ 31 by omega)] at h96; simp [h96, h103], rfl⟩)
        · refine wp_iload hX (dk DX10_leave 51 rfl) rfl ?_
          refine wp_goto (tgt := 113) hX (dk DX10_leave 52 rfl) (by decide) ?_
          exact wp_ireturn hX hR (dk DX10_leave 54 rfl) rfl (Nat.le_refl _) (Nat.le_refl _) (⟨by simp only [nIz (show w < 2 ^ 31 by omega)] at h96; simp [h96, h103], rfl⟩)
    | succ q ih =>
      intro i hi
      have hv1 : v (i + 1) = if ¬ jb (jfo sh n (f 62 b)) i = 0 ∧ (v i).2 < jpc (f 4 i) then (nI i, jpc (f 4 i)) else v i := by rw [hv, lvF]
      refine wp_iload hX (dk DX10_leave 22 rfl) rfl ?_
      refine wp_bipush (v := 10) hX (dk DX10_leave 23 rfl) (by decide) ?_
      refine wp_icmp_ge (tgt := 95) hX (dk DX10_leave 24 rfl) (by decide) (fun h_ => absurd h_ (nI_ge (b := 10) (by omega) (by omega))) (fun _ => ?_)
      refine wp_iload_n hX (dk DX10_leave 25 rfl) rfl ?_
      refine wp_iload hX (dk DX10_leave 26 rfl) rfl ?_
      refine w_callS (As := [_, _]) lkX10_194 hX (dk DX10_leave 27 rfl) rfl (by decide) (k_holds (d + 109) _ (nI i) _) ?_
      show WP _ _ _ 51 [_, _, _, _, _, _, _] [_] _
      refine wp_if_eq (tgt := 89) hX (dk DX10_leave 28 rfl) (by decide) (fun h51 => ?_) (fun h51 => ?_)
      · refine wp_iinc hX (dk DX10_leave 44 rfl) rfl (nI_inc _) rfl hN ?_
        show WP _ _ _ 92 [_, _, _, _, _, _, _] [] _
        refine wp_goto (tgt := 38) hX (dk DX10_leave 45 rfl) (by decide) ?_
        have := ih (i + 1) (by omega)
        rw [hv1] at this
        by_cases q : (¬ jb (jfo sh n (f 62 b)) i = 0 ∧ (v i).2 < jpc (f 4 i))
        · rw [if_pos q] at this; first | exact this | exact absurd h51 q.1 | exact absurd q.2 (Int32.not_lt.mpr h68)
        · rw [if_neg q] at this; first | exact this | exact absurd ⟨h51, Int32.not_le.mp h68⟩ q
      · refine wp_aload_n hX (dk DX10_leave 29 rfl) rfl ?_
        refine w_getr hX flX10_10 (dk DX10_leave 30 rfl) rfl rfl ?_
        refine wp_iload hX (dk DX10_leave 31 rfl) rfl ?_
        refine w_callV (As := [_]) lkX10_191 hX (dk DX10_leave 32 rfl) rfl rfl (by decide) hN (k_outOf (d + 109) sw f g i (by omega)) ?_
        show WP _ _ _ 63 [_, _, _, _, _, _, _] [_] _
        refine w_callS (As := [_]) lkX10_183 hX (dk DX10_leave 33 rfl) rfl (by decide) (k_bitCount (d + 109) _ _) ?_
        show WP _ _ _ 66 [_, _, _, _, _, _, _] [_] _
        refine wp_iload hX (dk DX10_leave 34 rfl) rfl ?_
        refine wp_icmp_le (tgt := 89) hX (dk DX10_leave 35 rfl) (by decide) (fun h68 => ?_) (fun h68 => ?_)
        · refine wp_iinc hX (dk DX10_leave 44 rfl) rfl (nI_inc _) rfl hN ?_
          show WP _ _ _ 92 [_, _, _, _, _, _, _] [] _
          refine wp_goto (tgt := 38) hX (dk DX10_leave 45 rfl) (by decide) ?_
          have := ih (i + 1) (by omega)
          rw [hv1] at this
          by_cases q : (¬ jb (jfo sh n (f 62 b)) i = 0 ∧ (v i).2 < jpc (f 4 i))
          · rw [if_pos q] at this; first | exact this | exact absurd h51 q.1 | exact absurd q.2 (Int32.not_lt.mpr h68)
          · rw [if_neg q] at this; first | exact this | exact absurd ⟨h51, Int32.not_le.mp h68⟩ q
        · refine wp_iload hX (dk DX10_leave 36 rfl) rfl ?_
          refine wp_istore hX (dk DX10_leave 37 rfl) rfl hN (Nat.le_of_ble_eq_true rfl) ?_
          show WP _ _ _ 75 [_, _, _, _, _, _, _] [] _
          refine wp_aload_n hX (dk DX10_leave 38 rfl) rfl ?_
          refine w_getr hX flX10_10 (dk DX10_leave 39 rfl) rfl rfl ?_
          refine wp_iload hX (dk DX10_leave 40 rfl) rfl ?_
          refine w_callV (As := [_]) lkX10_191 hX (dk DX10_leave 41 rfl) rfl rfl (by decide) hN (k_outOf (d + 109) sw f g i (by omega)) ?_
          show WP _ _ _ 84 [_, _, _, _, _, _, _] [_] _
          refine w_callS (As := [_]) lkX10_183 hX (dk DX10_leave 42 rfl) rfl (by decide) (k_bitCount (d + 109) _ _) ?_
          show WP _ _ _ 87 [_, _, _, _, _, _, _] [_] _
          refine wp_istore hX (dk DX10_leave 43 rfl) rfl hN (Nat.le_of_ble_eq_true rfl) ?_
          show WP _ _ _ 89 [_, _, _, _, _, _, _] [] _
          refine wp_iinc hX (dk DX10_leave 44 rfl) rfl (nI_inc _) rfl hN ?_
          show WP _ _ _ 92 [_, _, _, _, _, _, _] [] _
          refine wp_goto (tgt := 38) hX (dk DX10_leave 45 rfl) (by decide) ?_
          have := ih (i + 1) (by omega)
          rw [hv1] at this
          by_cases q : (¬ jb (jfo sh n (f 62 b)) i = 0 ∧ (v i).2 < jpc (f 4 i))
          · rw [if_pos q] at this; first | exact this | exact absurd h51 q.1 | exact absurd q.2 (Int32.not_lt.mpr h68)
          · rw [if_neg q] at this; first | exact this | exact absurd ⟨h51, Int32.not_le.mp h68⟩ q
  refine wp_aload_n hX (dk DX10_leave 0 rfl) rfl ?_
  refine w_getr hX flX10_51 (dk DX10_leave 1 rfl) rfl rfl ?_
  refine wp_iload_n hX (dk DX10_leave 2 rfl) rfl ?_
  refine w_callV (As := [_]) lkX10_127 hX (dk DX10_leave 3 rfl) rfl rfl (by decide) hN (k_yhas (d + 109) sw f g (nI b)) ?_
  show WP _ _ _ 8 [_, _, _, _, _, _, _] [_] _
  rw [hm, jin_1 (by omega) hb rfl]
  refine wp_if_eq (tgt := 20) hX (dk DX10_leave 4 rfl) (by decide) (fun h_ => absurd h_ (by decide)) (fun _ => ?_)
  refine wp_iload_n hX (dk DX10_leave 5 rfl) rfl ?_
  refine wp_if_lt (tgt := 20) hX (dk DX10_leave 6 rfl) (by decide) (fun h_ => absurd h_ (nI_pos (by omega))) (fun _ => ?_)
  refine wp_iload_n hX (dk DX10_leave 7 rfl) rfl ?_
  refine wp_iconst (v := 1) hX (dk DX10_leave 8 rfl) (by decide) ?_
  refine wp_icmp_le (tgt := 22) hX (dk DX10_leave 9 rfl) (by decide) (fun _ => ?_) (fun h_ => absurd (nI_le (b := 1) (by omega) (by omega)) h_)
  refine wp_aload_n hX (dk DX10_leave 12 rfl) rfl ?_
  refine wp_iload_n hX (dk DX10_leave 13 rfl) rfl ?_
  refine w_callV (As := [_]) lkX10_204 hX (dk DX10_leave 14 rfl) rfl rfl (by decide) hN (k_firstOut (d + 106) sw f g n b sh hs (by omega)) ?_
  show WP _ _ _ 27 [_, _, _, _, _, _, _] [_] _
  refine wp_istore_n hX (dk DX10_leave 15 rfl) rfl rfl hN (Nat.le_of_ble_eq_true rfl) ?_
  show WP _ _ _ 28 [_, _, _, _, _, _, _] [] _
  refine wp_bipush (v := -2) hX (dk DX10_leave 16 rfl) (by decide) ?_
  refine wp_istore hX (dk DX10_leave 17 rfl) rfl hN (Nat.le_of_ble_eq_true rfl) ?_
  show WP _ _ _ 32 [_, _, _, _, _, _, _] [] _
  refine wp_iconst (v := -1) hX (dk DX10_leave 18 rfl) (by decide) ?_
  refine wp_istore hX (dk DX10_leave 19 rfl) rfl hN (Nat.le_of_ble_eq_true rfl) ?_
  show WP _ _ _ 35 [_, _, _, _, _, _, _] [] _
  refine wp_iconst (v := 0) hX (dk DX10_leave 20 rfl) (by decide) ?_
  refine wp_istore hX (dk DX10_leave 21 rfl) rfl hN (Nat.le_of_ble_eq_true rfl) ?_
  show WP _ _ _ 38 [_, _, _, _, _, _, _] [] _
  have := lo 10 0 (by omega)
  rw [show v 0 = (-2, -1) by rw [hv]; rfl] at this
  exact this
/-- by turns: with k more places, how many cuts come behind figure i, whether who is to cut there loses -/
def pN (B : Nat → Int32) (n : Nat) : Nat → Nat → Int32 × Bool
  | 0, _ => (0, false)
  | k + 1, i => (jcp (fun j => (pN B n k j).1) (B i) (jbs (fun j => if (pN B n k j).2 then 1 else 0) n) n, decide (jfw (B i &&& jbs (fun j => if (pN B n k j).2 then 1 else 0) n) n 0 = -2))
/-- those of which who is to cut loses -/
def pL (B : Nat → Int32) (n : Nat) : Int32 := jbs (fun j => if (pN B n 10 j).2 then 1 else 0) n
theorem and_set {s l l2 : Int32} {n : Nat} (hn : n ≤ 32) (h : ∀ j, j < n → bt s j = true → bt l j = bt l2 j) (h2 : ∀ j, n ≤ j → j < 32 → bt s j = false) : s &&& l = s &&& l2 := by
  apply b_ext
  intro i hi
  rw [b_and, b_and]
  cases c : bt s i with
  | false => rfl
  | true =>
    by_cases q : i < n
    · rw [h i q c]
    · rw [h2 i (by omega) hi] at c; cases c
theorem bt_lose {p : Nat → Bool} {n i : Nat} (hn : n ≤ 32) (hi : i < n) : bt (jbs (fun j => if p j then 1 else 0) n) i = p i := by
  rw [bt_jbs _ n i hn (by omega)]
  cases p i <;> simp [hi]
theorem plOk_pN {f : Nat → Nat → Int32} {n : Nat} {sh : Nat → Int32} {c : Nat → Int32} {l : Int32} (hs : stk f n sh) (h : ∀ i, i < n → plOk c (f 4) l n i) : ∀ i, i < n → (c i, bt l i) = pN (f 4) n 10 i := by
  obtain ⟨ρ, h1, h2⟩ := hs.pos
  have hn := hs.1.2.1
  have key : ∀ (k i : Nat), i < n → ρ i < k → (c i, bt l i) = pN (f 4) n k i := by
    intro k
    induction k with
    | zero => intro i _ hk; omega
    | succ k ih =>
      intro i hi hk
      obtain ⟨o1, o2⟩ := h i hi
      have e : f 4 i &&& l = f 4 i &&& jbs (fun j => if (pN (f 4) n k j).2 then 1 else 0) n := by
        refine and_set (n := n) (by omega) (fun j hj hb => ?_) (fun j hj hj2 => ?_)
        · rw [bt_lose (p := fun j => (pN (f 4) n k j).2) (by omega) hj, ← ih j hj (by have := (h2 i j hi hb (by omega)).2; omega)]
        · rw [hs.cut hi hj2]; simp; omega
      rw [pN, o1]
      refine Prod.ext ?_ ?_
      · exact jcp_cong (by omega) (fun j hj hb => by rw [← ih j hj (by have := (h2 i j hi hb (by omega)).2; omega)]) e
      · show bt l i = decide _
        rw [← e]
        cases hb : bt l i with
        | true => rw [decide_eq_true (o2.mp hb)]
        | false => rw [decide_eq_false (fun q => by rw [o2.mpr q] at hb; cases hb)]
  exact fun i hi => key 10 i hi (by have := h1 i hi; omega)
theorem jfo_hi {sh : Nat → Int32} {n : Nat} {x : Int32} (hn : n ≤ 10) {j : Nat} (h : n ≤ j) (hj : j < 32) : bt (jfo sh n x) j = false := by
  unfold jfo
  rw [bt_jbs _ n j (by omega) hj]
  simp; omega
/-- whether who begins wins, by which, how many cuts: s what can be cut first -/
def jbt (B : Nat → Int32) (n : Nat) (s : Int32) (w : Nat) : Int32 := if w = 0 then (if jfw (s &&& pL B n) n 0 = -2 then 0 else 1) else if w = 1 then jfw (s &&& pL B n) n 0 else jcp (fun j => (pN B n 10 j).1) s (pL B n) n
theorem t_turns0 (d : Nat) (sw : Bool) (f : Nat → Nat → Int32) (g : Nat → Nat → Int64) (m : Nat) (x y : Int32) (hm : f 61 6 = nI m) (hm6 : m ≤ 6) (h : ¬ ((∃ b, b < m ∧ x = nI b) ∧ ∃ w, w < 3 ∧ y = nI w)) : CT (d + 110) 0 0 iX10_byTurns [.ref 0, .int x, .int y] (S sw f g) (rdC g f (-1)) := by
  refine CT.rdC ?_
  refine CT.of rfl (Nat.le_of_ble_eq_true rfl) (fun X hX hR hN _ => ?_)
  have hX : Good X RX10 cX10_byTurns (d + 110) 0 0 := hX
  have hN : x_nl X = 5 := hN
  show WP X 0 0 0 [_, _, _, _, _] [] _
  refine wp_aload_n hX (dk DX10_byTurns 0 rfl) rfl ?_
  refine w_getr hX flX10_51 (dk DX10_byTurns 1 rfl) rfl rfl ?_
  refine wp_iload_n hX (dk DX10_byTurns 2 rfl) rfl ?_
  refine w_callV (As := [_]) lkX10_127 hX (dk DX10_byTurns 3 rfl) rfl rfl (by decide) hN (k_yhas (d + 109) sw f g x) ?_
  show WP _ _ _ 8 [_, _, _, _, _] [_] _
  rw [hm]
  refine wp_if_eq (tgt := 20) hX (dk DX10_byTurns 4 rfl) (by decide) (fun h8 => ?_) (fun h8 => ?_)
  · refine wp_iconst (v := -1) hX (dk DX10_byTurns 10 rfl) (by decide) ?_
    exact wp_ireturn hX hR (dk DX10_byTurns 11 rfl) rfl (Nat.le_refl _) (Nat.le_refl _) (⟨rfl, rfl⟩)
  · refine wp_iload_n hX (dk DX10_byTurns 5 rfl) rfl ?_
    refine wp_if_lt (tgt := 20) hX (dk DX10_byTurns 6 rfl) (by decide) (fun h12 => ?_) (fun h12 => ?_)
    · refine wp_iconst (v := -1) hX (dk DX10_byTurns 10 rfl) (by decide) ?_
      exact wp_ireturn hX hR (dk DX10_byTurns 11 rfl) rfl (Nat.le_refl _) (Nat.le_refl _) (⟨rfl, rfl⟩)
    · refine wp_iload_n hX (dk DX10_byTurns 7 rfl) rfl ?_
      refine wp_iconst (v := 2) hX (dk DX10_byTurns 8 rfl) (by decide) ?_
      refine wp_icmp_le (tgt := 22) hX (dk DX10_byTurns 9 rfl) (by decide) (fun h17 => ?_) (fun h17 => ?_)
      · exact absurd ⟨jin_ex (by omega) h8, by obtain ⟨w, h1, h2⟩ := rg_le2 (k := 2) (by decide) h12 h17; exact ⟨w, by omega, h2⟩⟩ h
      · refine wp_iconst (v := -1) hX (dk DX10_byTurns 10 rfl) (by decide) ?_
        exact wp_ireturn hX hR (dk DX10_byTurns 11 rfl) rfl (Nat.le_refl _) (Nat.le_refl _) (⟨rfl, rfl⟩)
theorem t_turns1 (d : Nat) (sw : Bool) (f : Nat → Nat → Int32) (g : Nat → Nat → Int64) (n m b w : Nat) (sh : Nat → Int32) (hs : stk f n sh) (hm : f 61 6 = nI m) (hm6 : m ≤ 6) (hb : b < m) (hw : w < 3) : CT (d + 110) 0 0 iX10_byTurns [.ref 0, .int (nI b), .int (nI w)] (S sw f g) (rdC g f (jbt (f 4) n (jfo sh n (f 62 b)) w)) := by
  have hn10 := hs.1.2.1
  have hw3 : w = 0 ∨ w = 1 ∨ w = 2 := by omega
  refine CT.of rfl (Nat.le_of_ble_eq_true rfl) (fun X hX hR hN _ => ?_)
  have hX : Good X RX10 cX10_byTurns (d + 110) 0 0 := hX
  have hN : x_nl X = 5 := hN
  show WP X 0 0 0 [_, _, _, _, _] [] _
  refine wp_aload_n hX (dk DX10_byTurns 0 rfl) rfl ?_
  refine w_getr hX flX10_51 (dk DX10_byTurns 1 rfl) rfl rfl ?_
  refine wp_iload_n hX (dk DX10_byTurns 2 rfl) rfl ?_
  refine w_callV (As := [_]) lkX10_127 hX (dk DX10_byTurns 3 rfl) rfl rfl (by decide) hN (k_yhas (d + 109) sw f g (nI b)) ?_
  show WP _ _ _ 8 [_, _, _, _, _] [_] _
  rw [hm, jin_1 (by omega) hb rfl]
  refine wp_if_eq (tgt := 20) hX (dk DX10_byTurns 4 rfl) (by decide) (fun h_ => absurd h_ ((by decide))) (fun _ => ?_)
  refine wp_iload_n hX (dk DX10_byTurns 5 rfl) rfl ?_
  refine wp_if_lt (tgt := 20) hX (dk DX10_byTurns 6 rfl) (by decide) (fun h_ => absurd h_ ((nI_pos (by omega)))) (fun _ => ?_)
  refine wp_iload_n hX (dk DX10_byTurns 7 rfl) rfl ?_
  refine wp_iconst (v := 2) hX (dk DX10_byTurns 8 rfl) (by decide) ?_
  refine wp_icmp_le (tgt := 22) hX (dk DX10_byTurns 9 rfl) (by decide) (fun _ => ?_) (fun h_ => absurd ((nI_le (b := 2) (by omega) (by omega))) h_)
  refine wp_aload_n hX (dk DX10_byTurns 12 rfl) rfl ?_
  refine wp_iload_n hX (dk DX10_byTurns 13 rfl) rfl ?_
  refine w_callV (As := [_]) lkX10_204 hX (dk DX10_byTurns 14 rfl) rfl rfl (by decide) hN (k_firstOut (d + 106) sw f g n b sh hs.1 (by omega)) ?_
  show WP _ _ _ 27 [_, _, _, _, _] [_] _
  refine wp_istore_n hX (dk DX10_byTurns 15 rfl) rfl rfl hN (Nat.le_of_ble_eq_true rfl) ?_
  show WP _ _ _ 28 [_, _, _, _, _] [] _
  refine wp_aload_n hX (dk DX10_byTurns 16 rfl) rfl ?_
  refine w_getr hX flX10_35 (dk DX10_byTurns 17 rfl) rfl rfl ?_
  refine w_callVQ (As := []) lkX10_239 hX (dk DX10_byTurns 18 rfl) rfl rfl (by decide) hN (k_play (d + 107) sw f g n sh hs) (fun v_ sw_ f_ g_ hq_ => ?_)
  obtain ⟨rfl, rfl, rfl, hf, hl, hz⟩ := hq_
  show WP _ _ _ 35 [_, _, _, _, _] [] _
  have q := plOk_pN hs hl
  have e1 : jfo sh n (f 62 b) &&& f_ 53 6 = jfo sh n (f 62 b) &&& pL (f 4) n := by
    refine and_set (n := n) (by omega) (fun j hj _ => ?_) (fun j h1 h2 => jfo_hi hn10 h1 h2)
    rw [pL, bt_lose (p := fun j => (pN (f 4) n 10 j).2) (by omega) hj, ← q j hj]
  have e2 : jcp (f_ 57) (jfo sh n (f 62 b)) (f_ 53 6) n = jcp (fun j => (pN (f 4) n 10 j).1) (jfo sh n (f 62 b)) (pL (f 4) n) n := jcp_cong (by omega) (fun j hj _ => by rw [← q j hj]) e1
  have hn : f_ 1 4 = nI n := by rw [hf 1 (by decide) (by decide)]; exact hs.1.1
  have hq : qC f f_ := ⟨fun b h1 h2 h3 => hf b (by omega) (by omega), fun i _ => by rw [hf 49 (by decide) (by decide)]⟩
  refine wp_aload_n hX (dk DX10_byTurns 19 rfl) rfl ?_
  refine w_getr hX flX10_35 (dk DX10_byTurns 20 rfl) rfl rfl ?_
  refine wp_iload_n hX (dk DX10_byTurns 21 rfl) rfl ?_
  refine w_callV (As := [_]) lkX10_242 hX (dk DX10_byTurns 22 rfl) rfl rfl (by decide) hN (k_firstWinning (d + 108) _ f_ _ n _ hn hn10) ?_
  show WP _ _ _ 43 [_, _, _, _, _] [_] _
  rw [e1]
  refine wp_istore hX (dk DX10_byTurns 23 rfl) rfl hN (Nat.le_of_ble_eq_true rfl) ?_
  show WP _ _ _ 45 [_, _, _, _, _] [] _
  refine wp_iload_n hX (dk DX10_byTurns 24 rfl) rfl ?_
  refine wp_if_ne (tgt := 62) hX (dk DX10_byTurns 25 rfl) (by decide) (fun h46 => ?_) (fun h46 => ?_)
  · refine wp_iload_n hX (dk DX10_byTurns 33 rfl) rfl ?_
    refine wp_iconst (v := 1) hX (dk DX10_byTurns 34 rfl) (by decide) ?_
    refine wp_icmp_ne (tgt := 72) hX (dk DX10_byTurns 35 rfl) (by decide) (fun h64 => ?_) (fun h64 => ?_)
    · refine wp_aload_n hX (dk DX10_byTurns 38 rfl) rfl ?_
      refine w_getr hX flX10_35 (dk DX10_byTurns 39 rfl) rfl rfl ?_
      refine wp_iload_n hX (dk DX10_byTurns 40 rfl) rfl ?_
      refine w_callV (As := [_]) lkX10_245 hX (dk DX10_byTurns 41 rfl) rfl rfl (by decide) hN (k_cutsPlayed (d + 108) _ f_ _ n _ hn hn10) ?_
      show WP _ _ _ 80 [_, _, _, _, _] [_] _
      rw [e2]
      exact wp_ireturn hX hR (dk DX10_byTurns 42 rfl) rfl (Nat.le_refl _) (Nat.le_refl _) (⟨_, _, _, rfl, by simp only [nIz (show w < 2 ^ 31 by omega), nIo (show w < 2 ^ 31 by omega)] at *; simp [jbt, h46, h64], rfl, hq⟩)
    · refine wp_iload hX (dk DX10_byTurns 36 rfl) rfl ?_
      refine wp_goto (tgt := 80) hX (dk DX10_byTurns 37 rfl) (by decide) ?_
      exact wp_ireturn hX hR (dk DX10_byTurns 42 rfl) rfl (Nat.le_refl _) (Nat.le_refl _) (⟨_, _, _, rfl, by simp only [nIz (show w < 2 ^ 31 by omega), nIo (show w < 2 ^ 31 by omega)] at *; simp [jbt, h46, h64], rfl, hq⟩)
  · refine wp_iload hX (dk DX10_byTurns 26 rfl) rfl ?_
    refine wp_bipush (v := -2) hX (dk DX10_byTurns 27 rfl) (by decide) ?_
    refine wp_icmp_ne (tgt := 60) hX (dk DX10_byTurns 28 rfl) (by decide) (fun h53 => ?_) (fun h53 => ?_)
    · refine wp_iconst (v := 1) hX (dk DX10_byTurns 31 rfl) (by decide) ?_
      exact wp_ireturn hX hR (dk DX10_byTurns 32 rfl) rfl (Nat.le_refl _) (Nat.le_refl _) (⟨_, _, _, rfl, by simp only [nIz (show w < 2 ^ 31 by omega), nIo (show w < 2 ^ 31 by omega)] at *; simp [jbt, h46, h53], rfl, hq⟩)
    · refine wp_iconst (v := 0) hX (dk DX10_byTurns 29 rfl) (by decide) ?_
      refine wp_goto (tgt := 61) hX (dk DX10_byTurns 30 rfl) (by decide) ?_
      exact wp_ireturn hX hR (dk DX10_byTurns 32 rfl) rfl (Nat.le_refl _) (Nat.le_refl _) (⟨_, _, _, rfl, by simp only [nIz (show w < 2 ^ 31 by omega), nIo (show w < 2 ^ 31 by omega)] at *; simp [jbt, h46, h53], rfl, hq⟩)
theorem t_egg0 (d : Nat) (sw : Bool) (f : Nat → Nat → Int32) (g : Nat → Nat → Int64) (x y : Int32) (h : ¬ (shp x ∧ ∃ w, w < 3 ∧ y = nI w)) : CT (d + 110) 0 0 iX10_egg [.ref 0, .int x, .int y] (S sw f g) (rdC g f (-1)) := by
  refine CT.rdC ?_
  refine CT.of rfl (Nat.le_of_ble_eq_true rfl) (fun X hX hR hN _ => ?_)
  have hX : Good X RX10 cX10_egg (d + 110) 0 0 := hX
  have hN : x_nl X = 3 := hN
  show WP X 0 0 0 [_, _, _] [] _
  by_cases c : shp x
  · refine wp_iload_n hX (dk DX10_egg 0 rfl) rfl ?_
    refine w_callS (As := [_]) lkX10_83 hX (dk DX10_egg 1 rfl) rfl (by decide) (k_isShape1 (d + 109) x _ c) ?_
    show WP _ _ _ 4 [_, _, _] [_] _
    refine wp_if_eq (tgt := 16) hX (dk DX10_egg 2 rfl) (by decide) (fun h_ => absurd h_ (by decide)) (fun _ => ?_)
    refine wp_iload_n hX (dk DX10_egg 3 rfl) rfl ?_
    refine wp_if_lt (tgt := 16) hX (dk DX10_egg 4 rfl) (by decide) (fun h8 => ?_) (fun h8 => ?_)
    · refine wp_iconst (v := -1) hX (dk DX10_egg 8 rfl) (by decide) ?_
      exact wp_ireturn hX hR (dk DX10_egg 9 rfl) rfl (Nat.le_refl _) (Nat.le_refl _) (⟨rfl, rfl⟩)
    · refine wp_iload_n hX (dk DX10_egg 5 rfl) rfl ?_
      refine wp_iconst (v := 2) hX (dk DX10_egg 6 rfl) (by decide) ?_
      refine wp_icmp_le (tgt := 18) hX (dk DX10_egg 7 rfl) (by decide) (fun h13 => ?_) (fun h13 => ?_)
      · exact absurd ⟨c, by obtain ⟨w, h1, h2⟩ := rg_le2 (k := 2) (by decide) h8 h13; exact ⟨w, by omega, h2⟩⟩ h
      · refine wp_iconst (v := -1) hX (dk DX10_egg 8 rfl) (by decide) ?_
        exact wp_ireturn hX hR (dk DX10_egg 9 rfl) rfl (Nat.le_refl _) (Nat.le_refl _) (⟨rfl, rfl⟩)
  · refine wp_iload_n hX (dk DX10_egg 0 rfl) rfl ?_
    refine w_callS (As := [_]) lkX10_83 hX (dk DX10_egg 1 rfl) rfl (by decide) (k_isShape0 (d + 109) x _ c) ?_
    show WP _ _ _ 4 [_, _, _] [_] _
    refine wp_if_eq (tgt := 16) hX (dk DX10_egg 2 rfl) (by decide) (fun _ => ?_) (fun h_ => absurd (rfl) h_)
    refine wp_iconst (v := -1) hX (dk DX10_egg 8 rfl) (by decide) ?_
    exact wp_ireturn hX hR (dk DX10_egg 9 rfl) rfl (Nat.le_refl _) (Nat.le_refl _) (⟨rfl, rfl⟩)
theorem t_egg1 (d : Nat) (sw : Bool) (f : Nat → Nat → Int32) (g : Nat → Nat → Int64) (n w : Nat) (x : Int32) (sh : Nat → Int32) (hs : stF f n sh) (hx : shp x) (hw : w < 3) : CT (d + 110) 0 0 iX10_egg [.ref 0, .int x, .int (nI w)] (S sw f g) (rdC g f (if w = 0 then jfo sh n x else if w = 1 then jpo sh n x else jpc x)) := by
  have hw3 : w = 0 ∨ w = 1 ∨ w = 2 := by omega
  refine CT.of rfl (Nat.le_of_ble_eq_true rfl) (fun X hX hR hN _ => ?_)
  have hX : Good X RX10 cX10_egg (d + 110) 0 0 := hX
  have hN : x_nl X = 3 := hN
  show WP X 0 0 0 [_, _, _] [] _
  refine wp_iload_n hX (dk DX10_egg 0 rfl) rfl ?_
  refine w_callS (As := [_]) lkX10_83 hX (dk DX10_egg 1 rfl) rfl (by decide) (k_isShape1 (d + 109) x _ hx) ?_
  show WP _ _ _ 4 [_, _, _] [_] _
  refine wp_if_eq (tgt := 16) hX (dk DX10_egg 2 rfl) (by decide) (fun h_ => absurd h_ ((by decide))) (fun _ => ?_)
  refine wp_iload_n hX (dk DX10_egg 3 rfl) rfl ?_
  refine wp_if_lt (tgt := 16) hX (dk DX10_egg 4 rfl) (by decide) (fun h_ => absurd h_ ((nI_pos (by omega)))) (fun _ => ?_)
  refine wp_iload_n hX (dk DX10_egg 5 rfl) rfl ?_
  refine wp_iconst (v := 2) hX (dk DX10_egg 6 rfl) (by decide) ?_
  refine wp_icmp_le (tgt := 18) hX (dk DX10_egg 7 rfl) (by decide) (fun _ => ?_) (fun h_ => absurd ((nI_le (b := 2) (by omega) (by omega))) h_)
  rcases hw3 with rfl | rfl | rfl
  · refine wp_iload_n hX (dk DX10_egg 10 rfl) rfl ?_
    refine wp_if_ne (tgt := 31) hX (dk DX10_egg 11 rfl) (by decide) (fun h_ => absurd (rfl) h_) (fun _ => ?_)
    refine wp_aload_n hX (dk DX10_egg 12 rfl) rfl ?_
    refine w_getr hX flX10_10 (dk DX10_egg 13 rfl) rfl rfl ?_
    refine wp_iload_n hX (dk DX10_egg 14 rfl) rfl ?_
    refine w_callV (As := [_]) lkX10_248 hX (dk DX10_egg 15 rfl) rfl rfl (by decide) hN (k_cuttableOf (d + 107) sw f g n sh x hs) ?_
    show WP _ _ _ 30 [_, _, _] [_] _
    exact wp_ireturn hX hR (dk DX10_egg 16 rfl) rfl (Nat.le_refl _) (Nat.le_refl _) (⟨_, _, _, rfl, rfl, rfl, qC.rf⟩)
  · refine wp_iload_n hX (dk DX10_egg 10 rfl) rfl ?_
    refine wp_if_ne (tgt := 31) hX (dk DX10_egg 11 rfl) (by decide) (fun _ => ?_) (fun h_ => absurd h_ (by decide))
    refine wp_iload_n hX (dk DX10_egg 17 rfl) rfl ?_
    refine wp_iconst (v := 1) hX (dk DX10_egg 18 rfl) (by decide) ?_
    refine wp_icmp_ne (tgt := 44) hX (dk DX10_egg 19 rfl) (by decide) (fun h_ => absurd (rfl) h_) (fun _ => ?_)
    refine wp_aload_n hX (dk DX10_egg 20 rfl) rfl ?_
    refine wp_iload_n hX (dk DX10_egg 21 rfl) rfl ?_
    refine w_callVQ (As := [_]) lkX10_251 hX (dk DX10_egg 22 rfl) rfl rfl (by decide) hN (k_partOf (d + 106) sw f g n sh x hs) (fun v_ sw_ f_ g_ hq_ => ?_)
    obtain ⟨rfl, rfl, hf⟩ := hq_
    show WP _ _ _ 41 [_, _, _] [_] _
    refine wp_goto (tgt := 48) hX (dk DX10_egg 23 rfl) (by decide) ?_
    exact wp_ireturn hX hR (dk DX10_egg 26 rfl) rfl (Nat.le_refl _) (Nat.le_refl _) (⟨_, _, _, rfl, rfl, rfl, hf⟩)
  · refine wp_iload_n hX (dk DX10_egg 10 rfl) rfl ?_
    refine wp_if_ne (tgt := 31) hX (dk DX10_egg 11 rfl) (by decide) (fun _ => ?_) (fun h_ => absurd h_ (by decide))
    refine wp_iload_n hX (dk DX10_egg 17 rfl) rfl ?_
    refine wp_iconst (v := 1) hX (dk DX10_egg 18 rfl) (by decide) ?_
    refine wp_icmp_ne (tgt := 44) hX (dk DX10_egg 19 rfl) (by decide) (fun _ => ?_) (fun h_ => absurd h_ (by decide))
    refine wp_iload_n hX (dk DX10_egg 24 rfl) rfl ?_
    refine w_callS (As := [_]) lkX10_183 hX (dk DX10_egg 25 rfl) rfl (by decide) (k_bitCount (d + 109) x _) ?_
    show WP _ _ _ 48 [_, _, _] [_] _
    exact wp_ireturn hX hR (dk DX10_egg 26 rfl) rfl (Nat.le_refl _) (Nat.le_refl _) (⟨_, _, _, rfl, rfl, rfl, qC.rf⟩)
