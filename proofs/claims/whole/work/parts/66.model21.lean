/-! REFERENCE: the richest, one place -/
theorem iz_tri {x y : Int32} (h : ¬ x < y) (h2 : ¬ x = y) : y < x := by
  rw [Int32.lt_iff_toInt_lt] at *
  have : x.toInt ≠ y.toInt := fun q => h2 (Int32.toInt_inj.mp q)
  omega
theorem iz_asy {x y : Int32} (h : x < y) : ¬ y < x := by
  rw [Int32.lt_iff_toInt_lt] at *
  omega
theorem iz_irr {x y : Int32} (h : x < y) : ¬ y = x := fun q => by
  subst q
  rw [Int32.lt_iff_toInt_lt] at h
  omega
theorem ix11 (p i : Nat) : (11 : Int32) * nI p + nI i = nI (11 * p + i) := by
  rw [show (11 : Int32) = nI 11 from rfl, pk_mul, nI_add]
theorem ix11s (p i : Nat) : (11 : Int32) * (nI p + 1) + nI i = nI (11 * (p + 1) + i) := by
  rw [nI_1, ix11]
/-- what figure i brings at place p, from year y on -/
def mwp (f : Nat → Nat → Int32) (L : List (List Nat × List Nat)) (sh : Nat → Int32) (y : Int32) (i p : Nat) : Int32 := jbr L (f 83 i) (f 84 i) (f 85 i) (sh i) (nI i) (y + nI p) (nI p)
theorem rS_st {W : Nat → Nat → Int32} {B : Nat → Int32} {n p i : Nat} (hp : p < 9) : ((rC (rS W B n (9 - p)) (B i) n).2.1 + W i p, (rC (rS W B n (9 - p)) (B i) n).2.2 + 1) = rS W B n (10 - p) i := by
  rw [show 10 - p = (9 - p) + 1 by omega, rS, if_neg (show ¬ 9 - p = 0 by omega), show 9 - (9 - p) = p by omega]
  rcases rC_in (t := rS W B n (9 - p)) (s := B i) n with h | ⟨j, h1, h2, h3, h4⟩
  · rw [h]
    show (0 + W i p, 0 + 1) = (W i p, 1)
    rw [Int32.zero_add, Int32.zero_add]
  · rw [h2, h3]
    show (_ + _, _ + _) = (_ + _, _ + _)
    rw [Int32.add_comm (W i p), Int32.add_comm 1]
theorem rS_9 {W : Nat → Nat → Int32} {B : Nat → Int32} {n i : Nat} : (0 + W i 9, (0 : Int32) + 1) = rS W B n (10 - 9) i := by
  rw [show 10 - 9 = 0 + 1 from rfl, rS, if_pos rfl, Int32.zero_add, Int32.zero_add]
/-- what was picked is the first of its like -/
theorem rC_first {t : Nat → Int32 × Int32} {s : Int32} : ∀ (n j : Nat), (rC t s n).1 = some j → ∀ i, i < j → ¬ jb s i = 0 → ¬ t i = t j
  | 0, j, h => by cases h
  | n + 1, j, h => by
    rw [rC] at h
    split at h
    · next c =>
      cases h
      intro i hi hb e
      have key : ∀ m, i < m → ((t i).1 < (rC t s m).2.1 ∨ ((t i).1 = (rC t s m).2.1 ∧ ¬ (t i).2 < (rC t s m).2.2)) := by
        intro m
        induction m with
        | zero => intro h0; omega
        | succ m ih =>
          intro hm
          rw [rC]
          by_cases c2 : ¬ jb s m = 0 ∧ ((rC t s m).2.1 < (t m).1 ∨ ((t m).1 = (rC t s m).2.1 ∧ (t m).2 < (rC t s m).2.2))
          · rw [if_pos c2]
            show (t i).1 < (t m).1 ∨ ((t i).1 = (t m).1 ∧ ¬ (t i).2 < (t m).2)
            by_cases q : i = m
            · subst q
              exact Or.inr ⟨rfl, fun z => iz_asy z z⟩
            · have h3 := ih (by omega)
              have c3 := c2.2
              simp only [Int32.lt_iff_toInt_lt, ← Int32.toInt_inj] at h3 c3 ⊢
              omega
          · rw [if_neg c2]
            by_cases q : i = m
            · subst q
              have c3 : ¬ ((rC t s i).2.1 < (t i).1 ∨ ((t i).1 = (rC t s i).2.1 ∧ (t i).2 < (rC t s i).2.2)) := fun z => c2 ⟨hb, z⟩
              simp only [Int32.lt_iff_toInt_lt, ← Int32.toInt_inj] at c3 ⊢
              omega
            · exact ih (by omega)
      have h3 := key n hi
      have c3 := c.2
      rw [e] at h3
      simp only [Int32.lt_iff_toInt_lt, ← Int32.toInt_inj] at h3 c3
      omega
    · exact rC_first n j h
theorem k_mrich (d : Nat) (sw : Bool) (f f2 : Nat → Nat → Int32) (g : Nat → Nat → Int64) (n i p : Nat) (sh : Nat → Int32) (L : List (List Nat × List Nat)) (y x : Int32) (hF : mFg f n sh) (hm : mlOk f L) (hw : ∀ l ∈ L, jwl l) (h97 : ∀ b, b < 97 → f2 b = f b) (ho : ofO f2 n sh x) (hi : i < n) (hp : p < 10) (ht : ∀ j, p < 9 → j < n → (f2 111 (11 * (p + 1) + j), f2 112 (11 * (p + 1) + j)) = rS (mwp f L sh y) (BB sh n) n (9 - p) j) : CT (d + 3) 0 0 iX11_rich [.ref 81, .int (nI i), .int y, .int (nI p)] (S sw f2 g) (QS (fun r sw2 f3 g2 => r = none ∧ sw2 = sw ∧ g2 = g ∧ (∀ b, b ≠ 97 → b ≠ 98 → b ≠ 111 → b ≠ 112 → f3 b = f2 b) ∧ (∀ k, k ≠ 11 * p + i → f3 111 k = f2 111 k ∧ f3 112 k = f2 112 k) ∧ (f3 111 (11 * p + i), f3 112 (11 * p + i)) = rS (mwp f L sh y) (BB sh n) n (10 - p) i)) := by
  have hn : f2 81 0 = nI n := by rw [h97 81 (by decide)]; exact hF.1
  have hn10 := hF.2.1
  have hB : f2 109 i = BB sh n i := ho.1 i hi
  refine CT.of rfl (Nat.le_of_ble_eq_true rfl) (fun X hX hR hN _ => ?_)
  have hX : Good X RX11 cX11_rich (d + 3) 0 0 := hX
  have hN : x_nl X = 9 := hN
  show WP X 0 0 0 [_, _, _, _, _, _, _, _, _] [] _
  have en : ∀ (v l : Int32) (z6 z7 z8 : Option Value), (v + mwp f L sh y i p, l + 1) = rS (mwp f L sh y) (BB sh n) n (10 - p) i → WP X 0 0 111 [some (.ref 81), some (.int (nI i)), some (.int y), some (.int (nI p)), some (.int v), some (.int l), z6, z7, z8] [] (S sw f2 g) := by
    intro v l z6 z7 z8 e
    refine wp_aload_n hX (dk DX11_rich 59 rfl) rfl ?_
    refine w_getr hX flX11_100 (dk DX11_rich_1 0 rfl) rfl rfl ?_
    refine wp_bipush (v := 11) hX (dk DX11_rich_1 1 rfl) (by decide) ?_
    refine wp_iload_n hX (dk DX11_rich_1 2 rfl) rfl ?_
    refine wp_imul hX (dk DX11_rich_1 3 rfl) ?_
    refine wp_iload_n hX (dk DX11_rich_1 4 rfl) rfl ?_
    refine wp_iadd hX (dk DX11_rich_1 5 rfl) ?_
    refine wp_iload hX (dk DX11_rich_1 6 rfl) rfl ?_
    refine wp_iload_n hX (dk DX11_rich_1 7 rfl) rfl ?_
    refine wp_bipush (v := 10) hX (dk DX11_rich_1 8 rfl) (by decide) ?_
    refine wp_icmp_ne (tgt := 133) hX (dk DX11_rich_1 9 rfl) (by decide) (fun _ => ?_) (fun h_ => absurd h_ (fun q => by have := (nI_eq (b := 10) (by omega) (by omega)).mp q; omega))
    refine wp_aload_n hX (dk DX11_rich_1 12 rfl) rfl ?_
    refine wp_iload_n hX (dk DX11_rich_1 13 rfl) rfl ?_
    refine wp_iload_n hX (dk DX11_rich_1 14 rfl) rfl ?_
    refine wp_iload_n hX (dk DX11_rich_1 15 rfl) rfl ?_
    refine wp_iadd hX (dk DX11_rich_1 16 rfl) ?_
    refine wp_iload_n hX (dk DX11_rich_1 17 rfl) rfl ?_
    refine w_callVQ (As := [_, _, _]) lkX11_275 hX (dk DX11_rich_1 18 rfl) rfl rfl (by simp [Value.category]) hN (k_mb97 d sw f f2 g n i sh L _ _ hF hi hm hw h97) (fun v_ sw_ f_ g_ hq_ => ?_)
    obtain ⟨rfl, rfl, rfl, e1⟩ := hq_
    show WP _ _ _ 142 [_, _, _, _, _, _, _, _, _] [_, _, _, _] _
    refine wp_iadd hX (dk DX11_rich_1 19 rfl) ?_
    refine w_iast (j := (11 * p + i)) hX (dk DX11_rich_1 20 rfl) rfl (ix11 p i) (show _ < 110 by omega) ?_
    refine wp_aload_n hX (dk DX11_rich_1 21 rfl) rfl ?_
    refine w_getr hX flX11_103 (dk DX11_rich_1 22 rfl) rfl rfl ?_
    refine wp_bipush (v := 11) hX (dk DX11_rich_1 23 rfl) (by decide) ?_
    refine wp_iload_n hX (dk DX11_rich_1 24 rfl) rfl ?_
    refine wp_imul hX (dk DX11_rich_1 25 rfl) ?_
    refine wp_iload_n hX (dk DX11_rich_1 26 rfl) rfl ?_
    refine wp_iadd hX (dk DX11_rich_1 27 rfl) ?_
    refine wp_iload hX (dk DX11_rich_1 28 rfl) rfl ?_
    refine wp_iconst (v := 1) hX (dk DX11_rich_1 29 rfl) (by decide) ?_
    refine wp_iadd hX (dk DX11_rich_1 30 rfl) ?_
    refine w_iast (j := (11 * p + i)) hX (dk DX11_rich_1 31 rfl) rfl (ix11 p i) (show _ < 110 by omega) ?_
    exact wp_return hX hR (dk DX11_rich_1 32 rfl) (Nat.le_refl _) (Nat.le_refl _) (⟨_, _, _, rfl, rfl, rfl, rfl, fun b h1 h2 h3 h4 => by rw [u2_ne _ _ _ h4, u2_ne _ _ _ h3, e1 b h1 h2], fun k hk => ⟨by rw [u2_ne _ _ _ (by decide), u2_off _ _ _ hk, e1 111 (by decide) (by decide)], by rw [u2_off _ _ _ hk, u2_ne _ _ _ (by decide), e1 112 (by decide) (by decide)]⟩, by rw [← e, u2_ne _ _ _ (show (111 : Nat) ≠ 112 by decide), u2_at, u2_at]; rfl⟩)
  by_cases c9 : p = 9
  · subst c9
    refine wp_iconst (v := 0) hX (dk DX11_rich 0 rfl) (by decide) ?_
    refine wp_istore hX (dk DX11_rich 1 rfl) rfl hN (Nat.le_of_ble_eq_true rfl) ?_
    show WP _ _ _ 3 [_, _, _, _, _, _, _, _, _] [] _
    refine wp_iconst (v := 0) hX (dk DX11_rich 2 rfl) (by decide) ?_
    refine wp_istore hX (dk DX11_rich 3 rfl) rfl hN (Nat.le_of_ble_eq_true rfl) ?_
    show WP _ _ _ 6 [_, _, _, _, _, _, _, _, _] [] _
    refine wp_iconst (v := 0) hX (dk DX11_rich 4 rfl) (by decide) ?_
    refine wp_istore hX (dk DX11_rich 5 rfl) rfl hN (Nat.le_of_ble_eq_true rfl) ?_
    show WP _ _ _ 9 [_, _, _, _, _, _, _, _, _] [] _
    refine wp_iload hX (dk DX11_rich 6 rfl) rfl ?_
    refine wp_aload_n hX (dk DX11_rich 7 rfl) rfl ?_
    refine w_geti hX flX11_112 (dk DX11_rich 8 rfl) (by decide) rfl ?_
    rw [hn]
    refine wp_icmp_ge (tgt := 111) hX (dk DX11_rich 9 rfl) (by decide) (fun h_ => absurd h_ (nI_ge (a := 0) (by omega) (by omega))) (fun _ => ?_)
    refine wp_iload_n hX (dk DX11_rich 10 rfl) rfl ?_
    refine wp_bipush (v := 9) hX (dk DX11_rich 11 rfl) (by decide) ?_
    refine wp_icmp_ge (tgt := 111) hX (dk DX11_rich 12 rfl) (by decide) (fun _ => ?_) (fun h_ => absurd (by decide) h_)
    exact en 0 0 _ _ _ rS_9
  · have hp9 : p < 9 := by omega
    obtain ⟨t, htt⟩ : ∃ t : Nat → Int32 × Int32, t = fun j => (f2 111 (11 * (p + 1) + j), f2 112 (11 * (p + 1) + j)) := ⟨_, rfl⟩
    have et : rC t (BB sh n i) n = rC (rS (mwp f L sh y) (BB sh n) n (9 - p)) (BB sh n i) n := rC_cong n (fun j hj => by rw [htt]; exact ht j hp9 hj)
    have lo : ∀ (m q : Nat) (z7 z8 : Option Value), q + m = n → WP X 0 0 9 [some (.ref 81), some (.int (nI i)), some (.int y), some (.int (nI p)), some (.int (rC t (BB sh n i) q).2.1), some (.int (rC t (BB sh n i) q).2.2), some (.int (nI q)), z7, z8] [] (S sw f2 g) := by
      intro m
      induction m with
      | zero =>
        intro q z7 z8 hq
        obtain rfl : q = n := by omega
        refine wp_iload hX (dk DX11_rich 6 rfl) rfl ?_
        refine wp_aload_n hX (dk DX11_rich 7 rfl) rfl ?_
        refine w_geti hX flX11_112 (dk DX11_rich 8 rfl) (by decide) rfl ?_
        rw [hn]
        refine wp_icmp_ge (tgt := 111) hX (dk DX11_rich 9 rfl) (by decide) (fun _ => ?_) (fun h_ => absurd (nI_le (by omega) (by omega)) h_)
        exact en _ _ _ _ _ (by rw [et]; exact rS_st hp9)
      | succ m ih =>
        intro q z7 z8 hq
        have t1 : f2 111 (11 * (p + 1) + q) = (t q).1 := by rw [htt]
        have t2 : f2 112 (11 * (p + 1) + q) = (t q).2 := by rw [htt]
        have next := fun z7 z8 => ih (q + 1) z7 z8 (by omega)
        refine wp_iload hX (dk DX11_rich 6 rfl) rfl ?_
        refine wp_aload_n hX (dk DX11_rich 7 rfl) rfl ?_
        refine w_geti hX flX11_112 (dk DX11_rich 8 rfl) (by decide) rfl ?_
        rw [hn]
        refine wp_icmp_ge (tgt := 111) hX (dk DX11_rich 9 rfl) (by decide) (fun h_ => absurd h_ (nI_ge (by omega) (by omega))) (fun _ => ?_)
        refine wp_iload_n hX (dk DX11_rich 10 rfl) rfl ?_
        refine wp_bipush (v := 9) hX (dk DX11_rich 11 rfl) (by decide) ?_
        refine wp_icmp_ge (tgt := 111) hX (dk DX11_rich 12 rfl) (by decide) (fun h_ => absurd h_ (nI_ge (b := 9) (by omega) (by omega))) (fun _ => ?_)
        refine wp_aload_n hX (dk DX11_rich 13 rfl) rfl ?_
        refine w_getr hX flX11_94 (dk DX11_rich 14 rfl) rfl rfl ?_
        refine wp_iload_n hX (dk DX11_rich 15 rfl) rfl ?_
        refine w_iald (j := _) hX (dk DX11_rich 16 rfl) rfl rfl (show _ < 11 by omega) ?_
        rw [hB]
        refine wp_iload hX (dk DX11_rich 17 rfl) rfl ?_
        refine w_callS (As := [_, _]) lkX11_138 hX (dk DX11_rich 18 rfl) rfl (by decide) (k_mhas (d + 2) _ _ _) ?_
        show WP _ _ _ 35 [_, _, _, _, _, _, _, _, _] [_] _
        refine wp_if_ne (tgt := 41) hX (dk DX11_rich 19 rfl) (by decide) (fun h35 => ?_) (fun h35 => ?_)
        · refine wp_aload_n hX (dk DX11_rich 21 rfl) rfl ?_
          refine w_getr hX flX11_100 (dk DX11_rich 22 rfl) rfl rfl ?_
          refine wp_bipush (v := 11) hX (dk DX11_rich 23 rfl) (by decide) ?_
          refine wp_iload_n hX (dk DX11_rich 24 rfl) rfl ?_
          refine wp_iconst (v := 1) hX (dk DX11_rich 25 rfl) (by decide) ?_
          refine wp_iadd hX (dk DX11_rich 26 rfl) ?_
          refine wp_imul hX (dk DX11_rich 27 rfl) ?_
          refine wp_iload hX (dk DX11_rich 28 rfl) rfl ?_
          refine wp_iadd hX (dk DX11_rich 29 rfl) ?_
          refine w_iald (j := (11 * (p + 1) + q)) hX (dk DX11_rich 30 rfl) rfl (ix11s p q) (show _ < 110 by omega) ?_
          rw [t1]
          refine wp_istore hX (dk DX11_rich 31 rfl) rfl hN (Nat.le_of_ble_eq_true rfl) ?_
          show WP _ _ _ 57 [_, _, _, _, _, _, _, _, _] [] _
          refine wp_aload_n hX (dk DX11_rich 32 rfl) rfl ?_
          refine w_getr hX flX11_103 (dk DX11_rich 33 rfl) rfl rfl ?_
          refine wp_bipush (v := 11) hX (dk DX11_rich 34 rfl) (by decide) ?_
          refine wp_iload_n hX (dk DX11_rich 35 rfl) rfl ?_
          refine wp_iconst (v := 1) hX (dk DX11_rich 36 rfl) (by decide) ?_
          refine wp_iadd hX (dk DX11_rich 37 rfl) ?_
          refine wp_imul hX (dk DX11_rich 38 rfl) ?_
          refine wp_iload hX (dk DX11_rich 39 rfl) rfl ?_
          refine wp_iadd hX (dk DX11_rich 40 rfl) ?_
          refine w_iald (j := (11 * (p + 1) + q)) hX (dk DX11_rich 41 rfl) rfl (ix11s p q) (show _ < 110 by omega) ?_
          rw [t2]
          refine wp_istore hX (dk DX11_rich 42 rfl) rfl hN (Nat.le_of_ble_eq_true rfl) ?_
          show WP _ _ _ 73 [_, _, _, _, _, _, _, _, _] [] _
          refine wp_iload hX (dk DX11_rich 43 rfl) rfl ?_
          refine wp_iload hX (dk DX11_rich 44 rfl) rfl ?_
          refine wp_icmp_lt (tgt := 105) hX (dk DX11_rich 45 rfl) (by decide) (fun h77 => ?_) (fun h77 => ?_)
          · have cc : ¬ (¬ jb (BB sh n i) q = 0 ∧ ((rC t (BB sh n i) q).2.1 < (t q).1 ∨ ((t q).1 = (rC t (BB sh n i) q).2.1 ∧ (t q).2 < (rC t (BB sh n i) q).2.2))) := fun z => z.2.elim (iz_asy h77) (fun e => iz_irr h77 e.1.symm)
            refine wp_iinc hX (dk DX11_rich 57 rfl) rfl (nI_inc _) rfl hN ?_
            show WP _ _ _ 108 [_, _, _, _, _, _, _, _, _] [] _
            refine wp_goto (tgt := 9) hX (dk DX11_rich 58 rfl) (by decide) ?_
            have nx := fun z7 z8 => next z7 z8
            rw [rC] at nx
            first | (rw [if_pos cc] at nx; exact nx _ _) | (rw [if_neg cc] at nx; exact nx _ _)
          · refine wp_iload hX (dk DX11_rich 46 rfl) rfl ?_
            refine wp_iload hX (dk DX11_rich 47 rfl) rfl ?_
            refine wp_icmp_ne (tgt := 97) hX (dk DX11_rich 48 rfl) (by decide) (fun h84 => ?_) (fun h84 => ?_)
            · have cc : ¬ jb (BB sh n i) q = 0 ∧ ((rC t (BB sh n i) q).2.1 < (t q).1 ∨ ((t q).1 = (rC t (BB sh n i) q).2.1 ∧ (t q).2 < (rC t (BB sh n i) q).2.2)) := ⟨h35, Or.inl (iz_tri h77 h84)⟩
              refine wp_iload hX (dk DX11_rich 53 rfl) rfl ?_
              refine wp_istore hX (dk DX11_rich 54 rfl) rfl hN (Nat.le_of_ble_eq_true rfl) ?_
              show WP _ _ _ 101 [_, _, _, _, _, _, _, _, _] [] _
              refine wp_iload hX (dk DX11_rich 55 rfl) rfl ?_
              refine wp_istore hX (dk DX11_rich 56 rfl) rfl hN (Nat.le_of_ble_eq_true rfl) ?_
              show WP _ _ _ 105 [_, _, _, _, _, _, _, _, _] [] _
              refine wp_iinc hX (dk DX11_rich 57 rfl) rfl (nI_inc _) rfl hN ?_
              show WP _ _ _ 108 [_, _, _, _, _, _, _, _, _] [] _
              refine wp_goto (tgt := 9) hX (dk DX11_rich 58 rfl) (by decide) ?_
              have nx := fun z7 z8 => next z7 z8
              rw [rC] at nx
              first | (rw [if_pos cc] at nx; exact nx _ _) | (rw [if_neg cc] at nx; exact nx _ _)
            · refine wp_iload hX (dk DX11_rich 49 rfl) rfl ?_
              refine wp_iload hX (dk DX11_rich 50 rfl) rfl ?_
              refine wp_icmp_lt (tgt := 97) hX (dk DX11_rich 51 rfl) (by decide) (fun h91 => ?_) (fun h91 => ?_)
              · have cc : ¬ jb (BB sh n i) q = 0 ∧ ((rC t (BB sh n i) q).2.1 < (t q).1 ∨ ((t q).1 = (rC t (BB sh n i) q).2.1 ∧ (t q).2 < (rC t (BB sh n i) q).2.2)) := ⟨h35, Or.inr ⟨h84, h91⟩⟩
                refine wp_iload hX (dk DX11_rich 53 rfl) rfl ?_
                refine wp_istore hX (dk DX11_rich 54 rfl) rfl hN (Nat.le_of_ble_eq_true rfl) ?_
                show WP _ _ _ 101 [_, _, _, _, _, _, _, _, _] [] _
                refine wp_iload hX (dk DX11_rich 55 rfl) rfl ?_
                refine wp_istore hX (dk DX11_rich 56 rfl) rfl hN (Nat.le_of_ble_eq_true rfl) ?_
                show WP _ _ _ 105 [_, _, _, _, _, _, _, _, _] [] _
                refine wp_iinc hX (dk DX11_rich 57 rfl) rfl (nI_inc _) rfl hN ?_
                show WP _ _ _ 108 [_, _, _, _, _, _, _, _, _] [] _
                refine wp_goto (tgt := 9) hX (dk DX11_rich 58 rfl) (by decide) ?_
                have nx := fun z7 z8 => next z7 z8
                rw [rC] at nx
                first | (rw [if_pos cc] at nx; exact nx _ _) | (rw [if_neg cc] at nx; exact nx _ _)
              · have cc : ¬ (¬ jb (BB sh n i) q = 0 ∧ ((rC t (BB sh n i) q).2.1 < (t q).1 ∨ ((t q).1 = (rC t (BB sh n i) q).2.1 ∧ (t q).2 < (rC t (BB sh n i) q).2.2))) := fun z => z.2.elim (fun e => iz_irr e h84) (fun e => h91 e.2)
                refine wp_goto (tgt := 105) hX (dk DX11_rich 52 rfl) (by decide) ?_
                refine wp_iinc hX (dk DX11_rich 57 rfl) rfl (nI_inc _) rfl hN ?_
                show WP _ _ _ 108 [_, _, _, _, _, _, _, _, _] [] _
                refine wp_goto (tgt := 9) hX (dk DX11_rich 58 rfl) (by decide) ?_
                have nx := fun z7 z8 => next z7 z8
                rw [rC] at nx
                first | (rw [if_pos cc] at nx; exact nx _ _) | (rw [if_neg cc] at nx; exact nx _ _)
        · have cc : ¬ (¬ jb (BB sh n i) q = 0 ∧ ((rC t (BB sh n i) q).2.1 < (t q).1 ∨ ((t q).1 = (rC t (BB sh n i) q).2.1 ∧ (t q).2 < (rC t (BB sh n i) q).2.2))) := fun z => z.1 h35
          refine wp_goto (tgt := 105) hX (dk DX11_rich 20 rfl) (by decide) ?_
          refine wp_iinc hX (dk DX11_rich 57 rfl) rfl (nI_inc _) rfl hN ?_
          show WP _ _ _ 108 [_, _, _, _, _, _, _, _, _] [] _
          refine wp_goto (tgt := 9) hX (dk DX11_rich 58 rfl) (by decide) ?_
          have nx := fun z7 z8 => next z7 z8
          rw [rC] at nx
          first | (rw [if_pos cc] at nx; exact nx _ _) | (rw [if_neg cc] at nx; exact nx _ _)
    refine wp_iconst (v := 0) hX (dk DX11_rich 0 rfl) (by decide) ?_
    refine wp_istore hX (dk DX11_rich 1 rfl) rfl hN (Nat.le_of_ble_eq_true rfl) ?_
    show WP _ _ _ 3 [_, _, _, _, _, _, _, _, _] [] _
    refine wp_iconst (v := 0) hX (dk DX11_rich 2 rfl) (by decide) ?_
    refine wp_istore hX (dk DX11_rich 3 rfl) rfl hN (Nat.le_of_ble_eq_true rfl) ?_
    show WP _ _ _ 6 [_, _, _, _, _, _, _, _, _] [] _
    refine wp_iconst (v := 0) hX (dk DX11_rich 4 rfl) (by decide) ?_
    refine wp_istore hX (dk DX11_rich 5 rfl) rfl hN (Nat.le_of_ble_eq_true rfl) ?_
    show WP _ _ _ 9 [_, _, _, _, _, _, _, _, _] [] _
    exact lo n 0 _ _ (by omega)
theorem k_mnext (d : Nat) (sw : Bool) (f f2 : Nat → Nat → Int32) (g : Nat → Nat → Int64) (n i p j : Nat) (sh : Nat → Int32) (L : List (List Nat × List Nat)) (y x : Int32) (hF : mFg f n sh) (hm : mlOk f L) (hw : ∀ l ∈ L, jwl l) (h97 : ∀ b, b < 97 → f2 b = f b) (ho : ofO f2 n sh x) (hi : i < n) (hp : p < 9) (ht : ∀ q k, p ≤ q → q < p + 2 → k < n → (f2 111 (11 * q + k), f2 112 (11 * q + k)) = rS (mwp f L sh y) (BB sh n) n (10 - q) k) (hj : (rC (rS (mwp f L sh y) (BB sh n) n (9 - p)) (BB sh n i) n).1 = some j) : CT (d + 3) 0 0 iX11_nextRich [.ref 81, .int (nI i), .int (nI p), .int y] (S sw f2 g) (QS (fun r sw2 f3 g2 => r = some (.int (nI j)) ∧ sw2 = sw ∧ g2 = g ∧ ∀ b, b ≠ 97 → b ≠ 98 → f3 b = f2 b)) := by
  have hn : f2 81 0 = nI n := by rw [h97 81 (by decide)]; exact hF.1
  have hn10 := hF.2.1
  obtain ⟨j1, j2, j3⟩ : j < n ∧ (rC (rS (mwp f L sh y) (BB sh n) n (9 - p)) (BB sh n i) n).2 = rS (mwp f L sh y) (BB sh n) n (9 - p) j ∧ ¬ jb (BB sh n i) j = 0 := by
    rcases rC_in (t := rS (mwp f L sh y) (BB sh n) n (9 - p)) (s := BB sh n i) n with h | ⟨k, k1, k2, k3, k4⟩
    · rw [h] at hj; cases hj
    · rw [hj] at k2; cases k2; exact ⟨k1, k3, k4⟩
  have fst := rC_first n j hj
  obtain ⟨R, hR9⟩ : ∃ R, R = rS (mwp f L sh y) (BB sh n) n (9 - p) := ⟨_, rfl⟩
  rw [← hR9] at j2 fst
  have e1 := rS_st (W := mwp f L sh y) (B := BB sh n) (n := n) (i := i) hp
  rw [← hR9, j2, ← ht p i (Nat.le_refl _) (by omega) hi] at e1
  have e2 : (R j).1 + mwp f L sh y i p = f2 111 (11 * p + i) := congrArg Prod.fst e1
  have e3 : (R j).2 + 1 = f2 112 (11 * p + i) := congrArg Prod.snd e1
  have tq : ∀ k, k < n → (f2 111 (11 * (p + 1) + k), f2 112 (11 * (p + 1) + k)) = R k := fun k hk => by rw [hR9, ht (p + 1) k (by omega) (by omega) hk, show 10 - (p + 1) = 9 - p by omega]
  refine CT.of rfl (Nat.le_of_ble_eq_true rfl) (fun X hX hR hN _ => ?_)
  have hX : Good X RX11 cX11_nextRich (d + 3) 0 0 := hX
  have hN : x_nl X = 6 := hN
  show WP X 0 0 0 [_, _, _, _, _, _] [] _
  refine wp_aload_n hX (dk DX11_nextRich 0 rfl) rfl ?_
  refine w_getr hX flX11_100 (dk DX11_nextRich 1 rfl) rfl rfl ?_
  refine wp_bipush (v := 11) hX (dk DX11_nextRich 2 rfl) (by decide) ?_
  refine wp_iload_n hX (dk DX11_nextRich 3 rfl) rfl ?_
  refine wp_imul hX (dk DX11_nextRich 4 rfl) ?_
  refine wp_iload_n hX (dk DX11_nextRich 5 rfl) rfl ?_
  refine wp_iadd hX (dk DX11_nextRich 6 rfl) ?_
  refine w_iald (j := (11 * p + i)) hX (dk DX11_nextRich 7 rfl) rfl (ix11 p i) (show _ < 110 by omega) ?_
  refine wp_aload_n hX (dk DX11_nextRich 8 rfl) rfl ?_
  refine wp_iload_n hX (dk DX11_nextRich 9 rfl) rfl ?_
  refine wp_iload_n hX (dk DX11_nextRich 10 rfl) rfl ?_
  refine wp_iload_n hX (dk DX11_nextRich 11 rfl) rfl ?_
  refine wp_iadd hX (dk DX11_nextRich 12 rfl) ?_
  refine wp_iload_n hX (dk DX11_nextRich 13 rfl) rfl ?_
  refine w_callVQ (As := [_, _, _]) lkX11_275 hX (dk DX11_nextRich 14 rfl) rfl rfl (by simp [Value.category]) hN (k_mb97 d sw f f2 g n i sh L _ _ hF hi hm hw h97) (fun v_a sw_a f_a g_a hq_a => ?_)
  obtain ⟨rfl, rfl, rfl, q1⟩ := hq_a
  show WP _ _ _ 20 [_, _, _, _, _, _] [_, _] _
  refine wp_isub hX (dk DX11_nextRich 15 rfl) ?_
  rw [show f2 111 (11 * p + i) - jbr L (f 83 i) (f 84 i) (f 85 i) (sh i) (nI i) (y + nI p) (nI p) = (R j).1 by rw [← e2]; exact Int32.add_sub_cancel _ _]
  refine wp_istore hX (dk DX11_nextRich 16 rfl) rfl hN (Nat.le_of_ble_eq_true rfl) ?_
  show WP _ _ _ 23 [_, _, _, _, _, _] [] _
  refine wp_iconst (v := 0) hX (dk DX11_nextRich 17 rfl) (by decide) ?_
  refine wp_istore hX (dk DX11_nextRich 18 rfl) rfl hN (Nat.le_of_ble_eq_true rfl) ?_
  show WP _ _ _ 26 [_, _, _, _, _, _] [] _
  skip
  have lo : ∀ (m k : Nat), k + m = j → WP X 0 0 26 [some (.ref 81), some (.int (nI i)), some (.int (nI p)), some (.int y), some (.int (R j).1), some (.int (nI k))] [] (S sw_a f_a g_a) := by
    intro m
    induction m with
    | zero =>
      intro k hk
      obtain rfl : k = j := by omega
      have a1 : f_a 111 (11 * (p + 1) + k) = (R k).1 := by rw [q1 111 (by decide) (by decide)]; exact congrArg Prod.fst (tq k j1)
      have a2 : f_a 112 (11 * (p + 1) + k) = (R k).2 := by rw [q1 112 (by decide) (by decide)]; exact congrArg Prod.snd (tq k j1)
      have a3 : f_a 112 (11 * p + i) - 1 = (R k).2 := by rw [q1 112 (by decide) (by decide), ← e3]; exact Int32.add_sub_cancel _ _
      refine wp_iload hX (dk DX11_nextRich 19 rfl) rfl ?_
      refine wp_aload_n hX (dk DX11_nextRich 20 rfl) rfl ?_
      refine w_geti hX flX11_112 (dk DX11_nextRich 21 rfl) (by decide) rfl ?_
      rw [show f_a 81 0 = nI n by rw [q1 81 (by decide) (by decide)]; exact hn]
      refine wp_icmp_ge (tgt := 107) hX (dk DX11_nextRich 22 rfl) (by decide) (fun h_ => absurd h_ (nI_ge (by omega) (by omega))) (fun _ => ?_)
      refine wp_aload_n hX (dk DX11_nextRich 23 rfl) rfl ?_
      refine w_getr hX flX11_94 (dk DX11_nextRich 24 rfl) rfl rfl ?_
      refine wp_iload_n hX (dk DX11_nextRich 25 rfl) rfl ?_
      refine w_iald (j := _) hX (dk DX11_nextRich 26 rfl) rfl rfl (show _ < 11 by omega) ?_
      rw [show f_a 109 i = BB sh n i by rw [q1 109 (by decide) (by decide)]; exact ho.1 i hi]
      refine wp_iload hX (dk DX11_nextRich 27 rfl) rfl ?_
      refine w_callS (As := [_, _]) lkX11_138 hX (dk DX11_nextRich 28 rfl) rfl (by decide) (k_mhas (d + 2) _ _ _) ?_
      show WP _ _ _ 46 [_, _, _, _, _, _] [_] _
      refine wp_if_eq (tgt := 101) hX (dk DX11_nextRich 29 rfl) (by decide) (fun h_ => absurd h_ (j3)) (fun _ => ?_)
      refine wp_aload_n hX (dk DX11_nextRich 30 rfl) rfl ?_
      refine w_getr hX flX11_100 (dk DX11_nextRich 31 rfl) rfl rfl ?_
      refine wp_bipush (v := 11) hX (dk DX11_nextRich 32 rfl) (by decide) ?_
      refine wp_iload_n hX (dk DX11_nextRich 33 rfl) rfl ?_
      refine wp_iconst (v := 1) hX (dk DX11_nextRich 34 rfl) (by decide) ?_
      refine wp_iadd hX (dk DX11_nextRich 35 rfl) ?_
      refine wp_imul hX (dk DX11_nextRich 36 rfl) ?_
      refine wp_iload hX (dk DX11_nextRich 37 rfl) rfl ?_
      refine wp_iadd hX (dk DX11_nextRich 38 rfl) ?_
      refine w_iald (j := (11 * (p + 1) + k)) hX (dk DX11_nextRich 39 rfl) rfl (ix11s p k) (show _ < 110 by omega) ?_
      refine wp_iload hX (dk DX11_nextRich 40 rfl) rfl ?_
      refine wp_icmp_ne (tgt := 101) hX (dk DX11_nextRich 41 rfl) (by decide) (fun h_ => absurd (a1) h_) (fun _ => ?_)
      refine wp_aload_n hX (dk DX11_nextRich 42 rfl) rfl ?_
      refine w_getr hX flX11_103 (dk DX11_nextRich 43 rfl) rfl rfl ?_
      refine wp_bipush (v := 11) hX (dk DX11_nextRich 44 rfl) (by decide) ?_
      refine wp_iload_n hX (dk DX11_nextRich 45 rfl) rfl ?_
      refine wp_iconst (v := 1) hX (dk DX11_nextRich 46 rfl) (by decide) ?_
      refine wp_iadd hX (dk DX11_nextRich 47 rfl) ?_
      refine wp_imul hX (dk DX11_nextRich 48 rfl) ?_
      refine wp_iload hX (dk DX11_nextRich 49 rfl) rfl ?_
      refine wp_iadd hX (dk DX11_nextRich 50 rfl) ?_
      refine w_iald (j := (11 * (p + 1) + k)) hX (dk DX11_nextRich 51 rfl) rfl (ix11s p k) (show _ < 110 by omega) ?_
      refine wp_aload_n hX (dk DX11_nextRich 52 rfl) rfl ?_
      refine w_getr hX flX11_103 (dk DX11_nextRich 53 rfl) rfl rfl ?_
      refine wp_bipush (v := 11) hX (dk DX11_nextRich 54 rfl) (by decide) ?_
      refine wp_iload_n hX (dk DX11_nextRich 55 rfl) rfl ?_
      refine wp_imul hX (dk DX11_nextRich 56 rfl) ?_
      refine wp_iload_n hX (dk DX11_nextRich 57 rfl) rfl ?_
      refine wp_iadd hX (dk DX11_nextRich 58 rfl) ?_
      refine w_iald (j := (11 * p + i)) hX (dk DX11_nextRich 59 rfl) rfl (ix11 p i) (show _ < 110 by omega) ?_
      refine wp_iconst (v := 1) hX (dk DX11_nextRich_1 0 rfl) (by decide) ?_
      refine wp_isub hX (dk DX11_nextRich_1 1 rfl) ?_
      refine wp_icmp_ne (tgt := 101) hX (dk DX11_nextRich_1 2 rfl) (by decide) (fun h_ => absurd (a2.trans a3.symm) h_) (fun _ => ?_)
      refine wp_iload hX (dk DX11_nextRich_1 3 rfl) rfl ?_
      exact wp_ireturn hX hR (dk DX11_nextRich_1 4 rfl) rfl (Nat.le_refl _) (Nat.le_refl _) (⟨_, _, _, rfl, rfl, rfl, rfl, q1⟩)
    | succ m ih =>
      intro k hk
      have a1 : f_a 111 (11 * (p + 1) + k) = (R k).1 := by rw [q1 111 (by decide) (by decide)]; exact congrArg Prod.fst (tq k (by omega))
      have a2 : f_a 112 (11 * (p + 1) + k) = (R k).2 := by rw [q1 112 (by decide) (by decide)]; exact congrArg Prod.snd (tq k (by omega))
      have a3 : f_a 112 (11 * p + i) - 1 = (R j).2 := by rw [q1 112 (by decide) (by decide), ← e3]; exact Int32.add_sub_cancel _ _
      refine wp_iload hX (dk DX11_nextRich 19 rfl) rfl ?_
      refine wp_aload_n hX (dk DX11_nextRich 20 rfl) rfl ?_
      refine w_geti hX flX11_112 (dk DX11_nextRich 21 rfl) (by decide) rfl ?_
      rw [show f_a 81 0 = nI n by rw [q1 81 (by decide) (by decide)]; exact hn]
      refine wp_icmp_ge (tgt := 107) hX (dk DX11_nextRich 22 rfl) (by decide) (fun h_ => absurd h_ (nI_ge (by omega) (by omega))) (fun _ => ?_)
      refine wp_aload_n hX (dk DX11_nextRich 23 rfl) rfl ?_
      refine w_getr hX flX11_94 (dk DX11_nextRich 24 rfl) rfl rfl ?_
      refine wp_iload_n hX (dk DX11_nextRich 25 rfl) rfl ?_
      refine w_iald (j := _) hX (dk DX11_nextRich 26 rfl) rfl rfl (show _ < 11 by omega) ?_
      rw [show f_a 109 i = BB sh n i by rw [q1 109 (by decide) (by decide)]; exact ho.1 i hi]
      refine wp_iload hX (dk DX11_nextRich 27 rfl) rfl ?_
      refine w_callS (As := [_, _]) lkX11_138 hX (dk DX11_nextRich 28 rfl) rfl (by decide) (k_mhas (d + 2) _ _ _) ?_
      show WP _ _ _ 46 [_, _, _, _, _, _] [_] _
      refine wp_if_eq (tgt := 101) hX (dk DX11_nextRich 29 rfl) (by decide) (fun h46 => ?_) (fun h46 => ?_)
      · refine wp_iinc hX (dk DX11_nextRich_1 5 rfl) rfl (nI_inc _) rfl hN ?_
        show WP _ _ _ 104 [_, _, _, _, _, _] [] _
        refine wp_goto (tgt := 26) hX (dk DX11_nextRich_1 6 rfl) (by decide) ?_
        exact ih (k + 1) (by omega)
      · refine wp_aload_n hX (dk DX11_nextRich 30 rfl) rfl ?_
        refine w_getr hX flX11_100 (dk DX11_nextRich 31 rfl) rfl rfl ?_
        refine wp_bipush (v := 11) hX (dk DX11_nextRich 32 rfl) (by decide) ?_
        refine wp_iload_n hX (dk DX11_nextRich 33 rfl) rfl ?_
        refine wp_iconst (v := 1) hX (dk DX11_nextRich 34 rfl) (by decide) ?_
        refine wp_iadd hX (dk DX11_nextRich 35 rfl) ?_
        refine wp_imul hX (dk DX11_nextRich 36 rfl) ?_
        refine wp_iload hX (dk DX11_nextRich 37 rfl) rfl ?_
        refine wp_iadd hX (dk DX11_nextRich 38 rfl) ?_
        refine w_iald (j := (11 * (p + 1) + k)) hX (dk DX11_nextRich 39 rfl) rfl (ix11s p k) (show _ < 110 by omega) ?_
        refine wp_iload hX (dk DX11_nextRich 40 rfl) rfl ?_
        refine wp_icmp_ne (tgt := 101) hX (dk DX11_nextRich 41 rfl) (by decide) (fun h65 => ?_) (fun h65 => ?_)
        · refine wp_iinc hX (dk DX11_nextRich_1 5 rfl) rfl (nI_inc _) rfl hN ?_
          show WP _ _ _ 104 [_, _, _, _, _, _] [] _
          refine wp_goto (tgt := 26) hX (dk DX11_nextRich_1 6 rfl) (by decide) ?_
          exact ih (k + 1) (by omega)
        · refine wp_aload_n hX (dk DX11_nextRich 42 rfl) rfl ?_
          refine w_getr hX flX11_103 (dk DX11_nextRich 43 rfl) rfl rfl ?_
          refine wp_bipush (v := 11) hX (dk DX11_nextRich 44 rfl) (by decide) ?_
          refine wp_iload_n hX (dk DX11_nextRich 45 rfl) rfl ?_
          refine wp_iconst (v := 1) hX (dk DX11_nextRich 46 rfl) (by decide) ?_
          refine wp_iadd hX (dk DX11_nextRich 47 rfl) ?_
          refine wp_imul hX (dk DX11_nextRich 48 rfl) ?_
          refine wp_iload hX (dk DX11_nextRich 49 rfl) rfl ?_
          refine wp_iadd hX (dk DX11_nextRich 50 rfl) ?_
          refine w_iald (j := (11 * (p + 1) + k)) hX (dk DX11_nextRich 51 rfl) rfl (ix11s p k) (show _ < 110 by omega) ?_
          refine wp_aload_n hX (dk DX11_nextRich 52 rfl) rfl ?_
          refine w_getr hX flX11_103 (dk DX11_nextRich 53 rfl) rfl rfl ?_
          refine wp_bipush (v := 11) hX (dk DX11_nextRich 54 rfl) (by decide) ?_
          refine wp_iload_n hX (dk DX11_nextRich 55 rfl) rfl ?_
          refine wp_imul hX (dk DX11_nextRich 56 rfl) ?_
          refine wp_iload_n hX (dk DX11_nextRich 57 rfl) rfl ?_
          refine wp_iadd hX (dk DX11_nextRich 58 rfl) ?_
          refine w_iald (j := (11 * p + i)) hX (dk DX11_nextRich 59 rfl) rfl (ix11 p i) (show _ < 110 by omega) ?_
          refine wp_iconst (v := 1) hX (dk DX11_nextRich_1 0 rfl) (by decide) ?_
          refine wp_isub hX (dk DX11_nextRich_1 1 rfl) ?_
          refine wp_icmp_ne (tgt := 101) hX (dk DX11_nextRich_1 2 rfl) (by decide) (fun h95 => ?_) (fun h95 => ?_)
          · refine wp_iinc hX (dk DX11_nextRich_1 5 rfl) rfl (nI_inc _) rfl hN ?_
            show WP _ _ _ 104 [_, _, _, _, _, _] [] _
            refine wp_goto (tgt := 26) hX (dk DX11_nextRich_1 6 rfl) (by decide) ?_
            exact ih (k + 1) (by omega)
          · exact absurd (Prod.ext (a1.symm.trans h65) (a2.symm.trans (h95.trans a3))) (fst k (by omega) h46)
  exact lo j 0 (by omega)
