/-! REFERENCE: richest -/
theorem rS_len {W : Nat → Nat → Int32} {B : Nat → Int32} {n : Nat} : ∀ q, q < 10 → ∀ j, ∃ l, l ≤ q ∧ (rS W B n (q + 1) j).2 = nI (l + 1)
  | 0, _, j => ⟨0, Nat.le_refl _, rfl⟩
  | q + 1, hq, j => by
    have e := rS_st (W := W) (B := B) (n := n) (p := 8 - q) (i := j) (by omega)
    rw [show 10 - (8 - q) = q + 1 + 1 by omega, show 9 - (8 - q) = q + 1 by omega] at e
    have e2 := congrArg Prod.snd e
    rcases rC_in (t := rS W B n (q + 1)) (s := B j) n with h | ⟨i, h1, h2, h3, h4⟩
    · refine ⟨0, by omega, ?_⟩
      rw [← e2, h]
      rfl
    · obtain ⟨l, l1, l2⟩ := rS_len q (by omega) i
      refine ⟨l + 1, by omega, ?_⟩
      rw [← e2, h3, l2, nI_1]
/-- how many cuts the best out of s has -/
theorem rC_len {W : Nat → Nat → Int32} {B : Nat → Int32} {n q : Nat} {s : Int32} (hq : q < 10) : (rC (rS W B n (q + 1)) s n = (none, 0, 0)) ∨ ∃ j l, j < n ∧ l ≤ q ∧ (rC (rS W B n (q + 1)) s n).1 = some j ∧ (rC (rS W B n (q + 1)) s n).2 = rS W B n (q + 1) j ∧ (rC (rS W B n (q + 1)) s n).2.2 = nI (l + 1) := by
  rcases rC_in (t := rS W B n (q + 1)) (s := s) n with h | ⟨i, h1, h2, h3, h4⟩
  · exact Or.inl h
  · obtain ⟨l, l1, l2⟩ := rS_len (W := W) (B := B) (n := n) q hq i
    exact Or.inr ⟨i, l, h1, l1, h2, h3, by rw [h3, l2]⟩
/-- one more cut behind -/
theorem rS_nx {W : Nat → Nat → Int32} {B : Nat → Int32} {n q i v : Nat} (hq : q < 9) (h : (rS W B n (q + 2) i).2 = nI (v + 1)) : (rC (rS W B n (q + 1)) (B i) n).2.2 = nI v := by
  have e := rS_st (W := W) (B := B) (n := n) (p := 8 - q) (i := i) (by omega)
  rw [show 10 - (8 - q) = q + 2 by omega, show 9 - (8 - q) = q + 1 by omega] at e
  have e2 := congrArg Prod.snd e
  rw [h, ← nI_1] at e2
  have e3 := congrArg (fun z => z - 1) e2
  simpa only [Int32.add_sub_cancel] using e3
theorem rI_end {W : Nat → Nat → Int32} {B : Nat → Int32} {n kk : Nat} (hk : kk < 2 ^ 31) : ∀ (m l : Nat) (s : Int32), m < 10 → (rC (rS W B n (m + 1)) s n).2.2 = nI l → l < 100 → 9 - m + l ≤ kk → rI (rS W B n) B n (nI kk) (m + 1) s = -2
  | 0, l, s, hm, h, hl, hk2 => by
    rcases rC_len (W := W) (B := B) (n := n) (q := 0) (s := s) (by decide) with e | ⟨j, w, j1, w1, e1, e2, e3⟩
    · rw [rI, e]
    · rw [e3] at h
      have := (nI_eq (by omega) (by omega)).mp h
      rw [rI, e1]
      show (if nI (9 - 0) = nI kk then _ else _) = _
      rw [if_neg (fun q => by have := (nI_eq (by omega) hk).mp q; omega)]
      rfl
  | m + 1, l, s, hm, h, hl, hk2 => by
    rcases rC_len (W := W) (B := B) (n := n) (q := m + 1) (s := s) (by omega) with e | ⟨j, w, j1, w1, e1, e2, e3⟩
    · rw [rI, e]
    · rw [e3] at h
      have := (nI_eq (by omega) (by omega)).mp h
      rw [rI, e1]
      show (if nI (9 - (m + 1)) = nI kk then _ else _) = _
      rw [if_neg (fun q => by have := (nI_eq (by omega) hk).mp q; omega)]
      rw [e2] at e3
      exact rI_end hk m w (B j) (by omega) (rS_nx (by omega) e3) (by omega) (by omega)
/-- the reference's rows of the richest -/
def tbO (f : Nat → Nat → Int32) (R : Nat → Nat → Int32 × Int32) (q k : Nat) : Prop := (f 111 (11 * q + k), f 112 (11 * q + k)) = R (10 - q) k
theorem tbO.k {f f2 : Nat → Nat → Int32} {R : Nat → Nat → Int32 × Int32} {q k p j : Nat} (h : tbO f R q k) (h2 : ∀ i, i ≠ 11 * p + j → f2 111 i = f 111 i ∧ f2 112 i = f 112 i) (hk : k < 10) (hj : j < 10) (hn : ¬ (q = p ∧ k = j)) : tbO f2 R q k := by
  unfold tbO at *
  rw [(h2 _ (by omega)).1, (h2 _ (by omega)).2]
  exact h
theorem tbO.s {f f2 : Nat → Nat → Int32} {R : Nat → Nat → Int32 × Int32} {q k : Nat} (h : tbO f R q k) (h1 : f2 111 = f 111) (h2 : f2 112 = f 112) : tbO f2 R q k := by
  unfold tbO at *
  rw [h1, h2]
  exact h
theorem u_richest1 (d : Nat) (sw : Bool) (f : Nat → Nat → Int32) (g : Nat → Nat → Int64) (n m b y : Nat) (sh : Nat → Int32) (L : List (List Nat × List Nat)) (k : Int32) (hF : mFg f n sh) (hml : mlOk f L) (hw : ∀ l ∈ L, jwl l) (hm : f 81 5 = nI m) (hm6 : m ≤ 6) (hb : b < m) (hy : y < 100) (hk : -1 ≤ k) : CT (d + 110) 0 0 iX11_richest [.ref 81, .int (nI b), .int (nI y), .int k] (S sw f g) (rdM g f (if k = -1 then (rC (rS (mwp f L sh (nI y)) (BB sh n) n 10) (jfo sh n (f 86 b)) n).2.1 else rI (rS (mwp f L sh (nI y)) (BB sh n) n) (BB sh n) n k 10 (jfo sh n (f 86 b)))) := by
  have hn10 := hF.2.1
  obtain ⟨x, hx⟩ : ∃ x, x = f 86 b := ⟨_, rfl⟩
  obtain ⟨R, hRR⟩ : ∃ R, R = rS (mwp f L sh (nI y)) (BB sh n) n := ⟨_, rfl⟩
  rw [← hx, ← hRR]
  refine CT.of rfl (Nat.le_of_ble_eq_true rfl) (fun X hX hR hN _ => ?_)
  have hX : Good X RX11 cX11_richest (d + 110) 0 0 := hX
  have hN : x_nl X = 8 := hN
  show WP X 0 0 0 [_, _, _, _, _, _, _, _] [] _
  refine wp_aload_n hX (dk DX11_richest 0 rfl) rfl ?_
  refine wp_iload_n hX (dk DX11_richest 1 rfl) rfl ?_
  refine w_callV (As := [_]) lkX11_123 hX (dk DX11_richest 2 rfl) rfl rfl (by decide) hN (k_mB1 (d + 108) sw f g m b hm hm6 hb) ?_
  show WP _ _ _ 5 [_, _, _, _, _, _, _, _] [_] _
  refine wp_if_eq (tgt := 20) hX (dk DX11_richest 3 rfl) (by decide) (fun h_ => absurd h_ (by decide)) (fun _ => ?_)
  refine wp_iload_n hX (dk DX11_richest 4 rfl) rfl ?_
  refine w_callS (As := [_]) lkX11_272 hX (dk DX11_richest 5 rfl) rfl (by decide) (k_mY1 (d + 108) sw f g y hy) ?_
  show WP _ _ _ 12 [_, _, _, _, _, _, _, _] [_] _
  refine wp_if_eq (tgt := 20) hX (dk DX11_richest 6 rfl) (by decide) (fun h_ => absurd h_ (by decide)) (fun _ => ?_)
  refine wp_iload_n hX (dk DX11_richest 7 rfl) rfl ?_
  refine wp_iconst (v := -1) hX (dk DX11_richest 8 rfl) (by decide) ?_
  refine wp_icmp_ge (tgt := 22) hX (dk DX11_richest 9 rfl) (by decide) (fun _ => ?_) (fun h_ => absurd (hk) h_)
  refine wp_aload_n hX (dk DX11_richest 12 rfl) rfl ?_
  refine wp_aload_n hX (dk DX11_richest 13 rfl) rfl ?_
  refine w_getr hX flX11_24 (dk DX11_richest 14 rfl) rfl rfl ?_
  refine wp_iload_n hX (dk DX11_richest 15 rfl) rfl ?_
  refine w_iald (j := _) hX (dk DX11_richest 16 rfl) rfl rfl (show _ < 6 by omega) ?_
  refine w_callVQ (As := [_]) lkX11_287 hX (dk DX11_richest 17 rfl) rfl rfl (by decide) hN (k_looks (d + 103) sw f g n sh _ hF) (fun v_a sw_a f_a g_a hq_a => ?_)
  obtain ⟨rfl, rfl, rfl, e1, e2⟩ := hq_a
  show WP _ _ _ 32 [_, _, _, _, _, _, _, _] [] _
  skip
  have fin : ∀ f3 : Nat → Nat → Int32, (∀ c, c ≠ 97 → c ≠ 98 → c ≠ 111 → c ≠ 112 → f3 c = f_a c) → qM f f3 := fun f3 h => ⟨fun c h1 h2 h3 => by rw [h c (by omega) (by omega) (by omega) (by omega), e1 c (by omega)], fun i _ => by rw [h 81 (by decide) (by decide) (by decide) (by decide), e1 81 (by decide)]⟩
  have en : ∀ f3 : Nat → Nat → Int32, (∀ c, c ≠ 97 → c ≠ 98 → c ≠ 111 → c ≠ 112 → f3 c = f_a c) → (∀ q k, q < 10 → k < n → tbO f3 R q k) → WP X 0 0 178 [some (.ref 81), some (.int (nI b)), some (.int (nI y)), some (.int k), some (.int (rC (R 10) (jfo sh n x) n).2.1), some (.int (rC (R 10) (jfo sh n x) n).2.2), some (.int (rE (rC (R 10) (jfo sh n x) n).1)), some (.int (nI n))] [] (S sw_a f3 g_a) := by
    intro f3 hA hT
    by_cases c : k = -1
    · rw [if_pos c] at hR
      refine wp_iload_n hX (dk DX11_richest_1 29 rfl) rfl ?_
      refine wp_if_ge (tgt := 185) hX (dk DX11_richest_1 30 rfl) (by decide) (fun h_ => absurd h_ (by rw [c]; decide)) (fun _ => ?_)
      refine wp_iload hX (dk DX11_richest_1 31 rfl) rfl ?_
      exact wp_ireturn hX hR (dk DX11_richest_1 32 rfl) rfl (Nat.le_refl _) (Nat.le_refl _) (⟨_, _, _, rfl, rfl, rfl, fin f3 hA⟩)
    · rw [if_neg c] at hR
      obtain ⟨kk, k1, rfl⟩ := m1_of hk c
      obtain ⟨ans, hans⟩ : ∃ a, a = rI R (BB sh n) n (nI kk) 10 (jfo sh n x) := ⟨_, rfl⟩
      rw [← hans] at hR
      have stop : ∀ l : Nat, l < 100 → (rC (R 10) (jfo sh n x) n).2.2 = nI l → l ≤ kk → WP X 0 0 178 [some (.ref 81), some (.int (nI b)), some (.int (nI y)), some (.int (nI kk)), some (.int (rC (R 10) (jfo sh n x) n).2.1), some (.int (rC (R 10) (jfo sh n x) n).2.2), some (.int (rE (rC (R 10) (jfo sh n x) n).1)), some (.int (nI n))] [] (S sw_a f3 g_a) := by
        intro l hl el hlk
        rw [hRR] at el
        rw [show ans = -2 by rw [hans, hRR]; exact rI_end k1 9 l _ (by decide) el hl (by omega)] at hR
        rw [← hRR] at el
        rw [el]
        refine wp_iload_n hX (dk DX11_richest_1 29 rfl) rfl ?_
        refine wp_if_ge (tgt := 185) hX (dk DX11_richest_1 30 rfl) (by decide) (fun _ => ?_) (fun h_ => absurd (nI_pos' k1) h_)
        refine wp_iload_n hX (dk DX11_richest_1 33 rfl) rfl ?_
        refine wp_iload hX (dk DX11_richest_1 34 rfl) rfl ?_
        refine wp_icmp_lt (tgt := 194) hX (dk DX11_richest_1 35 rfl) (by decide) (fun h_ => absurd h_ (nI_nlt hlk (by omega))) (fun _ => ?_)
        refine wp_bipush (v := -2) hX (dk DX11_richest_1 36 rfl) (by decide) ?_
        exact wp_ireturn hX hR (dk DX11_richest_1 37 rfl) rfl (Nat.le_refl _) (Nat.le_refl _) (⟨_, _, _, rfl, rfl, rfl, fin f3 hA⟩)
      rcases rC_len (W := mwp f L sh (nI y)) (B := BB sh n) (n := n) (q := 9) (s := jfo sh n x) (by decide) with e | ⟨j, w, j1, w1, e3, e4, e5⟩
      · exact stop 0 (by decide) (by rw [hRR, e]; rfl) (Nat.zero_le _)
      · rw [← hRR] at e3 e4 e5
        by_cases c2 : w + 1 ≤ kk
        · exact stop (w + 1) (by omega) e5 c2
        · have lo : ∀ (q i h v : Nat) (s : Int32) (f4 : Nat → Nat → Int32), i + q = kk → i + (v + 1) = w + 1 → h < n → (rC (R (10 - i)) s n).1 = some h → (R (10 - i) h).2 = nI (v + 1) → ans = rI R (BB sh n) n (nI kk) (10 - i) s → (∀ c, c ≠ 97 → c ≠ 98 → f4 c = f3 c) → WP X 0 0 197 [some (.ref 81), some (.int (nI b)), some (.int (nI y)), some (.int (nI kk)), some (.int (rC (R 10) (jfo sh n x) n).2.1), some (.int (rC (R 10) (jfo sh n x) n).2.2), some (.int (nI h)), some (.int (nI i))] [] (S sw_a f4 g_a) := by
            intro q
            induction q with
            | zero =>
              intro i h v s f4 hi hv hh h1 h2 h3 hf
              obtain rfl : i = kk := by omega
              rw [show 10 - i = (9 - i) + 1 by omega] at h1 h2 h3
              rw [rI, h1] at h3
              have h3 : ans = (if nI (9 - (9 - i)) = nI i then nI h else rI R (BB sh n) n (nI i) (9 - i) (BB sh n h)) := h3
              rw [if_pos (congrArg nI (by omega))] at h3
              rw [h3] at hR
              refine wp_iload hX (dk DX11_richest_1 40 rfl) rfl ?_
              refine wp_iload_n hX (dk DX11_richest_1 41 rfl) rfl ?_
              refine wp_icmp_ge (tgt := 220) hX (dk DX11_richest_1 42 rfl) (by decide) (fun _ => ?_) (fun h_ => absurd (nI_le (by omega) (by omega)) h_)
              refine wp_iload hX (dk DX11_richest_1 51 rfl) rfl ?_
              exact wp_ireturn hX hR (dk DX11_richest_1 52 rfl) rfl (Nat.le_refl _) (Nat.le_refl _) (⟨_, _, _, rfl, rfl, rfl, fin f4 (fun c a1 a2 a3 a4 => by rw [hf c a1 a2, hA c a1 a2 a3 a4])⟩)
            | succ q ih =>
              intro i h v s f4 hi hv hh h1 h2 h3 hf
              rw [show 10 - i = (9 - i) + 1 by omega] at h1 h2 h3
              rw [rI, h1] at h3
              have h3 : ans = (if nI (9 - (9 - i)) = nI kk then nI h else rI R (BB sh n) n (nI kk) (9 - i) (BB sh n h)) := h3
              rw [if_neg (fun z => by have := (nI_eq (by omega) (by omega)).mp z; omega)] at h3
              obtain ⟨u, rfl⟩ : ∃ u, v = u + 1 := ⟨v - 1, by omega⟩
              have h4 : (rC (R (9 - i)) (BB sh n h) n).2.2 = nI (u + 1) := by
                rw [hRR, show 9 - i = (8 - i) + 1 by omega]
                rw [hRR, show 9 - i + 1 = (8 - i) + 2 by omega] at h2
                exact rS_nx (by omega) h2
              rcases rC_len (W := mwp f L sh (nI y)) (B := BB sh n) (n := n) (q := 8 - i) (s := BB sh n h) (by omega) with e | ⟨j2, w2, j3, w3, e6, e7, e8⟩
              · rw [show 9 - i = (8 - i) + 1 by omega, hRR, e] at h4
                have := (nI_eq (a := 0) (by omega) (by omega)).mp h4
                omega
              · rw [show 8 - i + 1 = 9 - i by omega, ← hRR] at e6 e7 e8
                have h97 : ∀ c, c < 97 → f4 c = f c := fun c hc => by rw [hf c (by omega) (by omega), hA c (by omega) (by omega) (by omega) (by omega), e1 c (by omega)]
                have ho4 : ofO f4 n sh x := ⟨fun j hj => by rw [hf 109 (by decide) (by decide), hA 109 (by decide) (by decide) (by decide) (by decide)]; exact e2.1 j hj, by rw [hf 109 (by decide) (by decide), hA 109 (by decide) (by decide) (by decide) (by decide), hx]; exact e2.2⟩
                have T4 : ∀ q k, i ≤ q → q < i + 2 → k < n → (f4 111 (11 * q + k), f4 112 (11 * q + k)) = rS (mwp f L sh (nI y)) (BB sh n) n (10 - q) k := fun q k _ a hk => by rw [← hRR]; exact (hT q k (by omega) hk).s (hf 111 (by decide) (by decide)) (hf 112 (by decide) (by decide))
                refine wp_iload hX (dk DX11_richest_1 40 rfl) rfl ?_
                refine wp_iload_n hX (dk DX11_richest_1 41 rfl) rfl ?_
                refine wp_icmp_ge (tgt := 220) hX (dk DX11_richest_1 42 rfl) (by decide) (fun h_ => absurd h_ (nI_ge (by omega) (by omega))) (fun _ => ?_)
                refine wp_aload_n hX (dk DX11_richest_1 43 rfl) rfl ?_
                refine wp_iload hX (dk DX11_richest_1 44 rfl) rfl ?_
                refine wp_iload hX (dk DX11_richest_1 45 rfl) rfl ?_
                refine wp_iload_n hX (dk DX11_richest_1 46 rfl) rfl ?_
                refine w_callVQ (As := [_, _, _]) lkX11_300 hX (dk DX11_richest_1 47 rfl) rfl rfl (by decide) hN (k_mnext (d + 106) _ f f4 _ n h i j2 sh L (nI y) x hF hml hw h97 ho4 hh (by omega) T4 (by rw [← hRR]; exact e6)) (fun v_c sw_c f_c g_c hq_c => ?_)
                obtain ⟨rfl, rfl, rfl, q1⟩ := hq_c
                show WP _ _ _ 212 [_, _, _, _, _, _, _, _] [_] _
                refine wp_istore hX (dk DX11_richest_1 48 rfl) rfl hN (Nat.le_of_ble_eq_true rfl) ?_
                show WP _ _ _ 214 [_, _, _, _, _, _, _, _] [] _
                refine wp_iinc hX (dk DX11_richest_1 49 rfl) rfl (nI_inc _) rfl hN ?_
                show WP _ _ _ 217 [_, _, _, _, _, _, _, _] [] _
                refine wp_goto (tgt := 197) hX (dk DX11_richest_1 50 rfl) (by decide) ?_
                exact ih (i + 1) j2 u (BB sh n h) f_c (by omega) (by omega) j3 (by rw [show 10 - (i + 1) = 9 - i by omega]; exact e6) (by rw [show 10 - (i + 1) = 9 - i by omega, ← e7]; exact h4) (by rw [show 10 - (i + 1) = 9 - i by omega]; exact h3) (fun c a1 a2 => by rw [q1 c a1 a2, hf c a1 a2])
          have e9 : rE (rC (R 10) (jfo sh n x) n).1 = nI j := by rw [e3]; rfl
          refine wp_iload_n hX (dk DX11_richest_1 29 rfl) rfl ?_
          refine wp_if_ge (tgt := 185) hX (dk DX11_richest_1 30 rfl) (by decide) (fun _ => ?_) (fun h_ => absurd (nI_pos' k1) h_)
          refine wp_iload_n hX (dk DX11_richest_1 33 rfl) rfl ?_
          refine wp_iload hX (dk DX11_richest_1 34 rfl) rfl ?_
          rw [e5]
          refine wp_icmp_lt (tgt := 194) hX (dk DX11_richest_1 35 rfl) (by decide) (fun _ => ?_) (fun h_ => absurd (nI_lt (by omega) (by omega)) h_)
          refine wp_iconst (v := 0) hX (dk DX11_richest_1 38 rfl) (by decide) ?_
          refine wp_istore hX (dk DX11_richest_1 39 rfl) rfl hN (Nat.le_of_ble_eq_true rfl) ?_
          show WP _ _ _ 197 [_, _, _, _, _, _, _, _] [] _
          rw [e9]
          have go := lo kk 0 j w (jfo sh n x) f3 (by omega) (by omega) j1 e3 (by rw [← e4]; exact e5) hans (fun c _ _ => rfl)
          rw [e5] at go
          exact go
  have lo3 : ∀ (f3 : Nat → Nat → Int32), (∀ c, c ≠ 97 → c ≠ 98 → c ≠ 111 → c ≠ 112 → f3 c = f_a c) → (∀ q k, q < 10 → k < n → tbO f3 R q k) → ∀ (u j : Nat), j + u = n → WP X 0 0 87 [some (.ref 81), some (.int (nI b)), some (.int (nI y)), some (.int k), some (.int (rC (R 10) (jfo sh n x) j).2.1), some (.int (rC (R 10) (jfo sh n x) j).2.2), some (.int (rE (rC (R 10) (jfo sh n x) j).1)), some (.int (nI j))] [] (S sw_a f3 g_a) := by
    intro f3 hA hT u
    have hn3 : f3 81 0 = nI n := by rw [hA 81 (by decide) (by decide) (by decide) (by decide), e1 81 (by decide)]; exact hF.1
    have hX3 : f3 109 10 = jfo sh n x := by rw [hA 109 (by decide) (by decide) (by decide) (by decide), hx]; exact e2.2
    induction u with
    | zero =>
      intro j hj
      obtain rfl : j = n := by omega
      refine wp_iload hX (dk DX11_richest 45 rfl) rfl ?_
      refine wp_aload_n hX (dk DX11_richest 46 rfl) rfl ?_
      refine w_geti hX flX11_112 (dk DX11_richest 47 rfl) (by decide) rfl ?_
      rw [hn3]
      refine wp_icmp_ge (tgt := 178) hX (dk DX11_richest 48 rfl) (by decide) (fun _ => ?_) (fun h_ => absurd (nI_le (by omega) (by omega)) h_)
      exact en f3 hA hT
    | succ u ih =>
      intro j hj
      have tt := hT 0 j (by omega) (by omega)
      unfold tbO at tt
      rw [show 11 * 0 + j = j by omega] at tt
      have t1 : f3 111 j = (R 10 j).1 := congrArg Prod.fst tt
      have t2 : f3 112 j = (R 10 j).2 := congrArg Prod.snd tt
      have nx := ih (j + 1) (by omega)
      refine wp_iload hX (dk DX11_richest 45 rfl) rfl ?_
      refine wp_aload_n hX (dk DX11_richest 46 rfl) rfl ?_
      refine w_geti hX flX11_112 (dk DX11_richest 47 rfl) (by decide) rfl ?_
      rw [hn3]
      refine wp_icmp_ge (tgt := 178) hX (dk DX11_richest 48 rfl) (by decide) (fun h_ => absurd h_ (nI_ge (by omega) (by omega))) (fun _ => ?_)
      refine wp_aload_n hX (dk DX11_richest 49 rfl) rfl ?_
      refine w_getr hX flX11_94 (dk DX11_richest 50 rfl) rfl rfl ?_
      refine wp_bipush (v := 10) hX (dk DX11_richest 51 rfl) (by decide) ?_
      refine w_iald (j := 10) hX (dk DX11_richest 52 rfl) rfl rfl (by decide) ?_
      rw [hX3]
      refine wp_iload hX (dk DX11_richest 53 rfl) rfl ?_
      refine w_callS (As := [_, _]) lkX11_138 hX (dk DX11_richest 54 rfl) rfl (by decide) (k_mhas (d + 109) _ _ _) ?_
      show WP _ _ _ 108 [_, _, _, _, _, _, _, _] [_] _
      refine wp_if_eq (tgt := 172) hX (dk DX11_richest 55 rfl) (by decide) (fun h108 => ?_) (fun h108 => ?_)
      · have cc : ¬ (¬ jb (jfo sh n x) j = 0 ∧ ((rC (R 10) (jfo sh n x) j).2.1 < (R 10 j).1 ∨ ((R 10 j).1 = (rC (R 10) (jfo sh n x) j).2.1 ∧ (R 10 j).2 < (rC (R 10) (jfo sh n x) j).2.2))) := fun z => z.1 h108
        refine wp_iinc hX (dk DX11_richest_1 27 rfl) rfl (nI_inc _) rfl hN ?_
        show WP _ _ _ 175 [_, _, _, _, _, _, _, _] [] _
        refine wp_goto (tgt := 87) hX (dk DX11_richest_1 28 rfl) (by decide) ?_
        rw [rC] at nx
        first | (rw [if_pos cc] at nx; exact nx) | (rw [if_neg cc] at nx; exact nx)
      · refine wp_aload_n hX (dk DX11_richest 56 rfl) rfl ?_
        refine w_getr hX flX11_100 (dk DX11_richest 57 rfl) rfl rfl ?_
        refine wp_iload hX (dk DX11_richest 58 rfl) rfl ?_
        refine w_iald (j := _) hX (dk DX11_richest 59 rfl) rfl rfl (show _ < 110 by omega) ?_
        rw [t1]
        refine wp_iload hX (dk DX11_richest_1 0 rfl) rfl ?_
        refine wp_icmp_lt (tgt := 172) hX (dk DX11_richest_1 1 rfl) (by decide) (fun h120 => ?_) (fun h120 => ?_)
        · have cc : ¬ (¬ jb (jfo sh n x) j = 0 ∧ ((rC (R 10) (jfo sh n x) j).2.1 < (R 10 j).1 ∨ ((R 10 j).1 = (rC (R 10) (jfo sh n x) j).2.1 ∧ (R 10 j).2 < (rC (R 10) (jfo sh n x) j).2.2))) := fun z => z.2.elim (iz_asy h120) (fun e => iz_irr h120 e.1.symm)
          refine wp_iinc hX (dk DX11_richest_1 27 rfl) rfl (nI_inc _) rfl hN ?_
          show WP _ _ _ 175 [_, _, _, _, _, _, _, _] [] _
          refine wp_goto (tgt := 87) hX (dk DX11_richest_1 28 rfl) (by decide) ?_
          rw [rC] at nx
          first | (rw [if_pos cc] at nx; exact nx) | (rw [if_neg cc] at nx; exact nx)
        · refine wp_aload_n hX (dk DX11_richest_1 2 rfl) rfl ?_
          refine w_getr hX flX11_100 (dk DX11_richest_1 3 rfl) rfl rfl ?_
          refine wp_iload hX (dk DX11_richest_1 4 rfl) rfl ?_
          refine w_iald (j := _) hX (dk DX11_richest_1 5 rfl) rfl rfl (show _ < 110 by omega) ?_
          rw [t1]
          refine wp_iload hX (dk DX11_richest_1 6 rfl) rfl ?_
          refine wp_icmp_ne (tgt := 150) hX (dk DX11_richest_1 7 rfl) (by decide) (fun h132 => ?_) (fun h132 => ?_)
          · have cc : ¬ jb (jfo sh n x) j = 0 ∧ ((rC (R 10) (jfo sh n x) j).2.1 < (R 10 j).1 ∨ ((R 10 j).1 = (rC (R 10) (jfo sh n x) j).2.1 ∧ (R 10 j).2 < (rC (R 10) (jfo sh n x) j).2.2)) := ⟨h108, Or.inl (iz_tri h120 h132)⟩
            refine wp_aload_n hX (dk DX11_richest_1 15 rfl) rfl ?_
            refine w_getr hX flX11_100 (dk DX11_richest_1 16 rfl) rfl rfl ?_
            refine wp_iload hX (dk DX11_richest_1 17 rfl) rfl ?_
            refine w_iald (j := _) hX (dk DX11_richest_1 18 rfl) rfl rfl (show _ < 110 by omega) ?_
            rw [t1]
            refine wp_istore hX (dk DX11_richest_1 19 rfl) rfl hN (Nat.le_of_ble_eq_true rfl) ?_
            show WP _ _ _ 159 [_, _, _, _, _, _, _, _] [] _
            refine wp_aload_n hX (dk DX11_richest_1 20 rfl) rfl ?_
            refine w_getr hX flX11_103 (dk DX11_richest_1 21 rfl) rfl rfl ?_
            refine wp_iload hX (dk DX11_richest_1 22 rfl) rfl ?_
            refine w_iald (j := _) hX (dk DX11_richest_1 23 rfl) rfl rfl (show _ < 110 by omega) ?_
            rw [t2]
            refine wp_istore hX (dk DX11_richest_1 24 rfl) rfl hN (Nat.le_of_ble_eq_true rfl) ?_
            show WP _ _ _ 168 [_, _, _, _, _, _, _, _] [] _
            refine wp_iload hX (dk DX11_richest_1 25 rfl) rfl ?_
            refine wp_istore hX (dk DX11_richest_1 26 rfl) rfl hN (Nat.le_of_ble_eq_true rfl) ?_
            show WP _ _ _ 172 [_, _, _, _, _, _, _, _] [] _
            refine wp_iinc hX (dk DX11_richest_1 27 rfl) rfl (nI_inc _) rfl hN ?_
            show WP _ _ _ 175 [_, _, _, _, _, _, _, _] [] _
            refine wp_goto (tgt := 87) hX (dk DX11_richest_1 28 rfl) (by decide) ?_
            rw [rC] at nx
            first | (rw [if_pos cc] at nx; exact nx) | (rw [if_neg cc] at nx; exact nx)
          · refine wp_aload_n hX (dk DX11_richest_1 8 rfl) rfl ?_
            refine w_getr hX flX11_103 (dk DX11_richest_1 9 rfl) rfl rfl ?_
            refine wp_iload hX (dk DX11_richest_1 10 rfl) rfl ?_
            refine w_iald (j := _) hX (dk DX11_richest_1 11 rfl) rfl rfl (show _ < 110 by omega) ?_
            rw [t2]
            refine wp_iload hX (dk DX11_richest_1 12 rfl) rfl ?_
            refine wp_icmp_lt (tgt := 150) hX (dk DX11_richest_1 13 rfl) (by decide) (fun h144 => ?_) (fun h144 => ?_)
            · have cc : ¬ jb (jfo sh n x) j = 0 ∧ ((rC (R 10) (jfo sh n x) j).2.1 < (R 10 j).1 ∨ ((R 10 j).1 = (rC (R 10) (jfo sh n x) j).2.1 ∧ (R 10 j).2 < (rC (R 10) (jfo sh n x) j).2.2)) := ⟨h108, Or.inr ⟨h132, h144⟩⟩
              refine wp_aload_n hX (dk DX11_richest_1 15 rfl) rfl ?_
              refine w_getr hX flX11_100 (dk DX11_richest_1 16 rfl) rfl rfl ?_
              refine wp_iload hX (dk DX11_richest_1 17 rfl) rfl ?_
              refine w_iald (j := _) hX (dk DX11_richest_1 18 rfl) rfl rfl (show _ < 110 by omega) ?_
              rw [t1]
              refine wp_istore hX (dk DX11_richest_1 19 rfl) rfl hN (Nat.le_of_ble_eq_true rfl) ?_
              show WP _ _ _ 159 [_, _, _, _, _, _, _, _] [] _
              refine wp_aload_n hX (dk DX11_richest_1 20 rfl) rfl ?_
              refine w_getr hX flX11_103 (dk DX11_richest_1 21 rfl) rfl rfl ?_
              refine wp_iload hX (dk DX11_richest_1 22 rfl) rfl ?_
              refine w_iald (j := _) hX (dk DX11_richest_1 23 rfl) rfl rfl (show _ < 110 by omega) ?_
              rw [t2]
              refine wp_istore hX (dk DX11_richest_1 24 rfl) rfl hN (Nat.le_of_ble_eq_true rfl) ?_
              show WP _ _ _ 168 [_, _, _, _, _, _, _, _] [] _
              refine wp_iload hX (dk DX11_richest_1 25 rfl) rfl ?_
              refine wp_istore hX (dk DX11_richest_1 26 rfl) rfl hN (Nat.le_of_ble_eq_true rfl) ?_
              show WP _ _ _ 172 [_, _, _, _, _, _, _, _] [] _
              refine wp_iinc hX (dk DX11_richest_1 27 rfl) rfl (nI_inc _) rfl hN ?_
              show WP _ _ _ 175 [_, _, _, _, _, _, _, _] [] _
              refine wp_goto (tgt := 87) hX (dk DX11_richest_1 28 rfl) (by decide) ?_
              rw [rC] at nx
              first | (rw [if_pos cc] at nx; exact nx) | (rw [if_neg cc] at nx; exact nx)
            · have cc : ¬ (¬ jb (jfo sh n x) j = 0 ∧ ((rC (R 10) (jfo sh n x) j).2.1 < (R 10 j).1 ∨ ((R 10 j).1 = (rC (R 10) (jfo sh n x) j).2.1 ∧ (R 10 j).2 < (rC (R 10) (jfo sh n x) j).2.2))) := fun z => z.2.elim (fun e => iz_irr e h132) (fun e => h144 e.2)
              refine wp_goto (tgt := 172) hX (dk DX11_richest_1 14 rfl) (by decide) ?_
              refine wp_iinc hX (dk DX11_richest_1 27 rfl) rfl (nI_inc _) rfl hN ?_
              show WP _ _ _ 175 [_, _, _, _, _, _, _, _] [] _
              refine wp_goto (tgt := 87) hX (dk DX11_richest_1 28 rfl) (by decide) ?_
              rw [rC] at nx
              first | (rw [if_pos cc] at nx; exact nx) | (rw [if_neg cc] at nx; exact nx)
  have lo2 : ∀ (p : Nat), p < 10 → ∀ (z6 z7 : Option Value), (∀ f4 : Nat → Nat → Int32, (∀ c, c ≠ 97 → c ≠ 98 → c ≠ 111 → c ≠ 112 → f4 c = f_a c) → (∀ q k, p ≤ q → q < 10 → k < n → tbO f4 R q k) → WP X 0 0 68 [some (.ref 81), some (.int (nI b)), some (.int (nI y)), some (.int k), some (.int (nI p)), some (.int (nI n)), z6, z7] [] (S sw_a f4 g_a)) → ∀ (u j : Nat) (f3 : Nat → Nat → Int32), j + u = n → (∀ c, c ≠ 97 → c ≠ 98 → c ≠ 111 → c ≠ 112 → f3 c = f_a c) → (∀ q k, p < q → q < 10 → k < n → tbO f3 R q k) → (∀ k, k < j → tbO f3 R p k) → WP X 0 0 44 [some (.ref 81), some (.int (nI b)), some (.int (nI y)), some (.int k), some (.int (nI p)), some (.int (nI j)), z6, z7] [] (S sw_a f3 g_a) := by
    intro p hp z6 z7 cont u
    induction u with
    | zero =>
      intro j f3 hj hA hT hT2
      obtain rfl : j = n := by omega
      refine wp_iload hX (dk DX11_richest 24 rfl) rfl ?_
      refine wp_aload_n hX (dk DX11_richest 25 rfl) rfl ?_
      refine w_geti hX flX11_112 (dk DX11_richest 26 rfl) (by decide) rfl ?_
      rw [show f3 81 0 = nI j by rw [hA 81 (by decide) (by decide) (by decide) (by decide), e1 81 (by decide)]; exact hF.1]
      refine wp_icmp_ge (tgt := 68) hX (dk DX11_richest 27 rfl) (by decide) (fun _ => ?_) (fun h_ => absurd (nI_le (by omega) (by omega)) h_)
      exact cont f3 hA (fun q k h1 h2 h3 => (Classical.em (q = p)).elim (fun e => by subst e; exact hT2 k h3) (fun e => hT q k (by omega) h2 h3))
    | succ u ih =>
      intro j f3 hj hA hT hT2
      have h97 : ∀ c, c < 97 → f3 c = f c := fun c hc => by rw [hA c (by omega) (by omega) (by omega) (by omega), e1 c (by omega)]
      have ho4 : ofO f3 n sh x := ⟨fun j hj => by rw [hA 109 (by decide) (by decide) (by decide) (by decide)]; exact e2.1 j hj, by rw [hA 109 (by decide) (by decide) (by decide) (by decide), hx]; exact e2.2⟩
      refine wp_iload hX (dk DX11_richest 24 rfl) rfl ?_
      refine wp_aload_n hX (dk DX11_richest 25 rfl) rfl ?_
      refine w_geti hX flX11_112 (dk DX11_richest 26 rfl) (by decide) rfl ?_
      rw [show f3 81 0 = nI n by rw [hA 81 (by decide) (by decide) (by decide) (by decide), e1 81 (by decide)]; exact hF.1]
      refine wp_icmp_ge (tgt := 68) hX (dk DX11_richest 27 rfl) (by decide) (fun h_ => absurd h_ (nI_ge (by omega) (by omega))) (fun _ => ?_)
      refine wp_aload_n hX (dk DX11_richest 28 rfl) rfl ?_
      refine wp_iload hX (dk DX11_richest 29 rfl) rfl ?_
      refine wp_iload_n hX (dk DX11_richest 30 rfl) rfl ?_
      refine wp_iload hX (dk DX11_richest 31 rfl) rfl ?_
      refine w_callVQ (As := [_, _, _]) lkX11_297 hX (dk DX11_richest 32 rfl) rfl rfl (by decide) hN (k_mrich (d + 106) _ f f3 _ n j p sh L (nI y) x hF hml hw h97 ho4 (by omega) hp (fun k h1 h2 => by rw [← hRR, show 9 - p = 10 - (p + 1) by omega]; exact hT (p + 1) k (by omega) (by omega) h2)) (fun v_c sw_c f_c g_c hq_c => ?_)
      obtain ⟨rfl, rfl, rfl, q1, q2, q3⟩ := hq_c
      show WP _ _ _ 62 [_, _, _, _, _, _, _, _] [] _
      refine wp_iinc hX (dk DX11_richest 33 rfl) rfl (nI_inc _) rfl hN ?_
      show WP _ _ _ 65 [_, _, _, _, _, _, _, _] [] _
      refine wp_goto (tgt := 44) hX (dk DX11_richest 34 rfl) (by decide) ?_
      exact ih (j + 1) f_c (by omega) (fun c a1 a2 a3 a4 => by rw [q1 c a1 a2 a3 a4, hA c a1 a2 a3 a4]) (fun q k h1 h2 h3 => (hT q k h1 h2 h3).k q2 (by omega) (by omega) (by omega)) (fun k hk => (Classical.em (k = j)).elim (fun e => by subst e; unfold tbO; rw [hRR]; exact q3) (fun e => (hT2 k (by omega)).k q2 (by omega) (by omega) (by omega)))
  have lo1 : ∀ (p : Nat) (f3 : Nat → Nat → Int32) (z5 z6 z7 : Option Value), p < 10 → (∀ c, c ≠ 97 → c ≠ 98 → c ≠ 111 → c ≠ 112 → f3 c = f_a c) → (∀ q k, p < q → q < 10 → k < n → tbO f3 R q k) → WP X 0 0 36 [some (.ref 81), some (.int (nI b)), some (.int (nI y)), some (.int k), some (.int (nI p)), z5, z6, z7] [] (S sw_a f3 g_a) := by
    intro p
    induction p with
    | zero =>
      intro f3 z5 z6 z7 hp hA hT
      refine wp_iload hX (dk DX11_richest 20 rfl) rfl ?_
      refine wp_if_lt (tgt := 74) hX (dk DX11_richest 21 rfl) (by decide) (fun h_ => absurd h_ (by decide)) (fun _ => ?_)
      refine wp_iconst (v := 0) hX (dk DX11_richest 22 rfl) (by decide) ?_
      refine wp_istore hX (dk DX11_richest 23 rfl) rfl hN (Nat.le_of_ble_eq_true rfl) ?_
      show WP _ _ _ 44 [_, _, _, _, _, _, _, _] [] _
      refine lo2 0 hp _ _ (fun f4 hA4 hT4 => ?_) n 0 f3 (by omega) hA hT (fun k hk => absurd hk (Nat.not_lt_zero _))
      refine wp_iinc hX (dk DX11_richest 35 rfl) rfl rfl rfl hN ?_
      show WP _ _ _ 71 [_, _, _, _, _, _, _, _] [] _
      refine wp_goto (tgt := 36) hX (dk DX11_richest 36 rfl) (by decide) ?_
      refine wp_iload hX (dk DX11_richest 20 rfl) rfl ?_
      refine wp_if_lt (tgt := 74) hX (dk DX11_richest 21 rfl) (by decide) (fun _ => ?_) (fun h_ => absurd (by decide) h_)
      refine wp_iconst (v := 0) hX (dk DX11_richest 37 rfl) (by decide) ?_
      refine wp_istore hX (dk DX11_richest 38 rfl) rfl hN (Nat.le_of_ble_eq_true rfl) ?_
      show WP _ _ _ 77 [_, _, _, _, _, _, _, _] [] _
      refine wp_iconst (v := 0) hX (dk DX11_richest 39 rfl) (by decide) ?_
      refine wp_istore hX (dk DX11_richest 40 rfl) rfl hN (Nat.le_of_ble_eq_true rfl) ?_
      show WP _ _ _ 80 [_, _, _, _, _, _, _, _] [] _
      refine wp_bipush (v := -2) hX (dk DX11_richest 41 rfl) (by decide) ?_
      refine wp_istore hX (dk DX11_richest 42 rfl) rfl hN (Nat.le_of_ble_eq_true rfl) ?_
      show WP _ _ _ 84 [_, _, _, _, _, _, _, _] [] _
      refine wp_iconst (v := 0) hX (dk DX11_richest 43 rfl) (by decide) ?_
      refine wp_istore hX (dk DX11_richest 44 rfl) rfl hN (Nat.le_of_ble_eq_true rfl) ?_
      show WP _ _ _ 87 [_, _, _, _, _, _, _, _] [] _
      exact lo3 f4 hA4 (fun q k h1 h2 => hT4 q k (Nat.zero_le _) h1 h2) n 0 (by omega)
    | succ p ih =>
      intro f3 z5 z6 z7 hp hA hT
      refine wp_iload hX (dk DX11_richest 20 rfl) rfl ?_
      refine wp_if_lt (tgt := 74) hX (dk DX11_richest 21 rfl) (by decide) (fun h_ => absurd h_ (nI_pos (by omega))) (fun _ => ?_)
      refine wp_iconst (v := 0) hX (dk DX11_richest 22 rfl) (by decide) ?_
      refine wp_istore hX (dk DX11_richest 23 rfl) rfl hN (Nat.le_of_ble_eq_true rfl) ?_
      show WP _ _ _ 44 [_, _, _, _, _, _, _, _] [] _
      refine lo2 (p + 1) hp _ _ (fun f4 hA4 hT4 => ?_) n 0 f3 (by omega) hA hT (fun k hk => absurd hk (Nat.not_lt_zero _))
      refine wp_iinc hX (dk DX11_richest 35 rfl) rfl (nI_dec _) rfl hN ?_
      show WP _ _ _ 71 [_, _, _, _, _, _, _, _] [] _
      refine wp_goto (tgt := 36) hX (dk DX11_richest 36 rfl) (by decide) ?_
      exact ih f4 _ _ _ (by omega) hA4 (fun q k h1 h2 h3 => hT4 q k (by omega) h2 h3)
  refine wp_bipush (v := 9) hX (dk DX11_richest 18 rfl) (by decide) ?_
  refine wp_istore hX (dk DX11_richest 19 rfl) rfl hN (Nat.le_of_ble_eq_true rfl) ?_
  show WP _ _ _ 36 [_, _, _, _, _, _, _, _] [] _
  exact lo1 9 f_a _ _ _ (by decide) (fun _ _ _ _ _ => rfl) (fun q k h1 h2 _ => absurd h2 (by omega))
