/-! REFERENCE: drawn -/
theorem jnth_at {s : Int32} {n kk : Nat} (hn : n ≤ 10) (hk : kk < fb_ct (bt s) n) : ∀ (m i : Nat), i + m = n → fb_ct (bt s) i ≤ kk → ∃ t, i ≤ t ∧ t < n ∧ bt s t = true ∧ fb_ct (bt s) t = kk ∧ jnth s (nI kk) m i (nI (fb_ct (bt s) i)) = nI t
  | 0, i, h, h2 => by
    obtain rfl : i = n := by omega
    omega
  | m + 1, i, h, h2 => by
    have kn := fb_ct_le (bt s) n
    have e := fb_ct_succ (bt s) i
    rw [jnth]
    cases hb : bt s i with
    | false =>
      rw [hb] at e
      have e : fb_ct (bt s) (i + 1) = fb_ct (bt s) i := e
      rw [if_pos ((jb_eq s (by omega)).mpr hb), ← e]
      obtain ⟨t, t1, t2⟩ := jnth_at hn hk m (i + 1) (by omega) (by omega)
      exact ⟨t, by omega, t2⟩
    | true =>
      rw [hb] at e
      have e : fb_ct (bt s) (i + 1) = fb_ct (bt s) i + 1 := e
      rw [if_neg ((jb_ne s (by omega)).mpr hb)]
      by_cases c : fb_ct (bt s) i = kk
      · rw [if_pos (by rw [c])]
        exact ⟨i, Nat.le_refl _, by omega, hb, c, rfl⟩
      · rw [if_neg (fun q => c ((nI_eq (by omega) (by omega)).mp q)), nI_1, ← e]
        obtain ⟨t, t1, t2⟩ := jnth_at hn hk m (i + 1) (by omega) (by omega)
        exact ⟨t, by omega, t2⟩
theorem k_mpick (d : Nat) (sw : Bool) (f : Nat → Nat → Int32) (g : Nat → Nat → Int64) (s : Int32) (n kk t : Nat) (hn : n ≤ 10) (ht : t < n) (hb : bt s t = true) (hk : fb_ct (bt s) t = kk) : CT (d + 1) 0 0 iX11_pick [.int s, .int (nI kk)] (S sw f g) (QR (some (.int (nI t))) (S sw f g)) := by
  refine CT.of rfl (Nat.le_of_ble_eq_true rfl) (fun X hX hR hN _ => ?_)
  have hX : Good X RX11 cX11_pick (d + 1) 0 0 := hX
  have hN : x_nl X = 4 := hN
  show WP X 0 0 0 [_, _, _, _] [] _
  have lo : ∀ (u i r : Nat), i + u = t → fb_ct (bt s) i + r = kk → WP X 0 0 4 [some (.int s), some (.int (nI kk)), some (.int (nI i)), some (.int (nI r))] [] (S sw f g) := by
    intro u
    induction u with
    | zero =>
      intro i r hi hr
      obtain rfl : i = t := by omega
      obtain rfl : r = 0 := by omega
      have cb := (jb_ne s (by omega)).mpr hb
      refine wp_iload_n hX (dk DX11_pick 4 rfl) rfl ?_
      refine wp_iload_n hX (dk DX11_pick 5 rfl) rfl ?_
      refine w_callS (As := [_, _]) lkX11_138 hX (dk DX11_pick 6 rfl) rfl (by decide) (k_mhas d _ _ _) ?_
      show WP _ _ _ 9 [_, _, _, _] [_] _
      refine wp_if_eq (tgt := 16) hX (dk DX11_pick 7 rfl) (by decide) (fun h_ => absurd h_ (cb)) (fun _ => ?_)
      refine wp_iload_n hX (dk DX11_pick 8 rfl) rfl ?_
      refine wp_if_le (tgt := 33) hX (dk DX11_pick 9 rfl) (by decide) (fun _ => ?_) (fun h_ => absurd (by decide) h_)
      refine wp_iload_n hX (dk DX11_pick 17 rfl) rfl ?_
      exact wp_ireturn hX hR (dk DX11_pick 18 rfl) rfl (Nat.le_refl _) (Nat.le_refl _) (⟨rfl, rfl⟩)
    | succ u ih =>
      intro i r hi hr
      have e := fb_ct_succ (bt s) i
      have mo := fb_ct_mono (bt s) (show i + 1 ≤ t by omega)
      have kl := fb_ct_le (bt s) t
      cases hb2 : bt s i with
      | false =>
        rw [hb2] at e
        have e : fb_ct (bt s) (i + 1) = fb_ct (bt s) i := e
        have cb := (jb_eq s (by omega)).mpr hb2
        refine wp_iload_n hX (dk DX11_pick 4 rfl) rfl ?_
        refine wp_iload_n hX (dk DX11_pick 5 rfl) rfl ?_
        refine w_callS (As := [_, _]) lkX11_138 hX (dk DX11_pick 6 rfl) rfl (by decide) (k_mhas d _ _ _) ?_
        show WP _ _ _ 9 [_, _, _, _] [_] _
        refine wp_if_eq (tgt := 16) hX (dk DX11_pick 7 rfl) (by decide) (fun _ => ?_) (fun h_ => absurd (cb) h_)
        refine wp_iload_n hX (dk DX11_pick 10 rfl) rfl ?_
        refine wp_iload_n hX (dk DX11_pick 11 rfl) rfl ?_
        refine w_callS (As := [_, _]) lkX11_138 hX (dk DX11_pick 12 rfl) rfl (by decide) (k_mhas d _ _ _) ?_
        show WP _ _ _ 21 [_, _, _, _] [_] _
        refine wp_if_eq (tgt := 27) hX (dk DX11_pick 13 rfl) (by decide) (fun _ => ?_) (fun h_ => absurd (cb) h_)
        refine wp_iinc hX (dk DX11_pick 15 rfl) rfl (nI_inc _) rfl hN ?_
        show WP _ _ _ 30 [_, _, _, _] [] _
        refine wp_goto (tgt := 4) hX (dk DX11_pick 16 rfl) (by decide) ?_
        exact ih (i + 1) r (by omega) (by omega)
      | true =>
        rw [hb2] at e
        have e : fb_ct (bt s) (i + 1) = fb_ct (bt s) i + 1 := e
        have cb := (jb_ne s (by omega)).mpr hb2
        obtain ⟨q, rfl⟩ : ∃ q, r = q + 1 := ⟨r - 1, by omega⟩
        refine wp_iload_n hX (dk DX11_pick 4 rfl) rfl ?_
        refine wp_iload_n hX (dk DX11_pick 5 rfl) rfl ?_
        refine w_callS (As := [_, _]) lkX11_138 hX (dk DX11_pick 6 rfl) rfl (by decide) (k_mhas d _ _ _) ?_
        show WP _ _ _ 9 [_, _, _, _] [_] _
        refine wp_if_eq (tgt := 16) hX (dk DX11_pick 7 rfl) (by decide) (fun h_ => absurd h_ (cb)) (fun _ => ?_)
        refine wp_iload_n hX (dk DX11_pick 8 rfl) rfl ?_
        refine wp_if_le (tgt := 33) hX (dk DX11_pick 9 rfl) (by decide) (fun h_ => absurd h_ (nI_nle (by omega) (by omega))) (fun _ => ?_)
        refine wp_iload_n hX (dk DX11_pick 10 rfl) rfl ?_
        refine wp_iload_n hX (dk DX11_pick 11 rfl) rfl ?_
        refine w_callS (As := [_, _]) lkX11_138 hX (dk DX11_pick 12 rfl) rfl (by decide) (k_mhas d _ _ _) ?_
        show WP _ _ _ 21 [_, _, _, _] [_] _
        refine wp_if_eq (tgt := 27) hX (dk DX11_pick 13 rfl) (by decide) (fun h_ => absurd h_ (cb)) (fun _ => ?_)
        refine wp_iinc hX (dk DX11_pick 14 rfl) rfl (nI_dec _) rfl hN ?_
        show WP _ _ _ 27 [_, _, _, _] [] _
        refine wp_iinc hX (dk DX11_pick 15 rfl) rfl (nI_inc _) rfl hN ?_
        show WP _ _ _ 30 [_, _, _, _] [] _
        refine wp_goto (tgt := 4) hX (dk DX11_pick 16 rfl) (by decide) ?_
        exact ih (i + 1) q (by omega) (by omega)
  refine wp_iconst (v := 0) hX (dk DX11_pick 0 rfl) (by decide) ?_
  refine wp_istore_n hX (dk DX11_pick 1 rfl) rfl rfl hN (Nat.le_of_ble_eq_true rfl) ?_
  show WP _ _ _ 2 [_, _, _, _] [] _
  refine wp_iload_n hX (dk DX11_pick 2 rfl) rfl ?_
  refine wp_istore_n hX (dk DX11_pick 3 rfl) rfl rfl hN (Nat.le_of_ble_eq_true rfl) ?_
  show WP _ _ _ 4 [_, _, _, _] [] _
  exact lo t 0 kk (by omega) (Nat.zero_add _)
theorem shr8 (x : Int32) : ∃ a, a < 2 ^ 24 ∧ (x.toUInt32 >>> ((8 : Int32).toUInt32 &&& Int32.toUInt32 31)).toInt32 = nI a := by
  have h := pk_ushr x 8 8 (by decide)
  have lt := x.toBitVec.isLt
  refine ⟨x.toBitVec.toNat / 2 ^ 8, by omega, Int32.toBitVec_inj.mp (BitVec.eq_of_toNat_eq ?_)⟩
  rw [h, pk_tn (by omega)]
theorem pct_n {s : Int32} {n : Nat} (hn : n ≤ 32) (hs : ∀ j, n ≤ j → j < 32 → bt s j = false) : pct s = fb_ct (bt s) n := by
  unfold pct
  have e0 : fb_ct (fun k => bt s (n + k)) (32 - n) = 0 := fb_ct_zero.mpr (fun k hk => hs _ (by omega) (by omega))
  rw [show 32 = n + (32 - n) by omega, fb_ct_split, e0, Nat.add_zero]
theorem ne0_bit {s : Int32} {n : Nat} (hs : ∀ j, n ≤ j → j < 32 → bt s j = false) (h : ¬ s = 0) : ∃ j, j < n ∧ bt s j = true := by
  by_cases c : ∃ j, j < n ∧ bt s j = true
  · exact c
  · refine absurd (b_ext (fun j hj => ?_)) h
    rw [b_0]
    by_cases q : j < n
    · cases e : bt s j with
      | false => rfl
      | true => exact absurd ⟨j, q, e⟩ c
    · exact hs j (by omega) hj
/-- one draw -/
theorem drB_st {B : Nat → Int32} {n m t : Nat} {z a e s : Int32} (h0 : ¬ s = 0) (hp : 1 ≤ pct s) (ht : jnth s (((z * 1103515245 + 12345).toUInt32 >>> ((8 : Int32).toUInt32 &&& Int32.toUInt32 31)).toInt32 - ((z * 1103515245 + 12345).toUInt32 >>> ((8 : Int32).toUInt32 &&& Int32.toUInt32 31)).toInt32 / jpc s * jpc s) n 0 0 = nI t) (ht10 : t < 10) : drB B n (m + 1) (z, a, e) s = drB B n m (z * 1103515245 + 12345, a + 1, nI t) (B t) := by
  have him : imx 1 (jpc s) = jpc s := by
    unfold imx
    have := pct_le s
    rw [jpc_pct]
    by_cases c : (1 : Int32) < nI (pct s)
    · rw [if_pos c]
    · rw [if_neg c]
      have : ¬ 1 < pct s := fun q => c (nI_lt (a := 1) q (by omega))
      rw [show pct s = 1 by omega]
      rfl
  rw [drB, if_neg h0, him, ht, nI_clamp (by omega)]
theorem u_drawn0 (d : Nat) (sw : Bool) (f : Nat → Nat → Int32) (g : Nat → Nat → Int64) (n m : Nat) (x z q y : Int32) (hn : f 81 0 = nI n) (hn10 : n ≤ 10) (hm : f 81 5 = nI m) (hm6 : m ≤ 6) (h : ¬ ((∃ b, b < m ∧ x = nI b) ∧ (∃ k, 1 ≤ k ∧ k ≤ 50 ∧ q = nI k) ∧ (y = -1 ∨ ∃ i, i < n ∧ y = nI i))) : CT (d + 110) 0 0 iX11_drawn [.ref 81, .int x, .int z, .int q, .int y] (S sw f g) (rdM g f (-1)) := by
  have hq : ¬ q < 1 ∧ ¬ 50 < q → ∃ k, 1 ≤ k ∧ k ≤ 50 ∧ q = nI k := by
    rintro ⟨h1, h2⟩
    obtain ⟨k, k1, rfl⟩ := rg_le (k := 50) (x := q) (by decide) (fun e => h1 (Int32.lt_trans e (by decide))) h2
    exact ⟨k, Nat.le_of_not_lt (fun c => h1 (nI_lt (a := k) (b := 1) c (by decide))), k1, rfl⟩
  have hy : ¬ y < -1 ∧ ¬ nI n - 1 < y → y = -1 ∨ ∃ i, i < n ∧ y = nI i := by
    rintro ⟨h1, h2⟩
    by_cases c : y = -1
    · exact Or.inl c
    · refine Or.inr (rg_pred (by omega) (fun e => ?_) h2)
      have := iz_tri h1 c
      rw [Int32.lt_iff_toInt_lt] at this e
      have e1 : (-1 : Int32).toInt = -1 := by decide
      have e2 : (0 : Int32).toInt = 0 := by decide
      omega
  refine CT.rdM ?_
  refine CT.of rfl (Nat.le_of_ble_eq_true rfl) (fun X hX hR hN _ => ?_)
  have hX : Good X RX11 cX11_drawn (d + 110) 0 0 := hX
  have hN : x_nl X = 10 := hN
  show WP X 0 0 0 [_, _, _, _, _, _, _, _, _, _] [] _
  by_cases c1 : ∃ b, b < m ∧ x = nI b
  · obtain ⟨b, hb, rfl⟩ := c1
    by_cases c2 : ¬ q < 1 ∧ ¬ 50 < q
    · by_cases c3 : ¬ y < -1 ∧ ¬ nI n - 1 < y
      · exact absurd ⟨⟨b, hb, rfl⟩, hq c2, hy c3⟩ h
      · refine wp_aload_n hX (dk DX11_drawn 0 rfl) rfl ?_
        refine wp_iload_n hX (dk DX11_drawn 1 rfl) rfl ?_
        refine w_callV (As := [_]) lkX11_123 hX (dk DX11_drawn 2 rfl) rfl rfl (by decide) hN (k_mB1 (d + 108) sw f g m b hm hm6 hb) ?_
        show WP _ _ _ 5 [_, _, _, _, _, _, _, _, _, _] [_] _
        refine wp_if_eq (tgt := 33) hX (dk DX11_drawn 3 rfl) (by decide) (fun h_ => absurd h_ (by decide)) (fun _ => ?_)
        refine wp_iload_n hX (dk DX11_drawn 4 rfl) rfl ?_
        refine wp_iconst (v := 1) hX (dk DX11_drawn 5 rfl) (by decide) ?_
        refine wp_bipush (v := 50) hX (dk DX11_drawn 6 rfl) (by decide) ?_
        refine w_callS (As := [_, _, _]) lkX11_116 hX (dk DX11_drawn 7 rfl) rfl (by decide) (k_within (d + 109) _ _ _ _) ?_
        show WP _ _ _ 15 [_, _, _, _, _, _, _, _, _, _] [_] _
        rw [if_pos c2]
        refine wp_if_eq (tgt := 33) hX (dk DX11_drawn 8 rfl) (by decide) (fun h_ => absurd h_ (by decide)) (fun _ => ?_)
        refine wp_iload hX (dk DX11_drawn 9 rfl) rfl ?_
        refine wp_iconst (v := -1) hX (dk DX11_drawn 10 rfl) (by decide) ?_
        refine wp_aload_n hX (dk DX11_drawn 11 rfl) rfl ?_
        refine w_geti hX flX11_112 (dk DX11_drawn 12 rfl) (by decide) rfl ?_
        rw [hn]
        refine wp_iconst (v := 1) hX (dk DX11_drawn 13 rfl) (by decide) ?_
        refine wp_isub hX (dk DX11_drawn 14 rfl) ?_
        refine w_callS (As := [_, _, _]) lkX11_116 hX (dk DX11_drawn 15 rfl) rfl (by decide) (k_within (d + 109) _ _ _ _) ?_
        show WP _ _ _ 30 [_, _, _, _, _, _, _, _, _, _] [_] _
        rw [if_neg c3]
        refine wp_if_ne (tgt := 35) hX (dk DX11_drawn 16 rfl) (by decide) (fun h_ => absurd (rfl) h_) (fun _ => ?_)
        refine wp_iconst (v := -1) hX (dk DX11_drawn 17 rfl) (by decide) ?_
        exact wp_ireturn hX hR (dk DX11_drawn 18 rfl) rfl (Nat.le_refl _) (Nat.le_refl _) (⟨rfl, rfl⟩)
    · refine wp_aload_n hX (dk DX11_drawn 0 rfl) rfl ?_
      refine wp_iload_n hX (dk DX11_drawn 1 rfl) rfl ?_
      refine w_callV (As := [_]) lkX11_123 hX (dk DX11_drawn 2 rfl) rfl rfl (by decide) hN (k_mB1 (d + 108) sw f g m b hm hm6 hb) ?_
      show WP _ _ _ 5 [_, _, _, _, _, _, _, _, _, _] [_] _
      refine wp_if_eq (tgt := 33) hX (dk DX11_drawn 3 rfl) (by decide) (fun h_ => absurd h_ (by decide)) (fun _ => ?_)
      refine wp_iload_n hX (dk DX11_drawn 4 rfl) rfl ?_
      refine wp_iconst (v := 1) hX (dk DX11_drawn 5 rfl) (by decide) ?_
      refine wp_bipush (v := 50) hX (dk DX11_drawn 6 rfl) (by decide) ?_
      refine w_callS (As := [_, _, _]) lkX11_116 hX (dk DX11_drawn 7 rfl) rfl (by decide) (k_within (d + 109) _ _ _ _) ?_
      show WP _ _ _ 15 [_, _, _, _, _, _, _, _, _, _] [_] _
      rw [if_neg c2]
      refine wp_if_eq (tgt := 33) hX (dk DX11_drawn 8 rfl) (by decide) (fun _ => ?_) (fun h_ => absurd (rfl) h_)
      refine wp_iconst (v := -1) hX (dk DX11_drawn 17 rfl) (by decide) ?_
      exact wp_ireturn hX hR (dk DX11_drawn 18 rfl) rfl (Nat.le_refl _) (Nat.le_refl _) (⟨rfl, rfl⟩)
  · refine wp_aload_n hX (dk DX11_drawn 0 rfl) rfl ?_
    refine wp_iload_n hX (dk DX11_drawn 1 rfl) rfl ?_
    refine w_callV (As := [_]) lkX11_123 hX (dk DX11_drawn 2 rfl) rfl rfl (by decide) hN (k_mB0 (d + 108) sw f g m x hm hm6 c1) ?_
    show WP _ _ _ 5 [_, _, _, _, _, _, _, _, _, _] [_] _
    refine wp_if_eq (tgt := 33) hX (dk DX11_drawn 3 rfl) (by decide) (fun _ => ?_) (fun h_ => absurd (rfl) h_)
    refine wp_iconst (v := -1) hX (dk DX11_drawn 17 rfl) (by decide) ?_
    exact wp_ireturn hX hR (dk DX11_drawn 18 rfl) rfl (Nat.le_refl _) (Nat.le_refl _) (⟨rfl, rfl⟩)
theorem u_drawn1 (d : Nat) (sw : Bool) (f : Nat → Nat → Int32) (g : Nat → Nat → Int64) (n m b k : Nat) (z y : Int32) (sh : Nat → Int32) (ρ : Nat → Nat) (hF : mFg f n sh) (hpo : pOk (BB sh n) n ρ) (hm : f 81 5 = nI m) (hm6 : m ≤ 6) (hb : b < m) (hk1 : 1 ≤ k) (hk : k ≤ 50) (hy : y = -1 ∨ ∃ i, i < n ∧ y = nI i) : CT (d + 110) 0 0 iX11_drawn [.ref 81, .int (nI b), .int z, .int (nI k), .int y] (S sw f g) (rdM g f (if y = -1 then (drN (BB sh n) n (jfo sh n (f 86 b)) y k (z, 0, 0)).2.1 else (drN (BB sh n) n (jfo sh n (f 86 b)) y k (z, 0, 0)).2.2)) := by
  have hn10 := hF.2.1
  obtain ⟨x, hx⟩ : ∃ x, x = jfo sh n (f 86 b) := ⟨_, rfl⟩
  have hxh : ∀ j, n ≤ j → j < 32 → bt x j = false := fun j h1 h2 => by rw [hx]; exact jfo_hi hn10 h1 h2
  rw [← hx]
  obtain ⟨R0, hR0⟩ : ∃ R0, R0 = drN (BB sh n) n x y k (z, 0, 0) := ⟨_, rfl⟩
  rw [← hR0]
  have hyw : ¬ y < -1 ∧ ¬ nI n - 1 < y := by
    rcases hy with rfl | ⟨i, hi, rfl⟩
    · refine ⟨by decide, ?_⟩
      cases n with
      | zero => decide
      | succ n =>
        rw [nI_pred, Int32.lt_iff_toInt_lt, nI_toInt (by omega)]
        have e1 : (-1 : Int32).toInt = -1 := by decide
        omega
    · refine ⟨?_, ?_⟩
      · rw [Int32.lt_iff_toInt_lt, nI_toInt (by omega)]
        have e1 : (-1 : Int32).toInt = -1 := by decide
        omega
      · cases n with
        | zero => omega
        | succ n =>
          rw [nI_pred]
          exact nI_nlt (by omega) (by omega)
  refine CT.of rfl (Nat.le_of_ble_eq_true rfl) (fun X hX hR hN _ => ?_)
  have hX : Good X RX11 cX11_drawn (d + 110) 0 0 := hX
  have hN : x_nl X = 10 := hN
  show WP X 0 0 0 [_, _, _, _, _, _, _, _, _, _] [] _
  refine wp_aload_n hX (dk DX11_drawn 0 rfl) rfl ?_
  refine wp_iload_n hX (dk DX11_drawn 1 rfl) rfl ?_
  refine w_callV (As := [_]) lkX11_123 hX (dk DX11_drawn 2 rfl) rfl rfl (by decide) hN (k_mB1 (d + 108) sw f g m b hm hm6 hb) ?_
  show WP _ _ _ 5 [_, _, _, _, _, _, _, _, _, _] [_] _
  refine wp_if_eq (tgt := 33) hX (dk DX11_drawn 3 rfl) (by decide) (fun h_ => absurd h_ (by decide)) (fun _ => ?_)
  refine wp_iload_n hX (dk DX11_drawn 4 rfl) rfl ?_
  refine wp_iconst (v := 1) hX (dk DX11_drawn 5 rfl) (by decide) ?_
  refine wp_bipush (v := 50) hX (dk DX11_drawn 6 rfl) (by decide) ?_
  refine w_callS (As := [_, _, _]) lkX11_116 hX (dk DX11_drawn 7 rfl) rfl (by decide) (k_within (d + 109) _ _ _ _) ?_
  show WP _ _ _ 15 [_, _, _, _, _, _, _, _, _, _] [_] _
  rw [if_pos ⟨nI_nlt (b := 1) (by omega) (by omega), nI_nlt (a := 50) (by omega) (by omega)⟩]
  refine wp_if_eq (tgt := 33) hX (dk DX11_drawn 8 rfl) (by decide) (fun h_ => absurd h_ (by decide)) (fun _ => ?_)
  refine wp_iload hX (dk DX11_drawn 9 rfl) rfl ?_
  refine wp_iconst (v := -1) hX (dk DX11_drawn 10 rfl) (by decide) ?_
  refine wp_aload_n hX (dk DX11_drawn 11 rfl) rfl ?_
  refine w_geti hX flX11_112 (dk DX11_drawn 12 rfl) (by decide) rfl ?_
  rw [hF.1]
  refine wp_iconst (v := 1) hX (dk DX11_drawn 13 rfl) (by decide) ?_
  refine wp_isub hX (dk DX11_drawn 14 rfl) ?_
  refine w_callS (As := [_, _, _]) lkX11_116 hX (dk DX11_drawn 15 rfl) rfl (by decide) (k_within (d + 109) _ _ _ _) ?_
  show WP _ _ _ 30 [_, _, _, _, _, _, _, _, _, _] [_] _
  rw [if_pos hyw]
  refine wp_if_ne (tgt := 35) hX (dk DX11_drawn 16 rfl) (by decide) (fun _ => ?_) (fun h_ => absurd h_ (by decide))
  refine wp_aload_n hX (dk DX11_drawn 19 rfl) rfl ?_
  refine wp_aload_n hX (dk DX11_drawn 20 rfl) rfl ?_
  refine w_getr hX flX11_24 (dk DX11_drawn 21 rfl) rfl rfl ?_
  refine wp_iload_n hX (dk DX11_drawn 22 rfl) rfl ?_
  refine w_iald (j := _) hX (dk DX11_drawn 23 rfl) rfl rfl (show _ < 6 by omega) ?_
  refine w_callVQ (As := [_]) lkX11_287 hX (dk DX11_drawn 24 rfl) rfl rfl (by decide) hN (k_looks (d + 103) sw f g n sh _ hF) (fun v_a sw_a f_a g_a hq_a => ?_)
  obtain ⟨rfl, rfl, rfl, e1, e2⟩ := hq_a
  show WP _ _ _ 45 [_, _, _, _, _, _, _, _, _, _] [] _
  skip
  have fin : qM f f_a := ⟨fun c _ _ h3 => e1 c (by omega), fun i _ => by rw [e1 81 (by decide)]⟩
  have hxa : f_a 109 10 = x := by rw [hx]; exact e2.2
  have lo : ∀ (q i : Nat) (z2 a w w2 : Int32) (z9 : Option Value), i + q = k → (y = -1 ∨ w2 = w) → R0 = drN (BB sh n) n x y q (z2, a, w) → WP X 0 0 57 [some (.ref 81), some (.int (nI b)), some (.int z), some (.int (nI k)), some (.int y), some (.int z2), some (.int a), some (.int w2), some (.int (nI i)), z9] [] (S sw_a f_a g_a) := by
    intro q
    induction q with
    | zero =>
      intro i z2 a w w2 z9 hi hw e
      obtain rfl : i = k := by omega
      rw [drN] at e
      rw [e] at hR
      by_cases cy : y = -1
      · rw [if_pos cy] at hR
        refine wp_iload hX (dk DX11_drawn 33 rfl) rfl ?_
        refine wp_iload_n hX (dk DX11_drawn 34 rfl) rfl ?_
        refine wp_icmp_ge (tgt := 139) hX (dk DX11_drawn 35 rfl) (by decide) (fun _ => ?_) (fun h_ => absurd (nI_le (by omega) (by omega)) h_)
        refine wp_iload hX (dk DX11_drawn_1 12 rfl) rfl ?_
        refine wp_if_ge (tgt := 149) hX (dk DX11_drawn_1 13 rfl) (by decide) (fun h_ => absurd h_ (by rw [cy]; decide)) (fun _ => ?_)
        refine wp_iload hX (dk DX11_drawn_1 14 rfl) rfl ?_
        refine wp_goto (tgt := 151) hX (dk DX11_drawn_1 15 rfl) (by decide) ?_
        exact wp_ireturn hX hR (dk DX11_drawn_1 17 rfl) rfl (Nat.le_refl _) (Nat.le_refl _) (⟨_, _, _, rfl, rfl, rfl, fin⟩)
      · rw [if_neg cy] at hR
        obtain ⟨i2, hi2, ey⟩ := hy.resolve_left cy
        have ew := hw.resolve_left cy
        subst ew
        refine wp_iload hX (dk DX11_drawn 33 rfl) rfl ?_
        refine wp_iload_n hX (dk DX11_drawn 34 rfl) rfl ?_
        refine wp_icmp_ge (tgt := 139) hX (dk DX11_drawn 35 rfl) (by decide) (fun _ => ?_) (fun h_ => absurd (nI_le (by omega) (by omega)) h_)
        refine wp_iload hX (dk DX11_drawn_1 12 rfl) rfl ?_
        refine wp_if_ge (tgt := 149) hX (dk DX11_drawn_1 13 rfl) (by decide) (fun _ => ?_) (fun h_ => absurd (by rw [ey]; exact nI_pos' (by omega)) h_)
        refine wp_iload hX (dk DX11_drawn_1 16 rfl) rfl ?_
        exact wp_ireturn hX hR (dk DX11_drawn_1 17 rfl) rfl (Nat.le_refl _) (Nat.le_refl _) (⟨_, _, _, rfl, rfl, rfl, fin⟩)
    | succ q ih =>
      intro i z2 a w w2 z9 hi hw e
      rw [drN] at e
      obtain ⟨R1, hR1⟩ : ∃ R1, R1 = drB (BB sh n) n 10 (z2, a, -1) x := ⟨_, rfl⟩
      rw [← hR1] at e
      have ex : ∀ (z3 a3 e3 : Int32) (h : Nat), R1 = (z3, a3, e3) → ((h = 10 ∧ e3 = -1) ∨ (h < n ∧ e3 = nI h)) → WP X 0 0 123 [some (.ref 81), some (.int (nI b)), some (.int z), some (.int (nI k)), some (.int y), some (.int z3), some (.int a3), some (.int w2), some (.int (nI i)), some (.int (nI h))] [] (S sw_a f_a g_a) := by
        intro z3 a3 e3 h er hh
        rw [er] at e
        by_cases c : nI h = y
        · have e3y : y = -1 ∨ w2 + 1 = (if e3 = y then w + 1 else w) := by
            by_cases cy : y = -1
            · exact Or.inl cy
            · obtain ⟨i2, hi2, ey⟩ := hy.resolve_left cy
              rcases hh with ⟨rfl, _⟩ | ⟨h1, h2⟩
              · rw [ey] at c
                have := (nI_eq (by omega) (by omega)).mp c
                omega
              · rw [if_pos (by rw [h2, c]), hw.resolve_left cy]
                exact Or.inr rfl
          refine wp_iload hX (dk DX11_drawn_1 6 rfl) rfl ?_
          refine wp_iload hX (dk DX11_drawn_1 7 rfl) rfl ?_
          refine wp_icmp_ne (tgt := 133) hX (dk DX11_drawn_1 8 rfl) (by decide) (fun h_ => absurd (c) h_) (fun _ => ?_)
          refine wp_iinc hX (dk DX11_drawn_1 9 rfl) rfl (i_inc _) rfl hN ?_
          show WP _ _ _ 133 [_, _, _, _, _, _, _, _, _, _] [] _
          refine wp_iinc hX (dk DX11_drawn_1 10 rfl) rfl (nI_inc _) rfl hN ?_
          show WP _ _ _ 136 [_, _, _, _, _, _, _, _, _, _] [] _
          refine wp_goto (tgt := 57) hX (dk DX11_drawn_1 11 rfl) (by decide) ?_
          exact ih (i + 1) _ _ _ _ _ (by omega) e3y e
        · have e3y : y = -1 ∨ w2 = (if e3 = y then w + 1 else w) := by
            by_cases cy : y = -1
            · exact Or.inl cy
            · rcases hh with ⟨_, h2⟩ | ⟨h1, h2⟩
              · rw [if_neg (fun q => cy (by rw [← q, h2])), hw.resolve_left cy]
                exact Or.inr rfl
              · rw [if_neg (fun q => c (by rw [← q, h2])), hw.resolve_left cy]
                exact Or.inr rfl
          refine wp_iload hX (dk DX11_drawn_1 6 rfl) rfl ?_
          refine wp_iload hX (dk DX11_drawn_1 7 rfl) rfl ?_
          refine wp_icmp_ne (tgt := 133) hX (dk DX11_drawn_1 8 rfl) (by decide) (fun _ => ?_) (fun h_ => absurd h_ (c))
          refine wp_iinc hX (dk DX11_drawn_1 10 rfl) rfl (nI_inc _) rfl hN ?_
          show WP _ _ _ 136 [_, _, _, _, _, _, _, _, _, _] [] _
          refine wp_goto (tgt := 57) hX (dk DX11_drawn_1 11 rfl) (by decide) ?_
          exact ih (i + 1) _ _ _ _ _ (by omega) e3y e
      have li : ∀ (q h : Nat) (z3 a3 e3 s3 : Int32), (∀ j, j < n → bt s3 j = true → ρ j < q) → (∀ j, n ≤ j → j < 32 → bt s3 j = false) → R1 = drB (BB sh n) n q (z3, a3, e3) s3 → ((h = 10 ∧ e3 = -1) ∨ (h < n ∧ e3 = nI h)) → f_a 109 h = s3 → WP X 0 0 67 [some (.ref 81), some (.int (nI b)), some (.int z), some (.int (nI k)), some (.int y), some (.int z3), some (.int a3), some (.int w2), some (.int (nI i)), some (.int (nI h))] [] (S sw_a f_a g_a) := by
        intro q
        induction q with
        | zero =>
          intro h z3 a3 e3 s3 hs hsh er hh h3
          have s0 : s3 = 0 := Classical.byContradiction (fun c => by
            obtain ⟨j, j1, j2⟩ := ne0_bit hsh c
            exact absurd (hs j j1 j2) (Nat.not_lt_zero _))
          rw [drB] at er
          refine wp_aload_n hX (dk DX11_drawn 38 rfl) rfl ?_
          refine w_getr hX flX11_94 (dk DX11_drawn 39 rfl) rfl rfl ?_
          refine wp_iload hX (dk DX11_drawn 40 rfl) rfl ?_
          refine w_iald (j := _) hX (dk DX11_drawn 41 rfl) rfl rfl (show _ < 11 by omega) ?_
          rw [h3, s0]
          refine wp_if_eq (tgt := 123) hX (dk DX11_drawn 42 rfl) (by decide) (fun _ => ?_) (fun h_ => absurd (rfl) h_)
          exact ex z3 a3 e3 h er hh
        | succ q ihq =>
          intro h z3 a3 e3 s3 hs hsh er hh h3
          by_cases s0 : s3 = 0
          · rw [drB, if_pos s0] at er
            refine wp_aload_n hX (dk DX11_drawn 38 rfl) rfl ?_
            refine w_getr hX flX11_94 (dk DX11_drawn 39 rfl) rfl rfl ?_
            refine wp_iload hX (dk DX11_drawn 40 rfl) rfl ?_
            refine w_iald (j := _) hX (dk DX11_drawn 41 rfl) rfl rfl (show _ < 11 by omega) ?_
            rw [h3, s0]
            refine wp_if_eq (tgt := 123) hX (dk DX11_drawn 42 rfl) (by decide) (fun _ => ?_) (fun h_ => absurd (rfl) h_)
            exact ex z3 a3 e3 h er hh
          · obtain ⟨j0, j1, j2⟩ := ne0_bit hsh s0
            have pc := pct_n (by omega) hsh
            have pp : 1 ≤ pct s3 := by rw [pc]; exact fb_ct_pos.mpr ⟨j0, j1, j2⟩
            have pl := fb_ct_le (bt s3) n
            obtain ⟨A, a1, a2⟩ := shr8 (z3 * 1103515245 + 12345)
            have hrem : nI A - nI A / jpc s3 * jpc s3 = nI (A % pct s3) := by
              rw [jpc_pct, pk_rem (by omega) (by omega) (by omega)]
            have hlt : A % pct s3 < fb_ct (bt s3) n := by
              have := Nat.mod_lt A pp
              rw [← pc]
              exact this
            obtain ⟨t, t1, t2, t3, t4, t5⟩ := jnth_at hn10 hlt n 0 (by omega) (Nat.zero_le _)
            have hne : ¬ jpc s3 = 0 := by rw [jpc_pct]; exact nI_ne0 pp (by omega)
            rw [drB_st s0 pp (t := t) (by rw [a2, hrem]; exact t5) (by omega)] at er
            have rt := hs t t2 t3
            refine wp_aload_n hX (dk DX11_drawn 38 rfl) rfl ?_
            refine w_getr hX flX11_94 (dk DX11_drawn 39 rfl) rfl rfl ?_
            refine wp_iload hX (dk DX11_drawn 40 rfl) rfl ?_
            refine w_iald (j := _) hX (dk DX11_drawn 41 rfl) rfl rfl (show _ < 11 by omega) ?_
            rw [h3]
            refine wp_if_eq (tgt := 123) hX (dk DX11_drawn 42 rfl) (by decide) (fun h_ => absurd h_ (s0)) (fun _ => ?_)
            refine wp_iload hX (dk DX11_drawn 43 rfl) rfl ?_
            refine wp_ldcw hX (dk DX11_drawn 44 rfl) kcX11_339 ?_
            refine wp_imul hX (dk DX11_drawn 45 rfl) ?_
            refine wp_sipush (v := 12345) hX (dk DX11_drawn 46 rfl) (by decide) ?_
            refine wp_iadd hX (dk DX11_drawn 47 rfl) ?_
            refine wp_istore hX (dk DX11_drawn 48 rfl) rfl hN (Nat.le_of_ble_eq_true rfl) ?_
            show WP _ _ _ 89 [_, _, _, _, _, _, _, _, _, _] [] _
            refine wp_aload_n hX (dk DX11_drawn 49 rfl) rfl ?_
            refine w_getr hX flX11_94 (dk DX11_drawn 50 rfl) rfl rfl ?_
            refine wp_iload hX (dk DX11_drawn 51 rfl) rfl ?_
            refine w_iald (j := _) hX (dk DX11_drawn 52 rfl) rfl rfl (show _ < 11 by omega) ?_
            rw [h3]
            refine wp_iload hX (dk DX11_drawn 53 rfl) rfl ?_
            refine wp_bipush (v := 8) hX (dk DX11_drawn 54 rfl) (by decide) ?_
            refine wp_iushr hX (dk DX11_drawn 55 rfl) ?_
            refine wp_aload_n hX (dk DX11_drawn 56 rfl) rfl ?_
            refine w_getr hX flX11_94 (dk DX11_drawn 57 rfl) rfl rfl ?_
            refine wp_iload hX (dk DX11_drawn 58 rfl) rfl ?_
            refine w_iald (j := _) hX (dk DX11_drawn 59 rfl) rfl rfl (show _ < 11 by omega) ?_
            rw [h3]
            refine w_callS (As := [_]) lkX11_156 hX (dk DX11_drawn_1 0 rfl) rfl (by simp [Value.category]) (k_mcells (d + 108) _ f_a _ _) ?_
            show WP _ _ _ 111 [_, _, _, _, _, _, _, _, _, _] [_, _, _] _
            refine wp_irem hX (dk DX11_drawn_1 1 rfl) hne ?_
            rw [a2, hrem]
            refine w_callS (As := [_, _]) lkX11_340 hX (dk DX11_drawn_1 2 rfl) rfl (by decide) (k_mpick (d + 108) sw_a f_a g_a s3 n (A % pct s3) t hn10 t2 t3 t4) ?_
            show WP _ _ _ 115 [_, _, _, _, _, _, _, _, _, _] [_] _
            refine wp_istore hX (dk DX11_drawn_1 3 rfl) rfl hN (Nat.le_of_ble_eq_true rfl) ?_
            show WP _ _ _ 117 [_, _, _, _, _, _, _, _, _, _] [] _
            refine wp_iinc hX (dk DX11_drawn_1 4 rfl) rfl (i_inc _) rfl hN ?_
            show WP _ _ _ 120 [_, _, _, _, _, _, _, _, _, _] [] _
            refine wp_goto (tgt := 67) hX (dk DX11_drawn_1 5 rfl) (by decide) ?_
            exact ihq t _ _ _ (BB sh n t) (fun j j1 j2 => by have := hpo.2 t j t2 j1 j2; omega) (fun j h1 h2 => BB_hi hn10 t j t2 h1 h2) er (Or.inr ⟨t2, rfl⟩) (e2.1 t t2)
      refine wp_iload hX (dk DX11_drawn 33 rfl) rfl ?_
      refine wp_iload_n hX (dk DX11_drawn 34 rfl) rfl ?_
      refine wp_icmp_ge (tgt := 139) hX (dk DX11_drawn 35 rfl) (by decide) (fun h_ => absurd h_ (nI_ge (by omega) (by omega))) (fun _ => ?_)
      refine wp_bipush (v := 10) hX (dk DX11_drawn 36 rfl) (by decide) ?_
      refine wp_istore hX (dk DX11_drawn 37 rfl) rfl hN (Nat.le_of_ble_eq_true rfl) ?_
      show WP _ _ _ 67 [_, _, _, _, _, _, _, _, _, _] [] _
      exact li 10 10 _ _ _ x (fun j j1 _ => by have := hpo.1 j j1; omega) hxh hR1 (Or.inl ⟨rfl, rfl⟩) hxa
  refine wp_iload_n hX (dk DX11_drawn 25 rfl) rfl ?_
  refine wp_istore hX (dk DX11_drawn 26 rfl) rfl hN (Nat.le_of_ble_eq_true rfl) ?_
  show WP _ _ _ 48 [_, _, _, _, _, _, _, _, _, _] [] _
  refine wp_iconst (v := 0) hX (dk DX11_drawn 27 rfl) (by decide) ?_
  refine wp_istore hX (dk DX11_drawn 28 rfl) rfl hN (Nat.le_of_ble_eq_true rfl) ?_
  show WP _ _ _ 51 [_, _, _, _, _, _, _, _, _, _] [] _
  refine wp_iconst (v := 0) hX (dk DX11_drawn 29 rfl) (by decide) ?_
  refine wp_istore hX (dk DX11_drawn 30 rfl) rfl hN (Nat.le_of_ble_eq_true rfl) ?_
  show WP _ _ _ 54 [_, _, _, _, _, _, _, _, _, _] [] _
  refine wp_iconst (v := 0) hX (dk DX11_drawn 31 rfl) (by decide) ?_
  refine wp_istore hX (dk DX11_drawn 32 rfl) rfl hN (Nat.le_of_ble_eq_true rfl) ?_
  show WP _ _ _ 57 [_, _, _, _, _, _, _, _, _, _] [] _
  exact lo k 0 z 0 0 0 _ (by omega) (Or.inr rfl) hR0
