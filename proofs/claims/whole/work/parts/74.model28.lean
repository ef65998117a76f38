/-! REFERENCE: filled -/
/-- a sum over a set, 9999 at most -/
def wsm (r : Nat → Int32) (s : Int32) : Nat → Int32
  | 0 => 0
  | k + 1 => if jb s k = 0 then wsm r s k else imn 9999 (wsm r s k + r k)
/-- in how many ways m more elements go on -/
def wO (B : Nat → Int32) (n : Nat) (E : Nat → Int64) : Nat → Nat → Int32 → Int32
  | 0, _, _ => 1
  | m + 1, i, s => wsm (fun g => wO B n E m (i + 1) (B g)) (s &&& jme n (E i)) n
theorem and_hi {s y : Int32} {n : Nat} (h : ∀ j, n ≤ j → j < 32 → bt s j = false) : ∀ j, n ≤ j → j < 32 → bt (s &&& y) j = false := fun j h1 h2 => by rw [b_and, h j h1 h2, Bool.false_and]
theorem k_mways (sw : Bool) (f : Nat → Nat → Int32) (g : Nat → Nat → Int64) (n c z : Nat) (B : Nat → Int32) (x : Int32) (hn : f 81 0 = nI n) (hn10 : n ≤ 10) (hc : c < 6) (hz : f 107 c = nI z) (hz60 : z ≤ 60) (hE : ∀ k, k < z → fit (g 108 (c * 60 + k))) (hB : ∀ i, i < n → f 109 i = B i) (hh : ∀ i j, i < n → n ≤ j → j < 32 → bt (B i) j = false) : ∀ (m d i h : Nat) (s : Int32), i + m = z → h < 11 → f 109 h = s → (∀ j, n ≤ j → j < 32 → bt s j = false) → CT (d + m + 3) 0 0 iX11_waysOn [.ref 81, .int (nI c), .int (nI i), .int (nI h)] (S sw f g) (QR (some (.int (wO B n (fun k => g 108 (c * 60 + k)) m i s))) (S sw f g)) := by
  intro m
  induction m with
  | zero =>
    intro d i h s hi hh11 hs hsh
    obtain rfl : i = z := by omega
    refine CT.of rfl (Nat.le_of_ble_eq_true rfl) (fun X hX hR hN _ => ?_)
    have hX : Good X RX11 cX11_waysOn (d + 3) 0 0 := hX
    have hN : x_nl X = 7 := hN
    show WP X 0 0 0 [_, _, _, _, _, _, _] [] _
    refine wp_iload_n hX (dk DX11_waysOn 0 rfl) rfl ?_
    refine wp_aload_n hX (dk DX11_waysOn 1 rfl) rfl ?_
    refine w_getr hX flX11_87 (dk DX11_waysOn 2 rfl) rfl rfl ?_
    refine wp_iload_n hX (dk DX11_waysOn 3 rfl) rfl ?_
    refine w_iald (j := _) hX (dk DX11_waysOn 4 rfl) rfl rfl (show _ < 6 by omega) ?_
    refine wp_icmp_ne (tgt := 12) hX (dk DX11_waysOn 5 rfl) (by decide) (fun h_ => absurd (hz.symm) h_) (fun _ => ?_)
    refine wp_iconst (v := 1) hX (dk DX11_waysOn 6 rfl) (by decide) ?_
    exact wp_ireturn hX hR (dk DX11_waysOn 7 rfl) rfl (Nat.le_refl _) (Nat.le_refl _) (⟨rfl, rfl⟩)
  | succ m ih =>
    intro d i h s hi hh11 hs hsh
    refine CT.of rfl (Nat.le_of_ble_eq_true rfl) (fun X hX hR hN _ => ?_)
    have hX : Good X RX11 cX11_waysOn (d + (m + 1) + 3) 0 0 := hX
    have hN : x_nl X = 7 := hN
    show WP X 0 0 0 [_, _, _, _, _, _, _] [] _
    obtain ⟨y, hy⟩ : ∃ y, y = s &&& jme n (g 108 (c * 60 + i)) := ⟨_, rfl⟩
    obtain ⟨r, hr⟩ : ∃ r : Nat → Int32, r = fun q => wO B n (fun k => g 108 (c * 60 + k)) m (i + 1) (B q) := ⟨_, rfl⟩
    have eA : wO B n (fun k => g 108 (c * 60 + k)) (m + 1) i s = wsm r y n := by rw [wO, hr, hy]
    rw [eA] at hR
    have call : ∀ q, q < n → CT (d + (m + 1) + 2) 0 0 iX11_waysOn [.ref 81, .int (nI c), .int (nI i + 1), .int (nI q)] (S sw f g) (QR (some (.int (r q))) (S sw f g)) := fun q hq => by
      have := ih d (i + 1) q (B q) (by omega) (by omega) (hB q hq) (fun j h1 h2 => hh q j hq h1 h2)
      rw [show d + m + 3 = d + (m + 1) + 2 by omega, ← nI_1] at this
      rw [hr]
      exact this
    have lo : ∀ (u q : Nat), q + u = n → WP X 0 0 32 [some (.ref 81), some (.int (nI c)), some (.int (nI i)), some (.int (nI h)), some (.int y), some (.int (wsm r y q)), some (.int (nI q))] [] (S sw f g) := by
      intro u
      induction u with
      | zero =>
        intro q hq
        obtain rfl : q = n := by omega
        refine wp_iload hX (dk DX11_waysOn 21 rfl) rfl ?_
        refine wp_aload_n hX (dk DX11_waysOn 22 rfl) rfl ?_
        refine w_geti hX flX11_112 (dk DX11_waysOn 23 rfl) (by decide) rfl ?_
        rw [hn]
        refine wp_icmp_ge (tgt := 78) hX (dk DX11_waysOn 24 rfl) (by decide) (fun _ => ?_) (fun h_ => absurd (nI_le (by omega) (by omega)) h_)
        refine wp_iload hX (dk DX11_waysOn 43 rfl) rfl ?_
        exact wp_ireturn hX hR (dk DX11_waysOn 44 rfl) rfl (Nat.le_refl _) (Nat.le_refl _) (⟨rfl, rfl⟩)
      | succ u ihu =>
        intro q hq
        have nx := ihu (q + 1) (by omega)
        rw [wsm] at nx
        refine wp_iload hX (dk DX11_waysOn 21 rfl) rfl ?_
        refine wp_aload_n hX (dk DX11_waysOn 22 rfl) rfl ?_
        refine w_geti hX flX11_112 (dk DX11_waysOn 23 rfl) (by decide) rfl ?_
        rw [hn]
        refine wp_icmp_ge (tgt := 78) hX (dk DX11_waysOn 24 rfl) (by decide) (fun h_ => absurd h_ (nI_ge (by omega) (by omega))) (fun _ => ?_)
        refine wp_iload hX (dk DX11_waysOn 25 rfl) rfl ?_
        refine wp_iload hX (dk DX11_waysOn 26 rfl) rfl ?_
        refine w_callS (As := [_, _]) lkX11_138 hX (dk DX11_waysOn 27 rfl) rfl (by decide) (k_mhas (d + (m + 1) + 2) _ _ _) ?_
        show WP _ _ _ 48 [_, _, _, _, _, _, _] [_] _
        refine wp_if_eq (tgt := 72) hX (dk DX11_waysOn 28 rfl) (by decide) (fun h48 => ?_) (fun h48 => ?_)
        · refine wp_iinc hX (dk DX11_waysOn 41 rfl) rfl (nI_inc _) rfl hN ?_
          show WP _ _ _ 75 [_, _, _, _, _, _, _] [] _
          refine wp_goto (tgt := 32) hX (dk DX11_waysOn 42 rfl) (by decide) ?_
          first | (rw [if_pos h48] at nx; exact nx) | (rw [if_neg h48] at nx; exact nx)
        · refine wp_sipush (v := 9999) hX (dk DX11_waysOn 29 rfl) (by decide) ?_
          refine wp_iload hX (dk DX11_waysOn 30 rfl) rfl ?_
          refine wp_aload_n hX (dk DX11_waysOn 31 rfl) rfl ?_
          refine wp_iload_n hX (dk DX11_waysOn 32 rfl) rfl ?_
          refine wp_iload_n hX (dk DX11_waysOn 33 rfl) rfl ?_
          refine wp_iconst (v := 1) hX (dk DX11_waysOn 34 rfl) (by decide) ?_
          refine wp_iadd hX (dk DX11_waysOn 35 rfl) ?_
          refine wp_iload hX (dk DX11_waysOn 36 rfl) rfl ?_
          refine w_callV (As := [_, _, _]) lkX11_333 hX (dk DX11_waysOn 37 rfl) rfl rfl (by simp [Value.category]) hN (call q (by omega)) ?_
          show WP _ _ _ 66 [_, _, _, _, _, _, _] [_, _, _] _
          refine wp_iadd hX (dk DX11_waysOn 38 rfl) ?_
          refine w_min hX lkX11_269 (dk DX11_waysOn 39 rfl) (by decide) ?_
          refine wp_istore hX (dk DX11_waysOn 40 rfl) rfl hN (Nat.le_of_ble_eq_true rfl) ?_
          show WP _ _ _ 72 [_, _, _, _, _, _, _] [] _
          refine wp_iinc hX (dk DX11_waysOn 41 rfl) rfl (nI_inc _) rfl hN ?_
          show WP _ _ _ 75 [_, _, _, _, _, _, _] [] _
          refine wp_goto (tgt := 32) hX (dk DX11_waysOn 42 rfl) (by decide) ?_
          first | (rw [if_pos h48] at nx; exact nx) | (rw [if_neg h48] at nx; exact nx)
    refine wp_iload_n hX (dk DX11_waysOn 0 rfl) rfl ?_
    refine wp_aload_n hX (dk DX11_waysOn 1 rfl) rfl ?_
    refine w_getr hX flX11_87 (dk DX11_waysOn 2 rfl) rfl rfl ?_
    refine wp_iload_n hX (dk DX11_waysOn 3 rfl) rfl ?_
    refine w_iald (j := _) hX (dk DX11_waysOn 4 rfl) rfl rfl (show _ < 6 by omega) ?_
    rw [hz]
    refine wp_icmp_ne (tgt := 12) hX (dk DX11_waysOn 5 rfl) (by decide) (fun _ => ?_) (fun h_ => absurd h_ (fun q => by have := (nI_eq (by omega) (by omega)).mp q; omega))
    refine wp_aload_n hX (dk DX11_waysOn 8 rfl) rfl ?_
    refine wp_iload_n hX (dk DX11_waysOn 9 rfl) rfl ?_
    refine wp_iload_n hX (dk DX11_waysOn 10 rfl) rfl ?_
    refine wp_aload_n hX (dk DX11_waysOn 11 rfl) rfl ?_
    refine w_getr hX flX11_94 (dk DX11_waysOn 12 rfl) rfl rfl ?_
    refine wp_iload_n hX (dk DX11_waysOn 13 rfl) rfl ?_
    refine w_iald (j := _) hX (dk DX11_waysOn 14 rfl) rfl rfl (show _ < 11 by omega) ?_
    rw [hs]
    refine w_callV (As := [_, _, _]) lkX11_321 hX (dk DX11_waysOn 15 rfl) rfl rfl (by decide) hN (k_mas (d + (m + 1)) sw f g n c i s hn hn10 hc (by omega) (hE i (by omega)) hsh) ?_
    show WP _ _ _ 24 [_, _, _, _, _, _, _] [_] _
    rw [← hy]
    refine wp_istore hX (dk DX11_waysOn 16 rfl) rfl hN (Nat.le_of_ble_eq_true rfl) ?_
    show WP _ _ _ 26 [_, _, _, _, _, _, _] [] _
    refine wp_iconst (v := 0) hX (dk DX11_waysOn 17 rfl) (by decide) ?_
    refine wp_istore hX (dk DX11_waysOn 18 rfl) rfl hN (Nat.le_of_ble_eq_true rfl) ?_
    show WP _ _ _ 29 [_, _, _, _, _, _, _] [] _
    refine wp_iconst (v := 0) hX (dk DX11_waysOn 19 rfl) (by decide) ?_
    refine wp_istore hX (dk DX11_waysOn 20 rfl) rfl hN (Nat.le_of_ble_eq_true rfl) ?_
    show WP _ _ _ 32 [_, _, _, _, _, _, _] [] _
    exact lo n 0 (by omega)
/-- the first of a set that has one, of the k from i on -/
def mfx (r : Nat → Int32) (s : Int32) : Nat → Nat → Nat
  | 0, i => i
  | k + 1, i => if ¬ jb s i = 0 ∧ ¬ r i = 0 then i else mfx r s k (i + 1)
theorem mfx_in {r : Nat → Int32} {s : Int32} : ∀ (k i : Nat), (∃ j, i ≤ j ∧ j < i + k ∧ ¬ jb s j = 0 ∧ ¬ r j = 0) → i ≤ mfx r s k i ∧ mfx r s k i < i + k ∧ ¬ jb s (mfx r s k i) = 0 ∧ ¬ r (mfx r s k i) = 0 ∧ ∀ j, i ≤ j → j < mfx r s k i → ¬ (¬ jb s j = 0 ∧ ¬ r j = 0)
  | 0, i, ⟨j, h1, h2, _⟩ => absurd h2 (by omega)
  | k + 1, i, ⟨j, h1, h2, h3⟩ => by
    rw [mfx]
    by_cases c : ¬ jb s i = 0 ∧ ¬ r i = 0
    · rw [if_pos c]
      exact ⟨Nat.le_refl _, by omega, c.1, c.2, fun j h1 h2 => absurd h2 (by omega)⟩
    · rw [if_neg c]
      have hij : j ≠ i := fun e => by rw [e] at h3; exact c h3
      obtain ⟨a1, a2, a3, a4, a5⟩ := mfx_in k (i + 1) ⟨j, by omega, by omega, h3⟩
      refine ⟨by omega, by omega, a3, a4, fun j h1 h2 => ?_⟩
      by_cases e : j = i
      · rw [e]; exact c
      · exact a5 j (by omega) h2
theorem wsm_ex {r : Nat → Int32} {s : Int32} : ∀ n, ¬ wsm r s n = 0 → ∃ j, j < n ∧ ¬ jb s j = 0 ∧ ¬ r j = 0
  | 0, h => absurd rfl h
  | n + 1, h => by
    rw [wsm] at h
    by_cases c : jb s n = 0
    · rw [if_pos c] at h
      obtain ⟨j, j1, j2⟩ := wsm_ex n h
      exact ⟨j, by omega, j2⟩
    · rw [if_neg c] at h
      by_cases c2 : r n = 0
      · by_cases c3 : wsm r s n = 0
        · rw [c2, c3] at h
          exact absurd (by decide) h
        · obtain ⟨j, j1, j2⟩ := wsm_ex n c3
          exact ⟨j, by omega, j2⟩
      · exact ⟨n, by omega, c, c2⟩
/-- the figure of the first unknown one of m elements -/
def mU (B : Nat → Int32) (n : Nat) (E : Nat → Int64) : Nat → Nat → Int32 → Int32
  | 0, _, _ => -2
  | m + 1, i, s => if E i = -1 then nI (mfx (fun q => wO B n E m (i + 1) (B q)) (s &&& jme n (E i)) n 0) else mU B n E m (i + 1) (B (mfx (fun q => wO B n E m (i + 1) (B q)) (s &&& jme n (E i)) n 0))
theorem k_mfu (d : Nat) (sw : Bool) (f : Nat → Nat → Int32) (g : Nat → Nat → Int64) (n c z : Nat) (B : Nat → Int32) (x : Int32) (hn : f 81 0 = nI n) (hn10 : n ≤ 10) (hc : c < 6) (hz : f 107 c = nI z) (hz60 : z ≤ 60) (hE : ∀ k, k < z → fit (g 108 (c * 60 + k))) (hB : ∀ i, i < n → f 109 i = B i) (hx : f 109 10 = x) (hh : ∀ i j, i < n → n ≤ j → j < 32 → bt (B i) j = false) (hxh : ∀ j, n ≤ j → j < 32 → bt x j = false) (hw : ¬ wO B n (fun k => g 108 (c * 60 + k)) z 0 x = 0) : CT (d + 70) 0 0 iX11_firstUnknown [.ref 81, .int (nI c)] (S sw f g) (QR (some (.int (mU B n (fun k => g 108 (c * 60 + k)) z 0 x))) (S sw f g)) := by
  obtain ⟨E, hEE⟩ : ∃ E : Nat → Int64, E = fun k => g 108 (c * 60 + k) := ⟨_, rfl⟩
  have hEi : ∀ k, g 108 (c * 60 + k) = E k := fun k => by rw [hEE]
  obtain ⟨ans, hans⟩ : ∃ a, a = mU B n E z 0 x := ⟨_, rfl⟩
  rw [← hEE] at hw ⊢
  rw [← hans]
  refine CT.of rfl (Nat.le_of_ble_eq_true rfl) (fun X hX hR hN _ => ?_)
  have hX : Good X RX11 cX11_firstUnknown (d + 70) 0 0 := hX
  have hN : x_nl X = 6 := hN
  show WP X 0 0 0 [_, _, _, _, _, _] [] _
  have lo : ∀ (m i h : Nat) (s : Int32) (z4 z5 : Option Value), i + m = z → h < 11 → f 109 h = s → (∀ j, n ≤ j → j < 32 → bt s j = false) → ¬ wO B n E m i s = 0 → ans = mU B n E m i s → WP X 0 0 5 [some (.ref 81), some (.int (nI c)), some (.int (nI h)), some (.int (nI i)), z4, z5] [] (S sw f g) := by
    intro m
    induction m with
    | zero =>
      intro i h s z4 z5 hi hh11 hs hsh hw ha
      obtain rfl : i = z := by omega
      rw [ha] at hR
      refine wp_iload_n hX (dk DX11_firstUnknown 4 rfl) rfl ?_
      refine wp_aload_n hX (dk DX11_firstUnknown 5 rfl) rfl ?_
      refine w_getr hX flX11_87 (dk DX11_firstUnknown 6 rfl) rfl rfl ?_
      refine wp_iload_n hX (dk DX11_firstUnknown 7 rfl) rfl ?_
      refine w_iald (j := _) hX (dk DX11_firstUnknown 8 rfl) rfl rfl (show _ < 6 by omega) ?_
      rw [hz]
      refine wp_icmp_ge (tgt := 83) hX (dk DX11_firstUnknown 9 rfl) (by decide) (fun _ => ?_) (fun h_ => absurd (nI_le (by omega) (by omega)) h_)
      refine wp_bipush (v := -2) hX (dk DX11_firstUnknown 47 rfl) (by decide) ?_
      exact wp_ireturn hX hR (dk DX11_firstUnknown 48 rfl) rfl (Nat.le_refl _) (Nat.le_refl _) (⟨rfl, rfl⟩)
    | succ m ih =>
      intro i h s z4 z5 hi hh11 hs hsh hw ha
      obtain ⟨y, hy⟩ : ∃ y, y = s &&& jme n (E i) := ⟨_, rfl⟩
      obtain ⟨r, hr⟩ : ∃ r : Nat → Int32, r = fun q => wO B n E m (i + 1) (B q) := ⟨_, rfl⟩
      have call : ∀ q, q < n → CT (d + 69) 0 0 iX11_waysOn [.ref 81, .int (nI c), .int (nI i + 1), .int (nI q)] (S sw f g) (QR (some (.int (r q))) (S sw f g)) := fun q hq => by
        have := k_mways sw f g n c z B x hn hn10 hc hz hz60 hE hB hh m (d + 66 - m) (i + 1) q (B q) (by omega) (by omega) (hB q hq) (fun j h1 h2 => hh q j hq h1 h2)
        rw [show d + 66 - m + m + 3 = d + 69 by omega, ← nI_1, ← hEE] at this
        rw [hr]
        exact this
      rw [wO, ← hy, ← hr] at hw
      rw [mU, ← hy, ← hr] at ha
      obtain ⟨j0, j1, j2, j3⟩ := wsm_ex n hw
      obtain ⟨a1, a2, a3, a4, a5⟩ := mfx_in (r := r) (s := y) n 0 ⟨j0, by omega, by omega, j2, j3⟩
      obtain ⟨G, hG⟩ : ∃ G, G = mfx r y n 0 := ⟨_, rfl⟩
      rw [← hG] at a1 a2 a3 a4 a5 ha
      have as1 := k_mas (d + 67) sw f g n c i s hn hn10 hc (by omega) (hE i (by omega)) hsh
      have td := k_mtold (d + 69) sw f g c i hc (by omega)
      have hEf := hE i (by omega)
      rw [hEi, ← hy] at as1
      rw [hEi] at td hEf
      have fin : WP X 0 0 61 [some (.ref 81), some (.int (nI c)), some (.int (nI h)), some (.int (nI i)), some (.int y), some (.int (nI G))] [] (S sw f g) := by
        by_cases ce : E i = -1
        · rw [if_pos ce] at ha
          rw [ha] at hR
          refine wp_aload_n hX (dk DX11_firstUnknown 35 rfl) rfl ?_
          refine wp_iload_n hX (dk DX11_firstUnknown 36 rfl) rfl ?_
          refine wp_iload_n hX (dk DX11_firstUnknown 37 rfl) rfl ?_
          refine w_callV (As := [_, _]) lkX11_318 hX (dk DX11_firstUnknown 38 rfl) rfl rfl (by decide) hN (td) ?_
          show WP _ _ _ 67 [_, _, _, _, _, _] [_] _
          refine wp_iconst (v := -1) hX (dk DX11_firstUnknown 39 rfl) (by decide) ?_
          refine wp_icmp_ne (tgt := 74) hX (dk DX11_firstUnknown 40 rfl) (by decide) (fun h_ => absurd ((fit_m1 hEf).mp ce) h_) (fun _ => ?_)
          refine wp_iload hX (dk DX11_firstUnknown 41 rfl) rfl ?_
          exact wp_ireturn hX hR (dk DX11_firstUnknown 42 rfl) rfl (Nat.le_refl _) (Nat.le_refl _) (⟨rfl, rfl⟩)
        · rw [if_neg ce] at ha
          refine wp_aload_n hX (dk DX11_firstUnknown 35 rfl) rfl ?_
          refine wp_iload_n hX (dk DX11_firstUnknown 36 rfl) rfl ?_
          refine wp_iload_n hX (dk DX11_firstUnknown 37 rfl) rfl ?_
          refine w_callV (As := [_, _]) lkX11_318 hX (dk DX11_firstUnknown 38 rfl) rfl rfl (by decide) hN (td) ?_
          show WP _ _ _ 67 [_, _, _, _, _, _] [_] _
          refine wp_iconst (v := -1) hX (dk DX11_firstUnknown 39 rfl) (by decide) ?_
          refine wp_icmp_ne (tgt := 74) hX (dk DX11_firstUnknown 40 rfl) (by decide) (fun _ => ?_) (fun h_ => absurd h_ (fun q => ce ((fit_m1 hEf).mpr q)))
          refine wp_iload hX (dk DX11_firstUnknown 43 rfl) rfl ?_
          refine wp_istore_n hX (dk DX11_firstUnknown 44 rfl) rfl rfl hN (Nat.le_of_ble_eq_true rfl) ?_
          show WP _ _ _ 77 [_, _, _, _, _, _] [] _
          refine wp_iinc hX (dk DX11_firstUnknown 45 rfl) rfl (nI_inc _) rfl hN ?_
          show WP _ _ _ 80 [_, _, _, _, _, _] [] _
          refine wp_goto (tgt := 5) hX (dk DX11_firstUnknown 46 rfl) (by decide) ?_
          exact ih (i + 1) G (B G) _ _ (by omega) (by omega) (hB G (by omega)) (fun j h1 h2 => hh G j (by omega) h1 h2) (by rw [hr] at a4; exact a4) ha
      have lo2 : ∀ (u q : Nat), q + u = G → WP X 0 0 32 [some (.ref 81), some (.int (nI c)), some (.int (nI h)), some (.int (nI i)), some (.int y), some (.int (nI q))] [] (S sw f g) := by
        intro u
        induction u with
        | zero =>
          intro q hq
          obtain rfl : q = G := by omega
          refine wp_iload hX (dk DX11_firstUnknown 21 rfl) rfl ?_
          refine wp_iload hX (dk DX11_firstUnknown 22 rfl) rfl ?_
          refine w_callS (As := [_, _]) lkX11_138 hX (dk DX11_firstUnknown 23 rfl) rfl (by decide) (k_mhas (d + 69) _ _ _) ?_
          show WP _ _ _ 39 [_, _, _, _, _, _] [_] _
          refine wp_if_eq (tgt := 55) hX (dk DX11_firstUnknown 24 rfl) (by decide) (fun h_ => absurd h_ (a3)) (fun _ => ?_)
          refine wp_aload_n hX (dk DX11_firstUnknown 25 rfl) rfl ?_
          refine wp_iload_n hX (dk DX11_firstUnknown 26 rfl) rfl ?_
          refine wp_iload_n hX (dk DX11_firstUnknown 27 rfl) rfl ?_
          refine wp_iconst (v := 1) hX (dk DX11_firstUnknown 28 rfl) (by decide) ?_
          refine wp_iadd hX (dk DX11_firstUnknown 29 rfl) ?_
          refine wp_iload hX (dk DX11_firstUnknown 30 rfl) rfl ?_
          refine w_callV (As := [_, _, _]) lkX11_333 hX (dk DX11_firstUnknown 31 rfl) rfl rfl (by decide) hN (call q (by omega)) ?_
          show WP _ _ _ 52 [_, _, _, _, _, _] [_] _
          refine wp_if_ne (tgt := 61) hX (dk DX11_firstUnknown 32 rfl) (by decide) (fun _ => ?_) (fun h_ => absurd h_ (a4))
          exact fin
        | succ u ihu =>
          intro q hq
          have no := a5 q (Nat.zero_le _) (by omega)
          refine wp_iload hX (dk DX11_firstUnknown 21 rfl) rfl ?_
          refine wp_iload hX (dk DX11_firstUnknown 22 rfl) rfl ?_
          refine w_callS (As := [_, _]) lkX11_138 hX (dk DX11_firstUnknown 23 rfl) rfl (by decide) (k_mhas (d + 69) _ _ _) ?_
          show WP _ _ _ 39 [_, _, _, _, _, _] [_] _
          refine wp_if_eq (tgt := 55) hX (dk DX11_firstUnknown 24 rfl) (by decide) (fun h39 => ?_) (fun h39 => ?_)
          · refine wp_iinc hX (dk DX11_firstUnknown 33 rfl) rfl (nI_inc _) rfl hN ?_
            show WP _ _ _ 58 [_, _, _, _, _, _] [] _
            refine wp_goto (tgt := 32) hX (dk DX11_firstUnknown 34 rfl) (by decide) ?_
            exact ihu (q + 1) (by omega)
          · refine wp_aload_n hX (dk DX11_firstUnknown 25 rfl) rfl ?_
            refine wp_iload_n hX (dk DX11_firstUnknown 26 rfl) rfl ?_
            refine wp_iload_n hX (dk DX11_firstUnknown 27 rfl) rfl ?_
            refine wp_iconst (v := 1) hX (dk DX11_firstUnknown 28 rfl) (by decide) ?_
            refine wp_iadd hX (dk DX11_firstUnknown 29 rfl) ?_
            refine wp_iload hX (dk DX11_firstUnknown 30 rfl) rfl ?_
            refine w_callV (As := [_, _, _]) lkX11_333 hX (dk DX11_firstUnknown 31 rfl) rfl rfl (by decide) hN (call q (by omega)) ?_
            show WP _ _ _ 52 [_, _, _, _, _, _] [_] _
            refine wp_if_ne (tgt := 61) hX (dk DX11_firstUnknown 32 rfl) (by decide) (fun h_ => absurd (Classical.byContradiction (fun z => no ⟨h39, z⟩)) h_) (fun _ => ?_)
            refine wp_iinc hX (dk DX11_firstUnknown 33 rfl) rfl (nI_inc _) rfl hN ?_
            show WP _ _ _ 58 [_, _, _, _, _, _] [] _
            refine wp_goto (tgt := 32) hX (dk DX11_firstUnknown 34 rfl) (by decide) ?_
            exact ihu (q + 1) (by omega)
      refine wp_iload_n hX (dk DX11_firstUnknown 4 rfl) rfl ?_
      refine wp_aload_n hX (dk DX11_firstUnknown 5 rfl) rfl ?_
      refine w_getr hX flX11_87 (dk DX11_firstUnknown 6 rfl) rfl rfl ?_
      refine wp_iload_n hX (dk DX11_firstUnknown 7 rfl) rfl ?_
      refine w_iald (j := _) hX (dk DX11_firstUnknown 8 rfl) rfl rfl (show _ < 6 by omega) ?_
      rw [hz]
      refine wp_icmp_ge (tgt := 83) hX (dk DX11_firstUnknown 9 rfl) (by decide) (fun h_ => absurd h_ (nI_ge (by omega) (by omega))) (fun _ => ?_)
      refine wp_aload_n hX (dk DX11_firstUnknown 10 rfl) rfl ?_
      refine wp_iload_n hX (dk DX11_firstUnknown 11 rfl) rfl ?_
      refine wp_iload_n hX (dk DX11_firstUnknown 12 rfl) rfl ?_
      refine wp_aload_n hX (dk DX11_firstUnknown 13 rfl) rfl ?_
      refine w_getr hX flX11_94 (dk DX11_firstUnknown 14 rfl) rfl rfl ?_
      refine wp_iload_n hX (dk DX11_firstUnknown 15 rfl) rfl ?_
      refine w_iald (j := _) hX (dk DX11_firstUnknown 16 rfl) rfl rfl (show _ < 11 by omega) ?_
      rw [hs]
      refine w_callV (As := [_, _, _]) lkX11_321 hX (dk DX11_firstUnknown 17 rfl) rfl rfl (by decide) hN (as1) ?_
      show WP _ _ _ 27 [_, _, _, _, _, _] [_] _
      refine wp_istore hX (dk DX11_firstUnknown 18 rfl) rfl hN (Nat.le_of_ble_eq_true rfl) ?_
      show WP _ _ _ 29 [_, _, _, _, _, _] [] _
      refine wp_iconst (v := 0) hX (dk DX11_firstUnknown 19 rfl) (by decide) ?_
      refine wp_istore hX (dk DX11_firstUnknown 20 rfl) rfl hN (Nat.le_of_ble_eq_true rfl) ?_
      show WP _ _ _ 32 [_, _, _, _, _, _] [] _
      exact lo2 G 0 (by omega)
  refine wp_bipush (v := 10) hX (dk DX11_firstUnknown 0 rfl) (by decide) ?_
  refine wp_istore_n hX (dk DX11_firstUnknown 1 rfl) rfl rfl hN (Nat.le_of_ble_eq_true rfl) ?_
  show WP _ _ _ 3 [_, _, _, _, _, _] [] _
  refine wp_iconst (v := 0) hX (dk DX11_firstUnknown 2 rfl) (by decide) ?_
  refine wp_istore_n hX (dk DX11_firstUnknown 3 rfl) rfl rfl hN (Nat.le_of_ble_eq_true rfl) ?_
  show WP _ _ _ 5 [_, _, _, _, _, _] [] _
  exact lo z 0 10 x _ _ (by omega) (by omega) hx hxh hw hans
theorem u_filled0 (d : Nat) (sw : Bool) (f : Nat → Nat → Int32) (g : Nat → Nat → Int64) (m : Nat) (x y w : Int32) (hm : f 81 5 = nI m) (hm6 : m ≤ 6) (h : ¬ ((∃ c, c < 6 ∧ x = nI c) ∧ (∃ b, b < m ∧ y = nI b) ∧ ∃ q, q < 2 ∧ w = nI q)) : CT (d + 110) 0 0 iX11_filled [.ref 81, .int x, .int y, .int w] (S sw f g) (rdM g f (-1)) := by
  refine CT.rdM ?_
  refine CT.of rfl (Nat.le_of_ble_eq_true rfl) (fun X hX hR hN _ => ?_)
  have hX : Good X RX11 cX11_filled (d + 110) 0 0 := hX
  have hN : x_nl X = 6 := hN
  show WP X 0 0 0 [_, _, _, _, _, _] [] _
  by_cases c1 : ∃ c, c < 6 ∧ x = nI c
  · obtain ⟨c, hc, rfl⟩ := c1
    by_cases c2 : ∃ b, b < m ∧ y = nI b
    · obtain ⟨b, hb, rfl⟩ := c2
      refine wp_iload_n hX (dk DX11_filled 0 rfl) rfl ?_
      refine w_callS (As := [_]) lkX11_174 hX (dk DX11_filled 1 rfl) rfl (by decide) (k_mH1 (d + 108) sw f g c hc) ?_
      show WP _ _ _ 4 [_, _, _, _, _, _] [_] _
      refine wp_if_eq (tgt := 24) hX (dk DX11_filled 2 rfl) (by decide) (fun h_ => absurd h_ (by decide)) (fun _ => ?_)
      refine wp_aload_n hX (dk DX11_filled 3 rfl) rfl ?_
      refine wp_iload_n hX (dk DX11_filled 4 rfl) rfl ?_
      refine w_callV (As := [_]) lkX11_123 hX (dk DX11_filled 5 rfl) rfl rfl (by decide) hN (k_mB1 (d + 108) sw f g m b hm hm6 hb) ?_
      show WP _ _ _ 12 [_, _, _, _, _, _] [_] _
      refine wp_if_eq (tgt := 24) hX (dk DX11_filled 6 rfl) (by decide) (fun h_ => absurd h_ (by decide)) (fun _ => ?_)
      refine wp_iload_n hX (dk DX11_filled 7 rfl) rfl ?_
      refine wp_iconst (v := 0) hX (dk DX11_filled 8 rfl) (by decide) ?_
      refine wp_iconst (v := 1) hX (dk DX11_filled 9 rfl) (by decide) ?_
      refine w_callS (As := [_, _, _]) lkX11_116 hX (dk DX11_filled 10 rfl) rfl (by decide) (k_wi0 (d + 109) 1 w 1 _ rfl (by decide) (fun ⟨i, h1, h2⟩ => h ⟨⟨c, hc, rfl⟩, ⟨b, hb, rfl⟩, i, by omega, h2⟩)) ?_
      show WP _ _ _ 21 [_, _, _, _, _, _] [_] _
      refine wp_if_ne (tgt := 26) hX (dk DX11_filled 11 rfl) (by decide) (fun h_ => absurd (rfl) h_) (fun _ => ?_)
      refine wp_iconst (v := -1) hX (dk DX11_filled 12 rfl) (by decide) ?_
      exact wp_ireturn hX hR (dk DX11_filled 13 rfl) rfl (Nat.le_refl _) (Nat.le_refl _) (⟨rfl, rfl⟩)
    · refine wp_iload_n hX (dk DX11_filled 0 rfl) rfl ?_
      refine w_callS (As := [_]) lkX11_174 hX (dk DX11_filled 1 rfl) rfl (by decide) (k_mH1 (d + 108) sw f g c hc) ?_
      show WP _ _ _ 4 [_, _, _, _, _, _] [_] _
      refine wp_if_eq (tgt := 24) hX (dk DX11_filled 2 rfl) (by decide) (fun h_ => absurd h_ (by decide)) (fun _ => ?_)
      refine wp_aload_n hX (dk DX11_filled 3 rfl) rfl ?_
      refine wp_iload_n hX (dk DX11_filled 4 rfl) rfl ?_
      refine w_callV (As := [_]) lkX11_123 hX (dk DX11_filled 5 rfl) rfl rfl (by decide) hN (k_mB0 (d + 108) sw f g m y hm hm6 c2) ?_
      show WP _ _ _ 12 [_, _, _, _, _, _] [_] _
      refine wp_if_eq (tgt := 24) hX (dk DX11_filled 6 rfl) (by decide) (fun _ => ?_) (fun h_ => absurd (rfl) h_)
      refine wp_iconst (v := -1) hX (dk DX11_filled 12 rfl) (by decide) ?_
      exact wp_ireturn hX hR (dk DX11_filled 13 rfl) rfl (Nat.le_refl _) (Nat.le_refl _) (⟨rfl, rfl⟩)
  · refine wp_iload_n hX (dk DX11_filled 0 rfl) rfl ?_
    refine w_callS (As := [_]) lkX11_174 hX (dk DX11_filled 1 rfl) rfl (by decide) (k_mH0 (d + 108) sw f g x c1) ?_
    show WP _ _ _ 4 [_, _, _, _, _, _] [_] _
    refine wp_if_eq (tgt := 24) hX (dk DX11_filled 2 rfl) (by decide) (fun _ => ?_) (fun h_ => absurd (rfl) h_)
    refine wp_iconst (v := -1) hX (dk DX11_filled 12 rfl) (by decide) ?_
    exact wp_ireturn hX hR (dk DX11_filled 13 rfl) rfl (Nat.le_refl _) (Nat.le_refl _) (⟨rfl, rfl⟩)
theorem u_filledR (d : Nat) (sw : Bool) (f : Nat → Nat → Int32) (g : Nat → Nat → Int64) (m c b w : Nat) (hm : f 81 5 = nI m) (hm6 : m ≤ 6) (hc : c < 6) (hb : b < m) (hw : w < 2) (h : ¬ jrf (f 106 c) = 0) : CT (d + 110) 0 0 iX11_filled [.ref 81, .int (nI c), .int (nI b), .int (nI w)] (S sw f g) (rdM g f (jrf (f 106 c))) := by
  refine CT.rdM ?_
  refine CT.of rfl (Nat.le_of_ble_eq_true rfl) (fun X hX hR hN _ => ?_)
  have hX : Good X RX11 cX11_filled (d + 110) 0 0 := hX
  have hN : x_nl X = 6 := hN
  show WP X 0 0 0 [_, _, _, _, _, _] [] _
  refine wp_iload_n hX (dk DX11_filled 0 rfl) rfl ?_
  refine w_callS (As := [_]) lkX11_174 hX (dk DX11_filled 1 rfl) rfl (by decide) (k_mH1 (d + 108) sw f g c hc) ?_
  show WP _ _ _ 4 [_, _, _, _, _, _] [_] _
  refine wp_if_eq (tgt := 24) hX (dk DX11_filled 2 rfl) (by decide) (fun h_ => absurd h_ (by decide)) (fun _ => ?_)
  refine wp_aload_n hX (dk DX11_filled 3 rfl) rfl ?_
  refine wp_iload_n hX (dk DX11_filled 4 rfl) rfl ?_
  refine w_callV (As := [_]) lkX11_123 hX (dk DX11_filled 5 rfl) rfl rfl (by decide) hN (k_mB1 (d + 108) sw f g m b hm hm6 hb) ?_
  show WP _ _ _ 12 [_, _, _, _, _, _] [_] _
  refine wp_if_eq (tgt := 24) hX (dk DX11_filled 6 rfl) (by decide) (fun h_ => absurd h_ (by decide)) (fun _ => ?_)
  refine wp_iload_n hX (dk DX11_filled 7 rfl) rfl ?_
  refine wp_iconst (v := 0) hX (dk DX11_filled 8 rfl) (by decide) ?_
  refine wp_iconst (v := 1) hX (dk DX11_filled 9 rfl) (by decide) ?_
  refine w_callS (As := [_, _, _]) lkX11_116 hX (dk DX11_filled 10 rfl) rfl (by decide) (k_wi1 (d + 109) w 1 1 _ rfl (by decide) (by omega)) ?_
  show WP _ _ _ 21 [_, _, _, _, _, _] [_] _
  refine wp_if_ne (tgt := 26) hX (dk DX11_filled 11 rfl) (by decide) (fun _ => ?_) (fun h_ => absurd h_ (by decide))
  refine wp_aload_n hX (dk DX11_filled 14 rfl) rfl ?_
  refine wp_iload_n hX (dk DX11_filled 15 rfl) rfl ?_
  refine w_callV (As := [_]) lkX11_327 hX (dk DX11_filled 16 rfl) rfl rfl (by decide) hN (k_mnor (d + 109) sw f g c hc) ?_
  show WP _ _ _ 31 [_, _, _, _, _, _] [_] _
  refine wp_istore hX (dk DX11_filled 17 rfl) rfl hN (Nat.le_of_ble_eq_true rfl) ?_
  show WP _ _ _ 33 [_, _, _, _, _, _] [] _
  refine wp_iload hX (dk DX11_filled 18 rfl) rfl ?_
  refine wp_if_ge (tgt := 41) hX (dk DX11_filled 19 rfl) (by decide) (fun h_ => absurd h_ (jrf_lt h)) (fun _ => ?_)
  refine wp_iload hX (dk DX11_filled 20 rfl) rfl ?_
  exact wp_ireturn hX hR (dk DX11_filled 21 rfl) rfl (Nat.le_refl _) (Nat.le_refl _) (⟨rfl, rfl⟩)
theorem u_filled1 (d : Nat) (sw : Bool) (f : Nat → Nat → Int32) (g : Nat → Nat → Int64) (n m c b z w : Nat) (sh : Nat → Int32) (hF : mFg f n sh) (hm : f 81 5 = nI m) (hm6 : m ≤ 6) (hc : c < 6) (hb : b < m) (hw : w < 2) (h : jrf (f 106 c) = 0) (hz : f 107 c = nI z) (hz60 : z ≤ 60) (hE : ∀ k, k < z → fit (g 108 (c * 60 + k))) : CT (d + 110) 0 0 iX11_filled [.ref 81, .int (nI c), .int (nI b), .int (nI w)] (S sw f g) (rdM g f (if w = 0 then wO (BB sh n) n (fun i => g 108 (c * 60 + i)) z 0 (jfo sh n (f 86 b)) else if wO (BB sh n) n (fun i => g 108 (c * 60 + i)) z 0 (jfo sh n (f 86 b)) = 0 then -2 else mU (BB sh n) n (fun i => g 108 (c * 60 + i)) z 0 (jfo sh n (f 86 b)))) := by
  have hn10 := hF.2.1
  obtain ⟨x, hx⟩ : ∃ x, x = jfo sh n (f 86 b) := ⟨_, rfl⟩
  have hxh : ∀ j, n ≤ j → j < 32 → bt x j = false := fun j h1 h2 => by rw [hx]; exact jfo_hi hn10 h1 h2
  rw [← hx]
  obtain ⟨a, ha⟩ : ∃ a, a = wO (BB sh n) n (fun i => g 108 (c * 60 + i)) z 0 x := ⟨_, rfl⟩
  rw [← ha]
  refine CT.of rfl (Nat.le_of_ble_eq_true rfl) (fun X hX hR hN _ => ?_)
  have hX : Good X RX11 cX11_filled (d + 110) 0 0 := hX
  have hN : x_nl X = 6 := hN
  show WP X 0 0 0 [_, _, _, _, _, _] [] _
  refine wp_iload_n hX (dk DX11_filled 0 rfl) rfl ?_
  refine w_callS (As := [_]) lkX11_174 hX (dk DX11_filled 1 rfl) rfl (by decide) (k_mH1 (d + 108) sw f g c hc) ?_
  show WP _ _ _ 4 [_, _, _, _, _, _] [_] _
  refine wp_if_eq (tgt := 24) hX (dk DX11_filled 2 rfl) (by decide) (fun h_ => absurd h_ (by decide)) (fun _ => ?_)
  refine wp_aload_n hX (dk DX11_filled 3 rfl) rfl ?_
  refine wp_iload_n hX (dk DX11_filled 4 rfl) rfl ?_
  refine w_callV (As := [_]) lkX11_123 hX (dk DX11_filled 5 rfl) rfl rfl (by decide) hN (k_mB1 (d + 108) sw f g m b hm hm6 hb) ?_
  show WP _ _ _ 12 [_, _, _, _, _, _] [_] _
  refine wp_if_eq (tgt := 24) hX (dk DX11_filled 6 rfl) (by decide) (fun h_ => absurd h_ (by decide)) (fun _ => ?_)
  refine wp_iload_n hX (dk DX11_filled 7 rfl) rfl ?_
  refine wp_iconst (v := 0) hX (dk DX11_filled 8 rfl) (by decide) ?_
  refine wp_iconst (v := 1) hX (dk DX11_filled 9 rfl) (by decide) ?_
  refine w_callS (As := [_, _, _]) lkX11_116 hX (dk DX11_filled 10 rfl) rfl (by decide) (k_wi1 (d + 109) w 1 1 _ rfl (by decide) (by omega)) ?_
  show WP _ _ _ 21 [_, _, _, _, _, _] [_] _
  refine wp_if_ne (tgt := 26) hX (dk DX11_filled 11 rfl) (by decide) (fun _ => ?_) (fun h_ => absurd h_ (by decide))
  refine wp_aload_n hX (dk DX11_filled 14 rfl) rfl ?_
  refine wp_iload_n hX (dk DX11_filled 15 rfl) rfl ?_
  refine w_callV (As := [_]) lkX11_327 hX (dk DX11_filled 16 rfl) rfl rfl (by decide) hN (k_mnor (d + 109) sw f g c hc) ?_
  show WP _ _ _ 31 [_, _, _, _, _, _] [_] _
  rw [h]
  refine wp_istore hX (dk DX11_filled 17 rfl) rfl hN (Nat.le_of_ble_eq_true rfl) ?_
  show WP _ _ _ 33 [_, _, _, _, _, _] [] _
  refine wp_iload hX (dk DX11_filled 18 rfl) rfl ?_
  refine wp_if_ge (tgt := 41) hX (dk DX11_filled 19 rfl) (by decide) (fun _ => ?_) (fun h_ => absurd (by decide) h_)
  refine wp_aload_n hX (dk DX11_filled 22 rfl) rfl ?_
  refine wp_aload_n hX (dk DX11_filled 23 rfl) rfl ?_
  refine w_getr hX flX11_24 (dk DX11_filled 24 rfl) rfl rfl ?_
  refine wp_iload_n hX (dk DX11_filled 25 rfl) rfl ?_
  refine w_iald (j := _) hX (dk DX11_filled 26 rfl) rfl rfl (show _ < 6 by omega) ?_
  refine w_callVQ (As := [_]) lkX11_287 hX (dk DX11_filled 27 rfl) rfl rfl (by decide) hN (k_looks (d + 103) sw f g n sh _ hF) (fun v_a sw_a f_a g_a hq_a => ?_)
  obtain ⟨rfl, rfl, rfl, e1, e2⟩ := hq_a
  show WP _ _ _ 51 [_, _, _, _, _, _] [] _
  skip
  have hn : f_a 81 0 = nI n := by rw [e1 81 (by decide)]; exact hF.1
  have hza : f_a 107 c = nI z := by rw [e1 107 (by decide)]; exact hz
  have hxa : f_a 109 10 = x := by rw [hx]; exact e2.2
  have fin : qM f f_a := ⟨fun c _ _ h3 => e1 c (by omega), fun i _ => by rw [e1 81 (by decide)]⟩
  have ct := k_mways sw_a f_a g_a n c z (BB sh n) x hn hn10 hc hza hz60 hE e2.1 (BB_hi hn10) z (d + 106 - z) 0 10 x (by omega) (by omega) hxa hxh
  rw [show d + 106 - z + z + 3 = d + 109 by omega, ← ha] at ct
  have hw2 : w = 0 ∨ w = 1 := by omega
  rcases hw2 with rfl | rfl
  · refine wp_aload_n hX (dk DX11_filled 28 rfl) rfl ?_
    refine wp_iload_n hX (dk DX11_filled 29 rfl) rfl ?_
    refine wp_iconst (v := 0) hX (dk DX11_filled 30 rfl) (by decide) ?_
    refine wp_bipush (v := 10) hX (dk DX11_filled 31 rfl) (by decide) ?_
    refine w_callV (As := [_, _, _]) lkX11_333 hX (dk DX11_filled 32 rfl) rfl rfl (by decide) hN (ct) ?_
    show WP _ _ _ 59 [_, _, _, _, _, _] [_] _
    refine wp_istore hX (dk DX11_filled 33 rfl) rfl hN (Nat.le_of_ble_eq_true rfl) ?_
    show WP _ _ _ 61 [_, _, _, _, _, _] [] _
    refine wp_iload_n hX (dk DX11_filled 34 rfl) rfl ?_
    refine wp_if_ne (tgt := 68) hX (dk DX11_filled 35 rfl) (by decide) (fun h_ => absurd (rfl) h_) (fun _ => ?_)
    refine wp_iload hX (dk DX11_filled 36 rfl) rfl ?_
    exact wp_ireturn hX hR (dk DX11_filled 37 rfl) rfl (Nat.le_refl _) (Nat.le_refl _) (⟨_, _, _, rfl, rfl, rfl, fin⟩)
  · by_cases c0 : a = 0
    · have hR : RQ X _ 0 0 (rdM _ f (if a = 0 then -2 else _)) := hR
      rw [if_pos c0] at hR
      refine wp_aload_n hX (dk DX11_filled 28 rfl) rfl ?_
      refine wp_iload_n hX (dk DX11_filled 29 rfl) rfl ?_
      refine wp_iconst (v := 0) hX (dk DX11_filled 30 rfl) (by decide) ?_
      refine wp_bipush (v := 10) hX (dk DX11_filled 31 rfl) (by decide) ?_
      refine w_callV (As := [_, _, _]) lkX11_333 hX (dk DX11_filled 32 rfl) rfl rfl (by decide) hN (ct) ?_
      show WP _ _ _ 59 [_, _, _, _, _, _] [_] _
      refine wp_istore hX (dk DX11_filled 33 rfl) rfl hN (Nat.le_of_ble_eq_true rfl) ?_
      show WP _ _ _ 61 [_, _, _, _, _, _] [] _
      refine wp_iload_n hX (dk DX11_filled 34 rfl) rfl ?_
      refine wp_if_ne (tgt := 68) hX (dk DX11_filled 35 rfl) (by decide) (fun _ => ?_) (fun h_ => absurd h_ (by decide))
      refine wp_iload hX (dk DX11_filled 38 rfl) rfl ?_
      refine wp_if_ne (tgt := 78) hX (dk DX11_filled 39 rfl) (by decide) (fun h_ => absurd (c0) h_) (fun _ => ?_)
      refine wp_bipush (v := -2) hX (dk DX11_filled 40 rfl) (by decide) ?_
      refine wp_goto (tgt := 83) hX (dk DX11_filled 41 rfl) (by decide) ?_
      exact wp_ireturn hX hR (dk DX11_filled 45 rfl) rfl (Nat.le_refl _) (Nat.le_refl _) (⟨_, _, _, rfl, rfl, rfl, fin⟩)
    · have hR : RQ X _ 0 0 (rdM _ f (if a = 0 then -2 else _)) := hR
      rw [if_neg c0] at hR
      refine wp_aload_n hX (dk DX11_filled 28 rfl) rfl ?_
      refine wp_iload_n hX (dk DX11_filled 29 rfl) rfl ?_
      refine wp_iconst (v := 0) hX (dk DX11_filled 30 rfl) (by decide) ?_
      refine wp_bipush (v := 10) hX (dk DX11_filled 31 rfl) (by decide) ?_
      refine w_callV (As := [_, _, _]) lkX11_333 hX (dk DX11_filled 32 rfl) rfl rfl (by decide) hN (ct) ?_
      show WP _ _ _ 59 [_, _, _, _, _, _] [_] _
      refine wp_istore hX (dk DX11_filled 33 rfl) rfl hN (Nat.le_of_ble_eq_true rfl) ?_
      show WP _ _ _ 61 [_, _, _, _, _, _] [] _
      refine wp_iload_n hX (dk DX11_filled 34 rfl) rfl ?_
      refine wp_if_ne (tgt := 68) hX (dk DX11_filled 35 rfl) (by decide) (fun _ => ?_) (fun h_ => absurd h_ (by decide))
      refine wp_iload hX (dk DX11_filled 38 rfl) rfl ?_
      refine wp_if_ne (tgt := 78) hX (dk DX11_filled 39 rfl) (by decide) (fun _ => ?_) (fun h_ => absurd h_ (c0))
      refine wp_aload_n hX (dk DX11_filled 42 rfl) rfl ?_
      refine wp_iload_n hX (dk DX11_filled 43 rfl) rfl ?_
      refine w_callV (As := [_]) lkX11_336 hX (dk DX11_filled 44 rfl) rfl rfl (by decide) hN (k_mfu (d + 39) sw_a f_a g_a n c z (BB sh n) x hn hn10 hc hza hz60 hE e2.1 hxa (BB_hi hn10) hxh (by rw [← ha]; exact c0)) ?_
      show WP _ _ _ 83 [_, _, _, _, _, _] [_] _
      exact wp_ireturn hX hR (dk DX11_filled 45 rfl) rfl (Nat.le_refl _) (Nat.le_refl _) (⟨_, _, _, rfl, rfl, rfl, fin⟩)
