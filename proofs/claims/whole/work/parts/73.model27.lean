/-! REFERENCE: told -/
/-- as an int it is what it is -/
def fit (E : Int64) : Prop := E.toInt32.toInt64 = E
theorem fit_m1 {E : Int64} (h : fit E) : E = -1 ↔ E.toInt32 = -1 := ⟨fun e => by rw [e]; decide, fun e => by rw [← h, e]; decide⟩
theorem fit_in {E : Int64} (h : fit E) {n : Nat} (hn : n ≤ 10) : (¬ E < 0 ∧ E < lN n) ↔ ∃ q, q < n ∧ E.toInt32 = nI q := by
  constructor
  · rintro ⟨h1, h2⟩
    rw [Int64.lt_iff_toInt_lt] at h1 h2
    rw [lN_toInt (by omega)] at h2
    have h0 : (0 : Int64).toInt = 0 := by decide
    rw [h0] at h1
    have e : E = lN E.toInt.toNat := Int64.toInt_inj.mp (by rw [lN_toInt (by omega)]; omega)
    exact ⟨E.toInt.toNat, by omega, by rw [e, lN_i, ← e]⟩
  · rintro ⟨q, h1, h2⟩
    have e : E = lN q := by rw [← h, h2, nI_l (by omega)]
    have h0 : (0 : Int64).toInt = 0 := by decide
    rw [e, Int64.lt_iff_toInt_lt, h0, lN_toInt (by omega), lN_lt (by omega) (by omega)]
    omega
theorem and_all {bits : Int32} {n : Nat} (hn : n ≤ 10) (hb : ∀ j, n ≤ j → j < 32 → bt bits j = false) : bits &&& jall (nI n) = bits := by
  refine b_ext (fun i hi => ?_)
  rw [b_and, bt_all (by omega) hi]
  by_cases c : i < n
  · rw [decide_eq_true c, Bool.and_true]
  · rw [hb i (by omega) hi, Bool.false_and]
theorem ix60m (c i : Nat) : (60 : Int32) * nI c + nI i = nI (c * 60 + i) := by rw [show (60 : Int32) = nI 60 from rfl, pk_mul, nI_add, Nat.mul_comm]
theorem k_mtold (d : Nat) (sw : Bool) (f : Nat → Nat → Int32) (g : Nat → Nat → Int64) (c i : Nat) (hc : c < 6) (hi : i < 60) : CT d 0 0 iX11_toldAt [.ref 81, .int (nI c), .int (nI i)] (S sw f g) (QR (some (.int (g 108 (c * 60 + i)).toInt32)) (S sw f g)) := by
  refine CT.of rfl (Nat.le_of_ble_eq_true rfl) (fun X hX hR hN _ => ?_)
  have hX : Good X RX11 cX11_toldAt d 0 0 := hX
  have hN : x_nl X = 3 := hN
  show WP X 0 0 0 [_, _, _] [] _
  refine wp_aload_n hX (dk DX11_toldAt 0 rfl) rfl ?_
  refine w_getr hX flX11_90 (dk DX11_toldAt 1 rfl) rfl rfl ?_
  refine wp_bipush (v := 60) hX (dk DX11_toldAt 2 rfl) (by decide) ?_
  refine wp_iload_n hX (dk DX11_toldAt 3 rfl) rfl ?_
  refine wp_imul hX (dk DX11_toldAt 4 rfl) ?_
  refine wp_iload_n hX (dk DX11_toldAt 5 rfl) rfl ?_
  refine wp_iadd hX (dk DX11_toldAt 6 rfl) ?_
  refine w_lald (j := (c * 60 + i)) hX (dk DX11_toldAt 7 rfl) rfl (ix60m c i) (show _ < 360 by omega) ?_
  refine wp_l2i hX (dk DX11_toldAt 8 rfl) ?_
  exact wp_ireturn hX hR (dk DX11_toldAt 9 rfl) rfl (Nat.le_refl _) (Nat.le_refl _) (⟨rfl, rfl⟩)
theorem k_mas (d : Nat) (sw : Bool) (f : Nat → Nat → Int32) (g : Nat → Nat → Int64) (n c i : Nat) (bits : Int32) (hn : f 81 0 = nI n) (hn10 : n ≤ 10) (hc : c < 6) (hi : i < 60) (hE : fit (g 108 (c * 60 + i))) (hb : ∀ j, n ≤ j → j < 32 → bt bits j = false) : CT (d + 2) 0 0 iX11_asTold [.ref 81, .int (nI c), .int (nI i), .int bits] (S sw f g) (QR (some (.int (bits &&& jme n (g 108 (c * 60 + i))))) (S sw f g)) := by
  refine CT.of rfl (Nat.le_of_ble_eq_true rfl) (fun X hX hR hN _ => ?_)
  have hX : Good X RX11 cX11_asTold (d + 2) 0 0 := hX
  have hN : x_nl X = 5 := hN
  show WP X 0 0 0 [_, _, _, _, _] [] _
  unfold jme at hR
  by_cases c1 : g 108 (c * 60 + i) = -1
  · rw [if_pos c1, and_all hn10 hb] at hR
    refine wp_aload_n hX (dk DX11_asTold 0 rfl) rfl ?_
    refine wp_iload_n hX (dk DX11_asTold 1 rfl) rfl ?_
    refine wp_iload_n hX (dk DX11_asTold 2 rfl) rfl ?_
    refine w_callV (As := [_, _]) lkX11_318 hX (dk DX11_asTold 3 rfl) rfl rfl (by decide) hN (k_mtold (d + 1) sw f g c i hc hi) ?_
    show WP _ _ _ 6 [_, _, _, _, _] [_] _
    refine wp_istore hX (dk DX11_asTold 4 rfl) rfl hN (Nat.le_of_ble_eq_true rfl) ?_
    show WP _ _ _ 8 [_, _, _, _, _] [] _
    refine wp_iload hX (dk DX11_asTold 5 rfl) rfl ?_
    refine wp_iconst (v := -1) hX (dk DX11_asTold 6 rfl) (by decide) ?_
    refine wp_icmp_ne (tgt := 18) hX (dk DX11_asTold 7 rfl) (by decide) (fun h_ => absurd ((fit_m1 hE).mp c1) h_) (fun _ => ?_)
    refine wp_iload_n hX (dk DX11_asTold 8 rfl) rfl ?_
    refine wp_goto (tgt := 37) hX (dk DX11_asTold 9 rfl) (by decide) ?_
    exact wp_ireturn hX hR (dk DX11_asTold 21 rfl) rfl (Nat.le_refl _) (Nat.le_refl _) (⟨rfl, rfl⟩)
  · rw [if_neg c1] at hR
    have c1' : ¬ (g 108 (c * 60 + i)).toInt32 = -1 := fun q => c1 ((fit_m1 hE).mpr q)
    by_cases c2 : ∃ q, q < n ∧ (g 108 (c * 60 + i)).toInt32 = nI q
    · rw [if_pos ((fit_in hE hn10).mpr c2)] at hR
      obtain ⟨q, q1, q2⟩ := c2
      rw [q2] at c1' hR
      refine wp_aload_n hX (dk DX11_asTold 0 rfl) rfl ?_
      refine wp_iload_n hX (dk DX11_asTold 1 rfl) rfl ?_
      refine wp_iload_n hX (dk DX11_asTold 2 rfl) rfl ?_
      refine w_callV (As := [_, _]) lkX11_318 hX (dk DX11_asTold 3 rfl) rfl rfl (by decide) hN (k_mtold (d + 1) sw f g c i hc hi) ?_
      show WP _ _ _ 6 [_, _, _, _, _] [_] _
      rw [q2]
      refine wp_istore hX (dk DX11_asTold 4 rfl) rfl hN (Nat.le_of_ble_eq_true rfl) ?_
      show WP _ _ _ 8 [_, _, _, _, _] [] _
      refine wp_iload hX (dk DX11_asTold 5 rfl) rfl ?_
      refine wp_iconst (v := -1) hX (dk DX11_asTold 6 rfl) (by decide) ?_
      refine wp_icmp_ne (tgt := 18) hX (dk DX11_asTold 7 rfl) (by decide) (fun _ => ?_) (fun h_ => absurd h_ (c1'))
      refine wp_aload_n hX (dk DX11_asTold 10 rfl) rfl ?_
      refine wp_iload hX (dk DX11_asTold 11 rfl) rfl ?_
      refine w_callV (As := [_]) lkX11_127 hX (dk DX11_asTold 12 rfl) rfl rfl (by decide) hN (k_mF1 d sw f g n q hn hn10 q1) ?_
      show WP _ _ _ 24 [_, _, _, _, _] [_] _
      refine wp_if_eq (tgt := 36) hX (dk DX11_asTold 13 rfl) (by decide) (fun h_ => absurd h_ (by decide)) (fun _ => ?_)
      refine wp_iload_n hX (dk DX11_asTold 14 rfl) rfl ?_
      refine wp_iconst (v := 1) hX (dk DX11_asTold 15 rfl) (by decide) ?_
      refine wp_iload hX (dk DX11_asTold 16 rfl) rfl ?_
      refine wp_ishl hX (dk DX11_asTold 17 rfl) ?_
      refine wp_iand hX (dk DX11_asTold 18 rfl) ?_
      refine wp_goto (tgt := 37) hX (dk DX11_asTold 19 rfl) (by decide) ?_
      exact wp_ireturn hX hR (dk DX11_asTold 21 rfl) rfl (Nat.le_refl _) (Nat.le_refl _) (⟨rfl, rfl⟩)
    · rw [if_neg (fun q => c2 ((fit_in hE hn10).mp q)), show bits &&& 0 = 0 from b_ext (fun i _ => by rw [b_and, b_0, Bool.and_false])] at hR
      refine wp_aload_n hX (dk DX11_asTold 0 rfl) rfl ?_
      refine wp_iload_n hX (dk DX11_asTold 1 rfl) rfl ?_
      refine wp_iload_n hX (dk DX11_asTold 2 rfl) rfl ?_
      refine w_callV (As := [_, _]) lkX11_318 hX (dk DX11_asTold 3 rfl) rfl rfl (by decide) hN (k_mtold (d + 1) sw f g c i hc hi) ?_
      show WP _ _ _ 6 [_, _, _, _, _] [_] _
      refine wp_istore hX (dk DX11_asTold 4 rfl) rfl hN (Nat.le_of_ble_eq_true rfl) ?_
      show WP _ _ _ 8 [_, _, _, _, _] [] _
      refine wp_iload hX (dk DX11_asTold 5 rfl) rfl ?_
      refine wp_iconst (v := -1) hX (dk DX11_asTold 6 rfl) (by decide) ?_
      refine wp_icmp_ne (tgt := 18) hX (dk DX11_asTold 7 rfl) (by decide) (fun _ => ?_) (fun h_ => absurd h_ (c1'))
      refine wp_aload_n hX (dk DX11_asTold 10 rfl) rfl ?_
      refine wp_iload hX (dk DX11_asTold 11 rfl) rfl ?_
      refine w_callV (As := [_]) lkX11_127 hX (dk DX11_asTold 12 rfl) rfl rfl (by decide) hN (k_mF0 d sw f g n _ hn hn10 c2) ?_
      show WP _ _ _ 24 [_, _, _, _, _] [_] _
      refine wp_if_eq (tgt := 36) hX (dk DX11_asTold 13 rfl) (by decide) (fun _ => ?_) (fun h_ => absurd (rfl) h_)
      refine wp_iconst (v := 0) hX (dk DX11_asTold 20 rfl) (by decide) ?_
      exact wp_ireturn hX hR (dk DX11_asTold 21 rfl) rfl (Nat.le_refl _) (Nat.le_refl _) (⟨rfl, rfl⟩)
theorem jany_cong {b b2 : Nat → Int32} {x : Int32} : ∀ n, (∀ i, i < n → b i = b2 i) → jany b x n = jany b2 x n
  | 0, _ => rfl
  | n + 1, h => by rw [jany, jany, jany_cong n (fun i hi => h i (by omega)), h n (by omega)]
theorem k_mnof (d : Nat) (sw : Bool) (f : Nat → Nat → Int32) (g : Nat → Nat → Int64) (n : Nat) (bits : Int32) (B : Nat → Int32) (hn : f 81 0 = nI n) (hn10 : n ≤ 10) (hB : ∀ i, i < n → f 109 i = B i) : CT (d + 2) 0 0 iX11_nextOf [.ref 81, .int bits] (S sw f g) (QR (some (.int (jany B bits n))) (S sw f g)) := by
  refine CT.of rfl (Nat.le_of_ble_eq_true rfl) (fun X hX hR hN _ => ?_)
  have hX : Good X RX11 cX11_nextOf (d + 2) 0 0 := hX
  have hN : x_nl X = 4 := hN
  show WP X 0 0 0 [_, _, _, _] [] _
  have lo : ∀ (m k : Nat), k + m = n → WP X 0 0 4 [some (.ref 81), some (.int bits), some (.int (jany B bits k)), some (.int (nI k))] [] (S sw f g) := by
    intro m
    induction m with
    | zero =>
      intro k hk
      obtain rfl : k = n := by omega
      refine wp_iload_n hX (dk DX11_nextOf 4 rfl) rfl ?_
      refine wp_aload_n hX (dk DX11_nextOf 5 rfl) rfl ?_
      refine w_geti hX flX11_112 (dk DX11_nextOf 6 rfl) (by decide) rfl ?_
      rw [hn]
      refine wp_icmp_ge (tgt := 35) hX (dk DX11_nextOf 7 rfl) (by decide) (fun _ => ?_) (fun h_ => absurd (nI_le (by omega) (by omega)) h_)
      refine wp_iload_n hX (dk DX11_nextOf 21 rfl) rfl ?_
      exact wp_ireturn hX hR (dk DX11_nextOf 22 rfl) rfl (Nat.le_refl _) (Nat.le_refl _) (⟨rfl, rfl⟩)
    | succ m ih =>
      intro k hk
      have nx := ih (k + 1) (by omega)
      rw [jany] at nx
      refine wp_iload_n hX (dk DX11_nextOf 4 rfl) rfl ?_
      refine wp_aload_n hX (dk DX11_nextOf 5 rfl) rfl ?_
      refine w_geti hX flX11_112 (dk DX11_nextOf 6 rfl) (by decide) rfl ?_
      rw [hn]
      refine wp_icmp_ge (tgt := 35) hX (dk DX11_nextOf 7 rfl) (by decide) (fun h_ => absurd h_ (nI_ge (by omega) (by omega))) (fun _ => ?_)
      refine wp_iload_n hX (dk DX11_nextOf 8 rfl) rfl ?_
      refine wp_iload_n hX (dk DX11_nextOf 9 rfl) rfl ?_
      refine w_callS (As := [_, _]) lkX11_138 hX (dk DX11_nextOf 10 rfl) rfl (by decide) (k_mhas (d + 1) _ _ _) ?_
      show WP _ _ _ 17 [_, _, _, _] [_] _
      refine wp_if_eq (tgt := 29) hX (dk DX11_nextOf 11 rfl) (by decide) (fun h17 => ?_) (fun h17 => ?_)
      · refine wp_iinc hX (dk DX11_nextOf 19 rfl) rfl (nI_inc _) rfl hN ?_
        show WP _ _ _ 32 [_, _, _, _] [] _
        refine wp_goto (tgt := 4) hX (dk DX11_nextOf 20 rfl) (by decide) ?_
        first | (rw [if_pos h17] at nx; exact nx) | (rw [if_neg h17] at nx; exact nx)
      · refine wp_iload_n hX (dk DX11_nextOf 12 rfl) rfl ?_
        refine wp_aload_n hX (dk DX11_nextOf 13 rfl) rfl ?_
        refine w_getr hX flX11_94 (dk DX11_nextOf 14 rfl) rfl rfl ?_
        refine wp_iload_n hX (dk DX11_nextOf 15 rfl) rfl ?_
        refine w_iald (j := _) hX (dk DX11_nextOf 16 rfl) rfl rfl (show _ < 11 by omega) ?_
        rw [hB k (by omega)]
        refine wp_ior hX (dk DX11_nextOf 17 rfl) ?_
        refine wp_istore_n hX (dk DX11_nextOf 18 rfl) rfl rfl hN (Nat.le_of_ble_eq_true rfl) ?_
        show WP _ _ _ 29 [_, _, _, _] [] _
        refine wp_iinc hX (dk DX11_nextOf 19 rfl) rfl (nI_inc _) rfl hN ?_
        show WP _ _ _ 32 [_, _, _, _] [] _
        refine wp_goto (tgt := 4) hX (dk DX11_nextOf 20 rfl) (by decide) ?_
        first | (rw [if_pos h17] at nx; exact nx) | (rw [if_neg h17] at nx; exact nx)
  refine wp_iconst (v := 0) hX (dk DX11_nextOf 0 rfl) (by decide) ?_
  refine wp_istore_n hX (dk DX11_nextOf 1 rfl) rfl rfl hN (Nat.le_of_ble_eq_true rfl) ?_
  show WP _ _ _ 2 [_, _, _, _] [] _
  refine wp_iconst (v := 0) hX (dk DX11_nextOf 2 rfl) (by decide) ?_
  refine wp_istore_n hX (dk DX11_nextOf 3 rfl) rfl rfl hN (Nat.le_of_ble_eq_true rfl) ?_
  show WP _ _ _ 4 [_, _, _, _] [] _
  exact lo n 0 (by omega)
/-- which can stand at place i -/
def cB (B : Nat → Int32) (n : Nat) (E : Nat → Int64) (x : Int32) : Nat → Int32
  | 0 => x &&& jme n (E 0)
  | k + 1 => jany B (cB B n E x k) n &&& jme n (E (k + 1))
theorem jany_hi {B : Nat → Int32} {n : Nat} (hn : n ≤ 10) (hh : ∀ i j, i < n → n ≤ j → j < 32 → bt (B i) j = false) {x : Int32} : ∀ j, n ≤ j → j < 32 → bt (jany B x n) j = false := fun j h1 h2 => by
  cases e : bt (jany B x n) j with
  | false => rfl
  | true =>
    obtain ⟨k, k1, k2, k3⟩ := (bt_any B x n j (by omega)).mp e
    rw [hh k j k1 h1 h2] at k3
    exact k3.symm
theorem k_mcan (d : Nat) (sw : Bool) (f : Nat → Nat → Int32) (g : Nat → Nat → Int64) (n c i : Nat) (B : Nat → Int32) (x : Int32) (hn : f 81 0 = nI n) (hn10 : n ≤ 10) (hc : c < 6) (hi : i < 60) (hE : ∀ k, k ≤ i → fit (g 108 (c * 60 + k))) (hB : ∀ i, i < n → f 109 i = B i) (hx : f 109 10 = x) (hh : ∀ i j, i < n → n ≤ j → j < 32 → bt (B i) j = false) (hxh : ∀ j, n ≤ j → j < 32 → bt x j = false) : CT (d + 3) 0 0 iX11_canBe [.ref 81, .int (nI c), .int (nI i)] (S sw f g) (QR (some (.int (cB B n (fun k => g 108 (c * 60 + k)) x i))) (S sw f g)) := by
  refine CT.of rfl (Nat.le_of_ble_eq_true rfl) (fun X hX hR hN _ => ?_)
  have hX : Good X RX11 cX11_canBe (d + 3) 0 0 := hX
  have hN : x_nl X = 5 := hN
  show WP X 0 0 0 [_, _, _, _, _] [] _
  have lo : ∀ (m k : Nat), k + m = i → WP X 0 0 17 [some (.ref 81), some (.int (nI c)), some (.int (nI i)), some (.int (cB B n (fun k => g 108 (c * 60 + k)) x k)), some (.int (nI (k + 1)))] [] (S sw f g) := by
    intro m
    induction m with
    | zero =>
      intro k hk
      obtain rfl : k = i := by omega
      refine wp_iload hX (dk DX11_canBe 11 rfl) rfl ?_
      refine wp_iload_n hX (dk DX11_canBe 12 rfl) rfl ?_
      refine wp_icmp_gt (tgt := 42) hX (dk DX11_canBe 13 rfl) (by decide) (fun _ => ?_) (fun h_ => absurd (nI_lt (by omega) (by omega)) h_)
      refine wp_iload_n hX (dk DX11_canBe 24 rfl) rfl ?_
      exact wp_ireturn hX hR (dk DX11_canBe 25 rfl) rfl (Nat.le_refl _) (Nat.le_refl _) (⟨rfl, rfl⟩)
    | succ m ih =>
      intro k hk
      refine wp_iload hX (dk DX11_canBe 11 rfl) rfl ?_
      refine wp_iload_n hX (dk DX11_canBe 12 rfl) rfl ?_
      refine wp_icmp_gt (tgt := 42) hX (dk DX11_canBe 13 rfl) (by decide) (fun h_ => absurd h_ (nI_nlt (by omega) (by omega))) (fun _ => ?_)
      refine wp_aload_n hX (dk DX11_canBe 14 rfl) rfl ?_
      refine wp_iload_n hX (dk DX11_canBe 15 rfl) rfl ?_
      refine wp_iload hX (dk DX11_canBe 16 rfl) rfl ?_
      refine wp_aload_n hX (dk DX11_canBe 17 rfl) rfl ?_
      refine wp_iload_n hX (dk DX11_canBe 18 rfl) rfl ?_
      refine w_callV (As := [_]) lkX11_324 hX (dk DX11_canBe 19 rfl) rfl rfl (by simp [Value.category]) hN (k_mnof d sw f g n _ B hn hn10 hB) ?_
      show WP _ _ _ 32 [_, _, _, _, _] [_, _, _, _] _
      refine w_callV (As := [_, _, _]) lkX11_321 hX (dk DX11_canBe 20 rfl) rfl rfl (by decide) hN (k_mas d sw f g n c (k + 1) _ hn hn10 hc (by omega) (hE (k + 1) (by omega)) (jany_hi hn10 hh)) ?_
      show WP _ _ _ 35 [_, _, _, _, _] [_] _
      refine wp_istore_n hX (dk DX11_canBe 21 rfl) rfl rfl hN (Nat.le_of_ble_eq_true rfl) ?_
      show WP _ _ _ 36 [_, _, _, _, _] [] _
      refine wp_iinc hX (dk DX11_canBe 22 rfl) rfl (nI_inc _) rfl hN ?_
      show WP _ _ _ 39 [_, _, _, _, _] [] _
      refine wp_goto (tgt := 17) hX (dk DX11_canBe 23 rfl) (by decide) ?_
      exact ih (k + 1) (by omega)
  refine wp_aload_n hX (dk DX11_canBe 0 rfl) rfl ?_
  refine wp_iload_n hX (dk DX11_canBe 1 rfl) rfl ?_
  refine wp_iconst (v := 0) hX (dk DX11_canBe 2 rfl) (by decide) ?_
  refine wp_aload_n hX (dk DX11_canBe 3 rfl) rfl ?_
  refine w_getr hX flX11_94 (dk DX11_canBe 4 rfl) rfl rfl ?_
  refine wp_bipush (v := 10) hX (dk DX11_canBe 5 rfl) (by decide) ?_
  refine w_iald (j := 10) hX (dk DX11_canBe 6 rfl) rfl rfl (by decide) ?_
  rw [hx]
  refine w_callV (As := [_, _, _]) lkX11_321 hX (dk DX11_canBe 7 rfl) rfl rfl (by decide) hN (k_mas d sw f g n c 0 x hn hn10 hc (by omega) (hE 0 (by omega)) hxh) ?_
  show WP _ _ _ 13 [_, _, _, _, _] [_] _
  refine wp_istore_n hX (dk DX11_canBe 8 rfl) rfl rfl hN (Nat.le_of_ble_eq_true rfl) ?_
  show WP _ _ _ 14 [_, _, _, _, _] [] _
  refine wp_iconst (v := 1) hX (dk DX11_canBe 9 rfl) (by decide) ?_
  refine wp_istore hX (dk DX11_canBe 10 rfl) rfl hN (Nat.le_of_ble_eq_true rfl) ?_
  show WP _ _ _ 17 [_, _, _, _, _] [] _
  exact lo i 0 (by omega)
theorem cB_0 {B : Nat → Int32} {n : Nat} {E : Nat → Int64} {x : Int32} {i : Nat} (hn : n ≤ 10) (h : cB B n E x i = 0) : ∀ k, cB B n E x (i + k) = 0
  | 0 => h
  | k + 1 => by
    show jany B (cB B n E x (i + k)) n &&& jme n (E (i + k + 1)) = 0
    rw [cB_0 hn h k]
    have : jany B 0 n = 0 := b_ext (fun j hj => by
      rw [b_0]
      cases e : bt (jany B 0 n) j with
      | false => rfl
      | true =>
        obtain ⟨k, k1, k2, k3⟩ := (bt_any B 0 n j (by omega)).mp e
        rw [b_0] at k2
        cases k2)
    rw [this]
    exact b_ext (fun j hj => by rw [b_and, b_0, Bool.false_and])
/-- what can come at place i -/
def nB (B : Nat → Int32) (n : Nat) (E : Nat → Int64) (x : Int32) : Nat → Int32
  | 0 => x
  | k + 1 => jany B (cB B n E x k) n
theorem nB_c (B : Nat → Int32) (n : Nat) (E : Nat → Int64) (x : Int32) : ∀ i, nB B n E x i &&& jme n (E i) = cB B n E x i
  | 0 => rfl
  | _ + 1 => rfl
theorem tN_st (B : Nat → Int32) (n : Nat) (E : Nat → Int64) (x lr : Int32) (m i : Nat) : tN B n E (m + 1) i (nB B n E x i) lr = if cB B n E x i = 0 then (nI i, 0) else tN B n E m (i + 1) (nB B n E x (i + 1)) (cB B n E x i) := by
  rw [tN, nB_c]
  rfl
theorem tN_last (B : Nat → Int32) (n : Nat) (E : Nat → Int64) (x : Int32) (hn : n ≤ 10) : ∀ (m i : Nat) (lr : Int32), i + m < 100 → 0 < i + m → (m = 0 → lr = cB B n E x (i - 1)) → (if (tN B n E m i (nB B n E x i) lr).1 = -2 then (tN B n E m i (nB B n E x i) lr).2 else 0) = cB B n E x (i + m - 1)
  | 0, i, lr, _, _, h => by rw [tN, if_pos rfl]; exact h rfl
  | m + 1, i, lr, h1, h2, h => by
    rw [tN_st]
    by_cases c : cB B n E x i = 0
    · rw [if_pos c, if_neg (rE_ne i (by omega)), show i + (m + 1) - 1 = i + m by omega, cB_0 hn c m]
    · rw [if_neg c, tN_last B n E x hn m (i + 1) (cB B n E x i) (by omega) (by omega) (fun _ => rfl)]
      exact congrArg _ (by omega)
theorem k_mnor (d : Nat) (sw : Bool) (f : Nat → Nat → Int32) (g : Nat → Nat → Int64) (c : Nat) (hc : c < 6) : CT d 0 0 iX11_noRow [.ref 81, .int (nI c)] (S sw f g) (QR (some (.int (jrf (f 106 c)))) (S sw f g)) := by
  refine CT.of rfl (Nat.le_of_ble_eq_true rfl) (fun X hX hR hN _ => ?_)
  have hX : Good X RX11 cX11_noRow d 0 0 := hX
  have hN : x_nl X = 2 := hN
  show WP X 0 0 0 [_, _] [] _
  unfold jrf at hR
  by_cases c1 : f 106 c = -1
  · rw [if_pos c1] at hR
    refine wp_aload_n hX (dk DX11_noRow 0 rfl) rfl ?_
    refine w_getr hX flX11_84 (dk DX11_noRow 1 rfl) rfl rfl ?_
    refine wp_iload_n hX (dk DX11_noRow 2 rfl) rfl ?_
    refine w_iald (j := _) hX (dk DX11_noRow 3 rfl) rfl rfl (show _ < 6 by omega) ?_
    refine wp_iconst (v := -1) hX (dk DX11_noRow 4 rfl) (by decide) ?_
    refine wp_icmp_ne (tgt := 15) hX (dk DX11_noRow 5 rfl) (by decide) (fun h_ => absurd (c1) h_) (fun _ => ?_)
    refine wp_bipush (v := -11) hX (dk DX11_noRow 6 rfl) (by decide) ?_
    refine wp_goto (tgt := 30) hX (dk DX11_noRow 7 rfl) (by decide) ?_
    exact wp_ireturn hX hR (dk DX11_noRow 16 rfl) rfl (Nat.le_refl _) (Nat.le_refl _) (⟨rfl, rfl⟩)
  · rw [if_neg c1] at hR
    by_cases c2 : f 106 c = 0
    · rw [if_pos c2] at hR
      refine wp_aload_n hX (dk DX11_noRow 0 rfl) rfl ?_
      refine w_getr hX flX11_84 (dk DX11_noRow 1 rfl) rfl rfl ?_
      refine wp_iload_n hX (dk DX11_noRow 2 rfl) rfl ?_
      refine w_iald (j := _) hX (dk DX11_noRow 3 rfl) rfl rfl (show _ < 6 by omega) ?_
      refine wp_iconst (v := -1) hX (dk DX11_noRow 4 rfl) (by decide) ?_
      refine wp_icmp_ne (tgt := 15) hX (dk DX11_noRow 5 rfl) (by decide) (fun _ => ?_) (fun h_ => absurd h_ (c1))
      refine wp_aload_n hX (dk DX11_noRow 8 rfl) rfl ?_
      refine w_getr hX flX11_84 (dk DX11_noRow 9 rfl) rfl rfl ?_
      refine wp_iload_n hX (dk DX11_noRow 10 rfl) rfl ?_
      refine w_iald (j := _) hX (dk DX11_noRow 11 rfl) rfl rfl (show _ < 6 by omega) ?_
      refine wp_if_eq (tgt := 29) hX (dk DX11_noRow 12 rfl) (by decide) (fun _ => ?_) (fun h_ => absurd (c2) h_)
      refine wp_iconst (v := 0) hX (dk DX11_noRow 15 rfl) (by decide) ?_
      exact wp_ireturn hX hR (dk DX11_noRow 16 rfl) rfl (Nat.le_refl _) (Nat.le_refl _) (⟨rfl, rfl⟩)
    · rw [if_neg c2] at hR
      refine wp_aload_n hX (dk DX11_noRow 0 rfl) rfl ?_
      refine w_getr hX flX11_84 (dk DX11_noRow 1 rfl) rfl rfl ?_
      refine wp_iload_n hX (dk DX11_noRow 2 rfl) rfl ?_
      refine w_iald (j := _) hX (dk DX11_noRow 3 rfl) rfl rfl (show _ < 6 by omega) ?_
      refine wp_iconst (v := -1) hX (dk DX11_noRow 4 rfl) (by decide) ?_
      refine wp_icmp_ne (tgt := 15) hX (dk DX11_noRow 5 rfl) (by decide) (fun _ => ?_) (fun h_ => absurd h_ (c1))
      refine wp_aload_n hX (dk DX11_noRow 8 rfl) rfl ?_
      refine w_getr hX flX11_84 (dk DX11_noRow 9 rfl) rfl rfl ?_
      refine wp_iload_n hX (dk DX11_noRow 10 rfl) rfl ?_
      refine w_iald (j := _) hX (dk DX11_noRow 11 rfl) rfl rfl (show _ < 6 by omega) ?_
      refine wp_if_eq (tgt := 29) hX (dk DX11_noRow 12 rfl) (by decide) (fun h_ => absurd h_ (c2)) (fun _ => ?_)
      refine wp_bipush (v := -12) hX (dk DX11_noRow 13 rfl) (by decide) ?_
      refine wp_goto (tgt := 30) hX (dk DX11_noRow 14 rfl) (by decide) ?_
      exact wp_ireturn hX hR (dk DX11_noRow 16 rfl) rfl (Nat.le_refl _) (Nat.le_refl _) (⟨rfl, rfl⟩)
theorem jrf_ge {s : Int32} (h : jrf s = 0) : ¬ jrf s < 0 := by rw [h]; decide
theorem jrf_lt {s : Int32} (h : ¬ jrf s = 0) : ¬ 0 ≤ jrf s := by
  unfold jrf at *
  split at h
  · next c => rw [if_pos c]; decide
  · next c =>
    rw [if_neg c]
    split at h
    · exact absurd rfl h
    · next c2 => rw [if_neg c2]; decide
theorem u_judge0 (d : Nat) (sw : Bool) (f : Nat → Nat → Int32) (g : Nat → Nat → Int64) (m : Nat) (x y : Int32) (hm : f 81 5 = nI m) (hm6 : m ≤ 6) (h : ¬ ((∃ c, c < 6 ∧ x = nI c) ∧ ∃ b, b < m ∧ y = nI b)) : CT (d + 110) 0 0 iX11_judge [.ref 81, .int x, .int y] (S sw f g) (rdM g f (-1)) := by
  refine CT.rdM ?_
  refine CT.of rfl (Nat.le_of_ble_eq_true rfl) (fun X hX hR hN _ => ?_)
  have hX : Good X RX11 cX11_judge (d + 110) 0 0 := hX
  have hN : x_nl X = 5 := hN
  show WP X 0 0 0 [_, _, _, _, _] [] _
  by_cases c1 : ∃ c, c < 6 ∧ x = nI c
  · obtain ⟨c, hc, rfl⟩ := c1
    refine wp_iload_n hX (dk DX11_judge 0 rfl) rfl ?_
    refine w_callS (As := [_]) lkX11_174 hX (dk DX11_judge 1 rfl) rfl (by decide) (k_mH1 (d + 108) sw f g c hc) ?_
    show WP _ _ _ 4 [_, _, _, _, _] [_] _
    refine wp_if_eq (tgt := 15) hX (dk DX11_judge 2 rfl) (by decide) (fun h_ => absurd h_ (by decide)) (fun _ => ?_)
    refine wp_aload_n hX (dk DX11_judge 3 rfl) rfl ?_
    refine wp_iload_n hX (dk DX11_judge 4 rfl) rfl ?_
    refine w_callV (As := [_]) lkX11_123 hX (dk DX11_judge 5 rfl) rfl rfl (by decide) hN (k_mB0 (d + 108) sw f g m y hm hm6 (fun q => h ⟨⟨c, hc, rfl⟩, q⟩)) ?_
    show WP _ _ _ 12 [_, _, _, _, _] [_] _
    refine wp_if_ne (tgt := 17) hX (dk DX11_judge 6 rfl) (by decide) (fun h_ => absurd (rfl) h_) (fun _ => ?_)
    refine wp_iconst (v := -1) hX (dk DX11_judge 7 rfl) (by decide) ?_
    exact wp_ireturn hX hR (dk DX11_judge 8 rfl) rfl (Nat.le_refl _) (Nat.le_refl _) (⟨rfl, rfl⟩)
  · refine wp_iload_n hX (dk DX11_judge 0 rfl) rfl ?_
    refine w_callS (As := [_]) lkX11_174 hX (dk DX11_judge 1 rfl) rfl (by decide) (k_mH0 (d + 108) sw f g x c1) ?_
    show WP _ _ _ 4 [_, _, _, _, _] [_] _
    refine wp_if_eq (tgt := 15) hX (dk DX11_judge 2 rfl) (by decide) (fun _ => ?_) (fun h_ => absurd (rfl) h_)
    refine wp_iconst (v := -1) hX (dk DX11_judge 7 rfl) (by decide) ?_
    exact wp_ireturn hX hR (dk DX11_judge 8 rfl) rfl (Nat.le_refl _) (Nat.le_refl _) (⟨rfl, rfl⟩)
theorem u_judgeR (d : Nat) (sw : Bool) (f : Nat → Nat → Int32) (g : Nat → Nat → Int64) (m c b : Nat) (hm : f 81 5 = nI m) (hm6 : m ≤ 6) (hc : c < 6) (hb : b < m) (h : ¬ jrf (f 106 c) = 0) : CT (d + 110) 0 0 iX11_judge [.ref 81, .int (nI c), .int (nI b)] (S sw f g) (rdM g f (jrf (f 106 c))) := by
  refine CT.rdM ?_
  refine CT.of rfl (Nat.le_of_ble_eq_true rfl) (fun X hX hR hN _ => ?_)
  have hX : Good X RX11 cX11_judge (d + 110) 0 0 := hX
  have hN : x_nl X = 5 := hN
  show WP X 0 0 0 [_, _, _, _, _] [] _
  refine wp_iload_n hX (dk DX11_judge 0 rfl) rfl ?_
  refine w_callS (As := [_]) lkX11_174 hX (dk DX11_judge 1 rfl) rfl (by decide) (k_mH1 (d + 108) sw f g c hc) ?_
  show WP _ _ _ 4 [_, _, _, _, _] [_] _
  refine wp_if_eq (tgt := 15) hX (dk DX11_judge 2 rfl) (by decide) (fun h_ => absurd h_ (by decide)) (fun _ => ?_)
  refine wp_aload_n hX (dk DX11_judge 3 rfl) rfl ?_
  refine wp_iload_n hX (dk DX11_judge 4 rfl) rfl ?_
  refine w_callV (As := [_]) lkX11_123 hX (dk DX11_judge 5 rfl) rfl rfl (by decide) hN (k_mB1 (d + 108) sw f g m b hm hm6 hb) ?_
  show WP _ _ _ 12 [_, _, _, _, _] [_] _
  refine wp_if_ne (tgt := 17) hX (dk DX11_judge 6 rfl) (by decide) (fun _ => ?_) (fun h_ => absurd h_ (by decide))
  refine wp_aload_n hX (dk DX11_judge 9 rfl) rfl ?_
  refine wp_iload_n hX (dk DX11_judge 10 rfl) rfl ?_
  refine w_callV (As := [_]) lkX11_327 hX (dk DX11_judge 11 rfl) rfl rfl (by decide) hN (k_mnor (d + 109) sw f g c hc) ?_
  show WP _ _ _ 22 [_, _, _, _, _] [_] _
  refine wp_istore_n hX (dk DX11_judge 12 rfl) rfl rfl hN (Nat.le_of_ble_eq_true rfl) ?_
  show WP _ _ _ 23 [_, _, _, _, _] [] _
  refine wp_iload_n hX (dk DX11_judge 13 rfl) rfl ?_
  refine wp_if_ge (tgt := 29) hX (dk DX11_judge 14 rfl) (by decide) (fun h_ => absurd h_ (jrf_lt h)) (fun _ => ?_)
  refine wp_iload_n hX (dk DX11_judge 15 rfl) rfl ?_
  exact wp_ireturn hX hR (dk DX11_judge 16 rfl) rfl (Nat.le_refl _) (Nat.le_refl _) (⟨rfl, rfl⟩)
theorem u_judge1 (d : Nat) (sw : Bool) (f : Nat → Nat → Int32) (g : Nat → Nat → Int64) (n m c b z : Nat) (sh : Nat → Int32) (hF : mFg f n sh) (hm : f 81 5 = nI m) (hm6 : m ≤ 6) (hc : c < 6) (hb : b < m) (h : jrf (f 106 c) = 0) (hz : f 107 c = nI z) (hz60 : z ≤ 60) (hE : ∀ k, k < z → fit (g 108 (c * 60 + k))) : CT (d + 110) 0 0 iX11_judge [.ref 81, .int (nI c), .int (nI b)] (S sw f g) (rdM g f (tN (BB sh n) n (fun i => g 108 (c * 60 + i)) z 0 (jfo sh n (f 86 b)) 0).1) := by
  have hn10 := hF.2.1
  obtain ⟨x, hx⟩ : ∃ x, x = jfo sh n (f 86 b) := ⟨_, rfl⟩
  have hxh : ∀ j, n ≤ j → j < 32 → bt x j = false := fun j h1 h2 => by rw [hx]; exact jfo_hi hn10 h1 h2
  obtain ⟨ans, hans⟩ : ∃ a, a = (tN (BB sh n) n (fun i => g 108 (c * 60 + i)) z 0 (jfo sh n (f 86 b)) 0).1 := ⟨_, rfl⟩
  rw [← hans]
  rw [← hx] at hans
  refine CT.of rfl (Nat.le_of_ble_eq_true rfl) (fun X hX hR hN _ => ?_)
  have hX : Good X RX11 cX11_judge (d + 110) 0 0 := hX
  have hN : x_nl X = 5 := hN
  show WP X 0 0 0 [_, _, _, _, _] [] _
  refine wp_iload_n hX (dk DX11_judge 0 rfl) rfl ?_
  refine w_callS (As := [_]) lkX11_174 hX (dk DX11_judge 1 rfl) rfl (by decide) (k_mH1 (d + 108) sw f g c hc) ?_
  show WP _ _ _ 4 [_, _, _, _, _] [_] _
  refine wp_if_eq (tgt := 15) hX (dk DX11_judge 2 rfl) (by decide) (fun h_ => absurd h_ (by decide)) (fun _ => ?_)
  refine wp_aload_n hX (dk DX11_judge 3 rfl) rfl ?_
  refine wp_iload_n hX (dk DX11_judge 4 rfl) rfl ?_
  refine w_callV (As := [_]) lkX11_123 hX (dk DX11_judge 5 rfl) rfl rfl (by decide) hN (k_mB1 (d + 108) sw f g m b hm hm6 hb) ?_
  show WP _ _ _ 12 [_, _, _, _, _] [_] _
  refine wp_if_ne (tgt := 17) hX (dk DX11_judge 6 rfl) (by decide) (fun _ => ?_) (fun h_ => absurd h_ (by decide))
  refine wp_aload_n hX (dk DX11_judge 9 rfl) rfl ?_
  refine wp_iload_n hX (dk DX11_judge 10 rfl) rfl ?_
  refine w_callV (As := [_]) lkX11_327 hX (dk DX11_judge 11 rfl) rfl rfl (by decide) hN (k_mnor (d + 109) sw f g c hc) ?_
  show WP _ _ _ 22 [_, _, _, _, _] [_] _
  rw [h]
  refine wp_istore_n hX (dk DX11_judge 12 rfl) rfl rfl hN (Nat.le_of_ble_eq_true rfl) ?_
  show WP _ _ _ 23 [_, _, _, _, _] [] _
  refine wp_iload_n hX (dk DX11_judge 13 rfl) rfl ?_
  refine wp_if_ge (tgt := 29) hX (dk DX11_judge 14 rfl) (by decide) (fun _ => ?_) (fun h_ => absurd (by decide) h_)
  refine wp_aload_n hX (dk DX11_judge 17 rfl) rfl ?_
  refine wp_aload_n hX (dk DX11_judge 18 rfl) rfl ?_
  refine w_getr hX flX11_24 (dk DX11_judge 19 rfl) rfl rfl ?_
  refine wp_iload_n hX (dk DX11_judge 20 rfl) rfl ?_
  refine w_iald (j := _) hX (dk DX11_judge 21 rfl) rfl rfl (show _ < 6 by omega) ?_
  refine w_callVQ (As := [_]) lkX11_287 hX (dk DX11_judge 22 rfl) rfl rfl (by decide) hN (k_looks (d + 103) sw f g n sh _ hF) (fun v_a sw_a f_a g_a hq_a => ?_)
  obtain ⟨rfl, rfl, rfl, e1, e2⟩ := hq_a
  show WP _ _ _ 39 [_, _, _, _, _] [] _
  skip
  have hn : f_a 81 0 = nI n := by rw [e1 81 (by decide)]; exact hF.1
  have hza : f_a 107 c = nI z := by rw [e1 107 (by decide)]; exact hz
  have fin : qM f f_a := ⟨fun c _ _ h3 => e1 c (by omega), fun i _ => by rw [e1 81 (by decide)]⟩
  have lo : ∀ (q i : Nat) (lr : Int32), i + q = z → ans = (tN (BB sh n) n (fun i => g_a 108 (c * 60 + i)) q i (nB (BB sh n) n (fun i => g_a 108 (c * 60 + i)) x i) lr).1 → WP X 0 0 42 [some (.ref 81), some (.int (nI c)), some (.int (nI b)), some (.int 0), some (.int (nI i))] [] (S sw_a f_a g_a) := by
    intro q
    induction q with
    | zero =>
      intro i lr hi ha
      obtain rfl : i = z := by omega
      rw [ha] at hR
      refine wp_iload hX (dk DX11_judge 25 rfl) rfl ?_
      refine wp_aload_n hX (dk DX11_judge 26 rfl) rfl ?_
      refine w_getr hX flX11_87 (dk DX11_judge 27 rfl) rfl rfl ?_
      refine wp_iload_n hX (dk DX11_judge 28 rfl) rfl ?_
      refine w_iald (j := _) hX (dk DX11_judge 29 rfl) rfl rfl (show _ < 6 by omega) ?_
      rw [hza]
      refine wp_icmp_ge (tgt := 72) hX (dk DX11_judge 30 rfl) (by decide) (fun _ => ?_) (fun h_ => absurd (nI_le (by omega) (by omega)) h_)
      refine wp_bipush (v := -2) hX (dk DX11_judge 40 rfl) (by decide) ?_
      exact wp_ireturn hX hR (dk DX11_judge 41 rfl) rfl (Nat.le_refl _) (Nat.le_refl _) (⟨_, _, _, rfl, rfl, rfl, fin⟩)
    | succ q ih =>
      intro i lr hi ha
      rw [tN_st] at ha
      have ct := k_mcan (d + 106) sw_a f_a g_a n c i (BB sh n) x hn hn10 hc (by omega) (fun k hk => hE k (by omega)) e2.1 (by rw [hx]; exact e2.2) (BB_hi hn10) hxh
      by_cases c0 : cB (BB sh n) n (fun i => g_a 108 (c * 60 + i)) x i = 0
      · rw [if_pos c0] at ha
        rw [ha] at hR
        refine wp_iload hX (dk DX11_judge 25 rfl) rfl ?_
        refine wp_aload_n hX (dk DX11_judge 26 rfl) rfl ?_
        refine w_getr hX flX11_87 (dk DX11_judge 27 rfl) rfl rfl ?_
        refine wp_iload_n hX (dk DX11_judge 28 rfl) rfl ?_
        refine w_iald (j := _) hX (dk DX11_judge 29 rfl) rfl rfl (show _ < 6 by omega) ?_
        rw [hza]
        refine wp_icmp_ge (tgt := 72) hX (dk DX11_judge 30 rfl) (by decide) (fun h_ => absurd h_ (nI_ge (by omega) (by omega))) (fun _ => ?_)
        refine wp_aload_n hX (dk DX11_judge 31 rfl) rfl ?_
        refine wp_iload_n hX (dk DX11_judge 32 rfl) rfl ?_
        refine wp_iload hX (dk DX11_judge 33 rfl) rfl ?_
        refine w_callV (As := [_, _]) lkX11_330 hX (dk DX11_judge 34 rfl) rfl rfl (by decide) hN (ct) ?_
        show WP _ _ _ 60 [_, _, _, _, _] [_] _
        refine wp_if_ne (tgt := 66) hX (dk DX11_judge 35 rfl) (by decide) (fun h_ => absurd (c0) h_) (fun _ => ?_)
        refine wp_iload hX (dk DX11_judge 36 rfl) rfl ?_
        exact wp_ireturn hX hR (dk DX11_judge 37 rfl) rfl (Nat.le_refl _) (Nat.le_refl _) (⟨_, _, _, rfl, rfl, rfl, fin⟩)
      · rw [if_neg c0] at ha
        refine wp_iload hX (dk DX11_judge 25 rfl) rfl ?_
        refine wp_aload_n hX (dk DX11_judge 26 rfl) rfl ?_
        refine w_getr hX flX11_87 (dk DX11_judge 27 rfl) rfl rfl ?_
        refine wp_iload_n hX (dk DX11_judge 28 rfl) rfl ?_
        refine w_iald (j := _) hX (dk DX11_judge 29 rfl) rfl rfl (show _ < 6 by omega) ?_
        rw [hza]
        refine wp_icmp_ge (tgt := 72) hX (dk DX11_judge 30 rfl) (by decide) (fun h_ => absurd h_ (nI_ge (by omega) (by omega))) (fun _ => ?_)
        refine wp_aload_n hX (dk DX11_judge 31 rfl) rfl ?_
        refine wp_iload_n hX (dk DX11_judge 32 rfl) rfl ?_
        refine wp_iload hX (dk DX11_judge 33 rfl) rfl ?_
        refine w_callV (As := [_, _]) lkX11_330 hX (dk DX11_judge 34 rfl) rfl rfl (by decide) hN (ct) ?_
        show WP _ _ _ 60 [_, _, _, _, _] [_] _
        refine wp_if_ne (tgt := 66) hX (dk DX11_judge 35 rfl) (by decide) (fun _ => ?_) (fun h_ => absurd h_ (c0))
        refine wp_iinc hX (dk DX11_judge 38 rfl) rfl (nI_inc _) rfl hN ?_
        show WP _ _ _ 69 [_, _, _, _, _] [] _
        refine wp_goto (tgt := 42) hX (dk DX11_judge 39 rfl) (by decide) ?_
        exact ih (i + 1) _ (by omega) ha
  refine wp_iconst (v := 0) hX (dk DX11_judge 23 rfl) (by decide) ?_
  refine wp_istore hX (dk DX11_judge 24 rfl) rfl hN (Nat.le_of_ble_eq_true rfl) ?_
  show WP _ _ _ 42 [_, _, _, _, _] [] _
  exact lo z 0 0 (by omega) hans
theorem u_last0 (d : Nat) (sw : Bool) (f : Nat → Nat → Int32) (g : Nat → Nat → Int64) (m : Nat) (x y : Int32) (hm : f 81 5 = nI m) (hm6 : m ≤ 6) (h : ¬ ((∃ c, c < 6 ∧ x = nI c) ∧ ∃ b, b < m ∧ y = nI b)) : CT (d + 110) 0 0 iX11_last [.ref 81, .int x, .int y] (S sw f g) (rdM g f (-1)) := by
  refine CT.rdM ?_
  refine CT.of rfl (Nat.le_of_ble_eq_true rfl) (fun X hX hR hN _ => ?_)
  have hX : Good X RX11 cX11_last (d + 110) 0 0 := hX
  have hN : x_nl X = 4 := hN
  show WP X 0 0 0 [_, _, _, _] [] _
  by_cases c1 : ∃ c, c < 6 ∧ x = nI c
  · obtain ⟨c, hc, rfl⟩ := c1
    refine wp_iload_n hX (dk DX11_last 0 rfl) rfl ?_
    refine w_callS (As := [_]) lkX11_174 hX (dk DX11_last 1 rfl) rfl (by decide) (k_mH1 (d + 108) sw f g c hc) ?_
    show WP _ _ _ 4 [_, _, _, _] [_] _
    refine wp_if_eq (tgt := 15) hX (dk DX11_last 2 rfl) (by decide) (fun h_ => absurd h_ (by decide)) (fun _ => ?_)
    refine wp_aload_n hX (dk DX11_last 3 rfl) rfl ?_
    refine wp_iload_n hX (dk DX11_last 4 rfl) rfl ?_
    refine w_callV (As := [_]) lkX11_123 hX (dk DX11_last 5 rfl) rfl rfl (by decide) hN (k_mB0 (d + 108) sw f g m y hm hm6 (fun q => h ⟨⟨c, hc, rfl⟩, q⟩)) ?_
    show WP _ _ _ 12 [_, _, _, _] [_] _
    refine wp_if_ne (tgt := 17) hX (dk DX11_last 6 rfl) (by decide) (fun h_ => absurd (rfl) h_) (fun _ => ?_)
    refine wp_iconst (v := -1) hX (dk DX11_last 7 rfl) (by decide) ?_
    exact wp_ireturn hX hR (dk DX11_last 8 rfl) rfl (Nat.le_refl _) (Nat.le_refl _) (⟨rfl, rfl⟩)
  · refine wp_iload_n hX (dk DX11_last 0 rfl) rfl ?_
    refine w_callS (As := [_]) lkX11_174 hX (dk DX11_last 1 rfl) rfl (by decide) (k_mH0 (d + 108) sw f g x c1) ?_
    show WP _ _ _ 4 [_, _, _, _] [_] _
    refine wp_if_eq (tgt := 15) hX (dk DX11_last 2 rfl) (by decide) (fun _ => ?_) (fun h_ => absurd (rfl) h_)
    refine wp_iconst (v := -1) hX (dk DX11_last 7 rfl) (by decide) ?_
    exact wp_ireturn hX hR (dk DX11_last 8 rfl) rfl (Nat.le_refl _) (Nat.le_refl _) (⟨rfl, rfl⟩)
theorem u_lastR (d : Nat) (sw : Bool) (f : Nat → Nat → Int32) (g : Nat → Nat → Int64) (m c b : Nat) (hm : f 81 5 = nI m) (hm6 : m ≤ 6) (hc : c < 6) (hb : b < m) (h : ¬ jrf (f 106 c) = 0) : CT (d + 110) 0 0 iX11_last [.ref 81, .int (nI c), .int (nI b)] (S sw f g) (rdM g f (jrf (f 106 c))) := by
  refine CT.rdM ?_
  refine CT.of rfl (Nat.le_of_ble_eq_true rfl) (fun X hX hR hN _ => ?_)
  have hX : Good X RX11 cX11_last (d + 110) 0 0 := hX
  have hN : x_nl X = 4 := hN
  show WP X 0 0 0 [_, _, _, _] [] _
  refine wp_iload_n hX (dk DX11_last 0 rfl) rfl ?_
  refine w_callS (As := [_]) lkX11_174 hX (dk DX11_last 1 rfl) rfl (by decide) (k_mH1 (d + 108) sw f g c hc) ?_
  show WP _ _ _ 4 [_, _, _, _] [_] _
  refine wp_if_eq (tgt := 15) hX (dk DX11_last 2 rfl) (by decide) (fun h_ => absurd h_ (by decide)) (fun _ => ?_)
  refine wp_aload_n hX (dk DX11_last 3 rfl) rfl ?_
  refine wp_iload_n hX (dk DX11_last 4 rfl) rfl ?_
  refine w_callV (As := [_]) lkX11_123 hX (dk DX11_last 5 rfl) rfl rfl (by decide) hN (k_mB1 (d + 108) sw f g m b hm hm6 hb) ?_
  show WP _ _ _ 12 [_, _, _, _] [_] _
  refine wp_if_ne (tgt := 17) hX (dk DX11_last 6 rfl) (by decide) (fun _ => ?_) (fun h_ => absurd h_ (by decide))
  refine wp_aload_n hX (dk DX11_last 9 rfl) rfl ?_
  refine wp_iload_n hX (dk DX11_last 10 rfl) rfl ?_
  refine w_callV (As := [_]) lkX11_327 hX (dk DX11_last 11 rfl) rfl rfl (by decide) hN (k_mnor (d + 109) sw f g c hc) ?_
  show WP _ _ _ 22 [_, _, _, _] [_] _
  refine wp_istore_n hX (dk DX11_last 12 rfl) rfl rfl hN (Nat.le_of_ble_eq_true rfl) ?_
  show WP _ _ _ 23 [_, _, _, _] [] _
  refine wp_iload_n hX (dk DX11_last 13 rfl) rfl ?_
  refine wp_if_ge (tgt := 29) hX (dk DX11_last 14 rfl) (by decide) (fun h_ => absurd h_ (jrf_lt h)) (fun _ => ?_)
  refine wp_iload_n hX (dk DX11_last 15 rfl) rfl ?_
  exact wp_ireturn hX hR (dk DX11_last 16 rfl) rfl (Nat.le_refl _) (Nat.le_refl _) (⟨rfl, rfl⟩)
theorem u_last1 (d : Nat) (sw : Bool) (f : Nat → Nat → Int32) (g : Nat → Nat → Int64) (n m c b z : Nat) (sh : Nat → Int32) (hF : mFg f n sh) (hm : f 81 5 = nI m) (hm6 : m ≤ 6) (hc : c < 6) (hb : b < m) (h : jrf (f 106 c) = 0) (hz : f 107 c = nI z) (hz60 : z ≤ 60) (hE : ∀ k, k < z → fit (g 108 (c * 60 + k))) : CT (d + 110) 0 0 iX11_last [.ref 81, .int (nI c), .int (nI b)] (S sw f g) (rdM g f (if (tN (BB sh n) n (fun i => g 108 (c * 60 + i)) z 0 (jfo sh n (f 86 b)) 0).1 = -2 then (tN (BB sh n) n (fun i => g 108 (c * 60 + i)) z 0 (jfo sh n (f 86 b)) 0).2 else 0)) := by
  have hn10 := hF.2.1
  obtain ⟨x, hx⟩ : ∃ x, x = jfo sh n (f 86 b) := ⟨_, rfl⟩
  have hxh : ∀ j, n ≤ j → j < 32 → bt x j = false := fun j h1 h2 => by rw [hx]; exact jfo_hi hn10 h1 h2
  obtain ⟨ans, hans⟩ : ∃ a, a = (if (tN (BB sh n) n (fun i => g 108 (c * 60 + i)) z 0 (jfo sh n (f 86 b)) 0).1 = -2 then (tN (BB sh n) n (fun i => g 108 (c * 60 + i)) z 0 (jfo sh n (f 86 b)) 0).2 else 0) := ⟨_, rfl⟩
  rw [← hans]
  rw [← hx] at hans
  refine CT.of rfl (Nat.le_of_ble_eq_true rfl) (fun X hX hR hN _ => ?_)
  have hX : Good X RX11 cX11_last (d + 110) 0 0 := hX
  have hN : x_nl X = 4 := hN
  show WP X 0 0 0 [_, _, _, _] [] _
  refine wp_iload_n hX (dk DX11_last 0 rfl) rfl ?_
  refine w_callS (As := [_]) lkX11_174 hX (dk DX11_last 1 rfl) rfl (by decide) (k_mH1 (d + 108) sw f g c hc) ?_
  show WP _ _ _ 4 [_, _, _, _] [_] _
  refine wp_if_eq (tgt := 15) hX (dk DX11_last 2 rfl) (by decide) (fun h_ => absurd h_ (by decide)) (fun _ => ?_)
  refine wp_aload_n hX (dk DX11_last 3 rfl) rfl ?_
  refine wp_iload_n hX (dk DX11_last 4 rfl) rfl ?_
  refine w_callV (As := [_]) lkX11_123 hX (dk DX11_last 5 rfl) rfl rfl (by decide) hN (k_mB1 (d + 108) sw f g m b hm hm6 hb) ?_
  show WP _ _ _ 12 [_, _, _, _] [_] _
  refine wp_if_ne (tgt := 17) hX (dk DX11_last 6 rfl) (by decide) (fun _ => ?_) (fun h_ => absurd h_ (by decide))
  refine wp_aload_n hX (dk DX11_last 9 rfl) rfl ?_
  refine wp_iload_n hX (dk DX11_last 10 rfl) rfl ?_
  refine w_callV (As := [_]) lkX11_327 hX (dk DX11_last 11 rfl) rfl rfl (by decide) hN (k_mnor (d + 109) sw f g c hc) ?_
  show WP _ _ _ 22 [_, _, _, _] [_] _
  rw [h]
  refine wp_istore_n hX (dk DX11_last 12 rfl) rfl rfl hN (Nat.le_of_ble_eq_true rfl) ?_
  show WP _ _ _ 23 [_, _, _, _] [] _
  refine wp_iload_n hX (dk DX11_last 13 rfl) rfl ?_
  refine wp_if_ge (tgt := 29) hX (dk DX11_last 14 rfl) (by decide) (fun _ => ?_) (fun h_ => absurd (by decide) h_)
  refine wp_aload_n hX (dk DX11_last 17 rfl) rfl ?_
  refine wp_aload_n hX (dk DX11_last 18 rfl) rfl ?_
  refine w_getr hX flX11_24 (dk DX11_last 19 rfl) rfl rfl ?_
  refine wp_iload_n hX (dk DX11_last 20 rfl) rfl ?_
  refine w_iald (j := _) hX (dk DX11_last 21 rfl) rfl rfl (show _ < 6 by omega) ?_
  refine w_callVQ (As := [_]) lkX11_287 hX (dk DX11_last 22 rfl) rfl rfl (by decide) hN (k_looks (d + 103) sw f g n sh _ hF) (fun v_a sw_a f_a g_a hq_a => ?_)
  obtain ⟨rfl, rfl, rfl, e1, e2⟩ := hq_a
  show WP _ _ _ 39 [_, _, _, _] [] _
  skip
  have hn : f_a 81 0 = nI n := by rw [e1 81 (by decide)]; exact hF.1
  have hza : f_a 107 c = nI z := by rw [e1 107 (by decide)]; exact hz
  have fin : qM f f_a := ⟨fun c _ _ h3 => e1 c (by omega), fun i _ => by rw [e1 81 (by decide)]⟩
  by_cases c0 : z = 0
  · subst c0
    have : ans = 0 := by rw [hans]; rfl
    rw [this] at hR
    refine wp_aload_n hX (dk DX11_last 23 rfl) rfl ?_
    refine w_getr hX flX11_87 (dk DX11_last 24 rfl) rfl rfl ?_
    refine wp_iload_n hX (dk DX11_last 25 rfl) rfl ?_
    refine w_iald (j := _) hX (dk DX11_last 26 rfl) rfl rfl (show _ < 6 by omega) ?_
    rw [hza]
    refine wp_if_ne (tgt := 52) hX (dk DX11_last 27 rfl) (by decide) (fun h_ => absurd (rfl) h_) (fun _ => ?_)
    refine wp_iconst (v := 0) hX (dk DX11_last 28 rfl) (by decide) ?_
    refine wp_goto (tgt := 65) hX (dk DX11_last 29 rfl) (by decide) ?_
    exact wp_ireturn hX hR (dk DX11_last 39 rfl) rfl (Nat.le_refl _) (Nat.le_refl _) (⟨_, _, _, rfl, rfl, rfl, fin⟩)
  · have : ans = cB (BB sh n) n (fun i => g_a 108 (c * 60 + i)) x (z - 1) := by
      have := tN_last (BB sh n) n (fun i => g_a 108 (c * 60 + i)) x hn10 z 0 0 (by omega) (by omega) (fun q => absurd q c0)
      rw [Nat.zero_add] at this
      rw [hans, ← this]
      rfl
    rw [this] at hR
    have ct := k_mcan (d + 106) sw_a f_a g_a n c (z - 1) (BB sh n) x hn hn10 hc (by omega) (fun k hk => hE k (by omega)) e2.1 (by rw [hx]; exact e2.2) (BB_hi hn10) hxh
    refine wp_aload_n hX (dk DX11_last 23 rfl) rfl ?_
    refine w_getr hX flX11_87 (dk DX11_last 24 rfl) rfl rfl ?_
    refine wp_iload_n hX (dk DX11_last 25 rfl) rfl ?_
    refine w_iald (j := _) hX (dk DX11_last 26 rfl) rfl rfl (show _ < 6 by omega) ?_
    rw [hza]
    refine wp_if_ne (tgt := 52) hX (dk DX11_last 27 rfl) (by decide) (fun _ => ?_) (fun h_ => absurd h_ (nI_ne0 (by omega) (by omega)))
    refine wp_aload_n hX (dk DX11_last 30 rfl) rfl ?_
    refine wp_iload_n hX (dk DX11_last 31 rfl) rfl ?_
    refine wp_aload_n hX (dk DX11_last 32 rfl) rfl ?_
    refine w_getr hX flX11_87 (dk DX11_last 33 rfl) rfl rfl ?_
    refine wp_iload_n hX (dk DX11_last 34 rfl) rfl ?_
    refine w_iald (j := _) hX (dk DX11_last 35 rfl) rfl rfl (show _ < 6 by omega) ?_
    rw [hza]
    refine wp_iconst (v := 1) hX (dk DX11_last 36 rfl) (by decide) ?_
    refine wp_isub hX (dk DX11_last 37 rfl) ?_
    rw [show nI z - 1 = nI (z - 1) from pk_sub (a := z) (b := 1) (by omega)]
    refine w_callV (As := [_, _]) lkX11_330 hX (dk DX11_last 38 rfl) rfl rfl (by decide) hN (ct) ?_
    show WP _ _ _ 65 [_, _, _, _] [_] _
    exact wp_ireturn hX hR (dk DX11_last 39 rfl) rfl (Nat.le_refl _) (Nat.le_refl _) (⟨_, _, _, rfl, rfl, rfl, fin⟩)
