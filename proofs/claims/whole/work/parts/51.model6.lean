/-! REFERENCE: the law's text, leaves -/
/-- the reference's tape holds n bytes, the reading stands at a -/
def mtO (f : Nat → Nat → Int32) (T : Nat → Nat) (n a : Nat) : Prop := f 81 9 = nI n ∧ n ≤ 120 ∧ (∀ j, j < n → f 88 j = nI (T j) ∧ T j < 256) ∧ f 81 17 = nI a
/-- the codes read -/
def cdO (f : Nat → Nat → Int32) (K : List Nat) : Prop := f 81 19 = nI K.length ∧ ∀ (j k : Nat), K[j]? = some k → f 96 j = nI k
/-- all but where it stands, what is open and the codes is as it was -/
def mpS (f f2 : Nat → Nat → Int32) : Prop := (∀ b, b ≠ 81 → b ≠ 96 → f2 b = f b) ∧ ∀ i, i ≠ 17 → i ≠ 18 → i ≠ 19 → f2 81 i = f 81 i
theorem mpS.rf {f : Nat → Nat → Int32} : mpS f f := ⟨fun _ _ _ => rfl, fun _ _ _ _ => rfl⟩
theorem mpS.trans {f f2 f3 : Nat → Nat → Int32} (h : mpS f f2) (h2 : mpS f2 f3) : mpS f f3 := ⟨fun b g1 g2 => (h2.1 b g1 g2).trans (h.1 b g1 g2), fun i h3 h4 h5 => (h2.2 i h3 h4 h5).trans (h.2 i h3 h4 h5)⟩
theorem mpS.at (f : Nat → Nat → Int32) (v : Int32) : mpS f (u2 f 81 17 v) := ⟨fun b h1 _ => u2_ne _ _ _ h1, fun i h3 _ _ => u2_off _ _ _ h3⟩
theorem mpS.op (f : Nat → Nat → Int32) (v : Int32) : mpS f (u2 f 81 18 v) := ⟨fun b h1 _ => u2_ne _ _ _ h1, fun i _ h3 _ => u2_off _ _ _ h3⟩
theorem mtO.same {f f2 : Nat → Nat → Int32} {T : Nat → Nat} {n a b : Nat} (h : mtO f T n a) (h2 : mpS f f2) (h3 : f2 81 17 = nI b) : mtO f2 T n b := ⟨(h2.2 9 (by decide) (by decide) (by decide)).trans h.1, h.2.1, fun j hj => by rw [h2.1 88 (by decide) (by decide)]; exact h.2.2.1 j hj, h3⟩
theorem cdO.at {f : Nat → Nat → Int32} {K : List Nat} (h : cdO f K) (v : Int32) : cdO (u2 f 81 17 v) K := ⟨by rw [u2_off _ _ _ (by decide)]; exact h.1, fun j q hj => by rw [u2_ne _ _ _ (by decide)]; exact h.2 j q hj⟩
theorem cdO.op {f : Nat → Nat → Int32} {K : List Nat} (h : cdO f K) (v : Int32) : cdO (u2 f 81 18 v) K := ⟨by rw [u2_off _ _ _ (by decide)]; exact h.1, fun j q hj => by rw [u2_ne _ _ _ (by decide)]; exact h.2 j q hj⟩
/-- what sign says of a byte -/
def ms (x : Nat) : Int32 := if x < 256 then nI x else -1
theorem ms_cmp : ∀ x, x < 256 → ∀ y, y < 128 → (ms x = nI y ↔ x = y) := by
  intro x hx y hy
  unfold ms
  rw [if_pos hx]
  exact nI_eq (by omega) (by omega)
theorem ms_999 : ∀ y, y < 128 → ¬ ms 999 = nI y := by decide +kernel
theorem pC_in (T : Nat → Nat) (n : Nat) (hT : ∀ j, j < n → T j < 256) (a : Nat) : pC T n a < 256 ∨ pC T n a = 999 := by
  unfold pC
  by_cases c : a < n
  · rw [if_pos c]; exact Or.inl (hT a c)
  · rw [if_neg c]; exact Or.inr rfl
theorem ms_eq {x y : Nat} (h : x < 256 ∨ x = 999) (hy : y < 128) : ms x = nI y ↔ x = y := by
  rcases h with h | rfl
  · exact ms_cmp x h y hy
  · exact ⟨fun e => absurd e (ms_999 y hy), fun e => by omega⟩
theorem ms_dg : ∀ x, x < 256 → ((¬ ms x < 48 ∧ ¬ 57 < ms x) ↔ isDg x = true) := by decide +kernel
theorem ms_dg9 : ¬ (¬ ms 999 < 48 ∧ ¬ (57 : Int32) < ms 999) := by decide
theorem k_sign (d : Nat) (sw : Bool) (f : Nat → Nat → Int32) (g : Nat → Nat → Int64) (T : Nat → Nat) (n a : Nat) (h : mtO f T n a) (ha : a ≤ n) : CT d 0 0 iX11_sign [.ref 81] (S sw f g) (QR (some (.int (ms (pC T n a)))) (S sw f g)) := by
  obtain ⟨h1, h2, h3, h4⟩ := h
  by_cases c : a < n
  · obtain ⟨e1, e2⟩ := h3 a c
    rw [show ms (pC T n a) = nI (T a) by unfold pC; rw [if_pos c]; unfold ms; rw [if_pos e2]]
    refine CT.of rfl (Nat.le_of_ble_eq_true rfl) (fun X hX hR hN _ => ?_)
    have hX : Good X RX11 cX11_sign d 0 0 := hX
    have hN : x_nl X = 1 := hN
    show WP X 0 0 0 [_] [] _
    refine wp_aload_n hX (dk DX11_sign 0 rfl) rfl ?_
    refine w_geti hX flX11_198 (dk DX11_sign 1 rfl) (by decide) rfl ?_
    refine wp_aload_n hX (dk DX11_sign 2 rfl) rfl ?_
    refine w_geti hX flX11_195 (dk DX11_sign 3 rfl) (by decide) rfl ?_
    rw [h1, h4]
    refine wp_icmp_ge (tgt := 23) hX (dk DX11_sign 4 rfl) (by decide) (fun h_ => absurd h_ (nI_ge (by omega) (by omega))) (fun _ => ?_)
    refine wp_aload_n hX (dk DX11_sign 5 rfl) rfl ?_
    refine w_getr hX flX11_30 (dk DX11_sign 6 rfl) rfl rfl ?_
    refine wp_aload_n hX (dk DX11_sign 7 rfl) rfl ?_
    refine w_geti hX flX11_198 (dk DX11_sign 8 rfl) (by decide) rfl ?_
    rw [h4]
    refine w_iald (j := _) hX (dk DX11_sign 9 rfl) rfl rfl (show _ < 120 by omega) ?_
    rw [e1]
    refine wp_goto (tgt := 24) hX (dk DX11_sign 10 rfl) (by decide) ?_
    exact wp_ireturn hX hR (dk DX11_sign 12 rfl) rfl (Nat.le_refl _) (Nat.le_refl _) (⟨rfl, rfl⟩)
  · rw [show ms (pC T n a) = -1 by unfold pC; rw [if_neg c]; rfl]
    refine CT.of rfl (Nat.le_of_ble_eq_true rfl) (fun X hX hR hN _ => ?_)
    have hX : Good X RX11 cX11_sign d 0 0 := hX
    have hN : x_nl X = 1 := hN
    show WP X 0 0 0 [_] [] _
    refine wp_aload_n hX (dk DX11_sign 0 rfl) rfl ?_
    refine w_geti hX flX11_198 (dk DX11_sign 1 rfl) (by decide) rfl ?_
    refine wp_aload_n hX (dk DX11_sign 2 rfl) rfl ?_
    refine w_geti hX flX11_195 (dk DX11_sign 3 rfl) (by decide) rfl ?_
    rw [h1, h4]
    refine wp_icmp_ge (tgt := 23) hX (dk DX11_sign 4 rfl) (by decide) (fun _ => ?_) (fun h_ => absurd (nI_le (by omega) (by omega)) h_)
    refine wp_iconst (v := -1) hX (dk DX11_sign 11 rfl) (by decide) ?_
    exact wp_ireturn hX hR (dk DX11_sign 12 rfl) rfl (Nat.le_refl _) (Nat.le_refl _) (⟨rfl, rfl⟩)
theorem k_is1 (d : Nat) (sw : Bool) (f : Nat → Nat → Int32) (g : Nat → Nat → Int64) (T : Nat → Nat) (n a x : Nat) (h : mtO f T n a) (ha : a ≤ n) (hx : x < 128) (e : pC T n a = x) : CT (d + 1) 0 0 iX11_is [.ref 81, .int (nI x)] (S sw f g) (QR (some (.int 1)) (S sw (u2 f 81 17 (nI (a + 1))) g)) := by
  refine CT.of rfl (Nat.le_of_ble_eq_true rfl) (fun X hX hR hN _ => ?_)
  have hX : Good X RX11 cX11_is (d + 1) 0 0 := hX
  have hN : x_nl X = 2 := hN
  show WP X 0 0 0 [_, _] [] _
  refine wp_aload_n hX (dk DX11_is 0 rfl) rfl ?_
  refine w_callV (As := []) lkX11_201 hX (dk DX11_is 1 rfl) rfl rfl (by decide) hN (k_sign d sw f g T n a h ha) ?_
  show WP _ _ _ 4 [_, _] [_] _
  refine wp_iload_n hX (dk DX11_is 2 rfl) rfl ?_
  refine wp_icmp_eq (tgt := 10) hX (dk DX11_is 3 rfl) (by decide) (fun _ => ?_) (fun h_ => absurd ((ms_eq (pC_in T n (fun j hj => (h.2.2.1 j hj).2) a) hx).mpr e) h_)
  refine wp_aload_n hX (dk DX11_is 6 rfl) rfl ?_
  refine wp_dup hX (dk DX11_is 7 rfl) rfl ?_
  refine w_geti hX flX11_198 (dk DX11_is 8 rfl) (by decide) rfl ?_
  rw [h.2.2.2]
  refine wp_iconst (v := 1) hX (dk DX11_is 9 rfl) (by decide) ?_
  refine wp_iadd hX (dk DX11_is 10 rfl) ?_
  rw [nI_1]
  refine w_puti hX fpX11_198 (dk DX11_is 11 rfl) rfl ?_
  refine wp_iconst (v := 1) hX (dk DX11_is 12 rfl) (by decide) ?_
  exact wp_ireturn hX hR (dk DX11_is 13 rfl) rfl (Nat.le_refl _) (Nat.le_refl _) (⟨rfl, rfl⟩)
theorem k_is0 (d : Nat) (sw : Bool) (f : Nat → Nat → Int32) (g : Nat → Nat → Int64) (T : Nat → Nat) (n a x : Nat) (h : mtO f T n a) (ha : a ≤ n) (hx : x < 128) (e : ¬ pC T n a = x) : CT (d + 1) 0 0 iX11_is [.ref 81, .int (nI x)] (S sw f g) (QR (some (.int 0)) (S sw f g)) := by
  refine CT.of rfl (Nat.le_of_ble_eq_true rfl) (fun X hX hR hN _ => ?_)
  have hX : Good X RX11 cX11_is (d + 1) 0 0 := hX
  have hN : x_nl X = 2 := hN
  show WP X 0 0 0 [_, _] [] _
  refine wp_aload_n hX (dk DX11_is 0 rfl) rfl ?_
  refine w_callV (As := []) lkX11_201 hX (dk DX11_is 1 rfl) rfl rfl (by decide) hN (k_sign d sw f g T n a h ha) ?_
  show WP _ _ _ 4 [_, _] [_] _
  refine wp_iload_n hX (dk DX11_is 2 rfl) rfl ?_
  refine wp_icmp_eq (tgt := 10) hX (dk DX11_is 3 rfl) (by decide) (fun h_ => absurd h_ (fun q => e ((ms_eq (pC_in T n (fun j hj => (h.2.2.1 j hj).2) a) hx).mp q))) (fun _ => ?_)
  refine wp_iconst (v := 0) hX (dk DX11_is 4 rfl) (by decide) ?_
  exact wp_ireturn hX hR (dk DX11_is 5 rfl) rfl (Nat.le_refl _) (Nat.le_refl _) (⟨rfl, rfl⟩)
theorem kx_app {f : Nat → Nat → Int32} {K : List Nat} {k j q : Nat} {v : Int32} (h2 : ∀ (j k : Nat), K[j]? = some k → f 96 j = nI k) (hj : (K ++ [k])[j]? = some q) : u2 (u2 f 81 19 v) 96 K.length (nI k) 96 j = nI q := by
  by_cases c : j < K.length
  · rw [List.getElem?_append_left c] at hj
    rw [u2_off _ _ _ (by omega), u2_ne _ _ _ (by decide)]
    exact h2 j q hj
  · rw [List.getElem?_append_right (by omega)] at hj
    have h0 : j - K.length = 0 := by
      have := (List.getElem?_eq_some_iff.mp hj).1
      simp at this
      omega
    rw [h0] at hj
    cases hj
    rw [show j = K.length by omega, u2_at]
theorem k_codes (d : Nat) (sw : Bool) (f : Nat → Nat → Int32) (g : Nat → Nat → Int64) (K : List Nat) (k : Nat) (h : cdO f K) (hK : K.length < 200) : CT d 0 0 iX11_codes [.ref 81, .int (nI k)] (S sw f g) (QS (fun r sw2 f2 g2 => r = some (.int 1) ∧ sw2 = sw ∧ g2 = g ∧ mpS f f2 ∧ f2 81 17 = f 81 17 ∧ f2 81 18 = f 81 18 ∧ cdO f2 (K ++ [k]))) := by
  obtain ⟨h1, h2⟩ := h
  refine CT.of rfl (Nat.le_of_ble_eq_true rfl) (fun X hX hR hN _ => ?_)
  have hX : Good X RX11 cX11_codes d 0 0 := hX
  have hN : x_nl X = 2 := hN
  show WP X 0 0 0 [_, _] [] _
  refine wp_aload_n hX (dk DX11_codes 0 rfl) rfl ?_
  refine w_getr hX flX11_54 (dk DX11_codes 1 rfl) rfl rfl ?_
  refine wp_aload_n hX (dk DX11_codes 2 rfl) rfl ?_
  refine wp_dup hX (dk DX11_codes 3 rfl) rfl ?_
  refine w_geti hX flX11_205 (dk DX11_codes 4 rfl) (by decide) rfl ?_
  rw [h1]
  refine wp_dup_x1 hX (dk DX11_codes 5 rfl) rfl rfl ?_
  refine wp_iconst (v := 1) hX (dk DX11_codes 6 rfl) (by decide) ?_
  refine wp_iadd hX (dk DX11_codes 7 rfl) ?_
  rw [nI_1]
  refine w_puti hX fpX11_205 (dk DX11_codes 8 rfl) rfl ?_
  refine wp_iload_n hX (dk DX11_codes 9 rfl) rfl ?_
  refine w_iast (j := _) hX (dk DX11_codes 10 rfl) rfl rfl (show _ < 200 by omega) ?_
  refine wp_iconst (v := 1) hX (dk DX11_codes 11 rfl) (by decide) ?_
  exact wp_ireturn hX hR (dk DX11_codes 12 rfl) rfl (Nat.le_refl _) (Nat.le_refl _) (⟨_, _, _, rfl, rfl, rfl, rfl, ⟨fun b g1 g2 => by rw [u2_ne _ _ _ g2, u2_ne _ _ _ g1], fun i _ _ g3 => by rw [u2_ne _ _ _ (by decide), u2_off _ _ _ g3]⟩, by rw [u2_ne _ _ _ (by decide), u2_off _ _ _ (by decide)], by rw [u2_ne _ _ _ (by decide), u2_off _ _ _ (by decide)], ⟨by rw [u2_ne _ _ _ (by decide), u2_at]; simp, fun j q hj => (kx_app h2 hj)⟩⟩)
theorem k_mDg (d : Nat) (sw : Bool) (f : Nat → Nat → Int32) (g : Nat → Nat → Int64) (T : Nat → Nat) (n a : Nat) (h : mtO f T n a) (ha : a ≤ n) : CT (d + 1) 0 0 iX11_isDigit [.ref 81] (S sw f g) (QR (some (.int (if isDg (pC T n a) then 1 else 0))) (S sw f g)) := by
  have hk : (¬ ms (pC T n a) < 48 ∧ ¬ 57 < ms (pC T n a)) ↔ isDg (pC T n a) = true := by
    rcases pC_in T n (fun j hj => (h.2.2.1 j hj).2) a with q | q
    · exact ms_dg _ q
    · rw [q]; exact ⟨fun e => absurd e ms_dg9, fun e => by simp [isDg] at e⟩
  refine CT.of rfl (Nat.le_of_ble_eq_true rfl) (fun X hX hR hN _ => ?_)
  have hX : Good X RX11 cX11_isDigit (d + 1) 0 0 := hX
  have hN : x_nl X = 1 := hN
  show WP X 0 0 0 [_] [] _
  by_cases c1 : ms (pC T n a) < 48
  · rw [if_neg (fun q => (hk.mpr q).1 c1)] at hR
    refine wp_aload_n hX (dk DX11_isDigit 0 rfl) rfl ?_
    refine w_callV (As := []) lkX11_201 hX (dk DX11_isDigit 1 rfl) rfl rfl (by decide) hN (k_sign d sw f g T n a h ha) ?_
    show WP _ _ _ 4 [_] [_] _
    refine wp_bipush (v := 48) hX (dk DX11_isDigit 2 rfl) (by decide) ?_
    refine wp_icmp_lt (tgt := 22) hX (dk DX11_isDigit 3 rfl) (by decide) (fun _ => ?_) (fun h_ => absurd (c1) h_)
    refine wp_iconst (v := 0) hX (dk DX11_isDigit 10 rfl) (by decide) ?_
    exact wp_ireturn hX hR (dk DX11_isDigit 11 rfl) rfl (Nat.le_refl _) (Nat.le_refl _) (⟨rfl, rfl⟩)
  · by_cases c2 : (57 : Int32) < ms (pC T n a)
    · rw [if_neg (fun q => (hk.mpr q).2 c2)] at hR
      refine wp_aload_n hX (dk DX11_isDigit 0 rfl) rfl ?_
      refine w_callV (As := []) lkX11_201 hX (dk DX11_isDigit 1 rfl) rfl rfl (by decide) hN (k_sign d sw f g T n a h ha) ?_
      show WP _ _ _ 4 [_] [_] _
      refine wp_bipush (v := 48) hX (dk DX11_isDigit 2 rfl) (by decide) ?_
      refine wp_icmp_lt (tgt := 22) hX (dk DX11_isDigit 3 rfl) (by decide) (fun h_ => absurd h_ (c1)) (fun _ => ?_)
      refine wp_aload_n hX (dk DX11_isDigit 4 rfl) rfl ?_
      refine w_callV (As := []) lkX11_201 hX (dk DX11_isDigit 5 rfl) rfl rfl (by decide) hN (k_sign d sw f g T n a h ha) ?_
      show WP _ _ _ 13 [_] [_] _
      refine wp_bipush (v := 57) hX (dk DX11_isDigit 6 rfl) (by decide) ?_
      refine wp_icmp_gt (tgt := 22) hX (dk DX11_isDigit 7 rfl) (by decide) (fun _ => ?_) (fun h_ => absurd (c2) h_)
      refine wp_iconst (v := 0) hX (dk DX11_isDigit 10 rfl) (by decide) ?_
      exact wp_ireturn hX hR (dk DX11_isDigit 11 rfl) rfl (Nat.le_refl _) (Nat.le_refl _) (⟨rfl, rfl⟩)
    · rw [if_pos (hk.mp ⟨c1, c2⟩)] at hR
      refine wp_aload_n hX (dk DX11_isDigit 0 rfl) rfl ?_
      refine w_callV (As := []) lkX11_201 hX (dk DX11_isDigit 1 rfl) rfl rfl (by decide) hN (k_sign d sw f g T n a h ha) ?_
      show WP _ _ _ 4 [_] [_] _
      refine wp_bipush (v := 48) hX (dk DX11_isDigit 2 rfl) (by decide) ?_
      refine wp_icmp_lt (tgt := 22) hX (dk DX11_isDigit 3 rfl) (by decide) (fun h_ => absurd h_ (c1)) (fun _ => ?_)
      refine wp_aload_n hX (dk DX11_isDigit 4 rfl) rfl ?_
      refine w_callV (As := []) lkX11_201 hX (dk DX11_isDigit 5 rfl) rfl rfl (by decide) hN (k_sign d sw f g T n a h ha) ?_
      show WP _ _ _ 13 [_] [_] _
      refine wp_bipush (v := 57) hX (dk DX11_isDigit 6 rfl) (by decide) ?_
      refine wp_icmp_gt (tgt := 22) hX (dk DX11_isDigit 7 rfl) (by decide) (fun h_ => absurd h_ (c2)) (fun _ => ?_)
      refine wp_iconst (v := 1) hX (dk DX11_isDigit 8 rfl) (by decide) ?_
      refine wp_goto (tgt := 23) hX (dk DX11_isDigit 9 rfl) (by decide) ?_
      exact wp_ireturn hX hR (dk DX11_isDigit 11 rfl) rfl (Nat.le_refl _) (Nat.le_refl _) (⟨rfl, rfl⟩)
theorem ms_inj {x : Nat} (h : x < 256 ∨ x = 999) (y : Nat) (hy : y < 128) (e : ¬ x = y) : ¬ ms x = nI y := fun q => e ((ms_eq h hy).mp q)
theorem k_nameOf (d : Nat) (sw : Bool) (f : Nat → Nat → Int32) (g : Nat → Nat → Int64) (x : Nat) (h : x < 256 ∨ x = 999) : CT d 0 0 iX11_nameOf [.int (ms x)] (S sw f g) (QR (some (.int (if pNm x < 6 then nI (pNm x) else -1))) (S sw f g)) := by
  by_cases a1 : x = 97
  · subst a1
    refine CT.of rfl (Nat.le_of_ble_eq_true rfl) (fun X hX hR hN _ => ?_)
    have hX : Good X RX11 cX11_nameOf d 0 0 := hX
    have hN : x_nl X = 1 := hN
    show WP X 0 0 0 [_] [] _
    refine wp_iload_n hX (dk DX11_nameOf 0 rfl) rfl ?_
    refine wp_lookAt (c := 97) (off := 63) (tgt := 64) hX (dk DX11_nameOf 1 rfl) (rfl) (by decide) (by decide) (by decide) ?_
    refine wp_iconst (v := 2) hX (dk DX11_nameOf 6 rfl) (by decide) ?_
    exact wp_ireturn hX hR (dk DX11_nameOf 7 rfl) rfl (Nat.le_refl _) (Nat.le_refl _) (⟨rfl, rfl⟩)
  by_cases a2 : x = 99
  · subst a2
    refine CT.of rfl (Nat.le_of_ble_eq_true rfl) (fun X hX hR hN _ => ?_)
    have hX : Good X RX11 cX11_nameOf d 0 0 := hX
    have hN : x_nl X = 1 := hN
    show WP X 0 0 0 [_] [] _
    refine wp_iload_n hX (dk DX11_nameOf 0 rfl) rfl ?_
    refine wp_lookAt (c := 99) (off := 65) (tgt := 66) hX (dk DX11_nameOf 1 rfl) (rfl) (by decide) (by decide) (by decide) ?_
    refine wp_iconst (v := 3) hX (dk DX11_nameOf 8 rfl) (by decide) ?_
    exact wp_ireturn hX hR (dk DX11_nameOf 9 rfl) rfl (Nat.le_refl _) (Nat.le_refl _) (⟨rfl, rfl⟩)
  by_cases a3 : x = 102
  · subst a3
    refine CT.of rfl (Nat.le_of_ble_eq_true rfl) (fun X hX hR hN _ => ?_)
    have hX : Good X RX11 cX11_nameOf d 0 0 := hX
    have hN : x_nl X = 1 := hN
    show WP X 0 0 0 [_] [] _
    refine wp_iload_n hX (dk DX11_nameOf 0 rfl) rfl ?_
    refine wp_lookAt (c := 102) (off := 61) (tgt := 62) hX (dk DX11_nameOf 1 rfl) (rfl) (by decide) (by decide) (by decide) ?_
    refine wp_iconst (v := 1) hX (dk DX11_nameOf 4 rfl) (by decide) ?_
    exact wp_ireturn hX hR (dk DX11_nameOf 5 rfl) rfl (Nat.le_refl _) (Nat.le_refl _) (⟨rfl, rfl⟩)
  by_cases a4 : x = 107
  · subst a4
    refine CT.of rfl (Nat.le_of_ble_eq_true rfl) (fun X hX hR hN _ => ?_)
    have hX : Good X RX11 cX11_nameOf d 0 0 := hX
    have hN : x_nl X = 1 := hN
    show WP X 0 0 0 [_] [] _
    refine wp_iload_n hX (dk DX11_nameOf 0 rfl) rfl ?_
    refine wp_lookAt (c := 107) (off := 69) (tgt := 70) hX (dk DX11_nameOf 1 rfl) (rfl) (by decide) (by decide) (by decide) ?_
    refine wp_iconst (v := 5) hX (dk DX11_nameOf 12 rfl) (by decide) ?_
    exact wp_ireturn hX hR (dk DX11_nameOf 13 rfl) rfl (Nat.le_refl _) (Nat.le_refl _) (⟨rfl, rfl⟩)
  by_cases a5 : x = 110
  · subst a5
    refine CT.of rfl (Nat.le_of_ble_eq_true rfl) (fun X hX hR hN _ => ?_)
    have hX : Good X RX11 cX11_nameOf d 0 0 := hX
    have hN : x_nl X = 1 := hN
    show WP X 0 0 0 [_] [] _
    refine wp_iload_n hX (dk DX11_nameOf 0 rfl) rfl ?_
    refine wp_lookAt (c := 110) (off := 67) (tgt := 68) hX (dk DX11_nameOf 1 rfl) (rfl) (by decide) (by decide) (by decide) ?_
    refine wp_iconst (v := 4) hX (dk DX11_nameOf 10 rfl) (by decide) ?_
    exact wp_ireturn hX hR (dk DX11_nameOf 11 rfl) rfl (Nat.le_refl _) (Nat.le_refl _) (⟨rfl, rfl⟩)
  by_cases a6 : x = 119
  · subst a6
    refine CT.of rfl (Nat.le_of_ble_eq_true rfl) (fun X hX hR hN _ => ?_)
    have hX : Good X RX11 cX11_nameOf d 0 0 := hX
    have hN : x_nl X = 1 := hN
    show WP X 0 0 0 [_] [] _
    refine wp_iload_n hX (dk DX11_nameOf 0 rfl) rfl ?_
    refine wp_lookAt (c := 119) (off := 59) (tgt := 60) hX (dk DX11_nameOf 1 rfl) (rfl) (by decide) (by decide) (by decide) ?_
    refine wp_iconst (v := 0) hX (dk DX11_nameOf 2 rfl) (by decide) ?_
    exact wp_ireturn hX hR (dk DX11_nameOf 3 rfl) rfl (Nat.le_refl _) (Nat.le_refl _) (⟨rfl, rfl⟩)
  have hp : ¬ pNm x < 6 := by
    unfold pNm
    rw [if_neg a6, if_neg a3, if_neg a1, if_neg a2, if_neg a5, if_neg a4]
    decide
  rw [if_neg hp]
  refine CT.of rfl (Nat.le_of_ble_eq_true rfl) (fun X hX hR hN _ => ?_)
  have hX : Good X RX11 cX11_nameOf d 0 0 := hX
  have hN : x_nl X = 1 := hN
  show WP X 0 0 0 [_] [] _
  refine wp_iload_n hX (dk DX11_nameOf 0 rfl) rfl ?_
  refine wp_lookup (off := 71) (tgt := 72) hX (dk DX11_nameOf 1 rfl) (by decide) (lk_cons (ne_toI' (ms_inj h 97 (by decide) a1) rfl) (lk_cons (ne_toI' (ms_inj h 99 (by decide) a2) rfl) (lk_cons (ne_toI' (ms_inj h 102 (by decide) a3) rfl) (lk_cons (ne_toI' (ms_inj h 107 (by decide) a4) rfl) (lk_cons (ne_toI' (ms_inj h 110 (by decide) a5) rfl) (lk_cons (ne_toI' (ms_inj h 119 (by decide) a6) rfl) lk_nil)))))) (by decide) ?_
  refine wp_iconst (v := -1) hX (dk DX11_nameOf 14 rfl) (by decide) ?_
  exact wp_ireturn hX hR (dk DX11_nameOf 15 rfl) rfl (Nat.le_refl _) (Nat.le_refl _) (⟨rfl, rfl⟩)
