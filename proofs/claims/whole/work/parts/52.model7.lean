/-! REFERENCE: the law's text, levels -/
/-- what a level leaves -/
def mxQ (sw : Bool) (g : Nat → Nat → Int64) (f : Nat → Nat → Int32) (K : List Nat) (o : Nat) (R : pR) : Option Value → mM → Prop := QS (fun r sw2 f2 g2 => r = some (.int (if R.1 then 1 else 0)) ∧ sw2 = sw ∧ g2 = g ∧ mpS f f2 ∧ f2 81 17 = nI R.2.1 ∧ f2 81 18 = nI o ∧ (R.1 = true → cdO f2 (K ++ R.2.2)))
theorem k_mxO (D m : Nat) (hE : ∀ (sw : Bool) (f : Nat → Nat → Int32) (g : Nat → Nat → Int64) (T : Nat → Nat) (n a o : Nat) (K : List Nat), mtO f T n a → a ≤ n → f 81 18 = nI o → cdO f K → K.length ≤ a → o ≤ 6 → rk 0 o ≤ m → CT (D + 2) 0 0 iX11_isE [.ref 81] (S sw f g) (mxQ sw g f K o (pJ (pC T n) m 0 o a))) (hO : ∀ (sw : Bool) (f : Nat → Nat → Int32) (g : Nat → Nat → Int64) (T : Nat → Nat) (n a o : Nat) (K : List Nat), mtO f T n a → a ≤ n → f 81 18 = nI o → cdO f K → K.length ≤ a → o ≤ 6 → rk 5 o ≤ m → CT (D + 2) 0 0 iX11_isO [.ref 81] (S sw f g) (mxQ sw g f K o (pJ (pC T n) m 5 o a))) (sw : Bool) (f : Nat → Nat → Int32) (g : Nat → Nat → Int64) (T : Nat → Nat) (n a o : Nat) (K : List Nat) (h : mtO f T n a) (ha : a ≤ n) (hop : f 81 18 = nI o) (hk : cdO f K) (hK : K.length ≤ a) (ho : o ≤ 6) (hr : rk 5 o ≤ m + 1) : CT (D + 3) 0 0 iX11_isO [.ref 81] (S sw f g) (mxQ sw g f K o (pJ (pC T n) (m + 1) 5 o a)) := by
  have hrk : ¬ 6 ≤ o → rk 0 (o + 1) ≤ m ∧ rk 5 (o + 1) ≤ m := by unfold rk at hr ⊢; omega
  obtain ⟨c, hc⟩ : ∃ c, c = pC T n := ⟨_, rfl⟩
  have hend : ∀ a, n ≤ a → c a = 999 := by rw [hc]; exact pC_end T n
  have hn := h.2.1
  have hin : c a < 256 ∨ c a = 999 := by rw [hc]; exact pC_in T n (fun j hj => (h.2.2.1 j hj).2) a
  rw [pJ, if_neg (by decide), ← hc]
  refine CT.of rfl (Nat.le_of_ble_eq_true rfl) (fun X hX hR hN _ => ?_)
  have hX : Good X RX11 cX11_isO (D + 3) 0 0 := hX
  have hN : x_nl X = 3 := hN
  show WP X 0 0 0 [_, _, _] [] _
  refine wp_aload_n hX (dk DX11_isO 0 rfl) rfl ?_
  refine w_callV (As := []) lkX11_208 hX (dk DX11_isO 1 rfl) rfl rfl (by decide) hN (k_mDg (D + 1) sw f g T n a h ha) ?_
  show WP _ _ _ 4 [_, _, _] [_] _
  rw [← hc]
  by_cases c1 : isDg (c a) = true
  · rw [if_pos c1] at hR ⊢
    obtain ⟨R0, hR0⟩ : ∃ R0, R0 = pNu c 4 a 0 := ⟨_, rfl⟩
    rw [← hR0] at hR
    have out : ∀ (b v : Nat) (f2 : Nat → Nat → Int32) (z : Option Value), R0 = (v, b) → mtO f2 T n b → mpS f f2 → f2 81 18 = nI o → cdO f2 K → WP X 0 0 57 [some (.ref 81), some (.int (nI v)), z] [] (S sw f2 g) := by
      intro b v f2 z e h2 hs ho2 hk2
      rw [e] at hR
      refine wp_aload_n hX (dk DX11_isO 33 rfl) rfl ?_
      refine wp_bipush (v := 18) hX (dk DX11_isO 34 rfl) (by decide) ?_
      refine wp_iload_n hX (dk DX11_isO 35 rfl) rfl ?_
      refine wp_iadd hX (dk DX11_isO 36 rfl) ?_
      rw [show (18 : Int32) + nI v = nI (18 + v) by rw [show (18 : Int32) = nI 18 from rfl, nI_add]]
      refine w_callVQ (As := [_]) lkX11_212 hX (dk DX11_isO 37 rfl) rfl rfl (by decide) hN (k_codes (D + 2) sw f2 g K _ hk2 (by omega)) (fun v_ sw_ f_ g_ hq_ => ?_)
      obtain ⟨rfl, rfl, rfl, e1, e2, e3, e4⟩ := hq_
      show WP _ _ _ 65 [_, _, _] [_] _
      exact wp_ireturn hX hR (dk DX11_isO 38 rfl) rfl (Nat.le_refl _) (Nat.le_refl _) (⟨_, _, _, rfl, rfl, rfl, rfl, hs.trans e1, by rw [e2]; exact h2.2.2.2, by rw [e3, ho2], fun _ => e4⟩)
    have lo : ∀ (k j b v : Nat) (f2 : Nat → Nat → Int32), j + k = 4 → R0 = pNu c k b v → b ≤ n → mtO f2 T n b → mpS f f2 → f2 81 18 = nI o → cdO f2 K → WP X 0 0 11 [some (.ref 81), some (.int (nI v)), some (.int (nI j))] [] (S sw f2 g) := by
      intro k
      induction k with
      | zero =>
        intro j b v f2 hj e hb h2 hs ho2 hk2
        obtain rfl : j = 4 := by omega
        refine wp_iload_n hX (dk DX11_isO 7 rfl) rfl ?_
        refine wp_iconst (v := 4) hX (dk DX11_isO 8 rfl) (by decide) ?_
        refine wp_icmp_ge (tgt := 57) hX (dk DX11_isO 9 rfl) (by decide) (fun _ => ?_) (fun h_ => absurd (by decide) h_)
        exact out b v f2 _ e h2 hs ho2 hk2
      | succ k ih =>
        intro j b v f2 hj e hb h2 hs ho2 hk2
        rw [pNu] at e
        refine wp_iload_n hX (dk DX11_isO 7 rfl) rfl ?_
        refine wp_iconst (v := 4) hX (dk DX11_isO 8 rfl) (by decide) ?_
        refine wp_icmp_ge (tgt := 57) hX (dk DX11_isO 9 rfl) (by decide) (fun h_ => absurd h_ ((nI_ge (b := 4) (by omega) (by omega)))) (fun _ => ?_)
        refine wp_aload_n hX (dk DX11_isO 10 rfl) rfl ?_
        refine w_callV (As := []) lkX11_208 hX (dk DX11_isO 11 rfl) rfl rfl (by decide) hN (k_mDg (D + 1) sw f2 g T n b h2 hb) ?_
        show WP _ _ _ 20 [_, _, _] [_] _
        rw [← hc]
        by_cases c2 : isDg (c b) = true
        · rw [if_pos c2] at e ⊢
          have hd := of_decide_eq_true c2
          have hbn : b < n := by
            by_cases q : b < n
            · exact q
            · rw [hend b (by omega)] at hd; omega
          have hT : c b = T b := by rw [hc]; unfold pC; rw [if_pos hbn]
          rw [hT] at hd e
          obtain ⟨i1, i2, i3, i4⟩ := h2
          refine wp_if_eq (tgt := 57) hX (dk DX11_isO 12 rfl) (by decide) (fun h_ => absurd h_ (by decide)) (fun _ => ?_)
          refine wp_bipush (v := 10) hX (dk DX11_isO 13 rfl) (by decide) ?_
          refine wp_iload_n hX (dk DX11_isO 14 rfl) rfl ?_
          refine wp_imul hX (dk DX11_isO 15 rfl) ?_
          refine wp_aload_n hX (dk DX11_isO 16 rfl) rfl ?_
          refine w_getr hX flX11_30 (dk DX11_isO 17 rfl) rfl rfl ?_
          refine wp_aload_n hX (dk DX11_isO 18 rfl) rfl ?_
          refine w_geti hX flX11_198 (dk DX11_isO 19 rfl) (by decide) rfl ?_
          rw [i4]
          refine w_iald (j := _) hX (dk DX11_isO 20 rfl) rfl rfl (show _ < 120 by omega) ?_
          rw [(i3 b hbn).1]
          refine wp_iadd hX (dk DX11_isO 21 rfl) ?_
          refine wp_bipush (v := 48) hX (dk DX11_isO 22 rfl) (by decide) ?_
          refine wp_isub hX (dk DX11_isO 23 rfl) ?_
          rw [show (10 : Int32) * nI v + nI (T b) - 48 = nI (10 * v + (T b - 48)) by rw [show (10 : Int32) = nI 10 from rfl, show (48 : Int32) = nI 48 from rfl, pk_mul, nI_add, pk_sub (by omega)]; congr 1; omega]
          refine wp_istore_n hX (dk DX11_isO 24 rfl) rfl rfl hN (Nat.le_of_ble_eq_true rfl) ?_
          show WP _ _ _ 41 [_, _, _] [] _
          refine wp_aload_n hX (dk DX11_isO 25 rfl) rfl ?_
          refine wp_dup hX (dk DX11_isO 26 rfl) rfl ?_
          refine w_geti hX flX11_198 (dk DX11_isO 27 rfl) (by decide) rfl ?_
          rw [i4]
          refine wp_iconst (v := 1) hX (dk DX11_isO 28 rfl) (by decide) ?_
          refine wp_iadd hX (dk DX11_isO 29 rfl) ?_
          rw [nI_1]
          refine w_puti hX fpX11_198 (dk DX11_isO 30 rfl) rfl ?_
          refine wp_iinc hX (dk DX11_isO 31 rfl) rfl (nI_inc _) rfl hN ?_
          show WP _ _ _ 54 [_, _, _] [] _
          refine wp_goto (tgt := 11) hX (dk DX11_isO 32 rfl) (by decide) ?_
          have h2 : mtO f2 T n b := ⟨i1, i2, i3, i4⟩
          exact ih (j + 1) (b + 1) _ _ (by omega) e (by omega) (h2.same (mpS.at f2 _) (u2_at _ _ _ _)) (hs.trans (mpS.at f2 _)) (by rw [u2_off _ _ _ (by decide)]; exact ho2) (hk2.at _)
        · rw [if_neg c2] at e ⊢
          refine wp_if_eq (tgt := 57) hX (dk DX11_isO 12 rfl) (by decide) (fun _ => ?_) (fun h_ => absurd (rfl) h_)
          exact out b v f2 _ e h2 hs ho2 hk2
    refine wp_if_eq (tgt := 66) hX (dk DX11_isO 2 rfl) (by decide) (fun h_ => absurd h_ (by decide)) (fun _ => ?_)
    refine wp_iconst (v := 0) hX (dk DX11_isO 3 rfl) (by decide) ?_
    refine wp_istore_n hX (dk DX11_isO 4 rfl) rfl rfl hN (Nat.le_of_ble_eq_true rfl) ?_
    show WP _ _ _ 9 [_, _, _] [] _
    refine wp_iconst (v := 0) hX (dk DX11_isO 5 rfl) (by decide) ?_
    refine wp_istore_n hX (dk DX11_isO 6 rfl) rfl rfl hN (Nat.le_of_ble_eq_true rfl) ?_
    show WP _ _ _ 11 [_, _, _] [] _
    exact lo 4 0 a 0 f (by omega) hR0 ha h mpS.rf hop hk
  · rw [if_neg c1] at hR ⊢
    have same : cdO f K := hk
    by_cases c2 : pNm (c a) < 6
    · rw [if_pos c2] at hR
      refine wp_if_eq (tgt := 66) hX (dk DX11_isO 2 rfl) (by decide) (fun _ => ?_) (fun h_ => absurd (rfl) h_)
      refine wp_aload_n hX (dk DX11_isO 39 rfl) rfl ?_
      refine w_callV (As := []) lkX11_201 hX (dk DX11_isO 40 rfl) rfl rfl (by decide) hN (k_sign (D + 2) sw f g T n a h ha) ?_
      show WP _ _ _ 70 [_, _, _] [_] _
      rw [← hc]
      refine w_callS (As := [_]) lkX11_215 hX (dk DX11_isO 41 rfl) rfl (by decide) (k_nameOf (D + 2) sw f g (c a) hin) ?_
      show WP _ _ _ 73 [_, _, _] [_] _
      rw [if_pos c2]
      refine wp_istore_n hX (dk DX11_isO 42 rfl) rfl rfl hN (Nat.le_of_ble_eq_true rfl) ?_
      show WP _ _ _ 74 [_, _, _] [] _
      refine wp_iload_n hX (dk DX11_isO 43 rfl) rfl ?_
      refine wp_if_lt (tgt := 94) hX (dk DX11_isO 44 rfl) (by decide) (fun h_ => absurd h_ (nI_pos (by omega))) (fun _ => ?_)
      refine wp_aload_n hX (dk DX11_isO 45 rfl) rfl ?_
      refine wp_dup hX (dk DX11_isO 46 rfl) rfl ?_
      refine w_geti hX flX11_198 (dk DX11_isO 47 rfl) (by decide) rfl ?_
      rw [h.2.2.2]
      refine wp_iconst (v := 1) hX (dk DX11_isO 48 rfl) (by decide) ?_
      refine wp_iadd hX (dk DX11_isO 49 rfl) ?_
      rw [nI_1]
      refine w_puti hX fpX11_198 (dk DX11_isO 50 rfl) rfl ?_
      refine wp_aload_n hX (dk DX11_isO 51 rfl) rfl ?_
      refine wp_iload_n hX (dk DX11_isO 52 rfl) rfl ?_
      refine w_callVQ (As := [_]) lkX11_212 hX (dk DX11_isO 53 rfl) rfl rfl (by decide) hN (k_codes (D + 2) sw _ g K _ (hk.at _) (by omega)) (fun v_ sw_ f_ g_ hq_ => ?_)
      obtain ⟨rfl, rfl, rfl, e1, e2, e3, e4⟩ := hq_
      show WP _ _ _ 93 [_, _, _] [_] _
      exact wp_ireturn hX hR (dk DX11_isO 54 rfl) rfl (Nat.le_refl _) (Nat.le_refl _) (⟨_, _, _, rfl, rfl, rfl, rfl, (mpS.at f _).trans e1, by rw [e2, u2_at], by rw [e3, u2_off _ _ _ (by decide), hop], fun _ => e4⟩)
    · rw [if_neg c2] at hR
      by_cases c3 : 6 ≤ o
      · rw [if_pos c3] at hR
        obtain rfl : o = 6 := by omega
        refine wp_if_eq (tgt := 66) hX (dk DX11_isO 2 rfl) (by decide) (fun _ => ?_) (fun h_ => absurd (rfl) h_)
        refine wp_aload_n hX (dk DX11_isO 39 rfl) rfl ?_
        refine w_callV (As := []) lkX11_201 hX (dk DX11_isO 40 rfl) rfl rfl (by decide) hN (k_sign (D + 2) sw f g T n a h ha) ?_
        show WP _ _ _ 70 [_, _, _] [_] _
        rw [← hc]
        refine w_callS (As := [_]) lkX11_215 hX (dk DX11_isO 41 rfl) rfl (by decide) (k_nameOf (D + 2) sw f g (c a) hin) ?_
        show WP _ _ _ 73 [_, _, _] [_] _
        rw [if_neg c2]
        refine wp_istore_n hX (dk DX11_isO 42 rfl) rfl rfl hN (Nat.le_of_ble_eq_true rfl) ?_
        show WP _ _ _ 74 [_, _, _] [] _
        refine wp_iload_n hX (dk DX11_isO 43 rfl) rfl ?_
        refine wp_if_lt (tgt := 94) hX (dk DX11_isO 44 rfl) (by decide) (fun _ => ?_) (fun h_ => absurd (by decide) h_)
        refine wp_aload_n hX (dk DX11_isO 55 rfl) rfl ?_
        refine w_geti hX flX11_218 (dk DX11_isO 56 rfl) (by decide) rfl ?_
        rw [hop]
        refine wp_bipush (v := 6) hX (dk DX11_isO 57 rfl) (by decide) ?_
        refine wp_icmp_ne (tgt := 105) hX (dk DX11_isO 58 rfl) (by decide) (fun h_ => absurd (rfl) h_) (fun _ => ?_)
        refine wp_iconst (v := 0) hX (dk DX11_isO 59 rfl) (by decide) ?_
        exact wp_ireturn hX hR (dk DX11_isO_1 0 rfl) rfl (Nat.le_refl _) (Nat.le_refl _) (⟨_, _, _, rfl, rfl, rfl, rfl, mpS.rf, h.2.2.2, hop, fun q => Bool.noConfusion q⟩)
      · rw [if_neg c3] at hR
        obtain ⟨rk1, rk2⟩ := hrk c3
        obtain ⟨f0, hf0⟩ : ∃ f0, f0 = u2 f 81 18 (nI (o + 1)) := ⟨_, rfl⟩
        have s0 : mpS f f0 := by rw [hf0]; exact mpS.op f _
        have h0 : mtO f0 T n a := h.same s0 (by rw [hf0, u2_off _ _ _ (by decide)]; exact h.2.2.2)
        have k0 : cdO f0 K := by rw [hf0]; exact hk.op _
        have o0 : f0 81 18 = nI (o + 1) := by rw [hf0, u2_at]
        have a1 : ∀ x, c a = x → x < 128 → a + 1 ≤ n := by
          intro x hx hx1
          by_cases q : a + 1 ≤ n
          · exact q
          · rw [hend a (by omega)] at hx; omega
        have h1 : mtO (u2 f0 81 17 (nI (a + 1))) T n (a + 1) := h0.same (mpS.at f0 _) (u2_at _ _ _ _)
        have s1 : mpS f (u2 f0 81 17 (nI (a + 1))) := s0.trans (mpS.at f0 _)
        have k1 : cdO (u2 f0 81 17 (nI (a + 1))) K := k0.at _
        have o1 : u2 f0 81 17 (nI (a + 1)) 81 18 = nI (o + 1) := by rw [u2_off _ _ _ (by decide)]; exact o0
        obtain ⟨f1, hf1⟩ : ∃ f1, f1 = u2 f0 81 17 (nI (a + 1)) := ⟨_, rfl⟩
        rw [← hf1] at h1 s1 k1 o1
        obtain ⟨R0, hR0⟩ : ∃ R0 : pR, R0 = (if c a = 40 then (if (pJ c m 0 (o + 1) (a + 1)).1 = true then (if c (pJ c m 0 (o + 1) (a + 1)).2.1 = 41 then (true, (pJ c m 0 (o + 1) (a + 1)).2.1 + 1, (pJ c m 0 (o + 1) (a + 1)).2.2) else (false, (pJ c m 0 (o + 1) (a + 1)).2.1, [])) else (false, (pJ c m 0 (o + 1) (a + 1)).2.1, [])) else if c a = 33 then ((pJ c m 5 (o + 1) (a + 1)).1, (pJ c m 5 (o + 1) (a + 1)).2.1, (pJ c m 5 (o + 1) (a + 1)).2.2 ++ [16]) else if c a = 45 then ((pJ c m 5 (o + 1) (a + 1)).1, (pJ c m 5 (o + 1) (a + 1)).2.1, (pJ c m 5 (o + 1) (a + 1)).2.2 ++ [17]) else (false, a, [])) := ⟨_, rfl⟩
        rw [← hR0] at hR
        have fin : ∀ (f2 : Nat → Nat → Int32) (y : Option Value) (v : Int32) (b : Bool), R0.1 = b → v = (if b then 1 else 0) → mpS f f2 → f2 81 17 = nI R0.2.1 → f2 81 18 = nI (o + 1) → (b = true → cdO f2 (K ++ R0.2.2)) → WP X 0 0 214 [some (.ref 81), y, some (.int v)] [] (S sw f2 g) := by
          intro f2 y v b hb hv hs ha2 ho2 hk2
          subst hb hv
          refine wp_aload_n hX (dk DX11_isO_1 54 rfl) rfl ?_
          refine wp_dup hX (dk DX11_isO_1 55 rfl) rfl ?_
          refine w_geti hX flX11_218 (dk DX11_isO_1 56 rfl) (by decide) rfl ?_
          rw [ho2]
          refine wp_iconst (v := 1) hX (dk DX11_isO_1 57 rfl) (by decide) ?_
          refine wp_isub hX (dk DX11_isO_1 58 rfl) ?_
          rw [show nI (o + 1) - 1 = nI o by rw [show (1 : Int32) = nI 1 from rfl, pk_sub (by omega)]; rfl]
          refine w_puti hX fpX11_218 (dk DX11_isO_1 59 rfl) rfl ?_
          refine wp_iload_n hX (dk DX11_isO_2 0 rfl) rfl ?_
          exact wp_ireturn hX hR (dk DX11_isO_2 1 rfl) (by cases R0.1 <;> rfl) (Nat.le_refl _) (Nat.le_refl _) (⟨_, _, _, rfl, rfl, rfl, rfl, hs.trans (mpS.op f2 _), by rw [u2_off _ _ _ (by decide)]; exact ha2, u2_at _ _ _ _, fun q => (hk2 q).op _⟩)
        by_cases c4 : c a = 33
        · rw [if_neg (by omega), if_pos c4] at hR0
          have a2 := a1 33 c4 (by decide)
          have G := (pJ_ok (c := c) hend m 5 (o + 1) (a + 1) (by decide) a2).2.2
          by_cases z : (pJ c m 5 (o + 1) (a + 1)).1 = true
          · refine wp_if_eq (tgt := 66) hX (dk DX11_isO 2 rfl) (by decide) (fun _ => ?_) (fun h_ => absurd (rfl) h_)
            refine wp_aload_n hX (dk DX11_isO 39 rfl) rfl ?_
            refine w_callV (As := []) lkX11_201 hX (dk DX11_isO 40 rfl) rfl rfl (by decide) hN (k_sign (D + 2) sw f g T n a h ha) ?_
            show WP _ _ _ 70 [_, _, _] [_] _
            rw [← hc]
            refine w_callS (As := [_]) lkX11_215 hX (dk DX11_isO 41 rfl) rfl (by decide) (k_nameOf (D + 2) sw f g (c a) hin) ?_
            show WP _ _ _ 73 [_, _, _] [_] _
            rw [if_neg c2]
            refine wp_istore_n hX (dk DX11_isO 42 rfl) rfl rfl hN (Nat.le_of_ble_eq_true rfl) ?_
            show WP _ _ _ 74 [_, _, _] [] _
            refine wp_iload_n hX (dk DX11_isO 43 rfl) rfl ?_
            refine wp_if_lt (tgt := 94) hX (dk DX11_isO 44 rfl) (by decide) (fun _ => ?_) (fun h_ => absurd (by decide) h_)
            refine wp_aload_n hX (dk DX11_isO 55 rfl) rfl ?_
            refine w_geti hX flX11_218 (dk DX11_isO 56 rfl) (by decide) rfl ?_
            rw [hop]
            refine wp_bipush (v := 6) hX (dk DX11_isO 57 rfl) (by decide) ?_
            refine wp_icmp_ne (tgt := 105) hX (dk DX11_isO 58 rfl) (by decide) (fun _ => ?_) (fun h_ => absurd h_ (fun q => absurd ((nI_eq (b := 6) (by omega) (by omega)).mp q) (by omega)))
            refine wp_aload_n hX (dk DX11_isO_1 1 rfl) rfl ?_
            refine wp_dup hX (dk DX11_isO_1 2 rfl) rfl ?_
            refine w_geti hX flX11_218 (dk DX11_isO_1 3 rfl) (by decide) rfl ?_
            rw [hop]
            refine wp_iconst (v := 1) hX (dk DX11_isO_1 4 rfl) (by decide) ?_
            refine wp_iadd hX (dk DX11_isO_1 5 rfl) ?_
            rw [nI_1]
            refine w_puti hX fpX11_218 (dk DX11_isO_1 6 rfl) rfl ?_
            rw [← hf0]
            refine wp_aload_n hX (dk DX11_isO_1 7 rfl) rfl ?_
            refine wp_bipush (v := 33) hX (dk DX11_isO_1 8 rfl) (by decide) ?_
            refine w_callV (As := [_]) lkX11_221 hX (dk DX11_isO_1 9 rfl) rfl rfl (by decide) hN (k_is1 (D + 1) sw f0 g T n a 33 h0 ha (by decide) (by rw [← hc]; exact c4)) ?_
            show WP _ _ _ 121 [_, _, _] [_] _
            rw [← hf1]
            refine wp_if_eq (tgt := 149) hX (dk DX11_isO_1 10 rfl) (by decide) (fun h_ => absurd h_ (by decide)) (fun _ => ?_)
            refine wp_aload_n hX (dk DX11_isO_1 11 rfl) rfl ?_
            refine w_callVQ (As := []) lkX11_224 hX (dk DX11_isO_1 12 rfl) rfl rfl (by decide) hN (hO sw f1 g T n (a + 1) (o + 1) K h1 a2 o1 k1 (by omega) (by omega) rk2) (fun v_a sw_a f_a g_a hq_a => ?_)
            obtain ⟨rfl, rfl, rfl, e1, e2, e3, e4⟩ := hq_a
            rw [← hc] at e2 e4 ⊢
            rw [if_pos z]
            show WP _ _ _ 128 [_, _, _] [_] _
            refine wp_if_eq (tgt := 144) hX (dk DX11_isO_1 13 rfl) (by decide) (fun h_ => absurd h_ (by decide)) (fun _ => ?_)
            refine wp_aload_n hX (dk DX11_isO_1 14 rfl) rfl ?_
            refine wp_bipush (v := 16) hX (dk DX11_isO_1 15 rfl) (by decide) ?_
            refine w_callVQ (As := [_]) lkX11_212 hX (dk DX11_isO_1 16 rfl) rfl rfl (by decide) hN (k_codes (D + 2) _ f_a _ _ 16 (e4 z) (by have := (G z).2.1; have := (G z).1; have := (pJ_ok (c := c) hend m 5 (o + 1) (a + 1) (by decide) a2).2.1; simp; omega)) (fun v_b sw_b f_b g_b hq_b => ?_)
            obtain ⟨rfl, rfl, rfl, g1, g2, g3, g4⟩ := hq_b
            show WP _ _ _ 137 [_, _, _] [_] _
            refine wp_if_eq (tgt := 144) hX (dk DX11_isO_1 17 rfl) (by decide) (fun h_ => absurd h_ (by decide)) (fun _ => ?_)
            refine wp_iconst (v := 1) hX (dk DX11_isO_1 18 rfl) (by decide) ?_
            refine wp_goto (tgt := 145) hX (dk DX11_isO_1 19 rfl) (by decide) ?_
            refine wp_istore_n hX (dk DX11_isO_1 21 rfl) rfl rfl hN (Nat.le_of_ble_eq_true rfl) ?_
            show WP _ _ _ 146 [_, _, _] [] _
            refine wp_goto (tgt := 214) hX (dk DX11_isO_1 22 rfl) (by decide) ?_
            exact fin _ _ _ true (by rw [hR0]; exact z) rfl ((s1.trans e1).trans g1) (by rw [g2, e2, hR0]) (by rw [g3, e3]) (fun _ => by rw [hR0, ← List.append_assoc]; exact g4)
          · refine wp_if_eq (tgt := 66) hX (dk DX11_isO 2 rfl) (by decide) (fun _ => ?_) (fun h_ => absurd (rfl) h_)
            refine wp_aload_n hX (dk DX11_isO 39 rfl) rfl ?_
            refine w_callV (As := []) lkX11_201 hX (dk DX11_isO 40 rfl) rfl rfl (by decide) hN (k_sign (D + 2) sw f g T n a h ha) ?_
            show WP _ _ _ 70 [_, _, _] [_] _
            rw [← hc]
            refine w_callS (As := [_]) lkX11_215 hX (dk DX11_isO 41 rfl) rfl (by decide) (k_nameOf (D + 2) sw f g (c a) hin) ?_
            show WP _ _ _ 73 [_, _, _] [_] _
            rw [if_neg c2]
            refine wp_istore_n hX (dk DX11_isO 42 rfl) rfl rfl hN (Nat.le_of_ble_eq_true rfl) ?_
            show WP _ _ _ 74 [_, _, _] [] _
            refine wp_iload_n hX (dk DX11_isO 43 rfl) rfl ?_
            refine wp_if_lt (tgt := 94) hX (dk DX11_isO 44 rfl) (by decide) (fun _ => ?_) (fun h_ => absurd (by decide) h_)
            refine wp_aload_n hX (dk DX11_isO 55 rfl) rfl ?_
            refine w_geti hX flX11_218 (dk DX11_isO 56 rfl) (by decide) rfl ?_
            rw [hop]
            refine wp_bipush (v := 6) hX (dk DX11_isO 57 rfl) (by decide) ?_
            refine wp_icmp_ne (tgt := 105) hX (dk DX11_isO 58 rfl) (by decide) (fun _ => ?_) (fun h_ => absurd h_ (fun q => absurd ((nI_eq (b := 6) (by omega) (by omega)).mp q) (by omega)))
            refine wp_aload_n hX (dk DX11_isO_1 1 rfl) rfl ?_
            refine wp_dup hX (dk DX11_isO_1 2 rfl) rfl ?_
            refine w_geti hX flX11_218 (dk DX11_isO_1 3 rfl) (by decide) rfl ?_
            rw [hop]
            refine wp_iconst (v := 1) hX (dk DX11_isO_1 4 rfl) (by decide) ?_
            refine wp_iadd hX (dk DX11_isO_1 5 rfl) ?_
            rw [nI_1]
            refine w_puti hX fpX11_218 (dk DX11_isO_1 6 rfl) rfl ?_
            rw [← hf0]
            refine wp_aload_n hX (dk DX11_isO_1 7 rfl) rfl ?_
            refine wp_bipush (v := 33) hX (dk DX11_isO_1 8 rfl) (by decide) ?_
            refine w_callV (As := [_]) lkX11_221 hX (dk DX11_isO_1 9 rfl) rfl rfl (by decide) hN (k_is1 (D + 1) sw f0 g T n a 33 h0 ha (by decide) (by rw [← hc]; exact c4)) ?_
            show WP _ _ _ 121 [_, _, _] [_] _
            rw [← hf1]
            refine wp_if_eq (tgt := 149) hX (dk DX11_isO_1 10 rfl) (by decide) (fun h_ => absurd h_ (by decide)) (fun _ => ?_)
            refine wp_aload_n hX (dk DX11_isO_1 11 rfl) rfl ?_
            refine w_callVQ (As := []) lkX11_224 hX (dk DX11_isO_1 12 rfl) rfl rfl (by decide) hN (hO sw f1 g T n (a + 1) (o + 1) K h1 a2 o1 k1 (by omega) (by omega) rk2) (fun v_a sw_a f_a g_a hq_a => ?_)
            obtain ⟨rfl, rfl, rfl, e1, e2, e3, e4⟩ := hq_a
            rw [← hc] at e2 e4 ⊢
            rw [if_neg z]
            show WP _ _ _ 128 [_, _, _] [_] _
            refine wp_if_eq (tgt := 144) hX (dk DX11_isO_1 13 rfl) (by decide) (fun _ => ?_) (fun h_ => absurd (rfl) h_)
            refine wp_iconst (v := 0) hX (dk DX11_isO_1 20 rfl) (by decide) ?_
            refine wp_istore_n hX (dk DX11_isO_1 21 rfl) rfl rfl hN (Nat.le_of_ble_eq_true rfl) ?_
            show WP _ _ _ 146 [_, _, _] [] _
            refine wp_goto (tgt := 214) hX (dk DX11_isO_1 22 rfl) (by decide) ?_
            exact fin _ _ _ false (by rw [hR0]; exact Bool.eq_false_iff.mpr z) rfl (s1.trans e1) (by rw [e2, hR0]) e3 (fun q => Bool.noConfusion q)
        by_cases c5 : c a = 45
        · rw [if_neg (by omega), if_neg c4, if_pos c5] at hR0
          have a2 := a1 45 c5 (by decide)
          have G := (pJ_ok (c := c) hend m 5 (o + 1) (a + 1) (by decide) a2).2.2
          by_cases z : (pJ c m 5 (o + 1) (a + 1)).1 = true
          · refine wp_if_eq (tgt := 66) hX (dk DX11_isO 2 rfl) (by decide) (fun _ => ?_) (fun h_ => absurd (rfl) h_)
            refine wp_aload_n hX (dk DX11_isO 39 rfl) rfl ?_
            refine w_callV (As := []) lkX11_201 hX (dk DX11_isO 40 rfl) rfl rfl (by decide) hN (k_sign (D + 2) sw f g T n a h ha) ?_
            show WP _ _ _ 70 [_, _, _] [_] _
            rw [← hc]
            refine w_callS (As := [_]) lkX11_215 hX (dk DX11_isO 41 rfl) rfl (by decide) (k_nameOf (D + 2) sw f g (c a) hin) ?_
            show WP _ _ _ 73 [_, _, _] [_] _
            rw [if_neg c2]
            refine wp_istore_n hX (dk DX11_isO 42 rfl) rfl rfl hN (Nat.le_of_ble_eq_true rfl) ?_
            show WP _ _ _ 74 [_, _, _] [] _
            refine wp_iload_n hX (dk DX11_isO 43 rfl) rfl ?_
            refine wp_if_lt (tgt := 94) hX (dk DX11_isO 44 rfl) (by decide) (fun _ => ?_) (fun h_ => absurd (by decide) h_)
            refine wp_aload_n hX (dk DX11_isO 55 rfl) rfl ?_
            refine w_geti hX flX11_218 (dk DX11_isO 56 rfl) (by decide) rfl ?_
            rw [hop]
            refine wp_bipush (v := 6) hX (dk DX11_isO 57 rfl) (by decide) ?_
            refine wp_icmp_ne (tgt := 105) hX (dk DX11_isO 58 rfl) (by decide) (fun _ => ?_) (fun h_ => absurd h_ (fun q => absurd ((nI_eq (b := 6) (by omega) (by omega)).mp q) (by omega)))
            refine wp_aload_n hX (dk DX11_isO_1 1 rfl) rfl ?_
            refine wp_dup hX (dk DX11_isO_1 2 rfl) rfl ?_
            refine w_geti hX flX11_218 (dk DX11_isO_1 3 rfl) (by decide) rfl ?_
            rw [hop]
            refine wp_iconst (v := 1) hX (dk DX11_isO_1 4 rfl) (by decide) ?_
            refine wp_iadd hX (dk DX11_isO_1 5 rfl) ?_
            rw [nI_1]
            refine w_puti hX fpX11_218 (dk DX11_isO_1 6 rfl) rfl ?_
            rw [← hf0]
            refine wp_aload_n hX (dk DX11_isO_1 7 rfl) rfl ?_
            refine wp_bipush (v := 33) hX (dk DX11_isO_1 8 rfl) (by decide) ?_
            refine w_callV (As := [_]) lkX11_221 hX (dk DX11_isO_1 9 rfl) rfl rfl (by decide) hN (k_is0 (D + 1) sw f0 g T n a 33 h0 ha (by decide) (by rw [← hc]; exact c4)) ?_
            show WP _ _ _ 121 [_, _, _] [_] _
            refine wp_if_eq (tgt := 149) hX (dk DX11_isO_1 10 rfl) (by decide) (fun _ => ?_) (fun h_ => absurd (rfl) h_)
            refine wp_aload_n hX (dk DX11_isO_1 23 rfl) rfl ?_
            refine wp_bipush (v := 45) hX (dk DX11_isO_1 24 rfl) (by decide) ?_
            refine w_callV (As := [_]) lkX11_221 hX (dk DX11_isO_1 25 rfl) rfl rfl (by decide) hN (k_is1 (D + 1) sw f0 g T n a 45 h0 ha (by decide) (by rw [← hc]; exact c5)) ?_
            show WP _ _ _ 155 [_, _, _] [_] _
            rw [← hf1]
            refine wp_if_eq (tgt := 183) hX (dk DX11_isO_1 26 rfl) (by decide) (fun h_ => absurd h_ (by decide)) (fun _ => ?_)
            refine wp_aload_n hX (dk DX11_isO_1 27 rfl) rfl ?_
            refine w_callVQ (As := []) lkX11_224 hX (dk DX11_isO_1 28 rfl) rfl rfl (by decide) hN (hO sw f1 g T n (a + 1) (o + 1) K h1 a2 o1 k1 (by omega) (by omega) rk2) (fun v_a sw_a f_a g_a hq_a => ?_)
            obtain ⟨rfl, rfl, rfl, e1, e2, e3, e4⟩ := hq_a
            rw [← hc] at e2 e4 ⊢
            rw [if_pos z]
            show WP _ _ _ 162 [_, _, _] [_] _
            refine wp_if_eq (tgt := 178) hX (dk DX11_isO_1 29 rfl) (by decide) (fun h_ => absurd h_ (by decide)) (fun _ => ?_)
            refine wp_aload_n hX (dk DX11_isO_1 30 rfl) rfl ?_
            refine wp_bipush (v := 17) hX (dk DX11_isO_1 31 rfl) (by decide) ?_
            refine w_callVQ (As := [_]) lkX11_212 hX (dk DX11_isO_1 32 rfl) rfl rfl (by decide) hN (k_codes (D + 2) _ f_a _ _ 17 (e4 z) (by have := (G z).2.1; have := (G z).1; have := (pJ_ok (c := c) hend m 5 (o + 1) (a + 1) (by decide) a2).2.1; simp; omega)) (fun v_b sw_b f_b g_b hq_b => ?_)
            obtain ⟨rfl, rfl, rfl, g1, g2, g3, g4⟩ := hq_b
            show WP _ _ _ 171 [_, _, _] [_] _
            refine wp_if_eq (tgt := 178) hX (dk DX11_isO_1 33 rfl) (by decide) (fun h_ => absurd h_ (by decide)) (fun _ => ?_)
            refine wp_iconst (v := 1) hX (dk DX11_isO_1 34 rfl) (by decide) ?_
            refine wp_goto (tgt := 179) hX (dk DX11_isO_1 35 rfl) (by decide) ?_
            refine wp_istore_n hX (dk DX11_isO_1 37 rfl) rfl rfl hN (Nat.le_of_ble_eq_true rfl) ?_
            show WP _ _ _ 180 [_, _, _] [] _
            refine wp_goto (tgt := 214) hX (dk DX11_isO_1 38 rfl) (by decide) ?_
            exact fin _ _ _ true (by rw [hR0]; exact z) rfl ((s1.trans e1).trans g1) (by rw [g2, e2, hR0]) (by rw [g3, e3]) (fun _ => by rw [hR0, ← List.append_assoc]; exact g4)
          · refine wp_if_eq (tgt := 66) hX (dk DX11_isO 2 rfl) (by decide) (fun _ => ?_) (fun h_ => absurd (rfl) h_)
            refine wp_aload_n hX (dk DX11_isO 39 rfl) rfl ?_
            refine w_callV (As := []) lkX11_201 hX (dk DX11_isO 40 rfl) rfl rfl (by decide) hN (k_sign (D + 2) sw f g T n a h ha) ?_
            show WP _ _ _ 70 [_, _, _] [_] _
            rw [← hc]
            refine w_callS (As := [_]) lkX11_215 hX (dk DX11_isO 41 rfl) rfl (by decide) (k_nameOf (D + 2) sw f g (c a) hin) ?_
            show WP _ _ _ 73 [_, _, _] [_] _
            rw [if_neg c2]
            refine wp_istore_n hX (dk DX11_isO 42 rfl) rfl rfl hN (Nat.le_of_ble_eq_true rfl) ?_
            show WP _ _ _ 74 [_, _, _] [] _
            refine wp_iload_n hX (dk DX11_isO 43 rfl) rfl ?_
            refine wp_if_lt (tgt := 94) hX (dk DX11_isO 44 rfl) (by decide) (fun _ => ?_) (fun h_ => absurd (by decide) h_)
            refine wp_aload_n hX (dk DX11_isO 55 rfl) rfl ?_
            refine w_geti hX flX11_218 (dk DX11_isO 56 rfl) (by decide) rfl ?_
            rw [hop]
            refine wp_bipush (v := 6) hX (dk DX11_isO 57 rfl) (by decide) ?_
            refine wp_icmp_ne (tgt := 105) hX (dk DX11_isO 58 rfl) (by decide) (fun _ => ?_) (fun h_ => absurd h_ (fun q => absurd ((nI_eq (b := 6) (by omega) (by omega)).mp q) (by omega)))
            refine wp_aload_n hX (dk DX11_isO_1 1 rfl) rfl ?_
            refine wp_dup hX (dk DX11_isO_1 2 rfl) rfl ?_
            refine w_geti hX flX11_218 (dk DX11_isO_1 3 rfl) (by decide) rfl ?_
            rw [hop]
            refine wp_iconst (v := 1) hX (dk DX11_isO_1 4 rfl) (by decide) ?_
            refine wp_iadd hX (dk DX11_isO_1 5 rfl) ?_
            rw [nI_1]
            refine w_puti hX fpX11_218 (dk DX11_isO_1 6 rfl) rfl ?_
            rw [← hf0]
            refine wp_aload_n hX (dk DX11_isO_1 7 rfl) rfl ?_
            refine wp_bipush (v := 33) hX (dk DX11_isO_1 8 rfl) (by decide) ?_
            refine w_callV (As := [_]) lkX11_221 hX (dk DX11_isO_1 9 rfl) rfl rfl (by decide) hN (k_is0 (D + 1) sw f0 g T n a 33 h0 ha (by decide) (by rw [← hc]; exact c4)) ?_
            show WP _ _ _ 121 [_, _, _] [_] _
            refine wp_if_eq (tgt := 149) hX (dk DX11_isO_1 10 rfl) (by decide) (fun _ => ?_) (fun h_ => absurd (rfl) h_)
            refine wp_aload_n hX (dk DX11_isO_1 23 rfl) rfl ?_
            refine wp_bipush (v := 45) hX (dk DX11_isO_1 24 rfl) (by decide) ?_
            refine w_callV (As := [_]) lkX11_221 hX (dk DX11_isO_1 25 rfl) rfl rfl (by decide) hN (k_is1 (D + 1) sw f0 g T n a 45 h0 ha (by decide) (by rw [← hc]; exact c5)) ?_
            show WP _ _ _ 155 [_, _, _] [_] _
            rw [← hf1]
            refine wp_if_eq (tgt := 183) hX (dk DX11_isO_1 26 rfl) (by decide) (fun h_ => absurd h_ (by decide)) (fun _ => ?_)
            refine wp_aload_n hX (dk DX11_isO_1 27 rfl) rfl ?_
            refine w_callVQ (As := []) lkX11_224 hX (dk DX11_isO_1 28 rfl) rfl rfl (by decide) hN (hO sw f1 g T n (a + 1) (o + 1) K h1 a2 o1 k1 (by omega) (by omega) rk2) (fun v_a sw_a f_a g_a hq_a => ?_)
            obtain ⟨rfl, rfl, rfl, e1, e2, e3, e4⟩ := hq_a
            rw [← hc] at e2 e4 ⊢
            rw [if_neg z]
            show WP _ _ _ 162 [_, _, _] [_] _
            refine wp_if_eq (tgt := 178) hX (dk DX11_isO_1 29 rfl) (by decide) (fun _ => ?_) (fun h_ => absurd (rfl) h_)
            refine wp_iconst (v := 0) hX (dk DX11_isO_1 36 rfl) (by decide) ?_
            refine wp_istore_n hX (dk DX11_isO_1 37 rfl) rfl rfl hN (Nat.le_of_ble_eq_true rfl) ?_
            show WP _ _ _ 180 [_, _, _] [] _
            refine wp_goto (tgt := 214) hX (dk DX11_isO_1 38 rfl) (by decide) ?_
            exact fin _ _ _ false (by rw [hR0]; exact Bool.eq_false_iff.mpr z) rfl (s1.trans e1) (by rw [e2, hR0]) e3 (fun q => Bool.noConfusion q)
        have till : ∀ (z : Option Value), WP X 0 0 183 [some (.ref 81), z, none] [] (S sw f0 g) → WP X 0 0 105 [some (.ref 81), z, none] [] (S sw f g) := by
          intro z k
          refine wp_aload_n hX (dk DX11_isO_1 1 rfl) rfl ?_
          refine wp_dup hX (dk DX11_isO_1 2 rfl) rfl ?_
          refine w_geti hX flX11_218 (dk DX11_isO_1 3 rfl) (by decide) rfl ?_
          rw [hop]
          refine wp_iconst (v := 1) hX (dk DX11_isO_1 4 rfl) (by decide) ?_
          refine wp_iadd hX (dk DX11_isO_1 5 rfl) ?_
          rw [nI_1]
          refine w_puti hX fpX11_218 (dk DX11_isO_1 6 rfl) rfl ?_
          rw [← hf0]
          refine wp_aload_n hX (dk DX11_isO_1 7 rfl) rfl ?_
          refine wp_bipush (v := 33) hX (dk DX11_isO_1 8 rfl) (by decide) ?_
          refine w_callV (As := [_]) lkX11_221 hX (dk DX11_isO_1 9 rfl) rfl rfl (by decide) hN (k_is0 (D + 1) sw f0 g T n a 33 h0 ha (by decide) (by rw [← hc]; exact c4)) ?_
          show WP _ _ _ 121 [_, _, _] [_] _
          refine wp_if_eq (tgt := 149) hX (dk DX11_isO_1 10 rfl) (by decide) (fun _ => ?_) (fun h_ => absurd (rfl) h_)
          refine wp_aload_n hX (dk DX11_isO_1 23 rfl) rfl ?_
          refine wp_bipush (v := 45) hX (dk DX11_isO_1 24 rfl) (by decide) ?_
          refine w_callV (As := [_]) lkX11_221 hX (dk DX11_isO_1 25 rfl) rfl rfl (by decide) hN (k_is0 (D + 1) sw f0 g T n a 45 h0 ha (by decide) (by rw [← hc]; exact c5)) ?_
          show WP _ _ _ 155 [_, _, _] [_] _
          refine wp_if_eq (tgt := 183) hX (dk DX11_isO_1 26 rfl) (by decide) (fun _ => ?_) (fun h_ => absurd (rfl) h_)
          exact k
        refine wp_if_eq (tgt := 66) hX (dk DX11_isO 2 rfl) (by decide) (fun _ => ?_) (fun h_ => absurd (rfl) h_)
        refine wp_aload_n hX (dk DX11_isO 39 rfl) rfl ?_
        refine w_callV (As := []) lkX11_201 hX (dk DX11_isO 40 rfl) rfl rfl (by decide) hN (k_sign (D + 2) sw f g T n a h ha) ?_
        show WP _ _ _ 70 [_, _, _] [_] _
        rw [← hc]
        refine w_callS (As := [_]) lkX11_215 hX (dk DX11_isO 41 rfl) rfl (by decide) (k_nameOf (D + 2) sw f g (c a) hin) ?_
        show WP _ _ _ 73 [_, _, _] [_] _
        rw [if_neg c2]
        refine wp_istore_n hX (dk DX11_isO 42 rfl) rfl rfl hN (Nat.le_of_ble_eq_true rfl) ?_
        show WP _ _ _ 74 [_, _, _] [] _
        refine wp_iload_n hX (dk DX11_isO 43 rfl) rfl ?_
        refine wp_if_lt (tgt := 94) hX (dk DX11_isO 44 rfl) (by decide) (fun _ => ?_) (fun h_ => absurd (by decide) h_)
        refine wp_aload_n hX (dk DX11_isO 55 rfl) rfl ?_
        refine w_geti hX flX11_218 (dk DX11_isO 56 rfl) (by decide) rfl ?_
        rw [hop]
        refine wp_bipush (v := 6) hX (dk DX11_isO 57 rfl) (by decide) ?_
        refine wp_icmp_ne (tgt := 105) hX (dk DX11_isO 58 rfl) (by decide) (fun _ => ?_) (fun h_ => absurd h_ (fun q => absurd ((nI_eq (b := 6) (by omega) (by omega)).mp q) (by omega)))
        refine till _ ?_
        by_cases c6 : c a = 40
        · rw [if_pos c6] at hR0
          have a2 := a1 40 c6 (by decide)
          have G := pJ_ok (c := c) hend m 0 (o + 1) (a + 1) (by decide) a2
          by_cases z : (pJ c m 0 (o + 1) (a + 1)).1 = true
          · rw [if_pos z] at hR0
            by_cases c7 : c (pJ c m 0 (o + 1) (a + 1)).2.1 = 41
            · rw [if_pos c7] at hR0
              refine wp_aload_n hX (dk DX11_isO_1 39 rfl) rfl ?_
              refine wp_bipush (v := 40) hX (dk DX11_isO_1 40 rfl) (by decide) ?_
              refine w_callV (As := [_]) lkX11_221 hX (dk DX11_isO_1 41 rfl) rfl rfl (by decide) hN (k_is1 (D + 1) sw f0 g T n a 40 h0 ha (by decide) (by rw [← hc]; exact c6)) ?_
              show WP _ _ _ 189 [_, _, _] [_] _
              rw [← hf1]
              refine wp_if_eq (tgt := 212) hX (dk DX11_isO_1 42 rfl) (by decide) (fun h_ => absurd h_ (by decide)) (fun _ => ?_)
              refine wp_aload_n hX (dk DX11_isO_1 43 rfl) rfl ?_
              refine w_callVQ (As := []) lkX11_227 hX (dk DX11_isO_1 44 rfl) rfl rfl (by decide) hN (hE sw f1 g T n (a + 1) (o + 1) K h1 a2 o1 k1 (by omega) (by omega) rk1) (fun v_a sw_a f_a g_a hq_a => ?_)
              obtain ⟨rfl, rfl, rfl, e1, e2, e3, e4⟩ := hq_a
              rw [← hc] at e2 e4 ⊢
              rw [if_pos z]
              show WP _ _ _ 196 [_, _, _] [_] _
              refine wp_if_eq (tgt := 212) hX (dk DX11_isO_1 45 rfl) (by decide) (fun h_ => absurd h_ (by decide)) (fun _ => ?_)
              refine wp_aload_n hX (dk DX11_isO_1 46 rfl) rfl ?_
              refine wp_bipush (v := 41) hX (dk DX11_isO_1 47 rfl) (by decide) ?_
              refine w_callV (As := [_]) lkX11_221 hX (dk DX11_isO_1 48 rfl) rfl rfl (by decide) hN (k_is1 (D + 1) _ f_a _ T n _ 41 (h1.same e1 e2) G.2.1 (by decide) (by rw [← hc]; exact c7)) ?_
              show WP _ _ _ 205 [_, _, _] [_] _
              refine wp_if_eq (tgt := 212) hX (dk DX11_isO_1 49 rfl) (by decide) (fun h_ => absurd h_ (by decide)) (fun _ => ?_)
              refine wp_iconst (v := 1) hX (dk DX11_isO_1 50 rfl) (by decide) ?_
              refine wp_goto (tgt := 213) hX (dk DX11_isO_1 51 rfl) (by decide) ?_
              refine wp_istore_n hX (dk DX11_isO_1 53 rfl) rfl rfl hN (Nat.le_of_ble_eq_true rfl) ?_
              show WP _ _ _ 214 [_, _, _] [] _
              exact fin _ _ _ true (by rw [hR0]) rfl ((s1.trans e1).trans (mpS.at f_a _)) (by rw [u2_at, hR0]) (by rw [u2_off _ _ _ (by decide)]; exact e3) (fun _ => by rw [hR0]; exact (e4 z).at _)
            · rw [if_neg c7] at hR0
              refine wp_aload_n hX (dk DX11_isO_1 39 rfl) rfl ?_
              refine wp_bipush (v := 40) hX (dk DX11_isO_1 40 rfl) (by decide) ?_
              refine w_callV (As := [_]) lkX11_221 hX (dk DX11_isO_1 41 rfl) rfl rfl (by decide) hN (k_is1 (D + 1) sw f0 g T n a 40 h0 ha (by decide) (by rw [← hc]; exact c6)) ?_
              show WP _ _ _ 189 [_, _, _] [_] _
              rw [← hf1]
              refine wp_if_eq (tgt := 212) hX (dk DX11_isO_1 42 rfl) (by decide) (fun h_ => absurd h_ (by decide)) (fun _ => ?_)
              refine wp_aload_n hX (dk DX11_isO_1 43 rfl) rfl ?_
              refine w_callVQ (As := []) lkX11_227 hX (dk DX11_isO_1 44 rfl) rfl rfl (by decide) hN (hE sw f1 g T n (a + 1) (o + 1) K h1 a2 o1 k1 (by omega) (by omega) rk1) (fun v_a sw_a f_a g_a hq_a => ?_)
              obtain ⟨rfl, rfl, rfl, e1, e2, e3, e4⟩ := hq_a
              rw [← hc] at e2 e4 ⊢
              rw [if_pos z]
              show WP _ _ _ 196 [_, _, _] [_] _
              refine wp_if_eq (tgt := 212) hX (dk DX11_isO_1 45 rfl) (by decide) (fun h_ => absurd h_ (by decide)) (fun _ => ?_)
              refine wp_aload_n hX (dk DX11_isO_1 46 rfl) rfl ?_
              refine wp_bipush (v := 41) hX (dk DX11_isO_1 47 rfl) (by decide) ?_
              refine w_callV (As := [_]) lkX11_221 hX (dk DX11_isO_1 48 rfl) rfl rfl (by decide) hN (k_is0 (D + 1) _ f_a _ T n _ 41 (h1.same e1 e2) G.2.1 (by decide) (by rw [← hc]; exact c7)) ?_
              show WP _ _ _ 205 [_, _, _] [_] _
              refine wp_if_eq (tgt := 212) hX (dk DX11_isO_1 49 rfl) (by decide) (fun _ => ?_) (fun h_ => absurd (rfl) h_)
              refine wp_iconst (v := 0) hX (dk DX11_isO_1 52 rfl) (by decide) ?_
              refine wp_istore_n hX (dk DX11_isO_1 53 rfl) rfl rfl hN (Nat.le_of_ble_eq_true rfl) ?_
              show WP _ _ _ 214 [_, _, _] [] _
              exact fin _ _ _ false (by rw [hR0]) rfl (s1.trans e1) (by rw [e2, hR0]) e3 (fun q => Bool.noConfusion q)
          · rw [if_neg z] at hR0
            refine wp_aload_n hX (dk DX11_isO_1 39 rfl) rfl ?_
            refine wp_bipush (v := 40) hX (dk DX11_isO_1 40 rfl) (by decide) ?_
            refine w_callV (As := [_]) lkX11_221 hX (dk DX11_isO_1 41 rfl) rfl rfl (by decide) hN (k_is1 (D + 1) sw f0 g T n a 40 h0 ha (by decide) (by rw [← hc]; exact c6)) ?_
            show WP _ _ _ 189 [_, _, _] [_] _
            rw [← hf1]
            refine wp_if_eq (tgt := 212) hX (dk DX11_isO_1 42 rfl) (by decide) (fun h_ => absurd h_ (by decide)) (fun _ => ?_)
            refine wp_aload_n hX (dk DX11_isO_1 43 rfl) rfl ?_
            refine w_callVQ (As := []) lkX11_227 hX (dk DX11_isO_1 44 rfl) rfl rfl (by decide) hN (hE sw f1 g T n (a + 1) (o + 1) K h1 a2 o1 k1 (by omega) (by omega) rk1) (fun v_a sw_a f_a g_a hq_a => ?_)
            obtain ⟨rfl, rfl, rfl, e1, e2, e3, e4⟩ := hq_a
            rw [← hc] at e2 e4 ⊢
            rw [if_neg z]
            show WP _ _ _ 196 [_, _, _] [_] _
            refine wp_if_eq (tgt := 212) hX (dk DX11_isO_1 45 rfl) (by decide) (fun _ => ?_) (fun h_ => absurd (rfl) h_)
            refine wp_iconst (v := 0) hX (dk DX11_isO_1 52 rfl) (by decide) ?_
            refine wp_istore_n hX (dk DX11_isO_1 53 rfl) rfl rfl hN (Nat.le_of_ble_eq_true rfl) ?_
            show WP _ _ _ 214 [_, _, _] [] _
            exact fin _ _ _ false (by rw [hR0]) rfl (s1.trans e1) (by rw [e2, hR0]) e3 (fun q => Bool.noConfusion q)
        · rw [if_neg c6, if_neg c4, if_neg c5] at hR0
          refine wp_aload_n hX (dk DX11_isO_1 39 rfl) rfl ?_
          refine wp_bipush (v := 40) hX (dk DX11_isO_1 40 rfl) (by decide) ?_
          refine w_callV (As := [_]) lkX11_221 hX (dk DX11_isO_1 41 rfl) rfl rfl (by decide) hN (k_is0 (D + 1) sw f0 g T n a 40 h0 ha (by decide) (by rw [← hc]; exact c6)) ?_
          show WP _ _ _ 189 [_, _, _] [_] _
          refine wp_if_eq (tgt := 212) hX (dk DX11_isO_1 42 rfl) (by decide) (fun _ => ?_) (fun h_ => absurd (rfl) h_)
          refine wp_iconst (v := 0) hX (dk DX11_isO_1 52 rfl) (by decide) ?_
          refine wp_istore_n hX (dk DX11_isO_1 53 rfl) rfl rfl hN (Nat.le_of_ble_eq_true rfl) ?_
          show WP _ _ _ 214 [_, _, _] [] _
          exact fin _ _ _ false (by rw [hR0]) rfl s0 (by rw [hR0]; exact h0.2.2.2) o0 (fun q => Bool.noConfusion q)
