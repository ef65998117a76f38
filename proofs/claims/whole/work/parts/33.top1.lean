/-! THE CLASS'S CALLS: figures, blocks -/
theorem jin_1 {x : Int32} {n i : Nat} (hn : n < 2 ^ 31) (hi : i < n) (hx : x = nI i) : jin x (nI n) = 1 := by
  subst hx
  unfold jin
  rw [if_pos ⟨nI_pos (by omega), nI_lt hi hn⟩]
theorem jin_ex {x : Int32} {n : Nat} (hn : n < 2 ^ 31) (h : ¬ jin x (nI n) = 0) : ∃ i, i < n ∧ x = nI i := by
  unfold jin at h
  split at h
  · next c =>
    obtain ⟨j, hj, rfl⟩ := nI_of c.1
    exact ⟨j, (nI_ltI hj hn).mp c.2, rfl⟩
  · exact absurd rfl h
theorem jin_0 {x : Int32} {n : Nat} (hn : n < 2 ^ 31) (h : ¬ ∃ i, i < n ∧ x = nI i) : jin x (nI n) = 0 := by
  by_cases c : jin x (nI n) = 0
  · exact c
  · exact absurd (jin_ex hn c) h
/-- 0 to k - 1, as the bytecode asks it -/
theorem rg_lt {x : Int32} {k : Nat} (hk : k < 2 ^ 31) (h : ¬ x < 0) (h2 : ¬ nI k ≤ x) : ∃ i, i < k ∧ x = nI i := by
  obtain ⟨j, hj, rfl⟩ := nI_of h
  exact ⟨j, Nat.lt_of_not_le (fun c => h2 (nI_le c hj)), rfl⟩
theorem rg_le {x : Int32} {k : Nat} (hk : k < 2 ^ 31) (h : ¬ x < 0) (h2 : ¬ nI k < x) : ∃ i, i ≤ k ∧ x = nI i := by
  obtain ⟨j, hj, rfl⟩ := nI_of h
  exact ⟨j, Nat.le_of_not_lt (fun c => h2 (nI_lt c hj)), rfl⟩
theorem rg_le2 {x : Int32} {k : Nat} (hk : k < 2 ^ 31) (h : ¬ x < 0) (h2 : x ≤ nI k) : ∃ i, i ≤ k ∧ x = nI i := rg_le hk h (Int32.not_lt.mpr h2)
/-- a shape: 1 to 33554431 -/
def shp (x : Int32) : Prop := ∃ v : Nat, 0 < v ∧ v < 33554432 ∧ x = nI v
theorem k33 : (33554431 : Int32) = nI 33554431 := by decide +kernel
theorem k99 : (99 : Int32) = nI 99 := by decide +kernel
theorem shp_of {x : Int32} (h : ¬ x ≤ 0) (h2 : ¬ 33554431 < x) : shp x := by
  obtain ⟨v, hv, rfl⟩ := nI_of (fun q => h (Int32.le_of_lt q))
  refine ⟨v, ?_, ?_, rfl⟩
  · by_cases c : 0 < v
    · exact c
    · exact absurd (show nI v ≤ 0 by rw [show v = 0 by omega]; decide) h
  · rw [k33] at h2
    by_cases c : v < 33554432
    · exact c
    · exact absurd (nI_lt (a := 33554431) (by omega) hv) h2
theorem shp_to {x : Int32} (h : shp x) : ¬ x ≤ 0 ∧ ¬ 33554431 < x := by
  obtain ⟨v, h0, h1, rfl⟩ := h
  rw [k33]
  exact ⟨nI_nle h0 (by omega), nI_nlt (by omega) (by omega)⟩
/-- what only the reckoning needs may have changed -/
def qC (f f2 : Nat → Nat → Int32) : Prop := (∀ b, b ≠ 49 → (b < 51 ∨ 60 < b) → (b < 77 ∨ 80 < b) → f2 b = f b) ∧ ∀ i, i ≠ 4 → f2 49 i = f 49 i
theorem qC.rf {f : Nat → Nat → Int32} : qC f f := ⟨fun _ _ _ _ => rfl, fun _ _ => rfl⟩
theorem qC.trans {f f2 f3 : Nat → Nat → Int32} (h : qC f f2) (h2 : qC f2 f3) : qC f f3 := ⟨fun b a1 a2 a3 => (h2.1 b a1 a2 a3).trans (h.1 b a1 a2 a3), fun i hi => (h2.2 i hi).trans (h.2 i hi)⟩
theorem rwS.q {f f2 : Nat → Nat → Int32} (h : rwS f f2) : qC f f2 := ⟨fun b a1 a2 a3 => h.1 b a1 (by omega) (by omega), h.2⟩
/-- what a call that only reads leaves -/
def rdC (g : Nat → Nat → Int64) (f : Nat → Nat → Int32) (v : Int32) : Option Value → mM → Prop := QS (fun r _ f2 g2 => r = some (.int v) ∧ g2 = g ∧ qC f f2)
theorem CT.post {d mc ms : Nat} {i : mI} {av : List Value} {M : mM} {Q Q2 : Option Value → mM → Prop} (h : CT d mc ms i av M Q) (hq : ∀ r M2, Q r M2 → Q2 r M2) : CT d mc ms i av M Q2 := by
  intro l D ty xt L sz p e ha hc hk s m args below hf happ hP hK
  obtain ⟨n, o, h1, h2, h3, ⟨⟨r, M2, L2, g1, g2, g3⟩, hF⟩, hE⟩ := h l D ty xt L sz p e ha hc hk s m args below hf happ hP hK
  exact ⟨n, o, h1, h2, h3, ⟨⟨r, M2, L2, g1, hq _ _ g2, g3⟩, hF⟩, hE⟩
theorem CT.rdC {d : Nat} {i : mI} {av : List Value} {sw : Bool} {f : Nat → Nat → Int32} {g : Nat → Nat → Int64} {v : Int32} (h : CT d 0 0 i av (S sw f g) (QR (some (.int v)) (S sw f g))) : CT d 0 0 i av (S sw f g) (rdC g f v) :=
  h.post (fun r M2 ⟨h1, h2⟩ => ⟨sw, f, g, h2, h1, rfl, qC.rf⟩)
theorem k_isShape (d : Nat) (x : Int32) (M : mM) : CT d 0 0 iX10_isShape [.int x] M (QR (some (.int (if ¬ x ≤ 0 ∧ ¬ 33554431 < x then 1 else 0))) M) := by
  refine CT.of rfl (Nat.le_of_ble_eq_true rfl) (fun X hX hR hN _ => ?_)
  have hX : Good X RX10 cX10_isShape d 0 0 := hX
  have hN : x_nl X = 1 := hN
  show WP X 0 0 0 [_] [] _
  refine wp_iload_n hX (dk DX10_isShape 0 rfl) rfl ?_
  refine wp_if_le (tgt := 15) hX (dk DX10_isShape 1 rfl) (by decide) (fun h1 => ?_) (fun h1 => ?_)
  · refine wp_iconst (v := 0) hX (dk DX10_isShape 7 rfl) (by decide) ?_
    exact wp_ireturn hX hR (dk DX10_isShape 8 rfl) rfl (Nat.le_refl _) (Nat.le_refl _) (⟨by simp only [h1, not_true, not_false_iff, and_true, true_and, and_false, false_and, if_true, if_false], rfl⟩)
  · refine wp_iload_n hX (dk DX10_isShape 2 rfl) rfl ?_
    refine wp_ldcw hX (dk DX10_isShape 3 rfl) kcX10_361 ?_
    refine wp_icmp_gt (tgt := 15) hX (dk DX10_isShape 4 rfl) (by decide) (fun h8 => ?_) (fun h8 => ?_)
    · refine wp_iconst (v := 0) hX (dk DX10_isShape 7 rfl) (by decide) ?_
      exact wp_ireturn hX hR (dk DX10_isShape 8 rfl) rfl (Nat.le_refl _) (Nat.le_refl _) (⟨by simp only [h1, h8, not_true, not_false_iff, and_true, true_and, and_false, false_and, if_true, if_false], rfl⟩)
    · refine wp_iconst (v := 1) hX (dk DX10_isShape 5 rfl) (by decide) ?_
      refine wp_goto (tgt := 16) hX (dk DX10_isShape 6 rfl) (by decide) ?_
      exact wp_ireturn hX hR (dk DX10_isShape 8 rfl) rfl (Nat.le_refl _) (Nat.le_refl _) (⟨by simp only [h1, h8, not_true, not_false_iff, and_true, true_and, and_false, false_and, if_true, if_false], rfl⟩)
theorem k_isShape1 (d : Nat) (x : Int32) (M : mM) (h : shp x) : CT d 0 0 iX10_isShape [.int x] M (QR (some (.int 1)) M) := by
  have := k_isShape d x M
  rw [if_pos (shp_to h)] at this
  exact this
theorem k_isShape0 (d : Nat) (x : Int32) (M : mM) (h : ¬ shp x) : CT d 0 0 iX10_isShape [.int x] M (QR (some (.int 0)) M) := by
  have := k_isShape d x M
  rw [if_neg (fun q => h (shp_of q.1 q.2))] at this
  exact this
theorem k_isYear (d : Nat) (x : Int32) (M : mM) : CT d 0 0 iX10_isYear [.int x] M (QR (some (.int (if ¬ x < 0 ∧ ¬ 99 < x then 1 else 0))) M) := by
  refine CT.of rfl (Nat.le_of_ble_eq_true rfl) (fun X hX hR hN _ => ?_)
  have hX : Good X RX10 cX10_isYear d 0 0 := hX
  have hN : x_nl X = 1 := hN
  show WP X 0 0 0 [_] [] _
  refine wp_iload_n hX (dk DX10_isYear 0 rfl) rfl ?_
  refine wp_if_lt (tgt := 14) hX (dk DX10_isYear 1 rfl) (by decide) (fun h1 => ?_) (fun h1 => ?_)
  · refine wp_iconst (v := 0) hX (dk DX10_isYear 7 rfl) (by decide) ?_
    exact wp_ireturn hX hR (dk DX10_isYear 8 rfl) rfl (Nat.le_refl _) (Nat.le_refl _) (⟨by simp only [h1, not_true, not_false_iff, and_true, true_and, and_false, false_and, if_true, if_false], rfl⟩)
  · refine wp_iload_n hX (dk DX10_isYear 2 rfl) rfl ?_
    refine wp_bipush (v := 99) hX (dk DX10_isYear 3 rfl) (by decide) ?_
    refine wp_icmp_gt (tgt := 14) hX (dk DX10_isYear 4 rfl) (by decide) (fun h7 => ?_) (fun h7 => ?_)
    · refine wp_iconst (v := 0) hX (dk DX10_isYear 7 rfl) (by decide) ?_
      exact wp_ireturn hX hR (dk DX10_isYear 8 rfl) rfl (Nat.le_refl _) (Nat.le_refl _) (⟨by simp only [h1, h7, not_true, not_false_iff, and_true, true_and, and_false, false_and, if_true, if_false], rfl⟩)
    · refine wp_iconst (v := 1) hX (dk DX10_isYear 5 rfl) (by decide) ?_
      refine wp_goto (tgt := 15) hX (dk DX10_isYear 6 rfl) (by decide) ?_
      exact wp_ireturn hX hR (dk DX10_isYear 8 rfl) rfl (Nat.le_refl _) (Nat.le_refl _) (⟨by simp only [h1, h7, not_true, not_false_iff, and_true, true_and, and_false, false_and, if_true, if_false], rfl⟩)
theorem k_isYear1 (d : Nat) (y : Nat) (M : mM) (h : y < 100) : CT d 0 0 iX10_isYear [.int (nI y)] M (QR (some (.int 1)) M) := by
  have := k_isYear d (nI y) M
  rw [k99, if_pos ⟨nI_pos (by omega), nI_nlt (by omega) (by omega)⟩] at this
  exact this
theorem k_isYear0 (d : Nat) (x : Int32) (M : mM) (h : ¬ ∃ y, y < 100 ∧ x = nI y) : CT d 0 0 iX10_isYear [.int x] M (QR (some (.int 0)) M) := by
  have := k_isYear d x M
  rw [k99, if_neg (fun q => h (by obtain ⟨i, h1, h2⟩ := rg_le (by decide) q.1 q.2; exact ⟨i, by omega, h2⟩))] at this
  exact this
