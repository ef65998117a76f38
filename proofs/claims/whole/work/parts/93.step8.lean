/-! figure, figures -/
section STEP8
variable {f f2 : Nat → Nat → Int32} {g : Nat → Nat → Int64} {n m c k : Nat} {sh sh2 : Nat → Int32} {L : List (List Nat × List Nat)}
/-- k figures more -/
theorem ivMore (h : IVp f g n sh L m c) (hs : stk f2 (n + k) sh2) (h82 : ∀ i, i < n + k → f2 82 i = sh2 i ∧ shp (sh2 i)) (h0 : f2 81 0 = nI (n + k)) (ht : ∀ i w, w < 3 → f2 3 (i * 3 + w) = f2 (83 + w) i) (hz : ∀ i, n + k ≤ i → f2 84 i = 0 ∧ f2 85 i = 0) (eb : ∀ b, ¬ inSt b → (b < 81 ∨ 85 < b) → f2 b = f b) (e8 : ∀ i, i ≠ 0 → f2 81 i = f 81 i) : IVp f2 g (n + k) sh2 L m c := by
  have e : ∀ b, (45 < b ∧ b < 81) ∨ 85 < b → f2 b = f b := fun b hb => eb b (by unfold inSt; omega) (by omega)
  obtain ⟨hF, hL, hB, hT, hC, hS, hR, hH⟩ := h
  exact ⟨⟨hs, ⟨h0, hs.1.2.1, h82⟩, ht, hz⟩, hL.cg (by rw [e 49 (by decide)]) (e 50 (by decide)) (e8 11 (by decide)) (e8 12 (by decide)) (fun b h1 h2 => e b (by omega)), hB.cg (fun b h1 h2 => e b (by omega)) (fun b h1 => e b (by omega)) (e8 5 (by decide)) (e8 8 (by decide)) (e8 28 (by decide)) (e8 29 (by decide)) (e8 30 (by decide)), hT.cg (by rw [e 46 (by decide)]) (e 47 (by decide)) (e 88 (by decide)) (e8 9 (by decide)), (hC.up (Nat.le_add_right n k)).cg (e 68 (by decide)) (e 69 (by decide)) (e 103 (by decide)) (e8 34 (by decide)) (e8 35 (by decide)), hS.cg (by rw [e 70 (by decide)]) (e 71 (by decide)) (e 104 (by decide)) (e8 37 (by decide)), hR.cg (by rw [e 70 (by decide)]) (e 72 (by decide)) (e 105 (by decide)) (e8 39 (by decide)), hH.cg (e 74 (by decide)) (e 75 (by decide)) (e 106 (by decide)) (e 107 (by decide))⟩
end STEP8
theorem s_figure (x : Int32) : stepOK iX10_figure iX11_figure [.int x] := by
  rintro d sw f g ⟨n, sh, L, m, c, h⟩
  have hn := h.n10
  by_cases c1 : shp x
  · by_cases c2 : n = 10
    · have a1 := h.n1
      rw [c2] at a1
      exact rd_one h (t_figureF d sw f g x c1 a1) (fun sw1 f1 _ h1 => u_figureF d sw1 f1 g x c1 (by rw [h1.n81, c2]))
    · refine md_qs (P := fun f1 g1 => g1 = g ∧ fgQ f f1 n sh x 100) (t_figure1 d sw f g n sh x c1 (by omega) h.stk) (fun sw1 f1 g1 hP => ?_)
      obtain ⟨rfl, p1, p2, p3⟩ := hP
      have o : ∀ b, 45 < b → f1 b = f b := fun b hb => p1 b (by unfold inSt; omega)
      have hM := u_figure1 d sw1 f1 g1 n x c1 (by rw [o 81 (by decide)]; exact h.n81) (by omega)
      refine hM.post (fun r M ⟨a1, a2⟩ => ⟨sw1, _, g1, a2, a1, n + 1, _, L, m, c, ivMore h (k := 1) (sh2 := fun i => if i = n then x else sh i) ?_ (fun i hi => ?_) ?_ (fun i w hw => ?_) (fun i hi => ?_) (fun b q1 q2 => ?_) (fun i hi => ?_)⟩)
      · unfold mnf
        exact p3.same (fun b hb _ => by unfold inSt at hb; simp (disch := omega) only [u2_ne])
      · unfold mnf
        simp (disch := decide) only [u2_ne, u2_row]
        rw [o 82 (by decide)]
        by_cases e : i = n
        · rw [if_pos e, if_pos e]; exact ⟨rfl, c1⟩
        · rw [if_neg e, if_neg e]; exact h.mf.2.2 i (by omega)
      · unfold mnf
        rw [u2_at]
      · have e3 : mnf f1 n x 100 3 = f1 3 := by
          unfold mnf
          simp (disch := decide) only [u2_ne]
        rw [e3, p2]
        unfold mnf
        have hz := h.1.2.2.2
        have hw3 : w = 0 ∨ w = 1 ∨ w = 2 := by omega
        rcases hw3 with rfl | rfl | rfl
        · simp (disch := decide) only [u2_ne, u2_row]
          rw [o 83 (by decide)]
          by_cases e : i = n
          · rw [if_pos (by omega), if_pos e]
          · rw [if_neg (by omega), if_neg e]; exact h.t3 i 0 (by decide)
        · simp (disch := decide) only [u2_ne, u2_row]
          rw [o 84 (by decide), if_neg (by omega)]
          by_cases e : i = n
          · rw [if_pos e, h.t3 i 1 (by decide)]; exact (hz i (by omega)).1
          · rw [if_neg e]; exact h.t3 i 1 (by decide)
        · simp (disch := decide) only [u2_ne, u2_row]
          rw [o 85 (by decide), if_neg (by omega)]
          by_cases e : i = n
          · rw [if_pos e, h.t3 i 2 (by decide)]; exact (hz i (by omega)).2
          · rw [if_neg e]; exact h.t3 i 2 (by decide)
      · unfold mnf
        simp (disch := decide) only [u2_ne, u2_row]
        rw [o 84 (by decide), o 85 (by decide), if_neg (by omega), if_neg (by omega)]
        exact h.1.2.2.2 i (by omega)
      · by_cases e81 : b = 81
        · exact absurd e81 (fun e => by omega)
        · unfold mnf
          simp (disch := omega) only [u2_ne]
          exact p1 b q1
      · unfold mnf
        rw [u2_off _ _ _ hi]
        simp (disch := decide) only [u2_ne]
        rw [o 81 (by decide)]
  · exact rd_one h (t_figure0 d sw f g x c1) (fun sw1 f1 _ h1 => u_figure0 d sw1 f1 g x c1)
theorem fgC_ex (E : Nat → Int64) (z p n : Nat) : ∀ q, ∃ c, fgC E z p n q c
  | 0 => ⟨0, Nat.le_refl _, fun k hk => absurd hk (Nat.not_lt_zero _), Or.inl rfl⟩
  | q + 1 => by
    obtain ⟨c, c1, c2, c3⟩ := fgC_ex E z p n q
    by_cases e : c = q
    · subst e
      by_cases e2 : fgK E z p n c
      · refine ⟨c + 1, Nat.le_refl _, fun k hk => ?_, Or.inl rfl⟩
        by_cases e3 : k = c
        · rw [e3]; exact e2
        · exact c2 k (by omega)
      · exact ⟨c, by omega, c2, Or.inr e2⟩
    · exact ⟨c, by omega, c2, Or.inr (c3.resolve_left e)⟩
theorem fgC_uq {E : Nat → Int64} {z p n q c c2 : Nat} (h : fgC E z p n q c) (h2 : fgC E z p n q c2) : c = c2 := by
  obtain ⟨a1, a2, a3⟩ := h
  obtain ⟨b1, b2, b3⟩ := h2
  rcases Nat.lt_trichotomy c c2 with l | l | l
  · exact absurd (b2 c l) (a3.resolve_left (by omega))
  · exact l
  · exact absurd (a2 c2 l) (b3.resolve_left (by omega))
theorem s_figures (x y q : Int32) : stepOK iX10_figures iX11_figures [.int x, .int y, .int q] := by
  rintro d sw f g ⟨n, sh, L, m, c, h⟩
  have hn := h.n10
  have h50 := h.c50
  by_cases c1 : (∃ c, c < 6 ∧ x = nI c) ∧ ∃ k, 1 ≤ k ∧ k ≤ 10 ∧ q = nI k
  · obtain ⟨⟨b, hb, rfl⟩, k, k1, k2, rfl⟩ := c1
    have e2 : f 74 b = 2 ↔ f 106 b = 2 := by
      rcases h.sc b hb with ⟨e1, e2⟩ | ⟨k2, z, hk2, hz, e1, e2, e3, e4⟩ | ⟨s, hs, e1, e2, e3⟩
      · rw [e1, e2]
      · rw [e1, e2]
      · rw [e1, e3]
        exact ⟨fun e => absurd e (by decide), fun e => by have := (nI_eq (b := 2) (by omega) (by omega)).mp e; omega⟩
    have e3 : f 74 b = -1 ↔ f 106 b = -1 := by
      rcases h.sc b hb with ⟨e1, e2⟩ | ⟨k2, z, hk2, hz, e1, e2, e3, e4⟩ | ⟨s, hs, e1, e2, e3⟩
      · rw [e1, e2]
      · rw [e1, e2]
      · rw [e1, e3]
        exact ⟨fun e => absurd e (by decide), fun e => absurd e (nI_m1 (by omega))⟩
    by_cases c2 : f 74 b = 2
    · by_cases c3 : y < 0
      · exact rd_one h (t_figuresN d sw f g b k y hb k1 k2 c2 c3) (fun sw1 f1 q1 h1 => u_figuresN d sw1 f1 g b k y hb k1 k2 (by rw [q1.c (b := 106) (by decide) (by decide) (by decide)]; exact e2.mp c2) c3)
      · obtain ⟨p, hp, rfl⟩ := nI_of c3
        obtain ⟨z, z1, z2, z3⟩ : ∃ z, z ≤ 60 ∧ f 75 b = nI z ∧ f 107 b = nI z := by
          rcases h.sc b hb with ⟨e1, _⟩ | ⟨k2, z, hk2, hz, e1, e2, e3, e4⟩ | ⟨s, hs, e1, _⟩
          · rw [e1] at c2; exact absurd c2 (by decide)
          · exact ⟨z, hz, e3, e4⟩
          · rw [e1] at c2; exact absurd c2 (by decide)
        obtain ⟨E, hE⟩ : ∃ E : Nat → Int64, E = fun i => g 108 (b * 60 + i) := ⟨_, rfl⟩
        obtain ⟨v, hv⟩ := fgC_ex E z p n k
        have hC := t_figures1 d sw f g n b z p k sh h.stk hb k1 k2 c2 z2 z1 hp
        rw [h.g76, ← hE] at hC
        refine md_qs (v := nI v) (P := fun f1 g1 => g1 = g ∧ (∀ b, ¬ inSt b → f1 b = f b) ∧ f1 3 = fgT E p n v (f 3) ∧ stk f1 (n + v) (fgS E p n v sh)) (hC.post (fun r M ⟨sw1, f1, g1, a1, v2, a2, a3, a4, a5, a6, a7⟩ => by
          obtain rfl := fgC_uq a2 hv
          exact ⟨sw1, f1, g1, a1, a3, a4, a5, a6, a7⟩)) (fun sw1 f1 g1 hP => ?_)
        obtain ⟨rfl, p1, p2, p3⟩ := hP
        have o : ∀ b, 45 < b → f1 b = f b := fun b hb => p1 b (by unfold inSt; omega)
        have hM := u_figures1 d sw1 f1 g1 n b z p k (by rw [o 81 (by decide)]; exact h.n81) hn hb k1 k2 (by rw [o 106 (by decide)]; exact e2.mp c2) (by rw [o 107 (by decide)]; exact z3) z1 hp
        rw [← hE] at hM
        refine hM.post (fun r M ⟨sw2, f2, g2, a1, v2, a2, a3, a4, a5, a6, a7, a8, a9, a10, a11⟩ => ⟨sw2, f2, g2, a1, ?_, ?_⟩)
        · rw [a3, fgC_uq a2 hv]
        · obtain rfl := fgC_uq a2 hv
          subst a4
          have hEi : ∀ i, g2 108 (b * 60 + i) = E i := fun i => by rw [hE]
          refine ⟨n + v2, fgS E p n v2 sh, L, m, c, ivMore h (k := v2) ?_ (fun i hi => ?_) a6 (fun i w hw => ?_) (fun i hi => ?_) (fun b q1 q2 => ?_) (fun i hi => ?_)⟩
          · exact p3.same (fun b hb _ => by unfold inSt at hb; exact a5 b (by omega))
          · rw [a8, o 82 (by decide)]
            unfold fgS
            by_cases e : n ≤ i ∧ i < n + v2
            · rw [if_pos e, if_pos e]
              obtain ⟨_, b2, _⟩ := hv.2.1 (i - n) (by omega)
              exact ⟨rfl, b2⟩
            · rw [if_neg e, if_neg e]
              exact h.mf.2.2 i (by omega)
          · rw [a5 3 (by decide), p2]
            unfold fgT
            have hw3 : w = 0 ∨ w = 1 ∨ w = 2 := by omega
            rcases hw3 with rfl | rfl | rfl
            · rw [show f2 (83 + 0) i = f2 83 i from rfl, a9 i, o 83 (by decide)]
              by_cases e : n ≤ i ∧ i < n + v2
              · rw [if_pos (by omega), if_pos e, hEi, show (i * 3 + 0) / 3 = i by omega]
              · rw [if_neg (by omega), if_neg e]; exact h.t3 i 0 (by decide)
            · rw [show f2 (83 + 1) i = f2 84 i from rfl, a10 i, o 84 (by decide), if_neg (by omega), h.t3 i 1 (by decide)]
              by_cases e : n ≤ i ∧ i < n + v2
              · rw [if_pos e]; exact (h.1.2.2.2 i e.1).1
              · rw [if_neg e]
            · rw [show f2 (83 + 2) i = f2 85 i from rfl, a11 i, o 85 (by decide), if_neg (by omega), h.t3 i 2 (by decide)]
              by_cases e : n ≤ i ∧ i < n + v2
              · rw [if_pos e]; exact (h.1.2.2.2 i e.1).2
              · rw [if_neg e]
          · rw [a10 i, a11 i, o 84 (by decide), o 85 (by decide), if_neg (by omega), if_neg (by omega)]
            exact h.1.2.2.2 i (by omega)
          · rw [a5 b q2]; exact p1 b q1
          · rw [a7 i hi, o 81 (by decide)]
    · refine rd_one h (t_figuresR d sw f g b k y hb k1 k2 c2) (fun sw1 f1 q1 h1 => ?_)
      have x106 : f1 106 b = f 106 b := by rw [q1.c (b := 106) (by decide) (by decide) (by decide)]
      have key : (if f 74 b = -1 then (0 : Int32) else -12) = if f1 106 b = -1 then 0 else -12 := by
        rw [x106]
        by_cases e : f 74 b = -1
        · rw [if_pos e, if_pos (e3.mp e)]
        · rw [if_neg e, if_neg (fun z => e (e3.mpr z))]
      rw [key]
      exact u_figuresR d sw1 f1 g b k y hb k1 k2 (by rw [x106]; exact fun z => c2 (e2.mpr z))
  · exact rd_one h (t_figures0 d sw f g x y q c1) (fun sw1 f1 _ h1 => u_figures0 d sw1 f1 g x y q c1)
