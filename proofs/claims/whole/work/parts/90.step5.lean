/-! back, keep, row, put, shift -/
theorem s_back : stepOK iX10_back iX11_back [] := by
  rintro d sw f g ⟨n, sh, L, m, c, h⟩
  have h0 := h
  obtain ⟨hF, hL, hB, hT, hC, hS, hR, hH⟩ := h
  obtain ⟨b0, b1, b2, b3, b4, b5, b6, b7, b8⟩ := hB
  rcases b8 with ⟨i1, i2⟩ | ⟨i1, i2, k, i3, i4, i5, i6, i7, i8⟩
  · exact rd_one h0 (t_back0 d sw f g i1) (fun sw1 f1 q _ => u_back0 d sw1 f1 g (by rw [q.c (b := 81) (by decide) (by decide) (by decide)]; exact i2))
  · have ev : jyre f k 64 0 = f 102 0 := by
      unfold jyre
      simp (disch := decide) only [u1_ne, u1_row]
      rw [pk_cpy_in (by decide) (by decide), ← i7 0 (by decide)]
    have hC2 := t_back1 d sw f g k (by omega) i1 i4
    rw [ev] at hC2
    obtain ⟨f1, hf1⟩ : ∃ f1, f1 = jyre f k := ⟨_, rfl⟩
    rw [← hf1] at hC2
    have k1 : ∀ b, b ≠ 62 → b ≠ 63 → b ≠ 64 → f1 b = f b := fun b q1 q2 q3 => by
      rw [hf1]
      unfold jyre
      simp (disch := assumption) only [u1_ne]
    refine md_qs (v := f 102 0) (P := fun f2 g2 => f2 = f1 ∧ g2 = g) (hC2.post (fun r M ⟨e1, e2⟩ => ⟨sw, f1, g, e2, e1, rfl, rfl⟩)) (fun sw1 f2 g1 hP => ?_)
    obtain ⟨rfl, rfl⟩ := hP
    have e81 : f2 81 = f 81 := k1 81 (by decide) (by decide) (by decide)
    have hM := u_back1 d sw1 f2 g1 k (by omega) (by rw [e81]; exact i2) (by rw [e81]; exact i5)
    rw [k1 102 (by decide) (by decide) (by decide)] at hM
    refine hM.post (fun r M ⟨sw3, f3, g3, a1, a2, a3, a4, a5, a6, a7, a8⟩ => ⟨sw3, f3, g3, a1, a2, n, sh, L, m, c, ?_⟩)
    subst a3
    have eb : ∀ b, b ≠ 62 → b ≠ 63 → b ≠ 64 → b ≠ 81 → b ≠ 86 → b ≠ 87 → b ≠ 99 → f3 b = f b := fun b q1 q2 q3 q4 q5 q6 q7 => by rw [a4 b q4 q5 q6 q7, k1 b q1 q2 q3]
    have e8 : ∀ i, i ≠ 8 → f3 81 i = f 81 i := fun i q1 => by rw [a5 i q1, e81]
    have s62 : f3 62 = va_cpy (f 65) (f 62) 0 0 k := by
      rw [a4 62 (by decide) (by decide) (by decide) (by decide), hf1]
      unfold jyre
      simp (disch := decide) only [u1_ne, u1_row]
    have s63 : f3 63 = va_cpy (f 66) (f 63) 0 0 k := by
      rw [a4 63 (by decide) (by decide) (by decide) (by decide), hf1]
      unfold jyre
      simp (disch := decide) only [u1_ne, u1_row]
    have s64 : f3 64 = va_cpy (f 67) (f 64) 0 0 4 := by
      rw [a4 64 (by decide) (by decide) (by decide) (by decide), hf1]
      unfold jyre
      simp (disch := decide) only [u1_ne, u1_row]
    have cpy0 : ∀ (r q : Nat → Int32) (k j : Nat), va_cpy r q 0 0 k j = if j < k then r j else q j := fun r q k j => by
      by_cases c : j < k
      · rw [if_pos c, pk_cpy_in (Nat.zero_le _) (by omega)]; simp
      · rw [if_neg c, pk_cpy_out (by omega)]
    have hB2 : BI f3 m := by
      refine ⟨b0, by rw [eb 61 (by decide) (by decide) (by decide) (by decide) (by decide) (by decide) (by decide)]; exact b1, by rw [e8 5 (by decide)]; exact b2, ?_, ?_, fun b hb => ?_, fun j hj => ?_, ?_, ?_⟩
      · funext j
        rw [s62, cpy0, (a7 j).1, k1 100 (by decide) (by decide) (by decide), k1 86 (by decide) (by decide) (by decide)]
        by_cases e : j < k
        · rw [if_pos e, if_pos e]; exact (i6 j e).1
        · rw [if_neg e, if_neg e, b3]
      · funext j
        rw [s63, cpy0, (a7 j).2, k1 101 (by decide) (by decide) (by decide), k1 87 (by decide) (by decide) (by decide)]
        by_cases e : j < k
        · rw [if_pos e, if_pos e]; exact (i6 j e).2
        · rw [if_neg e, if_neg e, b4]
      · rw [s63, cpy0, if_neg (by omega)]; exact b5 b hb
      · rw [s64, cpy0, if_pos (by omega), a8 j hj]; exact i7 j hj
      · rw [s64, cpy0, if_pos (by decide), a6, e81]; exact i8
      · unfold imI
        rw [eb 61 (by decide) (by decide) (by decide) (by decide) (by decide) (by decide) (by decide), eb 65 (by decide) (by decide) (by decide) (by decide) (by decide) (by decide) (by decide), eb 66 (by decide) (by decide) (by decide) (by decide) (by decide) (by decide) (by decide), eb 67 (by decide) (by decide) (by decide) (by decide) (by decide) (by decide) (by decide), eb 100 (by decide) (by decide) (by decide) (by decide) (by decide) (by decide) (by decide), eb 101 (by decide) (by decide) (by decide) (by decide) (by decide) (by decide) (by decide), eb 102 (by decide) (by decide) (by decide) (by decide) (by decide) (by decide) (by decide), e8 28 (by decide), e8 29 (by decide), e8 30 (by decide)]
        exact Or.inr ⟨i1, i2, k, i3, i4, i5, i6, i7, i8⟩
    exact ⟨hF.cg (fun b hb => by unfold inSt at hb; exact eb b (by omega) (by omega) (by omega) (by omega) (by omega) (by omega) (by omega)) (e8 0 (by decide)) (fun b h1 h2 => eb b (by omega) (by omega) (by omega) (by omega) (by omega) (by omega) (by omega)), hL.cg (by rw [eb 49 (by decide) (by decide) (by decide) (by decide) (by decide) (by decide) (by decide)]) (eb 50 (by decide) (by decide) (by decide) (by decide) (by decide) (by decide) (by decide)) (e8 11 (by decide)) (e8 12 (by decide)) (fun b h1 h2 => eb b (by omega) (by omega) (by omega) (by omega) (by omega) (by omega) (by omega)), hB2, hT.cg (by rw [eb 46 (by decide) (by decide) (by decide) (by decide) (by decide) (by decide) (by decide)]) (eb 47 (by decide) (by decide) (by decide) (by decide) (by decide) (by decide) (by decide)) (eb 88 (by decide) (by decide) (by decide) (by decide) (by decide) (by decide) (by decide)) (e8 9 (by decide)), hC.cg (eb 68 (by decide) (by decide) (by decide) (by decide) (by decide) (by decide) (by decide)) (eb 69 (by decide) (by decide) (by decide) (by decide) (by decide) (by decide) (by decide)) (eb 103 (by decide) (by decide) (by decide) (by decide) (by decide) (by decide) (by decide)) (e8 34 (by decide)) (e8 35 (by decide)), hS.cg (by rw [eb 70 (by decide) (by decide) (by decide) (by decide) (by decide) (by decide) (by decide)]) (eb 71 (by decide) (by decide) (by decide) (by decide) (by decide) (by decide) (by decide)) (eb 104 (by decide) (by decide) (by decide) (by decide) (by decide) (by decide) (by decide)) (e8 37 (by decide)), hR.cg (by rw [eb 70 (by decide) (by decide) (by decide) (by decide) (by decide) (by decide) (by decide)]) (eb 72 (by decide) (by decide) (by decide) (by decide) (by decide) (by decide) (by decide)) (eb 105 (by decide) (by decide) (by decide) (by decide) (by decide) (by decide) (by decide)) (e8 39 (by decide)), hH.cg (eb 74 (by decide) (by decide) (by decide) (by decide) (by decide) (by decide) (by decide)) (eb 75 (by decide) (by decide) (by decide) (by decide) (by decide) (by decide) (by decide)) (eb 106 (by decide) (by decide) (by decide) (by decide) (by decide) (by decide) (by decide)) (eb 107 (by decide) (by decide) (by decide) (by decide) (by decide) (by decide) (by decide))⟩
theorem shO.cg {f f2 : Nat → Nat → Int32} {b c : Nat} (h : shO f b c) (h1 : f2 74 b = f 74 b) (h2 : f2 75 b = f 75 b) (h3 : f2 106 b = f 106 b) (h4 : f2 107 b = f 107 b) : shO f2 b c := by
  unfold shO at *
  rw [h1, h2, h3, h4]
  exact h
theorem s_keep (x y : Int32) : stepOK iX10_keep iX11_keep [.int x, .int y] := by
  rintro d sw f g ⟨n, sh, L, m, c, h⟩
  have h50 := h.c50
  by_cases c1 : (∃ b, b < 6 ∧ x = nI b) ∧ (y = -1 ∨ ∃ i, i < c ∧ y = nI i)
  · obtain ⟨⟨b, hb, rfl⟩, hy⟩ := c1
    rcases hy with rfl | ⟨i, hi, rfl⟩
    · refine md_one (n := n) (sh := sh) (L := L) (m := m) (c := c) (t_keepN d sw f g b hb) (u_keepN d sw (u2 (u2 f 74 b (-1)) 75 b (-1)) g b c hb (by simp (disch := decide) only [u2_ne]; exact h.c81) h50) ?_
      obtain ⟨hF, hL, hB, hT, hC, hS, hR, hH⟩ := h
      refine ⟨hF.cg (fun b hb => by unfold inSt at hb; simp (disch := omega) only [u2_ne, u1_ne]) (by simp (disch := decide) only [u2_ne, u1_ne, u2_off]) (fun b h1 h2 => by simp (disch := omega) only [u2_ne, u1_ne]), hL.cg (by simp (disch := decide) only [u2_ne, u1_ne, u2_off]) (by simp (disch := decide) only [u2_ne, u1_ne]) (by simp (disch := decide) only [u2_ne, u1_ne, u2_off]) (by simp (disch := decide) only [u2_ne, u1_ne, u2_off]) (fun b h1 h2 => by simp (disch := omega) only [u2_ne, u1_ne]), hB.cg (fun b h1 h2 => by simp (disch := omega) only [u2_ne, u1_ne]) (fun b h1 => by simp (disch := omega) only [u2_ne, u1_ne]) (by simp (disch := decide) only [u2_ne, u1_ne, u2_off]) (by simp (disch := decide) only [u2_ne, u1_ne, u2_off]) (by simp (disch := decide) only [u2_ne, u1_ne, u2_off]) (by simp (disch := decide) only [u2_ne, u1_ne, u2_off]) (by simp (disch := decide) only [u2_ne, u1_ne, u2_off]), hT.cg (by simp (disch := decide) only [u2_ne, u1_ne, u2_off]) (by simp (disch := decide) only [u2_ne, u1_ne]) (by simp (disch := decide) only [u2_ne, u1_ne]) (by simp (disch := decide) only [u2_ne, u1_ne, u2_off]), hC.cg (by simp (disch := decide) only [u2_ne, u1_ne]) (by simp (disch := decide) only [u2_ne, u1_ne]) (by simp (disch := decide) only [u2_ne, u1_ne]) (by simp (disch := decide) only [u2_ne, u1_ne, u2_off]) (by simp (disch := decide) only [u2_ne, u1_ne, u2_off]), hS.cg (by simp (disch := decide) only [u2_ne, u1_ne, u2_off]) (by simp (disch := decide) only [u2_ne, u1_ne]) (by simp (disch := decide) only [u2_ne, u1_ne]) (by simp (disch := decide) only [u2_ne, u1_ne, u2_off]), hR.cg (by simp (disch := decide) only [u2_ne, u1_ne, u2_off]) (by simp (disch := decide) only [u2_ne, u1_ne]) (by simp (disch := decide) only [u2_ne, u1_ne]) (by simp (disch := decide) only [u2_ne, u1_ne, u2_off]), ⟨hH.1, fun b2 hb2 => ?_⟩⟩
      obtain ⟨q1, q2⟩ := hH.2 b2 hb2
      by_cases e : b2 = b
      · subst e
        simp (disch := decide) only [u2_ne, u2_at]
        exact ⟨Or.inl ⟨by simp (disch := decide) only [u2_ne, u2_at], by simp (disch := decide) only [u2_ne, u2_at]⟩, fun z => absurd z (by decide)⟩
      · refine ⟨q1.cg (by simp (disch := first | decide | assumption) only [u2_ne, u2_off]) (by simp (disch := first | decide | assumption) only [u2_ne, u2_off]) (by simp (disch := first | decide | assumption) only [u2_ne, u2_off]) (by simp (disch := first | decide | assumption) only [u2_ne, u2_off]), ?_⟩
        simp (disch := first | decide | assumption) only [u2_ne, u2_off]
        exact q2
    · refine md_one (n := n) (sh := sh) (L := L) (m := m) (c := c) (t_keepS d sw f g b c i hb h.c70 h50 hi) (u_keepS d sw (u2 (u2 f 74 b 5) 75 b (nI i)) g b c i hb (by simp (disch := decide) only [u2_ne]; exact h.c81) h50 hi) ?_
      obtain ⟨hF, hL, hB, hT, hC, hS, hR, hH⟩ := h
      refine ⟨hF.cg (fun b hb => by unfold inSt at hb; simp (disch := omega) only [u2_ne, u1_ne]) (by simp (disch := decide) only [u2_ne, u1_ne, u2_off]) (fun b h1 h2 => by simp (disch := omega) only [u2_ne, u1_ne]), hL.cg (by simp (disch := decide) only [u2_ne, u1_ne, u2_off]) (by simp (disch := decide) only [u2_ne, u1_ne]) (by simp (disch := decide) only [u2_ne, u1_ne, u2_off]) (by simp (disch := decide) only [u2_ne, u1_ne, u2_off]) (fun b h1 h2 => by simp (disch := omega) only [u2_ne, u1_ne]), hB.cg (fun b h1 h2 => by simp (disch := omega) only [u2_ne, u1_ne]) (fun b h1 => by simp (disch := omega) only [u2_ne, u1_ne]) (by simp (disch := decide) only [u2_ne, u1_ne, u2_off]) (by simp (disch := decide) only [u2_ne, u1_ne, u2_off]) (by simp (disch := decide) only [u2_ne, u1_ne, u2_off]) (by simp (disch := decide) only [u2_ne, u1_ne, u2_off]) (by simp (disch := decide) only [u2_ne, u1_ne, u2_off]), hT.cg (by simp (disch := decide) only [u2_ne, u1_ne, u2_off]) (by simp (disch := decide) only [u2_ne, u1_ne]) (by simp (disch := decide) only [u2_ne, u1_ne]) (by simp (disch := decide) only [u2_ne, u1_ne, u2_off]), hC.cg (by simp (disch := decide) only [u2_ne, u1_ne]) (by simp (disch := decide) only [u2_ne, u1_ne]) (by simp (disch := decide) only [u2_ne, u1_ne]) (by simp (disch := decide) only [u2_ne, u1_ne, u2_off]) (by simp (disch := decide) only [u2_ne, u1_ne, u2_off]), hS.cg (by simp (disch := decide) only [u2_ne, u1_ne, u2_off]) (by simp (disch := decide) only [u2_ne, u1_ne]) (by simp (disch := decide) only [u2_ne, u1_ne]) (by simp (disch := decide) only [u2_ne, u1_ne, u2_off]), hR.cg (by simp (disch := decide) only [u2_ne, u1_ne, u2_off]) (by simp (disch := decide) only [u2_ne, u1_ne]) (by simp (disch := decide) only [u2_ne, u1_ne]) (by simp (disch := decide) only [u2_ne, u1_ne, u2_off]), ⟨hH.1, fun b2 hb2 => ?_⟩⟩
      obtain ⟨q1, q2⟩ := hH.2 b2 hb2
      by_cases e : b2 = b
      · subst e
        simp (disch := decide) only [u2_ne, u2_at]
        exact ⟨Or.inr (Or.inr ⟨i, hi, by simp (disch := decide) only [u2_ne, u2_at], by simp (disch := decide) only [u2_ne, u2_at], by simp (disch := decide) only [u2_ne, u2_at]⟩), fun z => absurd z (by decide)⟩
      · refine ⟨q1.cg (by simp (disch := first | decide | assumption) only [u2_ne, u2_off]) (by simp (disch := first | decide | assumption) only [u2_ne, u2_off]) (by simp (disch := first | decide | assumption) only [u2_ne, u2_off]) (by simp (disch := first | decide | assumption) only [u2_ne, u2_off]), ?_⟩
        simp (disch := first | decide | assumption) only [u2_ne, u2_off]
        exact q2
  · exact rd_one h (t_keep0 d sw f g c x y h.c70 h50 c1) (fun sw1 f1 _ h1 => u_keep0 d sw1 f1 g c x y h1.c81 h50 c1)
theorem fit_0 : fit 0 := by unfold fit; decide
theorem s_row (x y z : Int32) : stepOK iX10_row iX11_row [.int x, .int y, .int z] := by
  rintro d sw f g ⟨n, sh, L, m, c, h⟩
  by_cases c1 : (∃ b, b < 6 ∧ x = nI b) ∧ (∃ k, k < 5 ∧ y = nI k) ∧ ¬ 60 < z
  · obtain ⟨⟨b, hb, rfl⟩, ⟨k, hk, rfl⟩, hz⟩ := c1
    by_cases c2 : z < 0
    · exact rd_one h (t_rowN d sw f g b k z hb hk c2) (fun sw1 f1 _ h1 => u_rowN d sw1 f1 g b k z hb hk c2)
    · obtain ⟨q, q1, rfl⟩ := rg_le (k := 60) (by decide) c2 hz
      have h76 := h.g76
      refine md_one (n := n) (sh := sh) (L := L) (m := m) (c := c) (t_row1 d sw f g b k q hb hk q1) (u_row1 d sw (u2 (u2 f 74 b (nI k)) 75 b (nI q)) (u1 g 76 (jemp (g 76) b 60)) b k q hb hk q1) ?_
      obtain ⟨hF, hL, hB, hT, hC, hS, hR, hH⟩ := h
      refine ⟨hF.cg (fun b hb => by unfold inSt at hb; simp (disch := omega) only [u2_ne, u1_ne]) (by simp (disch := decide) only [u2_ne, u1_ne, u2_off]) (fun b h1 h2 => by simp (disch := omega) only [u2_ne, u1_ne]), hL.cg (by simp (disch := decide) only [u2_ne, u1_ne, u2_off]) (by simp (disch := decide) only [u2_ne, u1_ne]) (by simp (disch := decide) only [u2_ne, u1_ne, u2_off]) (by simp (disch := decide) only [u2_ne, u1_ne, u2_off]) (fun b h1 h2 => by simp (disch := omega) only [u2_ne, u1_ne]), hB.cg (fun b h1 h2 => by simp (disch := omega) only [u2_ne, u1_ne]) (fun b h1 => by simp (disch := omega) only [u2_ne, u1_ne]) (by simp (disch := decide) only [u2_ne, u1_ne, u2_off]) (by simp (disch := decide) only [u2_ne, u1_ne, u2_off]) (by simp (disch := decide) only [u2_ne, u1_ne, u2_off]) (by simp (disch := decide) only [u2_ne, u1_ne, u2_off]) (by simp (disch := decide) only [u2_ne, u1_ne, u2_off]), hT.cg (by simp (disch := decide) only [u2_ne, u1_ne, u2_off]) (by simp (disch := decide) only [u2_ne, u1_ne]) (by simp (disch := decide) only [u2_ne, u1_ne]) (by simp (disch := decide) only [u2_ne, u1_ne, u2_off]), hC.cg (by simp (disch := decide) only [u2_ne, u1_ne]) (by simp (disch := decide) only [u2_ne, u1_ne]) (by simp (disch := decide) only [u2_ne, u1_ne]) (by simp (disch := decide) only [u2_ne, u1_ne, u2_off]) (by simp (disch := decide) only [u2_ne, u1_ne, u2_off]), hS.cg (by simp (disch := decide) only [u2_ne, u1_ne, u2_off]) (by simp (disch := decide) only [u2_ne, u1_ne]) (by simp (disch := decide) only [u2_ne, u1_ne]) (by simp (disch := decide) only [u2_ne, u1_ne, u2_off]), hR.cg (by simp (disch := decide) only [u2_ne, u1_ne, u2_off]) (by simp (disch := decide) only [u2_ne, u1_ne]) (by simp (disch := decide) only [u2_ne, u1_ne]) (by simp (disch := decide) only [u2_ne, u1_ne, u2_off]), ⟨?_, fun b2 hb2 => ?_⟩⟩
      · simp (disch := decide) only [u1_ne, u1_row]
        rw [h76]
      · obtain ⟨r1, r2⟩ := hH.2 b2 hb2
        simp (disch := decide) only [u1_ne, u1_row]
        by_cases e : b2 = b
        · subst e
          refine ⟨Or.inr (Or.inl ⟨k, q, hk, q1, by simp (disch := decide) only [u2_ne, u2_at], by simp (disch := decide) only [u2_ne, u2_at], by simp (disch := decide) only [u2_ne, u2_at], by simp (disch := decide) only [u2_ne, u2_at]⟩), fun _ j hj => ?_⟩
          unfold jemp
          rw [if_pos (by omega)]
          exact fit_0
        · refine ⟨r1.cg (by simp (disch := first | decide | assumption) only [u2_ne, u2_off]) (by simp (disch := first | decide | assumption) only [u2_ne, u2_off]) (by simp (disch := first | decide | assumption) only [u2_ne, u2_off]) (by simp (disch := first | decide | assumption) only [u2_ne, u2_off]), ?_⟩
          simp (disch := first | decide | assumption) only [u2_ne, u2_off]
          intro z j hj
          unfold jemp
          rw [if_neg (by omega)]
          exact r2 z j hj
  · exact rd_one h (t_row0 d sw f g x y z c1) (fun sw1 f1 _ h1 => u_row0 d sw1 f1 g x y z c1)
theorem fit_b (v : Int64) : fit (jnar 0 v) := by
  show (v.toInt32.toInt8.toInt32.toInt64).toInt32.toInt64 = v.toInt32.toInt8.toInt32.toInt64
  rw [Int32.toInt32_toInt64]
theorem s_put (x i : Int32) (v : Int64) : stepOK iX10_put iX11_put [.int x, .int i, .long v] := by
  rintro d sw f g ⟨n, sh, L, m, c, h⟩
  by_cases c1 : ∃ b, b < 6 ∧ x = nI b
  · obtain ⟨b, hb, rfl⟩ := c1
    by_cases c2 : jre (f 74 b) (f 75 b) i = 0
    · have c3 := c2
      rw [h.jreE hb] at c3
      obtain ⟨⟨k, k1, k2⟩, c4⟩ := jre_0 c3
      obtain ⟨z, z1, z2⟩ := h.shRE b k hb k1 k2
      rw [z2] at c4
      obtain ⟨p, q, p1, p2, p3⟩ := jstr_in z1 c4
      have := (nI_eq (a := 1) (by omega) (by omega)).mp p2
      subst p1
      have k3 : f 74 b = nI k := by
        obtain ⟨⟨k', e1, e2⟩, _⟩ := jre_0 c2
        rcases h.sc b hb with ⟨e3, e4⟩ | ⟨k4, z4, e3, e4, e5, e6, _⟩ | ⟨s, s1, s2, s3, s4⟩
        · rw [e4] at k2; exact absurd k2.symm (nI_m1 (by omega))
        · rw [e5, ← k2, e6]
        · rw [s2] at e2; have := (nI_eq (a := 5) (by omega) (by omega)).mp e2; omega
      have h76 := h.g76
      refine md_one (n := n) (sh := sh) (L := L) (m := m) (c := c) (t_put1 d sw f g b p k v hb (by omega) k3 k1 c2) (u_put1 d sw f (u2 g 76 (b * 60 + p) (jnar k v)) b p k v hb (by omega) h.shRE k2 k1 c3) ?_
      obtain ⟨hF, hL, hB, hT, hC, hS, hR, hH⟩ := h
      refine ⟨hF, hL, hB, hT, hC, hS, hR, ⟨?_, fun b2 hb2 => ?_⟩⟩
      · simp (disch := decide) only [u2_ne, u2_row]
        rw [h76]
      · obtain ⟨r1, r2⟩ := hH.2 b2 hb2
        refine ⟨r1, fun e j hj => ?_⟩
        simp (disch := decide) only [u2_ne, u2_row]
        by_cases ej : b2 * 60 + j = b * 60 + p
        · rw [if_pos ej]
          have eb : b2 = b := by omega
          rw [eb, k3] at e
          have := (nI_eq (b := 0) (by omega) (by omega)).mp e
          rw [this]
          exact fit_b v
        · rw [if_neg ej]
          exact r2 e j hj
    · refine rd_one h (t_putR d sw f g b i v hb c2) (fun sw1 f1 q h1 => ?_)
      have e : jre (f 74 b) (f 75 b) i = jre (f1 106 b) (f1 107 b) i := by rw [h.jreE hb, q.c (b := 106) (by decide) (by decide) (by decide), q.c (b := 107) (by decide) (by decide) (by decide)]
      rw [e] at c2 ⊢
      exact u_putR d sw1 f1 g b i v hb h1.shRE c2
  · exact rd_one h (t_put0 d sw f g x i v c1) (fun sw1 f1 _ h1 => u_put0 d sw1 f1 g x i v c1)
theorem jsh_12 {s z s2 z2 i j n : Int32} (h1 : ¬ s = -1) (h2 : ¬ s2 = -1) (h3 : jin s 5 = 0 ∨ ¬ s = s2) : jsh s z s2 z2 i j n = -12 := by
  unfold jsh
  rw [if_neg (fun q => q.elim h1 h2), if_pos h3]
theorem jsh_11 {s z s2 z2 i j n : Int32} (h : s = -1 ∨ s2 = -1) : jsh s z s2 z2 i j n = -11 := by
  unfold jsh
  rw [if_pos h]
theorem IVp.jshE {f : Nat → Nat → Int32} {g : Nat → Nat → Int64} {n m c : Nat} {sh : Nat → Int32} {L : List (List Nat × List Nat)} (h : IVp f g n sh L m c) {a b : Nat} (ha : a < 6) (hb : b < 6) (i j k : Int32) : jsh (f 74 a) (f 75 a) (f 74 b) (f 75 b) i j k = jsh (f 106 a) (f 107 a) (f 106 b) (f 107 b) i j k := by
  have h50 := h.c50
  have n5 : ∀ k, k < 5 → ¬ nI k = 5 := fun k hk e => by have := (nI_eq (b := 5) (by omega) (by omega)).mp e; omega
  have n10 : ∀ k s, k < 5 → s < 50 → ¬ nI k = nI (10 + s) := fun k s hk hs e => by have := (nI_eq (by omega) (by omega)).mp e; omega
  rcases h.sc a ha with ⟨e1, e2⟩ | ⟨k2, z, hk2, hz, e1, e2, e3, e4⟩ | ⟨s, hs, e1, e2, e3⟩
  · rw [jsh_11 (Or.inl e1), jsh_11 (Or.inl e2)]
  · rcases h.sc b hb with ⟨g1, g2⟩ | ⟨k3, z3, hk3, hz3, g1, g2, g3, g4⟩ | ⟨s, hs, g1, g2, g3⟩
    · rw [jsh_11 (Or.inr g1), jsh_11 (Or.inr g2)]
    · rw [e1, e2, e3, e4, g1, g2, g3, g4]
    · rw [jsh_12 (by rw [e1]; exact nI_m1 (by omega)) (by rw [g1]; decide) (Or.inr (by rw [e1, g1]; exact n5 k2 hk2)), jsh_12 (by rw [e2]; exact nI_m1 (by omega)) (by rw [g3]; exact nI_m1 (by omega)) (Or.inr (by rw [e2, g3]; exact n10 k2 s hk2 (by omega)))]
  · rcases h.sc b hb with ⟨g1, g2⟩ | ⟨k3, z3, hk3, hz3, g1, g2, g3, g4⟩ | ⟨s3, hs3, g1, g2, g3⟩
    · rw [jsh_11 (Or.inr g1), jsh_11 (Or.inr g2)]
    · rw [jsh_12 (by rw [e1]; decide) (by rw [g1]; exact nI_m1 (by omega)) (Or.inl (by rw [e1]; exact jin_5)), jsh_12 (by rw [e3]; exact nI_m1 (by omega)) (by rw [g2]; exact nI_m1 (by omega)) (Or.inl (by rw [e3]; exact jin_st (by omega)))]
    · rw [jsh_12 (by rw [e1]; decide) (by rw [g1]; decide) (Or.inl (by rw [e1]; exact jin_5)), jsh_12 (by rw [e3]; exact nI_m1 (by omega)) (by rw [g3]; exact nI_m1 (by omega)) (Or.inl (by rw [e3]; exact jin_st (by omega)))]
theorem s_shift (x i y j k : Int32) : stepOK iX10_shift iX11_shift [.int x, .int i, .int y, .int j, .int k] := by
  rintro d sw f g ⟨n, sh, L, m, c, h⟩
  by_cases c1 : (∃ b, b < 6 ∧ x = nI b) ∧ ∃ c, c < 6 ∧ y = nI c
  · obtain ⟨⟨a, ha, rfl⟩, b, hb, rfl⟩ := c1
    by_cases c2 : jsh (f 74 a) (f 75 a) (f 74 b) (f 75 b) i j k = 0
    · have c3 := c2
      rw [h.jshE ha hb] at c3
      obtain ⟨⟨q, q1, q2⟩, q3, q4, q5⟩ := jsh_0 c3
      obtain ⟨za, z1, z2⟩ := h.shRE a q ha q1 q2
      obtain ⟨zb, z3, z4⟩ := h.shRE b q hb q1 (by rw [← q3]; exact q2)
      rw [z2] at q4
      rw [z4] at q5
      obtain ⟨p, u, rfl, rfl, p3⟩ := jstr_in z1 q4
      obtain ⟨p2, u2, rfl, p4, p5⟩ := jstr_in z3 q5
      have eu := (nI_eq (by omega) (by omega)).mp p4
      subst eu
      have h76 := h.g76
      refine md_one (n := n) (sh := sh) (L := L) (m := m) (c := c) (t_shift1 d sw f g a b p p2 u ha hb (by omega) (by omega) c2) (u_shift1 d sw f (u1 g 76 (va_cpy (g 76) (g 76) (a * 60 + p) (b * 60 + p2) u)) a b p p2 u ha hb h.shRE (by omega) (by omega) c3) ?_
      have k74 := (jsh_0 c2).2.1
      obtain ⟨hF, hL, hB, hT, hC, hS, hR, hH⟩ := h
      refine ⟨hF, hL, hB, hT, hC, hS, hR, ⟨?_, fun b2 hb2 => ?_⟩⟩
      · simp (disch := decide) only [u1_ne, u1_row]
        rw [h76]
      · obtain ⟨r1, r2⟩ := hH.2 b2 hb2
        refine ⟨r1, fun e t ht => ?_⟩
        simp (disch := decide) only [u1_ne, u1_row]
        by_cases ej : b * 60 + p2 ≤ b2 * 60 + t ∧ b2 * 60 + t < b * 60 + p2 + u
        · have eb : b2 = b := by omega
          subst eb
          rw [pk_cpy_in ej.1 ej.2, show a * 60 + p + (b2 * 60 + t - (b2 * 60 + p2)) = a * 60 + (p + (t - p2)) by omega]
          exact (hH.2 a ha).2 (by rw [k74]; exact e) _ (by omega)
        · rw [pk_cpy_out (by omega)]
          exact r2 e t ht
    · refine rd_one h (t_shiftR d sw f g a b i j k ha hb c2) (fun sw1 f1 q h1 => ?_)
      have e : jsh (f 74 a) (f 75 a) (f 74 b) (f 75 b) i j k = jsh (f1 106 a) (f1 107 a) (f1 106 b) (f1 107 b) i j k := by rw [h.jshE ha hb, q.c (b := 106) (by decide) (by decide) (by decide), q.c (b := 107) (by decide) (by decide) (by decide)]
      rw [e] at c2 ⊢
      exact u_shiftR d sw1 f1 g a b i j k ha hb h1.shRE c2
  · exact rd_one h (t_shift0 d sw f g x i y j k c1) (fun sw1 f1 _ h1 => u_shift0 d sw1 f1 g x i y j k c1)
