/-! feed, pass, body, act, image, back -/
theorem s_feed (x : Int32) : stepOK iX10_feed iX11_feed [.int x] := by
  rintro d sw f g ⟨n, sh, L, m, c, h⟩
  by_cases c1 : ∃ v, v < 256 ∧ x = nI v
  · obtain ⟨v, hv, rfl⟩ := c1
    obtain ⟨T, tn, t1, t2, t3, t4⟩ := h.2.2.2.1
    by_cases c2 : tn = 120
    · rw [c2] at t2 t3
      exact rd_one h (t_feedF d sw f g v hv t2) (fun sw1 f1 q _ => u_feedF d sw1 f1 g v hv (by rw [q.c (b := 81) (by decide) (by decide) (by decide)]; exact t3))
    · refine md_one (n := n) (sh := sh) (L := L) (m := m) (c := c) (t_feed1 d sw f g v tn hv (by omega) t2) (u_feed1 d sw (u2 (u2 f 47 tn (nI v)) 46 2 (nI (tn + 1))) g v tn hv (by omega) (by simp (disch := decide) only [u2_ne]; exact t3)) ?_
      obtain ⟨hF, hL, hB, hT, hC, hS, hR, hH⟩ := h
      refine ⟨hF.cg (fun b hb => by unfold inSt at hb; simp (disch := omega) only [u2_ne, u1_ne]) (by simp (disch := decide) only [u2_ne, u1_ne, u2_off]) (fun b h1 h2 => by simp (disch := omega) only [u2_ne, u1_ne]), hL.cg (by simp (disch := decide) only [u2_ne, u1_ne, u2_off]) (by simp (disch := decide) only [u2_ne, u1_ne]) (by simp (disch := decide) only [u2_ne, u1_ne, u2_off]) (by simp (disch := decide) only [u2_ne, u1_ne, u2_off]) (fun b h1 h2 => by simp (disch := omega) only [u2_ne, u1_ne]), hB.cg (fun b h1 h2 => by simp (disch := omega) only [u2_ne, u1_ne]) (fun b h1 => by simp (disch := omega) only [u2_ne, u1_ne]) (by simp (disch := decide) only [u2_ne, u1_ne, u2_off]) (by simp (disch := decide) only [u2_ne, u1_ne, u2_off]) (by simp (disch := decide) only [u2_ne, u1_ne, u2_off]) (by simp (disch := decide) only [u2_ne, u1_ne, u2_off]) (by simp (disch := decide) only [u2_ne, u1_ne, u2_off]), ⟨fun j => if j = tn then v else T j, tn + 1, by omega, ?_, ?_, fun j hj => ?_⟩, hC.cg (by simp (disch := decide) only [u2_ne, u1_ne]) (by simp (disch := decide) only [u2_ne, u1_ne]) (by simp (disch := decide) only [u2_ne, u1_ne]) (by simp (disch := decide) only [u2_ne, u1_ne, u2_off]) (by simp (disch := decide) only [u2_ne, u1_ne, u2_off]), hS.cg (by simp (disch := decide) only [u2_ne, u1_ne, u2_off]) (by simp (disch := decide) only [u2_ne, u1_ne]) (by simp (disch := decide) only [u2_ne, u1_ne]) (by simp (disch := decide) only [u2_ne, u1_ne, u2_off]), hR.cg (by simp (disch := decide) only [u2_ne, u1_ne, u2_off]) (by simp (disch := decide) only [u2_ne, u1_ne]) (by simp (disch := decide) only [u2_ne, u1_ne]) (by simp (disch := decide) only [u2_ne, u1_ne, u2_off]), hH.cg (by simp (disch := decide) only [u2_ne, u1_ne]) (by simp (disch := decide) only [u2_ne, u1_ne]) (by simp (disch := decide) only [u2_ne, u1_ne]) (by simp (disch := decide) only [u2_ne, u1_ne])⟩
      · simp (disch := decide) only [u2_ne, u2_at]
      · simp (disch := decide) only [u2_ne, u2_at]
      · simp (disch := decide) only [u2_ne, u2_row]
        by_cases e : j = tn
        · rw [if_pos e, if_pos e, if_pos e]; exact ⟨rfl, rfl, hv⟩
        · rw [if_neg e, if_neg e, if_neg e]; exact t4 j (by omega)
  · exact rd_one h (t_feed0 d sw f g x c1) (fun sw1 f1 _ h1 => u_feed0 d sw1 f1 g x c1)
theorem s_pass (x : Int32) : stepOK iX10_pass iX11_pass [.int x] := by
  rintro d sw f g ⟨n, sh, L, m, c, h⟩
  by_cases c1 : ∃ k, 1 ≤ k ∧ k < 100 ∧ x = nI k
  · obtain ⟨k, k1, k2, rfl⟩ := c1
    have e8 : f 64 3 = f 81 8 := h.2.2.1.2.2.2.2.2.2.2.1
    have hC := t_pass1 d sw f g k k1 k2
    by_cases c2 : f 64 3 + nI k ≤ 99
    · rw [if_pos c2, if_pos c2] at hC
      have hM := u_pass1 d sw (u2 f 64 3 (f 64 3 + nI k)) g k k1 k2
      rw [show u2 f 64 3 (f 64 3 + nI k) 81 8 = f 64 3 by simp (disch := decide) only [u2_ne]; exact e8.symm, if_pos c2, if_pos c2] at hM
      refine md_one (n := n) (sh := sh) (L := L) (m := m) (c := c) hC hM ?_
      obtain ⟨hF, hL, hB, hT, hC, hS, hR, hH⟩ := h
      obtain ⟨b0, b1, b2, b3, b4, b5, b6, b7, b8⟩ := hB
      refine ⟨hF.cg (fun b hb => by unfold inSt at hb; simp (disch := omega) only [u2_ne, u1_ne]) (by simp (disch := decide) only [u2_ne, u1_ne, u2_off]) (fun b h1 h2 => by simp (disch := omega) only [u2_ne, u1_ne]), hL.cg (by simp (disch := decide) only [u2_ne, u1_ne, u2_off]) (by simp (disch := decide) only [u2_ne, u1_ne]) (by simp (disch := decide) only [u2_ne, u1_ne, u2_off]) (by simp (disch := decide) only [u2_ne, u1_ne, u2_off]) (fun b h1 h2 => by simp (disch := omega) only [u2_ne, u1_ne]), ⟨b0, by simp (disch := decide) only [u2_ne]; exact b1, by simp (disch := decide) only [u2_ne, u2_off]; exact b2, by simp (disch := decide) only [u2_ne]; exact b3, by simp (disch := decide) only [u2_ne]; exact b4, fun b hb => by simp (disch := decide) only [u2_ne]; exact b5 b hb, fun j hj => by simp (disch := omega) only [u2_ne, u2_off]; exact b6 j hj, by simp (disch := decide) only [u2_ne, u2_at], ?_⟩, hT.cg (by simp (disch := decide) only [u2_ne, u1_ne, u2_off]) (by simp (disch := decide) only [u2_ne, u1_ne]) (by simp (disch := decide) only [u2_ne, u1_ne]) (by simp (disch := decide) only [u2_ne, u1_ne, u2_off]), hC.cg (by simp (disch := decide) only [u2_ne, u1_ne]) (by simp (disch := decide) only [u2_ne, u1_ne]) (by simp (disch := decide) only [u2_ne, u1_ne]) (by simp (disch := decide) only [u2_ne, u1_ne, u2_off]) (by simp (disch := decide) only [u2_ne, u1_ne, u2_off]), hS.cg (by simp (disch := decide) only [u2_ne, u1_ne, u2_off]) (by simp (disch := decide) only [u2_ne, u1_ne]) (by simp (disch := decide) only [u2_ne, u1_ne]) (by simp (disch := decide) only [u2_ne, u1_ne, u2_off]), hR.cg (by simp (disch := decide) only [u2_ne, u1_ne, u2_off]) (by simp (disch := decide) only [u2_ne, u1_ne]) (by simp (disch := decide) only [u2_ne, u1_ne]) (by simp (disch := decide) only [u2_ne, u1_ne, u2_off]), hH.cg (by simp (disch := decide) only [u2_ne, u1_ne]) (by simp (disch := decide) only [u2_ne, u1_ne]) (by simp (disch := decide) only [u2_ne, u1_ne]) (by simp (disch := decide) only [u2_ne, u1_ne])⟩
      unfold imI at b8 ⊢
      simp (disch := decide) only [u2_ne, u2_off]
      exact b8
    · rw [if_neg c2, if_neg c2] at hC
      have hM := u_pass1 d sw f g k k1 k2
      rw [← e8, if_neg c2, if_neg c2] at hM
      exact md_one hC hM h
  · exact rd_one h (t_pass0 d sw f g x c1) (fun sw1 f1 _ h1 => u_pass0 d sw1 f1 g x c1)
theorem s_body (x : Int32) : stepOK iX10_body iX11_body [.int x] := by
  rintro d sw f g ⟨n, sh, L, m, c, h⟩
  by_cases c1 : ∃ k, k < 8 ∧ x = nI k
  · obtain ⟨k, hk, rfl⟩ := c1
    have h50 := h.c50
    by_cases c2 : c = 50
    · have a1 := h.c70
      have a2 := h.c81
      rw [c2] at a1 a2
      exact rd_one h (t_bodyF d sw f g k hk a1) (fun sw1 f1 q _ => u_bodyF d sw1 f1 g k hk (by rw [q.c (b := 81) (by decide) (by decide) (by decide)]; exact a2))
    · refine md_one (n := n) (sh := sh) (L := L) (m := m) (c := c + 1) (t_body1 d sw f g c k hk (by omega) h.c70) (u_body1 d sw (u2 (u2 f 71 c (nI k)) 70 2 (nI (c + 1))) g c k hk (by omega) (by simp (disch := decide) only [u2_ne]; exact h.c81)) ?_
      obtain ⟨hF, hL, hB, hT, hC, hS, hR, hH⟩ := h
      obtain ⟨s1, s2, s3, s4⟩ := hS
      refine ⟨hF.cg (fun b hb => by unfold inSt at hb; simp (disch := omega) only [u2_ne, u1_ne]) (by simp (disch := decide) only [u2_ne, u1_ne, u2_off]) (fun b h1 h2 => by simp (disch := omega) only [u2_ne, u1_ne]), hL.cg (by simp (disch := decide) only [u2_ne, u1_ne, u2_off]) (by simp (disch := decide) only [u2_ne, u1_ne]) (by simp (disch := decide) only [u2_ne, u1_ne, u2_off]) (by simp (disch := decide) only [u2_ne, u1_ne, u2_off]) (fun b h1 h2 => by simp (disch := omega) only [u2_ne, u1_ne]), hB.cg (fun b h1 h2 => by simp (disch := omega) only [u2_ne, u1_ne]) (fun b h1 => by simp (disch := omega) only [u2_ne, u1_ne]) (by simp (disch := decide) only [u2_ne, u1_ne, u2_off]) (by simp (disch := decide) only [u2_ne, u1_ne, u2_off]) (by simp (disch := decide) only [u2_ne, u1_ne, u2_off]) (by simp (disch := decide) only [u2_ne, u1_ne, u2_off]) (by simp (disch := decide) only [u2_ne, u1_ne, u2_off]), hT.cg (by simp (disch := decide) only [u2_ne, u1_ne, u2_off]) (by simp (disch := decide) only [u2_ne, u1_ne]) (by simp (disch := decide) only [u2_ne, u1_ne]) (by simp (disch := decide) only [u2_ne, u1_ne, u2_off]), hC.cg (by simp (disch := decide) only [u2_ne, u1_ne]) (by simp (disch := decide) only [u2_ne, u1_ne]) (by simp (disch := decide) only [u2_ne, u1_ne]) (by simp (disch := decide) only [u2_ne, u1_ne, u2_off]) (by simp (disch := decide) only [u2_ne, u1_ne, u2_off]), ⟨by omega, by simp (disch := decide) only [u2_ne, u2_at], by rw [u2_at], fun i hi => ?_⟩, hR.cg (by simp (disch := decide) only [u2_ne, u1_ne, u2_off]) (by simp (disch := decide) only [u2_ne, u1_ne]) (by simp (disch := decide) only [u2_ne, u1_ne]) (by simp (disch := decide) only [u2_ne, u1_ne, u2_off]), ⟨hH.1, fun b hb => ?_⟩⟩
      · simp (disch := decide) only [u2_ne, u2_row]
        by_cases e : i = c
        · rw [if_pos e, if_pos e]; exact ⟨k, hk, rfl, rfl⟩
        · rw [if_neg e, if_neg e]; exact s4 i (by omega)
      · obtain ⟨b1, b2⟩ := hH.2 b hb
        unfold shO at b1 ⊢
        simp (disch := decide) only [u2_ne]
        refine ⟨?_, b2⟩
        rcases b1 with b1 | b1 | ⟨s, s5, s6⟩
        · exact Or.inl b1
        · exact Or.inr (Or.inl b1)
        · exact Or.inr (Or.inr ⟨s, by omega, s6⟩)
  · exact rd_one h (t_body0 d sw f g x c1) (fun sw1 f1 _ h1 => u_body0 d sw1 f1 g x c1)
theorem s_act (x y v : Int32) : stepOK iX10_act iX11_act [.int x, .int y, .int v] := by
  rintro d sw f g ⟨n, sh, L, m, c, h⟩
  have h50 := h.c50
  by_cases c1 : (∃ i, i < c ∧ x = nI i) ∧ ∃ a, a < 4 ∧ y = nI a
  · obtain ⟨⟨i, hi, rfl⟩, a, ha, rfl⟩ := c1
    obtain ⟨k0, k1, k2, k3⟩ := h.2.2.2.2.2.1.2.2.2 i hi
    refine md_qs (P := fun f1 g1 => g1 = g ∧ trSm f f1 ∧ trOk f1 (jT k0 40 k0 a)) (t_act1 d sw f g c i k0 a v h.c70 h50 hi k1 ha k2) (fun sw1 f1 g1 hP => ?_)
    obtain ⟨rfl, p1, p2⟩ := hP
    have e81 : f1 81 = f 81 := p1.1 81 (by decide) (by decide)
    refine (u_act1 d sw1 f1 g1 c i k0 a v (by rw [e81]; exact h.c81) h50 hi k1 ha (by rw [p1.1 104 (by decide) (by decide)]; exact k3)).post (fun r M ⟨sw2, f2, g2, a1, a2, a3, a4, a5⟩ => ⟨sw2, f2, g2, a1, a2, n, sh, L, m, c, ?_⟩)
    subst a3
    obtain ⟨hF, hL, hB, hT, hC, hS, hR, hH⟩ := h
    have eb : ∀ b, b ≠ 70 → b ≠ 72 → b ≠ 81 → b ≠ 105 → f2 b = f b := fun b q1 q2 q3 q4 => by rw [a4.1 b q3 q4, p1.1 b q1 q2]
    have e8 : ∀ i, i ≠ 39 → f2 81 i = f 81 i := fun i q => by rw [a4.2 i q, e81]
    have e7 : f2 70 2 = f 70 2 := by rw [a4.1 70 (by decide) (by decide), p1.2 2 (by decide)]
    refine ⟨hF.cg (fun b hb => by unfold inSt at hb; exact eb b (by omega) (by omega) (by omega) (by omega)) (e8 0 (by decide)) (fun b h1 h2 => eb b (by omega) (by omega) (by omega) (by omega)), hL.cg (by rw [eb 49 (by decide) (by decide) (by decide) (by decide)]) (eb 50 (by decide) (by decide) (by decide) (by decide)) (e8 11 (by decide)) (e8 12 (by decide)) (fun b h1 h2 => eb b (by omega) (by omega) (by omega) (by omega)), hB.cg (fun b h1 h2 => eb b (by omega) (by omega) (by omega) (by omega)) (fun b h1 => eb b (by omega) (by omega) (by omega) (by omega)) (e8 5 (by decide)) (e8 8 (by decide)) (e8 28 (by decide)) (e8 29 (by decide)) (e8 30 (by decide)), hT.cg (by rw [eb 46 (by decide) (by decide) (by decide) (by decide)]) (eb 47 (by decide) (by decide) (by decide) (by decide)) (eb 88 (by decide) (by decide) (by decide) (by decide)) (e8 9 (by decide)), hC.cg (eb 68 (by decide) (by decide) (by decide) (by decide)) (eb 69 (by decide) (by decide) (by decide) (by decide)) (eb 103 (by decide) (by decide) (by decide) (by decide)) (e8 34 (by decide)) (e8 35 (by decide)), hS.cg e7 (eb 71 (by decide) (by decide) (by decide) (by decide)) (eb 104 (by decide) (by decide) (by decide) (by decide)) (e8 37 (by decide)), ⟨_, ?_, a5⟩, hH.cg (eb 74 (by decide) (by decide) (by decide) (by decide)) (eb 75 (by decide) (by decide) (by decide) (by decide)) (eb 106 (by decide) (by decide) (by decide) (by decide)) (eb 107 (by decide) (by decide) (by decide) (by decide))⟩
    unfold trOk at p2 ⊢
    rw [a4.1 70 (by decide) (by decide), a4.1 72 (by decide) (by decide)]
    exact p2
  · refine md_one (n := n) (sh := sh) (L := L) (m := m) (c := c) (t_act0 d sw f g c x y v h.c70 h50 c1) (u_act0 d sw (u2 f 70 3 0) g c x y v (by simp (disch := decide) only [u2_ne]; exact h.c81) h50 c1) ?_
    obtain ⟨hF, hL, hB, hT, hC, hS, hR, hH⟩ := h
    refine ⟨hF.cg (fun b hb => by unfold inSt at hb; simp (disch := omega) only [u2_ne, u1_ne]) (by simp (disch := decide) only [u2_ne, u1_ne, u2_off]) (fun b h1 h2 => by simp (disch := omega) only [u2_ne, u1_ne]), hL.cg (by simp (disch := decide) only [u2_ne, u1_ne, u2_off]) (by simp (disch := decide) only [u2_ne, u1_ne]) (by simp (disch := decide) only [u2_ne, u1_ne, u2_off]) (by simp (disch := decide) only [u2_ne, u1_ne, u2_off]) (fun b h1 h2 => by simp (disch := omega) only [u2_ne, u1_ne]), hB.cg (fun b h1 h2 => by simp (disch := omega) only [u2_ne, u1_ne]) (fun b h1 => by simp (disch := omega) only [u2_ne, u1_ne]) (by simp (disch := decide) only [u2_ne, u1_ne, u2_off]) (by simp (disch := decide) only [u2_ne, u1_ne, u2_off]) (by simp (disch := decide) only [u2_ne, u1_ne, u2_off]) (by simp (disch := decide) only [u2_ne, u1_ne, u2_off]) (by simp (disch := decide) only [u2_ne, u1_ne, u2_off]), hT.cg (by simp (disch := decide) only [u2_ne, u1_ne, u2_off]) (by simp (disch := decide) only [u2_ne, u1_ne]) (by simp (disch := decide) only [u2_ne, u1_ne]) (by simp (disch := decide) only [u2_ne, u1_ne, u2_off]), hC.cg (by simp (disch := decide) only [u2_ne, u1_ne]) (by simp (disch := decide) only [u2_ne, u1_ne]) (by simp (disch := decide) only [u2_ne, u1_ne]) (by simp (disch := decide) only [u2_ne, u1_ne, u2_off]) (by simp (disch := decide) only [u2_ne, u1_ne, u2_off]), hS.cg (by simp (disch := decide) only [u2_ne, u1_ne, u2_off]) (by simp (disch := decide) only [u2_ne, u1_ne]) (by simp (disch := decide) only [u2_ne, u1_ne]) (by simp (disch := decide) only [u2_ne, u1_ne, u2_off]), ⟨[], ⟨by simp (disch := decide) only [u2_ne, u2_at]; rfl, by decide, fun j q _ e => by simp at e⟩, ⟨by rw [u2_at]; rfl, by decide, fun j q _ e => by simp at e⟩⟩, hH.cg (by simp (disch := decide) only [u2_ne, u1_ne]) (by simp (disch := decide) only [u2_ne, u1_ne]) (by simp (disch := decide) only [u2_ne, u1_ne]) (by simp (disch := decide) only [u2_ne, u1_ne])⟩
theorem s_image : stepOK iX10_image iX11_image [] := by
  rintro d sw f g ⟨n, sh, L, m, c, h⟩
  have h0 := h
  obtain ⟨hF, hL, hB, hT, hC, hS, hR, hH⟩ := h
  obtain ⟨b0, b1, b2, b3, b4, b5, b6, b7, b8⟩ := hB
  have ev : jyst f m 64 0 = f 99 0 := by
    unfold jyst
    simp (disch := decide) only [u2_ne, u1_ne]
    exact b6 0 (by decide)
  have hC2 := t_image d sw f g m b1 b0
  rw [ev] at hC2
  obtain ⟨f1, hf1⟩ : ∃ f1, f1 = jyst f m := ⟨_, rfl⟩
  rw [← hf1] at hC2
  have k1 : ∀ b, b ≠ 61 → b ≠ 65 → b ≠ 66 → b ≠ 67 → f1 b = f b := fun b q1 q2 q3 q4 => by
    rw [hf1]
    unfold jyst
    simp (disch := assumption) only [u2_ne, u1_ne]
  refine md_qs (v := f 99 0) (P := fun f2 g2 => f2 = f1 ∧ g2 = g) (hC2.post (fun r M ⟨e1, e2⟩ => ⟨sw, f1, g, e2, e1, rfl, rfl⟩)) (fun sw1 f2 g1 hP => ?_)
  obtain ⟨rfl, rfl⟩ := hP
  have hM := u_image d sw1 f2 g1
  rw [k1 99 (by decide) (by decide) (by decide) (by decide)] at hM
  refine hM.post (fun r M ⟨sw3, f3, g3, a1, a2, a3, a4, a5, a6, a7, a8, a9, a10⟩ => ⟨sw3, f3, g3, a1, a2, n, sh, L, m, c, ?_⟩)
  subst a3
  have eb : ∀ b, b ≠ 61 → b ≠ 65 → b ≠ 66 → b ≠ 67 → b ≠ 81 → b ≠ 100 → b ≠ 101 → b ≠ 102 → f3 b = f b := fun b q1 q2 q3 q4 q5 q6 q7 q8 => by rw [a4 b q5 q6 q7 q8, k1 b q1 q2 q3 q4]
  have e8 : ∀ i, i ≠ 28 → i ≠ 29 → i ≠ 30 → f3 81 i = f 81 i := fun i q1 q2 q3 => by rw [a5 i q1 q2 q3, k1 81 (by decide) (by decide) (by decide) (by decide)]
  refine ⟨hF.cg (fun b hb => by unfold inSt at hb; exact eb b (by omega) (by omega) (by omega) (by omega) (by omega) (by omega) (by omega) (by omega)) (e8 0 (by decide) (by decide) (by decide)) (fun b h1 h2 => eb b (by omega) (by omega) (by omega) (by omega) (by omega) (by omega) (by omega) (by omega)), hL.cg (by rw [eb 49 (by decide) (by decide) (by decide) (by decide) (by decide) (by decide) (by decide) (by decide)]) (eb 50 (by decide) (by decide) (by decide) (by decide) (by decide) (by decide) (by decide) (by decide)) (e8 11 (by decide) (by decide) (by decide)) (e8 12 (by decide) (by decide) (by decide)) (fun b h1 h2 => eb b (by omega) (by omega) (by omega) (by omega) (by omega) (by omega) (by omega) (by omega)), ?_, hT.cg (by rw [eb 46 (by decide) (by decide) (by decide) (by decide) (by decide) (by decide) (by decide) (by decide)]) (eb 47 (by decide) (by decide) (by decide) (by decide) (by decide) (by decide) (by decide) (by decide)) (eb 88 (by decide) (by decide) (by decide) (by decide) (by decide) (by decide) (by decide) (by decide)) (e8 9 (by decide) (by decide) (by decide)), hC.cg (eb 68 (by decide) (by decide) (by decide) (by decide) (by decide) (by decide) (by decide) (by decide)) (eb 69 (by decide) (by decide) (by decide) (by decide) (by decide) (by decide) (by decide) (by decide)) (eb 103 (by decide) (by decide) (by decide) (by decide) (by decide) (by decide) (by decide) (by decide)) (e8 34 (by decide) (by decide) (by decide)) (e8 35 (by decide) (by decide) (by decide)), hS.cg (by rw [eb 70 (by decide) (by decide) (by decide) (by decide) (by decide) (by decide) (by decide) (by decide)]) (eb 71 (by decide) (by decide) (by decide) (by decide) (by decide) (by decide) (by decide) (by decide)) (eb 104 (by decide) (by decide) (by decide) (by decide) (by decide) (by decide) (by decide) (by decide)) (e8 37 (by decide) (by decide) (by decide)), hR.cg (by rw [eb 70 (by decide) (by decide) (by decide) (by decide) (by decide) (by decide) (by decide) (by decide)]) (eb 72 (by decide) (by decide) (by decide) (by decide) (by decide) (by decide) (by decide) (by decide)) (eb 105 (by decide) (by decide) (by decide) (by decide) (by decide) (by decide) (by decide) (by decide)) (e8 39 (by decide) (by decide) (by decide)), hH.cg (eb 74 (by decide) (by decide) (by decide) (by decide) (by decide) (by decide) (by decide) (by decide)) (eb 75 (by decide) (by decide) (by decide) (by decide) (by decide) (by decide) (by decide) (by decide)) (eb 106 (by decide) (by decide) (by decide) (by decide) (by decide) (by decide) (by decide) (by decide)) (eb 107 (by decide) (by decide) (by decide) (by decide) (by decide) (by decide) (by decide) (by decide))⟩
  have s62 : f3 62 = f 62 := eb 62 (by decide) (by decide) (by decide) (by decide) (by decide) (by decide) (by decide) (by decide)
  have s63 : f3 63 = f 63 := eb 63 (by decide) (by decide) (by decide) (by decide) (by decide) (by decide) (by decide) (by decide)
  have s64 : f3 64 = f 64 := eb 64 (by decide) (by decide) (by decide) (by decide) (by decide) (by decide) (by decide) (by decide)
  have s86 : f3 86 = f 86 := eb 86 (by decide) (by decide) (by decide) (by decide) (by decide) (by decide) (by decide) (by decide)
  have s87 : f3 87 = f 87 := eb 87 (by decide) (by decide) (by decide) (by decide) (by decide) (by decide) (by decide) (by decide)
  have s99 : f3 99 = f 99 := eb 99 (by decide) (by decide) (by decide) (by decide) (by decide) (by decide) (by decide) (by decide)
  have s61 : f3 61 = f2 61 := a4 61 (by decide) (by decide) (by decide) (by decide)
  have s65 : f3 65 = f2 65 := a4 65 (by decide) (by decide) (by decide) (by decide)
  have s66 : f3 66 = f2 66 := a4 66 (by decide) (by decide) (by decide) (by decide)
  have s67 : f3 67 = f2 67 := a4 67 (by decide) (by decide) (by decide) (by decide)
  have t61 : f2 61 6 = f 61 6 ∧ f2 61 7 = f 61 6 ∧ f2 61 8 = 1 := by
    rw [hf1]
    unfold jyst
    simp (disch := decide) only [u2_ne, u1_ne, u2_off, u2_at]
    exact ⟨trivial, trivial, trivial⟩
  have t65 : ∀ b, b < m → f2 65 b = f 62 b ∧ f2 66 b = f 63 b := fun b hb => by
    rw [hf1]
    unfold jyst
    simp (disch := decide) only [u2_ne, u1_ne, u1_row]
    rw [pk_cpy_in (Nat.zero_le _) (by omega), pk_cpy_in (Nat.zero_le _) (by omega)]
    simp
  have t67 : ∀ j, j < 4 → f2 67 j = f 64 j := fun j hj => by
    rw [hf1]
    unfold jyst
    simp (disch := decide) only [u2_ne, u1_ne, u1_row]
    rw [pk_cpy_in (Nat.zero_le _) (by omega)]
    simp
  refine ⟨b0, by rw [s61, t61.1]; exact b1, by rw [e8 5 (by decide) (by decide) (by decide)]; exact b2, by rw [s62, s86]; exact b3, by rw [s63, s87]; exact b4, fun b hb => by rw [s63]; exact b5 b hb, fun j hj => by rw [s64, s99]; exact b6 j hj, by rw [s64, e8 8 (by decide) (by decide) (by decide)]; exact b7, Or.inr ⟨by rw [s61, t61.2.2]; decide, by rw [a6]; decide, m, Nat.le_refl _, by rw [s61, t61.2.1]; exact b1, ?_, fun b hb => ?_, fun j hj => ?_, ?_⟩⟩
  · rw [a7, k1 81 (by decide) (by decide) (by decide) (by decide)]; exact b2
  · rw [s65, s66, (t65 b hb).1, (t65 b hb).2, (a9 b (by omega)).1, (a9 b (by omega)).2, k1 86 (by decide) (by decide) (by decide) (by decide), k1 87 (by decide) (by decide) (by decide) (by decide), b3, b4]
    exact ⟨rfl, rfl⟩
  · rw [s67, t67 j (by omega), a10 j hj]
    exact b6 j hj
  · rw [s67, t67 3 (by decide), a8, k1 81 (by decide) (by decide) (by decide) (by decide)]
    exact b7
