/-! CALLS THAT READ SHELVES -/
section STEP2
variable {f f1 : Nat → Nat → Int32} {g : Nat → Nat → Int64} {n m c : Nat} {sh : Nat → Int32} {L : List (List Nat × List Nat)}
theorem jin_5 : jin 5 5 = 0 := by decide
theorem jin_st {s : Nat} (hs : s < 50) : jin (nI (10 + s)) 5 = 0 := jin_0 (n := 5) (by decide) (fun ⟨i, h1, h2⟩ => by have := (nI_eq (by omega) (by omega)).mp h2; omega)
theorem nI_m1 {k : Nat} (h : k < 2 ^ 31) : ¬ nI k = -1 := fun q => nI_pos h (by rw [q]; decide)
theorem IVp.sc (h : IVp f g n sh L m c) : ∀ b, b < 6 → shO f b c := fun b hb => (h.hi.2 b hb).1
theorem IVp.shRE (h : IVp f g n sh L m c) : shR f := fun b k hb hk e => by
  have h50 := h.c50
  rcases h.sc b hb with ⟨_, e2⟩ | ⟨k2, z, hk2, hz, e1, e2, e3, e4⟩ | ⟨s, hs, e1, e2, e3⟩
  · rw [e2] at e; exact absurd e.symm (nI_m1 (by omega))
  · exact ⟨z, hz, e4⟩
  · rw [e3] at e
    have := (nI_eq (by omega) (by omega)).mp e
    omega
theorem IVp.jrfE (h : IVp f g n sh L m c) {b : Nat} (hb : b < 6) : jrf (f 74 b) = jrf (f 106 b) := by
  have h50 := h.c50
  rcases h.sc b hb with ⟨e1, e2⟩ | ⟨k2, z, hk2, hz, e1, e2, e3, e4⟩ | ⟨s, hs, e1, e2, e3⟩
  · rw [e1, e2]
  · rw [e1, e2]
  · rw [e1, e3]
    unfold jrf
    rw [if_neg (by decide), if_neg (by decide), if_neg (nI_m1 (by omega)), if_neg (nI_ne0 (by omega) (by omega))]
theorem jrf_0 {s : Int32} (h : jrf s = 0) : s = 0 := by
  unfold jrf at h
  split at h
  · cases h
  · split at h
    · next e => exact e
    · cases h
theorem IVp.byt (h : IVp f g n sh L m c) {b : Nat} (hb : b < 6) (e : jrf (f 74 b) = 0) : ∃ z, z ≤ 60 ∧ f 75 b = nI z ∧ f 107 b = nI z ∧ ∀ k, k < z → fit (g 108 (b * 60 + k)) := by
  have e0 := jrf_0 e
  rcases h.sc b hb with ⟨e1, _⟩ | ⟨k2, z, hk2, hz, e1, e2, e3, e4⟩ | ⟨s, hs, e1, _⟩
  · rw [e1] at e0; cases e0
  · exact ⟨z, hz, e3, e4, fun k hk => (h.hi.2 b hb).2 e0 k (by omega)⟩
  · rw [e1] at e0; cases e0
theorem IVp.jreE (h : IVp f g n sh L m c) {b : Nat} (hb : b < 6) (i : Int32) : jre (f 74 b) (f 75 b) i = jre (f 106 b) (f 107 b) i := by
  have h50 := h.c50
  rcases h.sc b hb with ⟨e1, e2⟩ | ⟨k2, z, hk2, hz, e1, e2, e3, e4⟩ | ⟨s, hs, e1, e2, e3⟩
  · rw [e1, e2]
    unfold jre
    rw [if_pos rfl, if_pos rfl]
  · rw [e1, e2, e3, e4]
  · rw [e1, e3]
    unfold jre
    rw [if_neg (by decide), if_pos jin_5, if_neg (nI_m1 (by omega)), if_pos (jin_st (by omega))]
theorem IVp.g76 (h : IVp f g n sh L m c) : g 76 = g 108 := h.hi.1
end STEP2
theorem s_judge (x y : Int32) : stepOK iX10_judge iX11_judge [.int x, .int y] := rd_step (fun d sw f g n sh L m c h => by
  by_cases c1 : (∃ c, c < 6 ∧ x = nI c) ∧ ∃ b, b < m ∧ y = nI b
  · obtain ⟨⟨b, hb, rfl⟩, q, hq, rfl⟩ := c1
    by_cases c2 : jrf (f 74 b) = 0
    · obtain ⟨z, z1, z2, z3, z4⟩ := h.byt hb c2
      refine ⟨_, t_judge1 d sw f g n m b q z sh h.st h.m61 h.m6 hb hq (jrf_0 c2) z2 z1, fun sw1 f1 q1 h1 => ?_⟩
      rw [tN_cg h.B4, h.g76, ← e86 h q1]
      exact u_judge1 d sw1 f1 g n m b q z sh h1.mf h1.m81 h1.m6 hb hq (by rw [← h1.jrfE hb, q1.c (b := 74) (by decide) (by decide) (by decide)]; exact c2) (by rw [q1.c (b := 107) (by decide) (by decide) (by decide)]; exact z3) z1 z4
    · refine ⟨_, t_judgeR d sw f g m b q h.m61 h.m6 hb hq c2, fun sw1 f1 q1 h1 => ?_⟩
      have e : jrf (f 74 b) = jrf (f1 106 b) := by rw [h.jrfE hb, q1.c (b := 106) (by decide) (by decide) (by decide)]
      rw [e] at c2 ⊢
      exact u_judgeR d sw1 f1 g m b q h1.m81 h1.m6 hb hq c2
  · exact ⟨_, t_judge0 d sw f g m x y h.m61 h.m6 c1, fun sw1 f1 _ h1 => u_judge0 d sw1 f1 g m x y h1.m81 h1.m6 c1⟩)
theorem s_last (x y : Int32) : stepOK iX10_last iX11_last [.int x, .int y] := rd_step (fun d sw f g n sh L m c h => by
  by_cases c1 : (∃ c, c < 6 ∧ x = nI c) ∧ ∃ b, b < m ∧ y = nI b
  · obtain ⟨⟨b, hb, rfl⟩, q, hq, rfl⟩ := c1
    by_cases c2 : jrf (f 74 b) = 0
    · obtain ⟨z, z1, z2, z3, z4⟩ := h.byt hb c2
      refine ⟨_, t_last1 d sw f g n m b q z sh h.st h.m61 h.m6 hb hq (jrf_0 c2) z2 z1, fun sw1 f1 q1 h1 => ?_⟩
      rw [tN_cg h.B4, h.g76, ← e86 h q1]
      exact u_last1 d sw1 f1 g n m b q z sh h1.mf h1.m81 h1.m6 hb hq (by rw [← h1.jrfE hb, q1.c (b := 74) (by decide) (by decide) (by decide)]; exact c2) (by rw [q1.c (b := 107) (by decide) (by decide) (by decide)]; exact z3) z1 z4
    · refine ⟨_, t_lastR d sw f g m b q h.m61 h.m6 hb hq c2, fun sw1 f1 q1 h1 => ?_⟩
      have e : jrf (f 74 b) = jrf (f1 106 b) := by rw [h.jrfE hb, q1.c (b := 106) (by decide) (by decide) (by decide)]
      rw [e] at c2 ⊢
      exact u_lastR d sw1 f1 g m b q h1.m81 h1.m6 hb hq c2
  · exact ⟨_, t_last0 d sw f g m x y h.m61 h.m6 c1, fun sw1 f1 _ h1 => u_last0 d sw1 f1 g m x y h1.m81 h1.m6 c1⟩)
theorem s_taken (x y : Int32) : stepOK iX10_taken iX11_taken [.int x, .int y] := rd_step (fun d sw f g n sh L m c h => by
  have h50 := h.c50
  by_cases c1 : (∃ b, b < 6 ∧ x = nI b) ∧ ∃ k, k < 8 ∧ y = nI k
  · obtain ⟨⟨b, hb, rfl⟩, k, hk, rfl⟩ := c1
    rcases h.sc b hb with ⟨e1, e2⟩ | ⟨k2, z, hk2, hz, e1, e2, e3, e4⟩ | ⟨s, hs, e1, e2, e3⟩
    · refine ⟨_, t_takenR d sw f g b k hb hk (by rw [e1]; decide), fun sw1 f1 q h1 => ?_⟩
      have e : f1 106 b = f 74 b := by rw [q.c (b := 106) (by decide) (by decide) (by decide), e2, e1]
      rw [← e]
      exact u_takenR d sw1 f1 g b k hb hk (Or.inl (by rw [e, e1]))
    · refine ⟨_, t_takenR d sw f g b k hb hk (by rw [e1]; exact fun z => by have := (nI_eq (b := 5) (by omega) (by omega)).mp z; omega), fun sw1 f1 q h1 => ?_⟩
      have e : f1 106 b = f 74 b := by rw [q.c (b := 106) (by decide) (by decide) (by decide), e2, e1]
      rw [← e]
      exact u_takenR d sw1 f1 g b k hb hk (Or.inr (by rw [e, e1, show jin (nI k2) 5 = 1 from jin_1 (n := 5) (by decide) hk2 rfl]; decide))
    · obtain ⟨k0, k1, k2, k3⟩ := h.2.2.2.2.2.1.2.2.2 s hs
      exact ⟨_, t_taken1 d sw f g b k s k0 hb hk e1 e2 (by omega) k2 k1, fun sw1 f1 q h1 => u_taken1 d sw1 f1 g b k s k0 hb hk (by rw [q.c (b := 106) (by decide) (by decide) (by decide)]; exact e3) (by omega) (by rw [q.c (b := 104) (by decide) (by decide) (by decide)]; exact k3) k1⟩
  · exact ⟨_, t_taken0 d sw f g x y c1, fun sw1 f1 _ h1 => u_taken0 d sw1 f1 g x y c1⟩)
/-- a call that leaves all as it was -/
theorem rq_step {iC iM : mI} {av : List Value} (h : ∀ (d : Nat) (sw : Bool) (f : Nat → Nat → Int32) (g : Nat → Nat → Int64) (n : Nat) (sh : Nat → Int32) (L : List (List Nat × List Nat)) (m c : Nat), IVp f g n sh L m c → ∃ v : Int64, CT (d + 110) 0 0 iC (.ref 0 :: av) (S sw f g) (QR (some (.long v)) (S sw f g)) ∧ CT (d + 110) 0 0 iM (.ref 81 :: av) (S sw f g) (QR (some (.long v)) (S sw f g))) : stepOKl iC iM av := by
  rintro d sw f g ⟨n, sh, L, m, c, hi⟩
  obtain ⟨v, hC, hM⟩ := h d sw f g n sh L m c hi
  refine ⟨v, hC.post (fun r M ⟨e1, e2⟩ => ⟨sw, f, g, e2, e1, ?_⟩)⟩
  exact hM.post (fun r M ⟨e1, e2⟩ => ⟨sw, f, g, e2, e1, n, sh, L, m, c, hi⟩)
theorem s_element (x i : Int32) : stepOKl iX10_element iX11_element [.int x, .int i] := rq_step (fun d sw f g n sh L m c h => by
  by_cases c1 : ∃ b, b < 6 ∧ x = nI b
  · obtain ⟨b, hb, rfl⟩ := c1
    by_cases c2 : jre (f 74 b) (f 75 b) i = 0
    · have c3 := c2
      rw [h.jreE hb] at c3
      obtain ⟨⟨k, k1, k2⟩, c4⟩ := jre_0 c3
      obtain ⟨z, z1, z2⟩ := h.shRE b k hb k1 k2
      rw [z2] at c4
      obtain ⟨p, q, p1, p2, p3⟩ := jstr_in z1 c4
      have := (nI_eq (a := 1) (by omega) (by omega)).mp p2
      subst p1
      refine ⟨_, t_elem1 d sw f g b p hb (by omega) c2, ?_⟩
      rw [h.g76]
      exact u_elem1 d sw f g b p hb (by omega) h.shRE c3
    · exact ⟨_, t_elemR d sw f g b i hb c2, u_elemR d sw f g b i hb h.shRE (by rw [← h.jreE hb]; exact c2)⟩
  · exact ⟨_, t_elem0 d sw f g x i c1, u_elem0 d sw f g x i c1⟩)
