/-! figure, mend, undo, redo, law, cut -/
section STEP6
variable {f f2 : Nat → Nat → Int32} {g : Nat → Nat → Int64} {n m c : Nat} {sh : Nat → Int32} {L : List (List Nat × List Nat)}
/-- one trait becomes v -/
theorem IVp.tr (h : IVp f g n sh L m c) {i w : Nat} {v : Int32} (hi : i < n) (hw : w < 3) (e3 : f2 3 = fun j => if j = i * 3 + w then v else f 3 j) (ew : f2 (83 + w) = fun j => if j = i then v else f (83 + w) j) (hC2 : CI f2 n) (sm : ∀ b, b ≠ 3 → b ≠ 83 + w → b ≠ 68 → b ≠ 69 → b ≠ 103 → b ≠ 81 → f2 b = f b) (s81 : ∀ i, i ≠ 34 → i ≠ 35 → f2 81 i = f 81 i) : IVp f2 g n sh L m c := by
  have e3 : ∀ j, f2 3 j = if j = i * 3 + w then v else f 3 j := fun j => by rw [e3]
  have ew : ∀ j, f2 (83 + w) j = if j = i then v else f (83 + w) j := fun j => by rw [ew]
  obtain ⟨hF, hL, hB, hT, hC, hS, hR, hH⟩ := h
  refine ⟨⟨hF.1.same (fun b hb h3 => by unfold inSt at hb; exact sm b h3 (by omega) (by omega) (by omega) (by omega) (by omega)), ⟨by rw [s81 0 (by decide) (by decide)]; exact hF.2.1.1, hF.2.1.2.1, fun j hj => by rw [sm 82 (by decide) (by omega) (by decide) (by decide) (by decide) (by decide)]; exact hF.2.1.2.2 j hj⟩, fun j w2 hw2 => ?_, fun j hj => ?_⟩, hL.cg (by rw [sm 49 (by decide) (by omega) (by decide) (by decide) (by decide) (by decide)]) (sm 50 (by decide) (by omega) (by decide) (by decide) (by decide) (by decide)) (s81 11 (by decide) (by decide)) (s81 12 (by decide) (by decide)) (fun b h1 h2 => sm b (by omega) (by omega) (by omega) (by omega) (by omega) (by omega)), hB.cg (fun b h1 h2 => sm b (by omega) (by omega) (by omega) (by omega) (by omega) (by omega)) (fun b h1 => sm b (by omega) (by omega) (by omega) (by omega) (by omega) (by omega)) (s81 5 (by decide) (by decide)) (s81 8 (by decide) (by decide)) (s81 28 (by decide) (by decide)) (s81 29 (by decide) (by decide)) (s81 30 (by decide) (by decide)), hT.cg (by rw [sm 46 (by decide) (by omega) (by decide) (by decide) (by decide) (by decide)]) (sm 47 (by decide) (by omega) (by decide) (by decide) (by decide) (by decide)) (sm 88 (by decide) (by omega) (by decide) (by decide) (by decide) (by decide)) (s81 9 (by decide) (by decide)), hC2, hS.cg (by rw [sm 70 (by decide) (by omega) (by decide) (by decide) (by decide) (by decide)]) (sm 71 (by decide) (by omega) (by decide) (by decide) (by decide) (by decide)) (sm 104 (by decide) (by omega) (by decide) (by decide) (by decide) (by decide)) (s81 37 (by decide) (by decide)), hR.cg (by rw [sm 70 (by decide) (by omega) (by decide) (by decide) (by decide) (by decide)]) (sm 72 (by decide) (by omega) (by decide) (by decide) (by decide) (by decide)) (sm 105 (by decide) (by omega) (by decide) (by decide) (by decide) (by decide)) (s81 39 (by decide) (by decide)), hH.cg (sm 74 (by decide) (by omega) (by decide) (by decide) (by decide) (by decide)) (sm 75 (by decide) (by omega) (by decide) (by decide) (by decide) (by decide)) (sm 106 (by decide) (by omega) (by decide) (by decide) (by decide) (by decide)) (sm 107 (by decide) (by omega) (by decide) (by decide) (by decide) (by decide))⟩
  · by_cases e : w2 = w
    · subst e
      rw [e3, ew]
      by_cases e2 : j = i
      · rw [if_pos (by rw [e2]), if_pos e2]
      · rw [if_neg (by omega), if_neg e2]
        exact hF.2.2.1 j w2 hw2
    · rw [e3, if_neg (by omega), sm (83 + w2) (by omega) (by omega) (by omega) (by omega) (by omega) (by omega)]
      exact hF.2.2.1 j w2 hw2
  · obtain ⟨z1, z2⟩ := hF.2.2.2 j hj
    refine ⟨?_, ?_⟩
    · by_cases e : w = 1
      · subst e
        rw [show f2 84 j = f2 (83 + 1) j from rfl, ew, if_neg (by omega)]; exact z1
      · rw [sm 84 (by decide) (by omega) (by decide) (by decide) (by decide) (by decide)]; exact z1
    · by_cases e : w = 2
      · subst e
        rw [show f2 85 j = f2 (83 + 2) j from rfl, ew, if_neg (by omega)]; exact z2
      · rw [sm 85 (by decide) (by omega) (by decide) (by decide) (by decide) (by decide)]; exact z2
/-- a change is kept -/
def chR (r : Nat → Int32) (q : Nat) (x y z u : Int32) : Nat → Int32 := fun j => if j = 4 * q + 3 then u else if j = 4 * q + 2 then z else if j = 4 * q + 1 then y else if j = 4 * q then x else r j
theorem chR_CI {r : Nat → Int32} {q i w : Nat} {z u : Int32} (hq : q < 40) (hi : i < n) (hw : w < 3) (hr : ∀ k, k < q → ∃ i w, i < n ∧ w < 3 ∧ r (4 * k) = nI i ∧ r (4 * k + 1) = nI w) (e69 : f2 69 = chR r q (nI i) (nI w) z u) (e103 : f2 103 = chR r q (nI i) (nI w) z u) (e1 : f2 68 1 = nI (q + 1)) (e2 : f2 68 2 = 0) (e3 : f2 81 35 = nI (q + 1)) (e4 : f2 81 34 = nI (q + 1)) : CI f2 n := by
  refine ⟨q + 1, 0, by omega, e1, by rw [e2]; exact nI_0.symm, e3, e4, by rw [e69, e103], fun k hk => ?_⟩
  by_cases e : k = q
  · refine ⟨i, w, hi, hw, ?_, ?_⟩
    · rw [e103, e]; unfold chR
      rw [if_neg (by omega), if_neg (by omega), if_neg (by omega), if_pos rfl]
    · rw [e103, e]; unfold chR
      rw [if_neg (by omega), if_neg (by omega), if_pos rfl]
  · obtain ⟨i2, w2, a1, a2, a3, a4⟩ := hr k (by omega)
    refine ⟨i2, w2, a1, a2, ?_, ?_⟩
    · rw [e103]; unfold chR
      rw [if_neg (by omega), if_neg (by omega), if_neg (by omega), if_neg (by omega)]
      exact a3
    · rw [e103]; unfold chR
      rw [if_neg (by omega), if_neg (by omega), if_neg (by omega), if_neg (by omega)]
      exact a4
theorem ch_row {f : Nat → Nat → Int32} {a q : Nat} {x y z u : Int32} : u2 (u2 (u2 (u2 f a (4 * q) x) a (4 * q + 1) y) a (4 * q + 2) z) a (4 * q + 3) u a = chR (f a) q x y z u := by
  simp only [u2_row]
  rfl
theorem mup_cpy (r : Nat → Int32) : va_cpy r r 4 0 156 = mup r 156 := by
  funext j
  unfold mup
  by_cases c : j < 156
  · rw [if_pos c, pk_cpy_in (Nat.zero_le _) (by omega)]
    exact congrArg r (by omega)
  · rw [if_neg c, pk_cpy_out (by omega)]
end STEP6
theorem s_mend (x y v : Int32) : stepOK iX10_mend iX11_mend [.int x, .int y, .int v] := by
  rintro d sw f g ⟨n, sh, L, m, c, h⟩
  have hn := h.n10
  by_cases c1 : mdG n x y v
  · obtain ⟨i, w, u, hi, hw, hu, rfl, rfl, rfl⟩ := c1
    have et := h.t3 i w hw
    by_cases c2 : f 3 (i * 3 + w) = nI u
    · exact rd_one h (t_mendS d sw f g n i w u h.n1 hn hi hw hu c2) (fun sw1 f1 q h1 => u_mendS d sw1 f1 g n i w u h1.n81 hn hi hw hu (by rw [q.c (b := 83 + w) (by omega) (by omega) (by omega), ← et]; exact c2))
    · obtain ⟨q, un, a1, a2, a3, a4, a5, a6, a7⟩ := h.2.2.2.2.1
      by_cases c3 : q = 40
      · subst c3
        obtain rfl : un = 0 := by omega
        obtain ⟨f1, hf1⟩ : ∃ f1, f1 = jchp (u2 (u1 (u2 f 3 (i * 3 + w) (nI u)) 69 (va_cpy (u2 f 3 (i * 3 + w) (nI u) 69) (u2 f 3 (i * 3 + w) (nI u) 69) 4 0 156)) 68 1 39) 39 (nI i) (nI w) (f 3 (i * 3 + w)) (nI u) := ⟨_, rfl⟩
        have hC := t_mend40 d sw f g n i w u h.n1 hn hi hw hu c2 a2
        rw [← hf1] at hC
        have k1 : ∀ b, b ≠ 3 → b ≠ 68 → b ≠ 69 → f1 b = f b := fun b q1 q2 q3 => by
          rw [hf1]; unfold jchp
          simp (disch := assumption) only [u2_ne, u1_ne]
        have e83 : f1 (83 + w) = f (83 + w) := k1 _ (by omega) (by omega) (by omega)
        have e103 : f1 103 = f 103 := k1 _ (by decide) (by decide) (by decide)
        have e81 : f1 81 = f 81 := k1 _ (by decide) (by decide) (by decide)
        have hM := u_mend40 d sw f1 g n i w u (by rw [e81]; exact h.n81) hn hi hw hu (by rw [e83, ← et]; exact c2) (by rw [e81]; exact a4)
        rw [e83, ← et, e103] at hM
        refine md_one hC hM (h.tr hi hw (v := nI u) ?_ ?_ (chR_CI (q := 39) (r := mup (f 103) 156) (z := f 3 (i * 3 + w)) (u := nI u) (by decide) hi hw (fun k hk => ?_) ?_ ?_ ?_ ?_ ?_ ?_) (fun b q1 q2 q3 q4 q5 q6 => ?_) (fun j q1 q2 => ?_))
        · unfold mch
          simp (disch := omega) only [u2_ne, u1_ne]
          rw [hf1]; unfold jchp
          simp (disch := decide) only [u2_ne, u1_ne, u2_row]
        · unfold mch
          simp (disch := omega) only [u2_ne, u1_ne, u2_row]
          rw [e83]
        · obtain ⟨i2, w2, b1, b2, b3, b4⟩ := a7 (k + 1) (by omega)
          refine ⟨i2, w2, b1, b2, ?_, ?_⟩
          · unfold mup; rw [if_pos (by omega)]; exact b3
          · unfold mup; rw [if_pos (by omega), show 4 * k + 1 + 4 = 4 * (k + 1) + 1 by omega]; exact b4
        · unfold mch
          simp (disch := omega) only [u2_ne, u1_ne]
          rw [hf1]; unfold jchp
          simp (disch := decide) only [u2_ne, u1_ne]
          rw [show (39 * 4 : Nat) = 4 * 39 from rfl, ch_row]
          simp (disch := decide) only [u2_ne, u1_row]
          rw [mup_cpy, a6]
        · unfold mch
          simp (disch := omega) only [u2_ne]
          rw [ch_row]
          simp (disch := omega) only [u2_ne, u1_row]
        · unfold mch
          simp (disch := omega) only [u2_ne, u1_ne]
          rw [hf1]; unfold jchp
          simp (disch := decide) only [u2_off, u2_at]
        · unfold mch
          simp (disch := omega) only [u2_ne, u1_ne]
          rw [hf1]; unfold jchp
          simp (disch := decide) only [u2_at]
        · unfold mch
          simp (disch := decide) only [u2_off, u2_at]
        · unfold mch
          simp (disch := decide) only [u2_at]
        · unfold mch
          simp (disch := assumption) only [u2_ne, u1_ne]
          exact k1 b q1 q3 q4
        · unfold mch
          simp (disch := first | assumption | omega) only [u2_ne, u1_ne, u2_off]
          rw [e81]
      · obtain ⟨f1, hf1⟩ : ∃ f1, f1 = jchp (u2 f 3 (i * 3 + w) (nI u)) q (nI i) (nI w) (f 3 (i * 3 + w)) (nI u) := ⟨_, rfl⟩
        have hC := t_mend1 d sw f g n i w u q h.n1 hn hi hw hu c2 a2 (by omega)
        rw [← hf1] at hC
        have k1 : ∀ b, b ≠ 3 → b ≠ 68 → b ≠ 69 → f1 b = f b := fun b q1 q2 q3 => by
          rw [hf1]; unfold jchp
          simp (disch := assumption) only [u2_ne, u1_ne]
        have e83 : f1 (83 + w) = f (83 + w) := k1 _ (by omega) (by omega) (by omega)
        have e103 : f1 103 = f 103 := k1 _ (by decide) (by decide) (by decide)
        have e81 : f1 81 = f 81 := k1 _ (by decide) (by decide) (by decide)
        have hM := u_mend1 d sw f1 g n i w u q (by rw [e81]; exact h.n81) hn hi hw hu (by rw [e83, ← et]; exact c2) (by rw [e81]; exact a4) (by omega)
        rw [e83, ← et] at hM
        refine md_one hC hM (h.tr hi hw (v := nI u) ?_ ?_ (chR_CI (q := q) (r := f 103) (z := f 3 (i * 3 + w)) (u := nI u) (by omega) hi hw (fun k hk => a7 k (by omega)) ?_ ?_ ?_ ?_ ?_ ?_) (fun b q1 q2 q3 q4 q5 q6 => ?_) (fun j q1 q2 => ?_))
        · unfold mch
          simp (disch := omega) only [u2_ne, u1_ne]
          rw [hf1]; unfold jchp
          simp (disch := decide) only [u2_ne, u1_ne, u2_row]
        · unfold mch
          simp (disch := omega) only [u2_ne, u1_ne, u2_row]
          rw [e83]
        · unfold mch
          simp (disch := omega) only [u2_ne, u1_ne]
          rw [hf1]; unfold jchp
          simp (disch := decide) only [u2_ne, u1_ne]
          rw [Nat.mul_comm q 4, ch_row]
          simp (disch := decide) only [u2_ne]
          rw [a6]
        · unfold mch
          simp (disch := omega) only [u2_ne]
          rw [ch_row]
          simp (disch := omega) only [u2_ne]
          rw [e103]
        · unfold mch
          simp (disch := omega) only [u2_ne, u1_ne]
          rw [hf1]; unfold jchp
          simp (disch := decide) only [u2_off, u2_at]
        · unfold mch
          simp (disch := omega) only [u2_ne, u1_ne]
          rw [hf1]; unfold jchp
          simp (disch := decide) only [u2_at]
        · unfold mch
          simp (disch := decide) only [u2_off, u2_at]
        · unfold mch
          simp (disch := decide) only [u2_at]
        · unfold mch
          simp (disch := assumption) only [u2_ne, u1_ne]
          exact k1 b q1 q3 q4
        · unfold mch
          simp (disch := first | assumption | omega) only [u2_ne, u1_ne, u2_off]
          rw [e81]
  · exact rd_one h (t_mend0 d sw f g n x y v h.n1 hn c1) (fun sw1 f1 _ h1 => u_mend0 d sw1 f1 g n x y v h1.n81 hn c1)
theorem s_undo : stepOK iX10_undo iX11_undo [] := by
  rintro d sw f g ⟨n, sh, L, m, c, h⟩
  have hn := h.n10
  obtain ⟨q, un, a1, a2, a3, a4, a5, a6, a7⟩ := h.2.2.2.2.1
  cases q with
  | zero => exact rd_one h (t_undo0 d sw f g a2) (fun sw1 f1 q _ => u_undo0 d sw1 f1 g (by rw [q.c (b := 81) (by decide) (by decide) (by decide)]; exact a4))
  | succ q =>
    obtain ⟨i, w, b1, b2, b3, b4⟩ := a7 q (by omega)
    have hC := t_undo1 d sw f g q i w (by omega) a2 (by rw [a6, Nat.mul_comm]; exact b3) (by rw [a6, Nat.mul_comm]; exact b4) (by omega) b2
    obtain ⟨f1, hf1⟩ : ∃ f1, f1 = u2 (u2 (u2 f 68 1 (nI q)) 68 2 (f 68 2 + 1)) 3 (i * 3 + w) (f 69 (q * 4 + 2)) := ⟨_, rfl⟩
    rw [← hf1] at hC
    have k1 : ∀ b, b ≠ 3 → b ≠ 68 → f1 b = f b := fun b q1 q2 => by
      rw [hf1]
      simp (disch := assumption) only [u2_ne]
    have e103 : f1 103 = f 103 := k1 _ (by decide) (by decide)
    have e81 : f1 81 = f 81 := k1 _ (by decide) (by decide)
    have hM := u_undo1 d sw f1 g q i w (by omega) (by rw [e81]; exact a4) (by rw [e103]; exact b3) (by rw [e103]; exact b4) (by omega) b2
    rw [e103] at hM
    refine md_one hC hM (h.tr b1 b2 (v := f 103 (4 * q + 2)) ?_ ?_ ⟨q, un + 1, by omega, ?_, ?_, ?_, ?_, ?_, fun k hk => ?_⟩ (fun b q1 q2 q3 q4 q5 q6 => ?_) (fun j q1 q2 => ?_))
    · simp (disch := omega) only [u2_ne]
      rw [hf1]
      simp (disch := decide) only [u2_row, u2_ne]
      rw [a6, Nat.mul_comm q 4]
    · simp (disch := omega) only [u2_ne, u2_row]
      rw [k1 _ (by omega) (by omega)]
    · simp (disch := omega) only [u2_ne]
      rw [hf1]
      simp (disch := decide) only [u2_ne, u2_off, u2_at]
    · simp (disch := omega) only [u2_ne]
      rw [hf1]
      simp (disch := decide) only [u2_ne, u2_off, u2_at]
      rw [a3, nI_1]
    · simp (disch := omega) only [u2_ne, u2_at]
    · simp (disch := omega) only [u2_ne, u2_off]
      rw [e81, a5]
      exact congrArg nI (by omega)
    · simp (disch := omega) only [u2_ne]
      rw [k1 _ (by decide) (by decide), e103, a6]
    · simp (disch := omega) only [u2_ne]
      rw [e103]
      exact a7 k (by omega)
    · simp (disch := assumption) only [u2_ne]
      exact k1 b q1 q3
    · simp (disch := first | assumption | omega) only [u2_ne, u2_off]
      rw [e81]
theorem s_redo : stepOK iX10_redo iX11_redo [] := by
  rintro d sw f g ⟨n, sh, L, m, c, h⟩
  have hn := h.n10
  obtain ⟨q, un, a1, a2, a3, a4, a5, a6, a7⟩ := h.2.2.2.2.1
  cases un with
  | zero => exact rd_one h (t_redo0 d sw f g a3) (fun sw1 f1 q _ => u_redo0 d sw1 f1 g (by rw [q.c (b := 81) (by decide) (by decide) (by decide), a4, a5]; rfl))
  | succ un =>
    obtain ⟨i, w, b1, b2, b3, b4⟩ := a7 q (by omega)
    have hC := t_redo1 d sw f g q un i w (by omega) (by omega) a2 a3 (by rw [a6, Nat.mul_comm]; exact b3) (by rw [a6, Nat.mul_comm]; exact b4) (by omega) b2
    obtain ⟨f1, hf1⟩ : ∃ f1, f1 = u2 (u2 (u2 f 3 (i * 3 + w) (f 69 (q * 4 + 3))) 68 1 (nI (q + 1))) 68 2 (nI un) := ⟨_, rfl⟩
    rw [← hf1] at hC
    have k1 : ∀ b, b ≠ 3 → b ≠ 68 → f1 b = f b := fun b q1 q2 => by
      rw [hf1]
      simp (disch := assumption) only [u2_ne]
    have e103 : f1 103 = f 103 := k1 _ (by decide) (by decide)
    have e81 : f1 81 = f 81 := k1 _ (by decide) (by decide)
    have hM := u_redo1 d sw f1 g q un i w (by omega) (by rw [e81]; exact a4) (by rw [e81]; exact a5) (by omega) (by rw [e103]; exact b3) (by rw [e103]; exact b4) (by omega) b2
    rw [e103] at hM
    refine md_one hC hM (h.tr b1 b2 (v := f 103 (4 * q + 3)) ?_ ?_ ⟨q + 1, un, by omega, ?_, ?_, ?_, ?_, ?_, fun k hk => ?_⟩ (fun b q1 q2 q3 q4 q5 q6 => ?_) (fun j q1 q2 => ?_))
    · simp (disch := omega) only [u2_ne]
      rw [hf1]
      simp (disch := decide) only [u2_row, u2_ne]
      rw [a6, Nat.mul_comm q 4]
    · simp (disch := omega) only [u2_ne, u2_row]
      rw [k1 _ (by omega) (by omega)]
    · simp (disch := omega) only [u2_ne]
      rw [hf1]
      simp (disch := decide) only [u2_ne, u2_off, u2_at]
    · simp (disch := omega) only [u2_ne]
      rw [hf1]
      simp (disch := decide) only [u2_ne, u2_off, u2_at]
    · simp (disch := omega) only [u2_ne, u2_at]
    · simp (disch := omega) only [u2_ne, u2_off]
      rw [e81, a5]
      exact congrArg nI (by omega)
    · simp (disch := omega) only [u2_ne]
      rw [k1 _ (by decide) (by decide), e103, a6]
    · simp (disch := omega) only [u2_ne]
      rw [e103]
      exact a7 k (by omega)
    · simp (disch := assumption) only [u2_ne]
      exact k1 b q1 q3
    · simp (disch := first | assumption | omega) only [u2_ne, u2_off]
      rw [e81]
