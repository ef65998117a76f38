/-! law, cut, figure, figures -/
theorem nI_all (x : Int32) : ∃ a : Nat, x = nI a := ⟨x.toBitVec.toNat, by
  refine Int32.toBitVec_inj.mp (BitVec.eq_of_toNat_eq ?_)
  rw [pk_tn x.toBitVec.isLt]⟩
theorem s_law : stepOK iX10_law iX11_law [] := by
  rintro d sw f g ⟨n, sh, L, m, c, h⟩
  obtain ⟨T, tn, t1, t2, t3, t4⟩ := h.2.2.2.1
  obtain ⟨a0, ha0⟩ := nI_all (f 46 3)
  have hT0 : tpO f T tn a0 := ⟨t2, t1, fun j hj => ⟨(t4 j hj).1, (t4 j hj).2.2⟩, ha0⟩
  obtain ⟨R, hRR⟩ : ∃ R, R = pLs (pC T tn) tn 121 0 [] := ⟨_, rfl⟩
  have hC := t_law d sw f g T tn a0 hT0
  rw [← hRR] at hC
  refine md_qs (P := fun f1 g1 => g1 = g ∧ (∀ b, b ≠ 46 → b ≠ 48 → b ≠ 49 → b ≠ 50 → f1 b = f b) ∧ f1 46 2 = 0 ∧ (if R.1 = [] then f1 49 = f 49 ∧ f1 50 = f 50 else rlOk f1 R.1)) hC (fun sw1 f1 g1 hP => ?_)
  obtain ⟨rfl, p1, p2, p3⟩ := hP
  have e81 : f1 81 = f 81 := p1 81 (by decide) (by decide) (by decide) (by decide)
  obtain ⟨a1, ha1⟩ := nI_all (f1 81 17)
  have hM := u_law d sw1 f1 g1 T tn a1 ⟨by rw [e81]; exact t3, t1, fun j hj => ⟨by rw [p1 88 (by decide) (by decide) (by decide) (by decide)]; exact (t4 j hj).2.1, (t4 j hj).2.2⟩, ha1⟩
  rw [← hRR] at hM
  refine hM.post (fun r M ⟨sw2, f2, g2, b, b1, b2, b3, b4, b5⟩ => ⟨sw2, f2, g2, b, b1, n, sh, if R.1 = [] then L else R.1, m, c, ?_⟩)
  subst b2
  obtain ⟨hF, hL, hB, hT, hC, hS, hR, hH⟩ := h
  have eb : ∀ b, b ≠ 46 → b ≠ 48 → b ≠ 49 → b ≠ 50 → b ≠ 81 → (b < 89 ∨ 96 < b) → f2 b = f b := fun b q1 q2 q3 q4 q5 q6 => by rw [b3.1 b (by omega), p1 b q1 q2 q3 q4]
  have e8 : ∀ i, i ≠ 9 → i ≠ 11 → i ≠ 12 → i ≠ 17 → i ≠ 18 → i ≠ 19 → i ≠ 20 → f2 81 i = f 81 i := fun i q1 q2 q3 q4 q5 q6 q7 => by rw [b3.2 i q1 q2 q3 q4 q5 q6 q7, e81]
  refine ⟨hF.cg (fun b hb => by unfold inSt at hb; exact eb b (by omega) (by omega) (by omega) (by omega) (by omega) (by omega)) (e8 0 (by decide) (by decide) (by decide) (by decide) (by decide) (by decide) (by decide)) (fun b h1 h2 => eb b (by omega) (by omega) (by omega) (by omega) (by omega) (by omega)), ?_, hB.cg (fun b h1 h2 => eb b (by omega) (by omega) (by omega) (by omega) (by omega) (by omega)) (fun b h1 => eb b (by omega) (by omega) (by omega) (by omega) (by omega) (by omega)) (e8 5 (by decide) (by decide) (by decide) (by decide) (by decide) (by decide) (by decide)) (e8 8 (by decide) (by decide) (by decide) (by decide) (by decide) (by decide) (by decide)) (e8 28 (by decide) (by decide) (by decide) (by decide) (by decide) (by decide) (by decide)) (e8 29 (by decide) (by decide) (by decide) (by decide) (by decide) (by decide) (by decide)) (e8 30 (by decide) (by decide) (by decide) (by decide) (by decide) (by decide) (by decide)), ⟨T, 0, by decide, ?_, ?_, fun j hj => absurd hj (Nat.not_lt_zero _)⟩, hC.cg (eb 68 (by decide) (by decide) (by decide) (by decide) (by decide) (by decide)) (eb 69 (by decide) (by decide) (by decide) (by decide) (by decide) (by decide)) (eb 103 (by decide) (by decide) (by decide) (by decide) (by decide) (by decide)) (e8 34 (by decide) (by decide) (by decide) (by decide) (by decide) (by decide) (by decide)) (e8 35 (by decide) (by decide) (by decide) (by decide) (by decide) (by decide) (by decide)), hS.cg (by rw [eb 70 (by decide) (by decide) (by decide) (by decide) (by decide) (by decide)]) (eb 71 (by decide) (by decide) (by decide) (by decide) (by decide) (by decide)) (eb 104 (by decide) (by decide) (by decide) (by decide) (by decide) (by decide)) (e8 37 (by decide) (by decide) (by decide) (by decide) (by decide) (by decide) (by decide)), hR.cg (by rw [eb 70 (by decide) (by decide) (by decide) (by decide) (by decide) (by decide)]) (eb 72 (by decide) (by decide) (by decide) (by decide) (by decide) (by decide)) (eb 105 (by decide) (by decide) (by decide) (by decide) (by decide) (by decide)) (e8 39 (by decide) (by decide) (by decide) (by decide) (by decide) (by decide) (by decide)), hH.cg (eb 74 (by decide) (by decide) (by decide) (by decide) (by decide) (by decide)) (eb 75 (by decide) (by decide) (by decide) (by decide) (by decide) (by decide)) (eb 106 (by decide) (by decide) (by decide) (by decide) (by decide) (by decide)) (eb 107 (by decide) (by decide) (by decide) (by decide) (by decide) (by decide))⟩
  · by_cases cR : R.1 = []
    · rw [if_pos cR] at p3 b5 ⊢
      refine hL.cg (by rw [b3.1 49 (by decide), p3.1]) (by rw [b3.1 50 (by decide), p3.2]) (by rw [b5.2.1, e81]) (by rw [b5.2.2, e81]) (fun b h1 h2 => by rw [b5.1 b h1 h2, p1 b (by omega) (by omega) (by omega) (by omega)])
    · rw [if_neg cR] at p3 b5 ⊢
      exact ⟨p3.same (by rw [b3.1 49 (by decide)]) (b3.1 50 (by decide)), b5⟩
  · rw [b3.1 46 (by decide), p2]; exact nI_0.symm
  · rw [b4]; exact nI_0.symm
theorem s_cut (x : Int32) : stepOK iX10_cut iX11_cut [.int x] := by
  rintro d sw f g ⟨n, sh, L, m, c, h⟩
  have hn := h.n10
  by_cases c1 : ∃ b i, b < m ∧ i < n ∧ i < 10 ∧ x = nI (10 * b + i)
  · obtain ⟨b, i, hb, hi, _, rfl⟩ := c1
    by_cases c2 : jct (sh i) (f 62 b) = 0
    · refine rd_one h (t_cutS d sw f g n m b i sh h.st h.m61 h.m6 hb hi c2) (fun sw1 f1 q h1 => ?_)
      rw [← e86 h q] at c2
      exact u_cutS d sw1 f1 g n m b i sh h1.mf h1.m81 h1.m6 hb hi c2
    · obtain ⟨br, hbr⟩ : ∃ br, br = jbr L (f 3 (i * 3)) (f 3 (i * 3 + 1)) (f 3 (i * 3 + 2)) (sh i) (nI i) (f 64 3) (f 63 b) := ⟨_, rfl⟩
      obtain ⟨P0, hP0⟩ : ∃ P0, P0 = jP (sh i) (jfp (sh i) (f 62 b)).toNatClampNeg := ⟨_, rfl⟩
      have hC := t_cut1 d sw f g n m b i sh L h.st h.rl h.m61 h.m6 hb hi c2
      rw [← hbr, ← hP0] at hC
      have hP : jpc P0 = jpc (sh i) := by
        obtain ⟨Ss, Ns⟩ := shp_Sq (h.mf.2.2 i hi).2
        rcases jfp_in (sh i) (f 62 b) with e | ⟨j, hj, e⟩
        · exfalso; apply c2; unfold jct jcan; rw [if_neg (fun q => q.2 e)]
        · have := jn_le (sh i)
          rw [hP0, e, nI_clamp (by omega), jpc_eq]
          exact (jP_ok Ss Ns hj).2.2
      refine md_qs (P := fun f1 g1 => g1 = g ∧ ∃ f0, qC f f0 ∧ f1 = jyt f0 b P0 br) hC (fun sw1 f1 g1 hP1 => ?_)
      obtain ⟨rfl, f0, q0, hf1⟩ := hP1
      have h0 := q0.fr.IV h
      have k1 : ∀ b, b ≠ 62 → b ≠ 63 → b ≠ 64 → f1 b = f0 b := fun b q1 q2 q3 => by
        rw [hf1]; unfold jyt
        simp (disch := assumption) only [u2_ne]
      have k2 : ∀ b, 80 < b → f1 b = f b := fun b hb => by rw [k1 b (by omega) (by omega) (by omega), q0.1 b (by omega) (by omega) (by omega)]
      have e81 : f1 81 = f 81 := k2 81 (by decide)
      have x86 : f1 86 b = f 62 b := by rw [k2 86 (by decide), h.e62]
      have hM := u_cut1 d sw1 f1 g1 n m b i sh L ⟨by rw [e81]; exact h.n81, hn, fun j hj => by rw [k2 82 (by decide)]; exact h.mf.2.2 j hj⟩ (h.ml.cg (by rw [e81]) (by rw [e81]) (fun b h1 h2 => k2 b (by omega))) h.jw (by rw [e81]; exact h.m81) h.m6 hb hi (by rw [x86]; exact c2)
      have x83 : f1 83 i = f 3 (i * 3) := by rw [k2 83 (by decide)]; exact (h.t3 i 0 (by decide)).symm
      have x84 : f1 84 i = f 3 (i * 3 + 1) := by rw [k2 84 (by decide)]; exact (h.t3 i 1 (by decide)).symm
      have x85 : f1 85 i = f 3 (i * 3 + 2) := by rw [k2 85 (by decide)]; exact (h.t3 i 2 (by decide)).symm
      have x8 : f1 81 8 = f 64 3 := by rw [e81]; exact h.2.2.1.2.2.2.2.2.2.2.1.symm
      have x87 : f1 87 b = f 63 b := by rw [k2 87 (by decide), h.e63]
      rw [x83, x84, x85, x8, x87, x86, ← hbr, ← hP0] at hM
      refine hM.post (fun r M ⟨sw2, f2, g2, a, a1, a2, f3, a3, a4⟩ => ⟨sw2, f2, g2, a, a1, n, sh, L, m, c, ?_⟩)
      subst a2
      have k3 : ∀ b, b ≠ 86 → b ≠ 87 → b ≠ 99 → b ≠ 97 → b ≠ 98 → f2 b = f1 b := fun b q1 q2 q3 q4 q5 => by
        rw [a4]; unfold mcu
        rw [u2_ne _ _ _ q2, u2_ne _ _ _ q1, mcl_ne q3, a3 b q4 q5]
      have eb : ∀ b, b ≠ 62 → b ≠ 63 → b ≠ 64 → b ≠ 86 → b ≠ 87 → b ≠ 99 → b ≠ 97 → b ≠ 98 → f2 b = f0 b := fun b q1 q2 q3 q4 q5 q6 q7 q8 => by rw [k3 b q4 q5 q6 q7 q8, k1 b q1 q2 q3]
      have s81 : f2 81 = f0 81 := eb 81 (by decide) (by decide) (by decide) (by decide) (by decide) (by decide) (by decide) (by decide)
      obtain ⟨hF, hL, hB, hT, hC, hS, hR, hH⟩ := h0
      obtain ⟨b0, b1, b2, b3, b4, b5, b6, b7, b8⟩ := hB
      have f99 : f3 99 = f0 99 := by rw [a3 99 (by decide) (by decide), k1 99 (by decide) (by decide) (by decide)]
      have f86 : f3 86 = f0 86 := by rw [a3 86 (by decide) (by decide), k1 86 (by decide) (by decide) (by decide)]
      have f87 : f3 87 = f0 87 := by rw [a3 87 (by decide) (by decide), k1 87 (by decide) (by decide) (by decide)]
      refine ⟨hF.cg (fun b hb => by unfold inSt at hb; exact eb b (by omega) (by omega) (by omega) (by omega) (by omega) (by omega) (by omega) (by omega)) (by rw [s81]) (fun b h1 h2 => eb b (by omega) (by omega) (by omega) (by omega) (by omega) (by omega) (by omega) (by omega)), hL.cg (by rw [eb 49 (by decide) (by decide) (by decide) (by decide) (by decide) (by decide) (by decide) (by decide)]) (eb 50 (by decide) (by decide) (by decide) (by decide) (by decide) (by decide) (by decide) (by decide)) (by rw [s81]) (by rw [s81]) (fun b h1 h2 => eb b (by omega) (by omega) (by omega) (by omega) (by omega) (by omega) (by omega) (by omega)), ?_, hT.cg (by rw [eb 46 (by decide) (by decide) (by decide) (by decide) (by decide) (by decide) (by decide) (by decide)]) (eb 47 (by decide) (by decide) (by decide) (by decide) (by decide) (by decide) (by decide) (by decide)) (eb 88 (by decide) (by decide) (by decide) (by decide) (by decide) (by decide) (by decide) (by decide)) (by rw [s81]), hC.cg (eb 68 (by decide) (by decide) (by decide) (by decide) (by decide) (by decide) (by decide) (by decide)) (eb 69 (by decide) (by decide) (by decide) (by decide) (by decide) (by decide) (by decide) (by decide)) (eb 103 (by decide) (by decide) (by decide) (by decide) (by decide) (by decide) (by decide) (by decide)) (by rw [s81]) (by rw [s81]), hS.cg (by rw [eb 70 (by decide) (by decide) (by decide) (by decide) (by decide) (by decide) (by decide) (by decide)]) (eb 71 (by decide) (by decide) (by decide) (by decide) (by decide) (by decide) (by decide) (by decide)) (eb 104 (by decide) (by decide) (by decide) (by decide) (by decide) (by decide) (by decide) (by decide)) (by rw [s81]), hR.cg (by rw [eb 70 (by decide) (by decide) (by decide) (by decide) (by decide) (by decide) (by decide) (by decide)]) (eb 72 (by decide) (by decide) (by decide) (by decide) (by decide) (by decide) (by decide) (by decide)) (eb 105 (by decide) (by decide) (by decide) (by decide) (by decide) (by decide) (by decide) (by decide)) (by rw [s81]), hH.cg (eb 74 (by decide) (by decide) (by decide) (by decide) (by decide) (by decide) (by decide) (by decide)) (eb 75 (by decide) (by decide) (by decide) (by decide) (by decide) (by decide) (by decide) (by decide)) (eb 106 (by decide) (by decide) (by decide) (by decide) (by decide) (by decide) (by decide) (by decide)) (eb 107 (by decide) (by decide) (by decide) (by decide) (by decide) (by decide) (by decide) (by decide))⟩
      have r62 : ∀ j, f2 62 j = if j = b then P0 else f0 62 j := fun j => by
        rw [k3 62 (by decide) (by decide) (by decide) (by decide) (by decide), hf1]
        unfold jyt
        simp (disch := decide) only [u2_ne, u2_row]
      have r63 : ∀ j, f2 63 j = if j = b then f0 63 b + 1 else f0 63 j := fun j => by
        rw [k3 63 (by decide) (by decide) (by decide) (by decide) (by decide), hf1]
        unfold jyt
        simp (disch := decide) only [u2_ne, u2_row]
      have r64 : f2 64 0 = f0 64 0 + 1 ∧ f2 64 1 = f0 64 1 + (jpc (f0 62 b) - jpc P0) ∧ f2 64 2 = f0 64 2 + br ∧ f2 64 3 = f0 64 3 := by
        rw [k3 64 (by decide) (by decide) (by decide) (by decide) (by decide), hf1]
        unfold jyt
        simp (disch := decide) only [u2_ne, u2_off, u2_at]
        exact ⟨trivial, trivial, trivial, trivial⟩
      have r86 : ∀ j, f2 86 j = if j = b then P0 else f0 86 j := fun j => by
        rw [a4]; unfold mcu
        simp (disch := decide) only [u2_ne, u2_row, mcl_ne]
        rw [f86]
      have r87 : ∀ j, f2 87 j = if j = b then f0 87 b + 1 else f0 87 j := fun j => by
        rw [a4]; unfold mcu
        simp (disch := decide) only [u2_ne, u2_row, mcl_ne]
        rw [f87]
      have r99 : f2 99 0 = f0 99 0 + 1 ∧ f2 99 1 = f0 99 1 + (jpc (f0 86 b) - jpc (sh i)) ∧ f2 99 2 = f0 99 2 + br := by
        rw [a4]; unfold mcu mcl
        simp (disch := decide) only [u2_ne, u2_off, u2_at]
        rw [f99, f86]
        exact ⟨rfl, rfl, rfl⟩
      refine ⟨b0, by rw [eb 61 (by decide) (by decide) (by decide) (by decide) (by decide) (by decide) (by decide) (by decide)]; exact b1, by rw [s81]; exact b2, ?_, ?_, fun j hj => ?_, fun j hj => ?_, by rw [r64.2.2.2, s81]; exact b7, ?_⟩
      · funext j
        rw [r62, r86, b3]
      · funext j
        rw [r63, r87, b4]
      · rw [r63, if_neg (by omega)]; exact b5 j hj
      · have : j = 0 ∨ j = 1 ∨ j = 2 := by omega
        rcases this with rfl | rfl | rfl
        · rw [r64.1, r99.1, b6 0 (by decide)]
        · rw [r64.2.1, r99.2.1, b6 1 (by decide), b3, hP]
        · rw [r64.2.2.1, r99.2.2, b6 2 (by decide)]
      · unfold imI at b8 ⊢
        rw [eb 61 (by decide) (by decide) (by decide) (by decide) (by decide) (by decide) (by decide) (by decide), eb 65 (by decide) (by decide) (by decide) (by decide) (by decide) (by decide) (by decide) (by decide), eb 66 (by decide) (by decide) (by decide) (by decide) (by decide) (by decide) (by decide) (by decide), eb 67 (by decide) (by decide) (by decide) (by decide) (by decide) (by decide) (by decide) (by decide), eb 100 (by decide) (by decide) (by decide) (by decide) (by decide) (by decide) (by decide) (by decide), eb 101 (by decide) (by decide) (by decide) (by decide) (by decide) (by decide) (by decide) (by decide), eb 102 (by decide) (by decide) (by decide) (by decide) (by decide) (by decide) (by decide) (by decide), s81]
        exact b8
  · exact rd_one h (t_cut0 d sw f g n m x h.n1 hn h.m61 h.m6 c1) (fun sw1 f1 _ h1 => u_cut0 d sw1 f1 g n m x h1.n81 hn h1.m81 h1.m6 c1)
