/-! CALLS THAT CHANGE: blocks, the tape, years, stones, shelves -/
def stp (d : Nat) (sw : Bool) (f : Nat → Nat → Int32) (g : Nat → Nat → Int64) (iC iM : mI) (av : List Value) : Prop := ∃ v : Int32, CT (d + 110) 0 0 iC (.ref 0 :: av) (S sw f g) (QS (fun r sw1 f1 g1 => r = some (.int v) ∧ CT (d + 110) 0 0 iM (.ref 81 :: av) (S sw1 f1 g1) (QS (fun r2 _ f2 g2 => r2 = some (.int v) ∧ IVe f2 g2))))
section STEP3
variable {d : Nat} {sw : Bool} {f : Nat → Nat → Int32} {g : Nat → Nat → Int64} {iC iM : mI} {av : List Value} {n m c : Nat} {sh : Nat → Int32} {L : List (List Nat × List Nat)}
theorem rd_one {v : Int32} (hi : IVp f g n sh L m c) (hC : CT (d + 110) 0 0 iC (.ref 0 :: av) (S sw f g) (rdC g f v)) (hM : ∀ (sw1 : Bool) (f1 : Nat → Nat → Int32), qC f f1 → IVp f1 g n sh L m c → CT (d + 110) 0 0 iM (.ref 81 :: av) (S sw1 f1 g) (rdM g f1 v)) : stp d sw f g iC iM av := by
  refine ⟨v, hC.post (fun r M ⟨sw1, f1, g1, e, e1, e2, e3⟩ => ⟨sw1, f1, g1, e, e1, ?_⟩)⟩
  subst e2
  have h1 := e3.fr.IV hi
  exact (hM sw1 f1 e3 h1).post (fun r M ⟨sw2, f2, g2, b, b1, b2, b3⟩ => ⟨sw2, f2, g2, b, b1, n, sh, L, m, c, by rw [b2]; exact b3.fr.IV h1⟩)
theorem md_one {v : Int32} {f1 f2 : Nat → Nat → Int32} {g1 g2 : Nat → Nat → Int64} (hC : CT (d + 110) 0 0 iC (.ref 0 :: av) (S sw f g) (QR (some (.int v)) (S sw f1 g1))) (hM : CT (d + 110) 0 0 iM (.ref 81 :: av) (S sw f1 g1) (QR (some (.int v)) (S sw f2 g2))) (hi : IVp f2 g2 n sh L m c) : stp d sw f g iC iM av := by
  refine ⟨v, hC.post (fun r M ⟨e1, e2⟩ => ⟨sw, f1, g1, e2, e1, ?_⟩)⟩
  exact hM.post (fun r M ⟨e1, e2⟩ => ⟨sw, f2, g2, e2, e1, n, sh, L, m, c, hi⟩)
theorem md_qs {v : Int32} {P : (Nat → Nat → Int32) → (Nat → Nat → Int64) → Prop} (hC : CT (d + 110) 0 0 iC (.ref 0 :: av) (S sw f g) (QS (fun r _ f1 g1 => r = some (.int v) ∧ P f1 g1))) (hM : ∀ (sw1 : Bool) (f1 : Nat → Nat → Int32) (g1 : Nat → Nat → Int64), P f1 g1 → CT (d + 110) 0 0 iM (.ref 81 :: av) (S sw1 f1 g1) (QS (fun r2 _ f2 g2 => r2 = some (.int v) ∧ IVe f2 g2))) : stp d sw f g iC iM av :=
  ⟨v, hC.post (fun r M ⟨sw1, f1, g1, e, e1, e2⟩ => ⟨sw1, f1, g1, e, e1, hM sw1 f1 g1 e2⟩)⟩
end STEP3
theorem s_block (x : Int32) : stepOK iX10_block iX11_block [.int x] := by
  rintro d sw f g ⟨n, sh, L, m, c, h⟩
  by_cases c1 : shp x
  · by_cases c2 : m = 6
    · have a := h.m61
      rw [c2] at a
      exact rd_one h (t_blockF d sw f g x c1 a) (fun sw1 f1 _ h1 => u_blockF d sw1 f1 g x c1 (by rw [h1.m81, c2]))
    · have hm := h.m6
      refine md_one (n := n) (sh := sh) (L := L) (m := m + 1) (c := c) (t_block1 d sw f g m x c1 h.m61 (by omega)) (u_block1 d sw (u2 (u2 f 62 m x) 61 6 (nI (m + 1))) g m x c1 (by simp (disch := decide) only [u2_ne]; exact h.m81) (by omega)) ?_
      obtain ⟨hF, hL, hB, hT, hC, hS, hR, hH⟩ := h
      obtain ⟨b0, b1, b2, b3, b4, b5, b6, b7, b8⟩ := hB
      unfold mnb
      refine ⟨hF.cg (fun b hb => by unfold inSt at hb; simp (disch := omega) only [u2_ne]) (by simp (disch := decide) only [u2_ne, u2_off]) (fun b h1 h2 => by simp (disch := omega) only [u2_ne]), hL.cg (by simp (disch := decide) only [u2_ne]) (by simp (disch := decide) only [u2_ne]) (by simp (disch := decide) only [u2_ne, u2_off]) (by simp (disch := decide) only [u2_ne, u2_off]) (fun b h1 h2 => by simp (disch := omega) only [u2_ne]), ?_, hT.cg (by simp (disch := decide) only [u2_ne]) (by simp (disch := decide) only [u2_ne]) (by simp (disch := decide) only [u2_ne]) (by simp (disch := decide) only [u2_ne, u2_off]), hC.cg (by simp (disch := decide) only [u2_ne]) (by simp (disch := decide) only [u2_ne]) (by simp (disch := decide) only [u2_ne]) (by simp (disch := decide) only [u2_ne, u2_off]) (by simp (disch := decide) only [u2_ne, u2_off]), hS.cg (by simp (disch := decide) only [u2_ne]) (by simp (disch := decide) only [u2_ne]) (by simp (disch := decide) only [u2_ne]) (by simp (disch := decide) only [u2_ne, u2_off]), hR.cg (by simp (disch := decide) only [u2_ne]) (by simp (disch := decide) only [u2_ne]) (by simp (disch := decide) only [u2_ne]) (by simp (disch := decide) only [u2_ne, u2_off]), hH.cg (by simp (disch := decide) only [u2_ne]) (by simp (disch := decide) only [u2_ne]) (by simp (disch := decide) only [u2_ne]) (by simp (disch := decide) only [u2_ne])⟩
      refine ⟨by omega, by simp (disch := decide) only [u2_ne, u2_at], by rw [u2_at], ?_, ?_, fun b hb => by simp (disch := decide) only [u2_ne]; exact b5 b (by omega), fun j hj => by simp (disch := decide) only [u2_ne]; exact b6 j hj, by simp (disch := decide) only [u2_ne, u2_off]; exact b7, ?_⟩
      · simp (disch := decide) only [u2_ne, u2_row]
        rw [b3]
      · simp (disch := decide) only [u2_ne, u2_row]
        funext j
        rw [b4]
        by_cases e : j = m
        · rw [if_pos e, e, ← b4]; exact b5 m (Nat.le_refl _)
        · rw [if_neg e]
      · unfold imI at b8 ⊢
        simp (disch := decide) only [u2_ne, u2_off]
        rcases b8 with b8 | ⟨a1, a2, k, a3, a4⟩
        · exact Or.inl b8
        · exact Or.inr ⟨a1, a2, k, by omega, a4⟩
  · exact rd_one h (t_block0 d sw f g x c1) (fun sw1 f1 _ h1 => u_block0 d sw1 f1 g x c1)
