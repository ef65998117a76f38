/-! WHAT HOLDS BETWEEN THE CALLS -/
def FI (f : Nat → Nat → Int32) (n : Nat) (sh : Nat → Int32) : Prop := stk f n sh ∧ mFg f n sh ∧ (∀ i w, w < 3 → f 3 (i * 3 + w) = f (83 + w) i) ∧ ∀ i, n ≤ i → f 84 i = 0 ∧ f 85 i = 0
def LI (f : Nat → Nat → Int32) (L : List (List Nat × List Nat)) : Prop := rlOk f L ∧ mlOk f L
def imI (f : Nat → Nat → Int32) (m : Nat) : Prop := (f 61 8 = 0 ∧ f 81 28 = 0) ∨ (¬ f 61 8 = 0 ∧ ¬ f 81 28 = 0 ∧ ∃ k, k ≤ m ∧ f 61 7 = nI k ∧ f 81 29 = nI k ∧ (∀ b, b < k → f 65 b = f 100 b ∧ f 66 b = f 101 b) ∧ (∀ j, j < 3 → f 67 j = f 102 j) ∧ f 67 3 = f 81 30)
def BI (f : Nat → Nat → Int32) (m : Nat) : Prop := m ≤ 6 ∧ f 61 6 = nI m ∧ f 81 5 = nI m ∧ f 62 = f 86 ∧ f 63 = f 87 ∧ (∀ b, m ≤ b → f 63 b = 0) ∧ (∀ j, j < 3 → f 64 j = f 99 j) ∧ f 64 3 = f 81 8 ∧ imI f m
def TI (f : Nat → Nat → Int32) : Prop := ∃ (T : Nat → Nat) (tn : Nat), tn ≤ 120 ∧ f 46 2 = nI tn ∧ f 81 9 = nI tn ∧ ∀ j, j < tn → f 47 j = nI (T j) ∧ f 88 j = nI (T j) ∧ T j < 256
def CI (f : Nat → Nat → Int32) (n : Nat) : Prop := ∃ q u, q + u ≤ 40 ∧ f 68 1 = nI q ∧ f 68 2 = nI u ∧ f 81 35 = nI q ∧ f 81 34 = nI (q + u) ∧ f 69 = f 103 ∧ ∀ k, k < q + u → ∃ i w, i < n ∧ w < 3 ∧ f 103 (4 * k) = nI i ∧ f 103 (4 * k + 1) = nI w
def SI (f : Nat → Nat → Int32) (c : Nat) : Prop := c ≤ 50 ∧ f 70 2 = nI c ∧ f 81 37 = nI c ∧ ∀ i, i < c → ∃ k, k < 8 ∧ f 71 i = nI k ∧ f 104 i = nI k
def RI (f : Nat → Nat → Int32) : Prop := ∃ t, trOk f t ∧ trM f t
def shO (f : Nat → Nat → Int32) (b c : Nat) : Prop := (f 74 b = -1 ∧ f 106 b = -1) ∨ (∃ k z, k < 5 ∧ z ≤ 60 ∧ f 74 b = nI k ∧ f 106 b = nI k ∧ f 75 b = nI z ∧ f 107 b = nI z) ∨ (∃ s, s < c ∧ f 74 b = 5 ∧ f 75 b = nI s ∧ f 106 b = nI (10 + s))
def HI (f : Nat → Nat → Int32) (g : Nat → Nat → Int64) (c : Nat) : Prop := g 76 = g 108 ∧ ∀ b, b < 6 → shO f b c ∧ (f 74 b = 0 → ∀ k, k < 60 → fit (g 108 (b * 60 + k)))
theorem FI.cg {f f2 : Nat → Nat → Int32} {n : Nat} {sh : Nat → Int32} (h : FI f n sh) (h1 : ∀ b, inSt b → f2 b = f b) (h0 : f2 81 0 = f 81 0) (h2 : ∀ b, 82 ≤ b → b ≤ 85 → f2 b = f b) : FI f2 n sh :=
  ⟨h.1.same (fun b hb _ => h1 b hb), ⟨by rw [h0]; exact h.2.1.1, h.2.1.2.1, fun i hi => by rw [h2 82 (by decide) (by decide)]; exact h.2.1.2.2 i hi⟩, fun i w hw => by rw [h1 3 (by unfold inSt; omega), h2 (83 + w) (by omega) (by omega)]; exact h.2.2.1 i w hw, fun i hi => by rw [h2 84 (by decide) (by decide), h2 85 (by decide) (by decide)]; exact h.2.2.2 i hi⟩
theorem LI.cg {f f2 : Nat → Nat → Int32} {L : List (List Nat × List Nat)} (h : LI f L) (h1 : f2 49 3 = f 49 3) (h2 : f2 50 = f 50) (h3 : f2 81 11 = f 81 11) (h4 : f2 81 12 = f 81 12) (h5 : ∀ b, 88 < b → b < 93 → f2 b = f b) : LI f2 L := ⟨h.1.same h1 h2, h.2.cg h3 h4 h5⟩
theorem BI.cg {f f2 : Nat → Nat → Int32} {m : Nat} (h : BI f m) (h1 : ∀ b, 61 ≤ b → b ≤ 67 → f2 b = f b) (h2 : ∀ b, (b = 86 ∨ b = 87 ∨ (99 ≤ b ∧ b ≤ 102)) → f2 b = f b) (h5 : f2 81 5 = f 81 5) (h8 : f2 81 8 = f 81 8) (h28 : f2 81 28 = f 81 28) (h29 : f2 81 29 = f 81 29) (h30 : f2 81 30 = f 81 30) : BI f2 m := by
  unfold BI imI at *
  rw [h1 61 (by decide) (by decide), h1 62 (by decide) (by decide), h1 63 (by decide) (by decide), h1 64 (by decide) (by decide), h1 65 (by decide) (by decide), h1 66 (by decide) (by decide), h1 67 (by decide) (by decide), h2 86 (by decide), h2 87 (by decide), h2 99 (by decide), h2 100 (by decide), h2 101 (by decide), h2 102 (by decide), h5, h8, h28, h29, h30]
  exact h
theorem TI.cg {f f2 : Nat → Nat → Int32} (h : TI f) (h1 : f2 46 2 = f 46 2) (h2 : f2 47 = f 47) (h3 : f2 88 = f 88) (h4 : f2 81 9 = f 81 9) : TI f2 := by
  unfold TI at *
  rw [h1, h2, h3, h4]
  exact h
theorem CI.cg {f f2 : Nat → Nat → Int32} {n : Nat} (h : CI f n) (h1 : f2 68 = f 68) (h2 : f2 69 = f 69) (h3 : f2 103 = f 103) (h4 : f2 81 34 = f 81 34) (h5 : f2 81 35 = f 81 35) : CI f2 n := by
  unfold CI at *
  rw [h1, h2, h3, h4, h5]
  exact h
theorem CI.up {f : Nat → Nat → Int32} {n n2 : Nat} (h : CI f n) (hn : n ≤ n2) : CI f n2 := by
  obtain ⟨q, u, a1, a2, a3, a4, a5, a6, a7⟩ := h
  exact ⟨q, u, a1, a2, a3, a4, a5, a6, fun k hk => by obtain ⟨i, w, b1, b2⟩ := a7 k hk; exact ⟨i, w, by omega, b2⟩⟩
theorem SI.cg {f f2 : Nat → Nat → Int32} {c : Nat} (h : SI f c) (h1 : f2 70 2 = f 70 2) (h2 : f2 71 = f 71) (h3 : f2 104 = f 104) (h4 : f2 81 37 = f 81 37) : SI f2 c := by
  unfold SI at *
  rw [h1, h2, h3, h4]
  exact h
theorem RI.cg {f f2 : Nat → Nat → Int32} (h : RI f) (h1 : f2 70 3 = f 70 3) (h2 : f2 72 = f 72) (h3 : f2 105 = f 105) (h4 : f2 81 39 = f 81 39) : RI f2 := by
  unfold RI trOk trM at *
  rw [h1, h2, h3, h4]
  exact h
theorem HI.cg {f f2 : Nat → Nat → Int32} {g : Nat → Nat → Int64} {c : Nat} (h : HI f g c) (h1 : f2 74 = f 74) (h2 : f2 75 = f 75) (h3 : f2 106 = f 106) (h4 : f2 107 = f 107) : HI f2 g c := by
  unfold HI shO at *
  rw [h1, h2, h3, h4]
  exact h
def IVp (f : Nat → Nat → Int32) (g : Nat → Nat → Int64) (n : Nat) (sh : Nat → Int32) (L : List (List Nat × List Nat)) (m c : Nat) : Prop := FI f n sh ∧ LI f L ∧ BI f m ∧ TI f ∧ CI f n ∧ SI f c ∧ RI f ∧ HI f g c
def IVe (f : Nat → Nat → Int32) (g : Nat → Nat → Int64) : Prop := ∃ n sh L m c, IVp f g n sh L m c
/-- what the reckoning leaves as it was -/
def fr (f f2 : Nat → Nat → Int32) : Prop := (∀ b, b ≠ 46 → b ≠ 48 → b ≠ 49 → b ≠ 81 → (b < 51 ∨ 60 < b) → (b < 77 ∨ 80 < b) → (b < 93 ∨ 98 < b) → b < 109 → f2 b = f b) ∧ f2 46 2 = f 46 2 ∧ f2 49 3 = f 49 3 ∧ ∀ i, (i < 17 ∨ 20 < i) → f2 81 i = f 81 i
theorem qC.fr {f f2 : Nat → Nat → Int32} (h : qC f f2) : fr f f2 := ⟨fun b _ _ h3 _ h5 h6 _ _ => h.1 b h3 h5 h6, by rw [h.1 46 (by decide) (by decide) (by decide)], h.2 3 (by decide), fun i _ => by rw [h.1 81 (by decide) (by decide) (by decide)]⟩
theorem qM.fr {f f2 : Nat → Nat → Int32} (h : qM f f2) : fr f f2 := ⟨fun b _ _ _ h4 _ _ h7 h8 => h.1 b h4 h7 h8, by rw [h.1 46 (by decide) (by decide) (by decide)], by rw [h.1 49 (by decide) (by decide) (by decide)], fun i hi => h.2 i hi⟩
section FR
variable {f f2 : Nat → Nat → Int32} {g : Nat → Nat → Int64} {n m c : Nat} {sh : Nat → Int32} {L : List (List Nat × List Nat)}
theorem fr.F (e : fr f f2) (h : FI f n sh) : FI f2 n sh := h.cg (fun b hb => by unfold inSt at hb; exact e.1 b (by omega) (by omega) (by omega) (by omega) (by omega) (by omega) (by omega) (by omega)) (e.2.2.2 0 (by decide)) (fun b h1 h2 => e.1 b (by omega) (by omega) (by omega) (by omega) (by omega) (by omega) (by omega) (by omega))
theorem fr.Lw (e : fr f f2) (h : LI f L) : LI f2 L := h.cg e.2.2.1 (e.1 50 (by decide) (by decide) (by decide) (by decide) (by decide) (by decide) (by decide) (by decide)) (e.2.2.2 11 (by decide)) (e.2.2.2 12 (by decide)) (fun b h1 h2 => e.1 b (by omega) (by omega) (by omega) (by omega) (by omega) (by omega) (by omega) (by omega))
theorem fr.B (e : fr f f2) (h : BI f m) : BI f2 m := h.cg (fun b h1 h2 => e.1 b (by omega) (by omega) (by omega) (by omega) (by omega) (by omega) (by omega) (by omega)) (fun b h1 => e.1 b (by omega) (by omega) (by omega) (by omega) (by omega) (by omega) (by omega) (by omega)) (e.2.2.2 5 (by decide)) (e.2.2.2 8 (by decide)) (e.2.2.2 28 (by decide)) (e.2.2.2 29 (by decide)) (e.2.2.2 30 (by decide))
theorem fr.T (e : fr f f2) (h : TI f) : TI f2 := h.cg e.2.1 (e.1 47 (by decide) (by decide) (by decide) (by decide) (by decide) (by decide) (by decide) (by decide)) (e.1 88 (by decide) (by decide) (by decide) (by decide) (by decide) (by decide) (by decide) (by decide)) (e.2.2.2 9 (by decide))
theorem fr.C (e : fr f f2) (h : CI f n) : CI f2 n := h.cg (e.1 68 (by decide) (by decide) (by decide) (by decide) (by decide) (by decide) (by decide) (by decide)) (e.1 69 (by decide) (by decide) (by decide) (by decide) (by decide) (by decide) (by decide) (by decide)) (e.1 103 (by decide) (by decide) (by decide) (by decide) (by decide) (by decide) (by decide) (by decide)) (e.2.2.2 34 (by decide)) (e.2.2.2 35 (by decide))
theorem fr.Sn (e : fr f f2) (h : SI f c) : SI f2 c := h.cg (by rw [e.1 70 (by decide) (by decide) (by decide) (by decide) (by decide) (by decide) (by decide) (by decide)]) (e.1 71 (by decide) (by decide) (by decide) (by decide) (by decide) (by decide) (by decide) (by decide)) (e.1 104 (by decide) (by decide) (by decide) (by decide) (by decide) (by decide) (by decide) (by decide)) (e.2.2.2 37 (by decide))
theorem fr.R (e : fr f f2) (h : RI f) : RI f2 := h.cg (by rw [e.1 70 (by decide) (by decide) (by decide) (by decide) (by decide) (by decide) (by decide) (by decide)]) (e.1 72 (by decide) (by decide) (by decide) (by decide) (by decide) (by decide) (by decide) (by decide)) (e.1 105 (by decide) (by decide) (by decide) (by decide) (by decide) (by decide) (by decide) (by decide)) (e.2.2.2 39 (by decide))
theorem fr.H (e : fr f f2) (h : HI f g c) : HI f2 g c := h.cg (e.1 74 (by decide) (by decide) (by decide) (by decide) (by decide) (by decide) (by decide) (by decide)) (e.1 75 (by decide) (by decide) (by decide) (by decide) (by decide) (by decide) (by decide) (by decide)) (e.1 106 (by decide) (by decide) (by decide) (by decide) (by decide) (by decide) (by decide) (by decide)) (e.1 107 (by decide) (by decide) (by decide) (by decide) (by decide) (by decide) (by decide) (by decide))
theorem fr.IV (e : fr f f2) (h : IVp f g n sh L m c) : IVp f2 g n sh L m c := ⟨e.F h.1, e.Lw h.2.1, e.B h.2.2.1, e.T h.2.2.2.1, e.C h.2.2.2.2.1, e.Sn h.2.2.2.2.2.1, e.R h.2.2.2.2.2.2.1, e.H h.2.2.2.2.2.2.2⟩
variable (h : IVp f g n sh L m c)
theorem IVp.stk (h : IVp f g n sh L m c) : stk f n sh := h.1.1
theorem IVp.st (h : IVp f g n sh L m c) : stF f n sh := h.1.1.1
theorem IVp.mf (h : IVp f g n sh L m c) : mFg f n sh := h.1.2.1
theorem IVp.n1 (h : IVp f g n sh L m c) : f 1 4 = nI n := h.1.1.1.1
theorem IVp.n81 (h : IVp f g n sh L m c) : f 81 0 = nI n := h.1.2.1.1
theorem IVp.n10 (h : IVp f g n sh L m c) : n ≤ 10 := h.1.1.1.2.1
theorem IVp.rl (h : IVp f g n sh L m c) : rlOk f L := h.2.1.1
theorem IVp.ml (h : IVp f g n sh L m c) : mlOk f L := h.2.1.2
theorem IVp.jw (h : IVp f g n sh L m c) : ∀ l ∈ L, jwl l := h.2.1.1.2.2.2
theorem IVp.m6 (h : IVp f g n sh L m c) : m ≤ 6 := h.2.2.1.1
theorem IVp.m61 (h : IVp f g n sh L m c) : f 61 6 = nI m := h.2.2.1.2.1
theorem IVp.m81 (h : IVp f g n sh L m c) : f 81 5 = nI m := h.2.2.1.2.2.1
theorem IVp.e62 (h : IVp f g n sh L m c) : f 62 = f 86 := h.2.2.1.2.2.2.1
theorem IVp.e63 (h : IVp f g n sh L m c) : f 63 = f 87 := h.2.2.1.2.2.2.2.1
theorem IVp.t3 (h : IVp f g n sh L m c) : ∀ i w, w < 3 → f 3 (i * 3 + w) = f (83 + w) i := h.1.2.2.1
theorem IVp.c70 (h : IVp f g n sh L m c) : f 70 2 = nI c := h.2.2.2.2.2.1.2.1
theorem IVp.c81 (h : IVp f g n sh L m c) : f 81 37 = nI c := h.2.2.2.2.2.1.2.2.1
theorem IVp.c50 (h : IVp f g n sh L m c) : c ≤ 50 := h.2.2.2.2.2.1.1
theorem IVp.hi (h : IVp f g n sh L m c) : HI f g c := h.2.2.2.2.2.2.2
theorem IVp.B4 (h : IVp f g n sh L m c) : eqB (f 4) (BB sh n) n := fun i hi => h.1.1.2.1 i hi
theorem IVp.pos (h : IVp f g n sh L m c) : ∃ ρ, pOk (BB sh n) n ρ := by
  obtain ⟨ρ, h1, h2⟩ := h.stk.pos
  have := h.n10
  exact ⟨ρ, h1, fun i j hi hj hb => (h2 i j hi (by rw [h.B4 i hi]; exact hb) (by omega)).2⟩
end FR
/-- one call: the class answers, the reference answers the same, and what holds between calls holds again -/
def stepOK (iC iM : mI) (av : List Value) : Prop := ∀ (d : Nat) (sw : Bool) (f : Nat → Nat → Int32) (g : Nat → Nat → Int64), IVe f g → ∃ v : Int32, CT (d + 110) 0 0 iC (.ref 0 :: av) (S sw f g) (QS (fun r sw1 f1 g1 => r = some (.int v) ∧ CT (d + 110) 0 0 iM (.ref 81 :: av) (S sw1 f1 g1) (QS (fun r2 _ f2 g2 => r2 = some (.int v) ∧ IVe f2 g2))))
def stepOKl (iC iM : mI) (av : List Value) : Prop := ∀ (d : Nat) (sw : Bool) (f : Nat → Nat → Int32) (g : Nat → Nat → Int64), IVe f g → ∃ v : Int64, CT (d + 110) 0 0 iC (.ref 0 :: av) (S sw f g) (QS (fun r sw1 f1 g1 => r = some (.long v) ∧ CT (d + 110) 0 0 iM (.ref 81 :: av) (S sw1 f1 g1) (QS (fun r2 _ f2 g2 => r2 = some (.long v) ∧ IVe f2 g2))))
/-- a call that reads alone -/
theorem rd_step {iC iM : mI} {av : List Value} (h : ∀ (d : Nat) (sw : Bool) (f : Nat → Nat → Int32) (g : Nat → Nat → Int64) (n : Nat) (sh : Nat → Int32) (L : List (List Nat × List Nat)) (m c : Nat), IVp f g n sh L m c → ∃ v, CT (d + 110) 0 0 iC (.ref 0 :: av) (S sw f g) (rdC g f v) ∧ ∀ (sw1 : Bool) (f1 : Nat → Nat → Int32), qC f f1 → IVp f1 g n sh L m c → CT (d + 110) 0 0 iM (.ref 81 :: av) (S sw1 f1 g) (rdM g f1 v)) : stepOK iC iM av := by
  rintro d sw f g ⟨n, sh, L, m, c, hi⟩
  obtain ⟨v, hC, hM⟩ := h d sw f g n sh L m c hi
  refine ⟨v, hC.post (fun r M ⟨sw1, f1, g1, e, e1, e2, e3⟩ => ⟨sw1, f1, g1, e, e1, ?_⟩)⟩
  subst e2
  have h1 := e3.fr.IV hi
  exact (hM sw1 f1 e3 h1).post (fun r M ⟨sw2, f2, g2, b, b1, b2, b3⟩ => ⟨sw2, f2, g2, b, b1, n, sh, L, m, c, by rw [b2]; exact b3.fr.IV h1⟩)
