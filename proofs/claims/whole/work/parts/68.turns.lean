/-! GEOMETRY: turns that are alike -/
def ce (u : Int32) (x y : Int) : Prop := 0 ≤ x ∧ x < 5 ∧ 0 ≤ y ∧ y < 5 ∧ cl u x.toNat y.toNat = true
/-- u is v, moved -/
def Tr (u v : Int32) (p q : Int) : Prop := ∀ x y : Int, ce u x y ↔ ce v (x + p) (y + q)
theorem Tr.trans {u v w : Int32} {p q p2 q2 : Int} (h : Tr u v p q) (h2 : Tr v w p2 q2) : Tr u w (p + p2) (q + q2) := fun x y => by
  rw [h x y, h2 _ _, Int.add_assoc, Int.add_assoc]
theorem Tr.symm {u v : Int32} {p q : Int} (h : Tr u v p q) : Tr v u (-p) (-q) := fun x y => by
  rw [h _ _, show x + -p + p = x by omega, show y + -q + q = y by omega]
theorem ce_n {u : Int32} {x y : Nat} (hx : x < 5) (hy : y < 5) : ce u x y ↔ cl u x y = true := ⟨fun h => by simpa using h.2.2.2.2, fun h => ⟨by omega, by omega, by omega, by omega, by simpa using h⟩⟩
theorem Tr_jcor {s : Int32} (h : Sq s) (hn : Ne s) : ∃ p q, Tr (jcor s) s p q := by
  obtain ⟨a, b, ha, hb, h1, h2, _⟩ := jcor_cl h hn
  refine ⟨b, a, fun x y => ⟨fun ⟨x0, x5, y0, y5, c⟩ => ?_, fun ⟨x0, x5, y0, y5, c⟩ => ?_⟩⟩
  · have := (h1 x.toNat y.toNat (by omega) (by omega)).mp c
    refine ⟨by omega, by omega, by omega, by omega, ?_⟩
    rw [show (x + (b : Int)).toNat = x.toNat + b by omega, show (y + (a : Int)).toNat = y.toNat + a by omega]
    exact this.2.2
  · have := h2 _ _ (by omega) (by omega) c
    refine ⟨by omega, by omega, by omega, by omega, (h1 x.toNat y.toNat (by omega) (by omega)).mpr ⟨by omega, by omega, ?_⟩⟩
    rw [show x.toNat + b = (x + (b : Int)).toNat by omega, show y.toNat + a = (y + (a : Int)).toNat by omega]
    exact c
theorem ce_jto (u : Int32) (x y : Int) : ce (jto u 5) x y ↔ ce u y (4 - x) := by
  constructor
  · rintro ⟨x0, x5, y0, y5, c⟩
    refine ⟨y0, y5, by omega, by omega, ?_⟩
    rw [jto_cl u (by omega) (by omega)] at c
    rw [show (4 - x).toNat = 4 - x.toNat by omega]
    exact c
  · rintro ⟨x0, x5, y0, y5, c⟩
    refine ⟨by omega, by omega, x0, x5, ?_⟩
    rw [jto_cl u (by omega) (by omega), show 4 - x.toNat = (4 - x).toNat by omega]
    exact c
theorem Tr_jto {u v : Int32} {p q : Int} (h : Tr u v p q) : Tr (jto u 5) (jto v 5) (-q) p := fun x y => by
  rw [ce_jto, ce_jto, h, show 4 - (x + -q) = 4 - x + q by omega]
theorem Tr_eq {u v : Int32} {p q : Int} (h : Tr u v p q) (hu : Cn u) (hv : Cn v) (su : Sq u) (sv : Sq v) : u = v := by
  obtain ⟨⟨x1, x5, c1⟩, y1, y5, c2⟩ := hu
  obtain ⟨⟨x2, x6, c3⟩, y2, y6, c4⟩ := hv
  have a1 := (h _ _).mp ((ce_n (y := 0) x5 (by decide)).mpr c1)
  have a2 := (h _ _).mp ((ce_n (x := 0) (by decide) y5).mpr c2)
  have a3 := (h.symm _ _).mp ((ce_n (y := 0) x6 (by decide)).mpr c3)
  have a4 := (h.symm _ _).mp ((ce_n (x := 0) (by decide) y6).mpr c4)
  have q0 : q = 0 := by
    have b1 := a1.2.2.1
    have b2 := a3.2.2.1
    omega
  have p0 : p = 0 := by
    have b1 := a2.1
    have b2 := a4.1
    omega
  subst q0 p0
  refine b_ext (fun i hi => ?_)
  by_cases c : i < 25
  · have e := h (i % 5 : Nat) (i / 5 : Nat)
    rw [Int.add_zero, Int.add_zero, ce_n (by omega) (by omega), ce_n (by omega) (by omega)] at e
    unfold cl at e
    rw [show 5 * (i / 5) + i % 5 = i by omega] at e
    exact Bool.eq_iff_iff.mpr e
  · rw [su i (by omega), sv i (by omega)]
theorem jcor_Cn {s : Int32} (h : Sq s) (hn : Ne s) : Cn (jcor s) := jturn_Cn h hn 0
theorem jturn_next {s : Int32} (h : Sq s) (hn : Ne s) (t : Nat) : jturn s (t + 1) = jcor (jto (jturn s t) 5) := by
  show jcor (jto (jrot s t) 5) = jcor (jto (jcor (jrot s t)) 5)
  obtain ⟨hS, hN⟩ := jrot_SN h hn t
  obtain ⟨hS2, hN2⟩ := jcor_SN hS hN
  obtain ⟨p1, q1, h1⟩ := Tr_jcor (jto_Sq (jrot s t)) (jto_Ne hS hN)
  obtain ⟨p2, q2, h2⟩ := Tr_jcor (jto_Sq (jcor (jrot s t))) (jto_Ne hS2 hN2)
  obtain ⟨p3, q3, h3⟩ := Tr_jcor hS hN
  exact Tr_eq ((h1.trans (Tr_jto h3).symm).trans h2.symm) (jcor_Cn (jto_Sq _) (jto_Ne hS hN)) (jcor_Cn (jto_Sq _) (jto_Ne hS2 hN2)) (jcor_SN (jto_Sq _) (jto_Ne hS hN)).1 (jcor_SN (jto_Sq _) (jto_Ne hS2 hN2)).1
theorem jpl_len1 (s : Int32) (n : Nat) : (jpl s (n + 1)).length = (jpl s n).length + (jdn (jturn s n) + 1) * (jr (jturn s n) + 1) := by
  rw [jpl_succ, List.length_append, jtrn_len]
theorem jpl_pre (s : Int32) (n : Nat) : ∀ m, jpl s n <+: jpl s (n + m)
  | 0 => List.prefix_refl _
  | m + 1 => by
    rw [show n + (m + 1) = (n + m) + 1 by omega, jpl_succ]
    exact (jpl_pre s n m).trans (List.prefix_append _ _)
theorem jP_memN {s : Int32} {v : Int32} {n t dy dx : Nat} (hn : n ≤ 4) (h1 : t < n) (h2 : dy ≤ jdn (jturn s t)) (h3 : dx ≤ jr (jturn s t)) (e : jsh5 (jturn s t) dx dy = v) : ∃ j, j < (jpl s n).length ∧ jP s j = v := by
  have hm : jit (jturn s t) t dy dx ∈ jpl s n := List.mem_flatMap.mpr ⟨t, List.mem_range.mpr h1, List.mem_flatMap.mpr ⟨dy, List.mem_range.mpr (Nat.lt_succ_of_le h2), List.mem_map.mpr ⟨dx, List.mem_range.mpr (Nat.lt_succ_of_le h3), rfl⟩⟩⟩
  obtain ⟨j, hj, e2⟩ := List.getElem_of_mem hm
  have hp := jpl_pre s n (4 - n)
  rw [show n + (4 - n) = 4 by omega] at hp
  have hl : j < (jpl s 4).length := Nat.lt_of_lt_of_le hj hp.length_le
  refine ⟨j, hj, ?_⟩
  unfold jP
  rw [show (jpl s 4).getD j (0, 0) = (jpl s 4)[j] by simp [hl], ← hp.getElem hj, e2]
  exact e
theorem ju_mem {s v : Int32} (h : Sq s) (hn : Ne s) : (∃ j, j < ju s ∧ jP s j = v) ↔ ∃ j, j < jn s ∧ jP s j = v := by
  constructor
  · rintro ⟨j, h1, h2⟩
    exact ⟨j, Nat.lt_of_lt_of_le h1 (ju_le s), h2⟩
  · intro hj
    obtain ⟨t, dy, dx, h1, h2, h3, e⟩ := jP_mem.mp hj
    have e4 : jn s = (jpl s 4).length := rfl
    have l0 : (jpl s 0).length = 0 := rfl
    have l1 : (jpl s 1).length = (jpl s 0).length + (jdn (jturn s 0) + 1) * (jr (jturn s 0) + 1) := jpl_len1 s 0
    have l2 : (jpl s 2).length = (jpl s 1).length + (jdn (jturn s 1) + 1) * (jr (jturn s 1) + 1) := jpl_len1 s 1
    have l3 : (jpl s 3).length = (jpl s 2).length + (jdn (jturn s 2) + 1) * (jr (jturn s 2) + 1) := jpl_len1 s 2
    have l4 : (jpl s 4).length = (jpl s 3).length + (jdn (jturn s 3) + 1) * (jr (jturn s 3) + 1) := jpl_len1 s 3
    have n1 : jturn s 1 = _ := jturn_next h hn 0
    have n2 : jturn s 2 = _ := jturn_next h hn 1
    have n3 : jturn s 3 = _ := jturn_next h hn 2
    unfold ju
    by_cases c1 : jturn s 1 = jturn s 0
    · have c2 : jturn s 2 = jturn s 0 := by rw [n2, c1, ← n1, c1]
      have c3 : jturn s 3 = jturn s 0 := by rw [n3, c2, ← n1, c1]
      have ct : jturn s t = jturn s 0 := by
        have : t = 0 ∨ t = 1 ∨ t = 2 ∨ t = 3 := by omega
        rcases this with rfl | rfl | rfl | rfl <;> first | rfl | assumption
      rw [ct] at h2 h3 e
      obtain ⟨j, j1, j2⟩ := jP_memN (n := 1) (t := 0) (by decide) (by decide) h2 h3 e
      rw [c1] at l2
      rw [c2] at l3
      rw [c3] at l4
      refine ⟨j, ?_, j2⟩
      rw [if_pos c1, e4]
      omega
    · rw [if_neg c1]
      by_cases c2 : jturn s 2 = jturn s 0
      · rw [if_pos c2]
        have c3 : jturn s 3 = jturn s 1 := by rw [n3, c2, ← n1]
        obtain ⟨u, hu, cu⟩ : ∃ u, u < 2 ∧ jturn s t = jturn s u := by
          have : t = 0 ∨ t = 1 ∨ t = 2 ∨ t = 3 := by omega
          rcases this with rfl | rfl | rfl | rfl
          · exact ⟨0, by decide, rfl⟩
          · exact ⟨1, by decide, rfl⟩
          · exact ⟨0, by decide, c2⟩
          · exact ⟨1, by decide, c3⟩
        rw [cu] at h2 h3 e
        obtain ⟨j, j1, j2⟩ := jP_memN (n := 2) (t := u) (by decide) hu h2 h3 e
        rw [c2] at l3
        rw [c3] at l4
        refine ⟨j, ?_, j2⟩
        rw [e4]
        omega
      · rw [if_neg c2]
        exact hj
