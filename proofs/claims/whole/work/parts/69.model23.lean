/-! REFERENCE: smallest -/
/-- fewer cells, or as many and a lesser number -/
def bet (u v : Int32) : Prop := pct u < pct v ∨ (pct u = pct v ∧ u < v)
theorem bet_tr {u v w : Int32} (h : bet u v) (h2 : bet v w) : bet u w := by
  unfold bet at *
  simp only [Int32.lt_iff_toInt_lt] at *
  omega
theorem bet_ir (u : Int32) : ¬ bet u u := fun h => h.elim (Nat.lt_irrefl _) (fun q => iz_asy q.2 q.2)
theorem bet_eq {u v : Int32} (h : ¬ bet u v) (h2 : ¬ bet v u) : u = v := by
  unfold bet at h h2
  simp only [Int32.lt_iff_toInt_lt] at h h2
  exact Int32.toInt_inj.mp (by omega)
theorem bet_j {u v : Int32} : (jpc u < jpc v ∨ (jpc u = jpc v ∧ u < v)) ↔ bet u v := by
  unfold bet
  rw [jpc_lt, jpc_eq]
/-- v is the least of them -/
def mnR (v : Int32) (P : Int32 → Prop) : Prop := P v ∧ ∀ u, P u → ¬ bet u v
theorem mnR.cg {v : Int32} {P Q : Int32 → Prop} (h : mnR v P) (e : ∀ u, P u ↔ Q u) : mnR v Q := ⟨(e v).mp h.1, fun u hu => h.2 u ((e u).mpr hu)⟩
theorem mnR.uq {v w : Int32} {P : Int32 → Prop} (h : mnR v P) (h2 : mnR w P) : v = w := bet_eq (h2.2 v h.1) (h.2 w h2.1)
theorem mnR.T {v u : Int32} {P : Int32 → Prop} (h : mnR v P) (c : bet u v) : mnR u (fun z => P z ∨ z = u) := ⟨Or.inr rfl, fun z hz q => by
  rcases hz with hz | rfl
  · exact h.2 z hz (bet_tr q c)
  · exact bet_ir _ q⟩
theorem mnR.F {v u : Int32} {P : Int32 → Prop} (h : mnR v P) (c : ¬ bet u v) : mnR v (fun z => P z ∨ z = u) := ⟨Or.inl h.1, fun z hz q => by
  rcases hz with hz | rfl
  · exact h.2 z hz q
  · exact c q⟩
/-- a shape that both fit, each by some way -/
def uP (s t : Int32) (z : Int32) : Prop := z = 33554431 ∨ ∃ i j, i < jn s ∧ j < jn t ∧ z = jP s i ||| jP t j
theorem jli_mn {p : Int32} {q : Nat → Int32} : ∀ (m j : Nat) (b : Int32 × Int32) (P : Int32 → Prop), mnR b.1 P → b.2 = jpc b.1 → mnR (jli p q m j b).1 (fun z => P z ∨ ∃ k, j ≤ k ∧ k < j + m ∧ z = p ||| q k) ∧ (jli p q m j b).2 = jpc (jli p q m j b).1
  | 0, j, b, P, h, e => ⟨h.cg (fun u => ⟨Or.inl, fun z => z.elim id (fun ⟨k, a, b, _⟩ => absurd a (by omega))⟩), e⟩
  | m + 1, j, b, P, h, e => by
    rw [jli]
    by_cases c : bet (p ||| q j) b.1
    · rw [if_pos (by rw [e]; exact bet_j.mpr c)]
      obtain ⟨h1, h2⟩ := jli_mn (p := p) (q := q) m (j + 1) (p ||| q j, jpc (p ||| q j)) _ (h.T c) rfl
      refine ⟨h1.cg (fun u => ⟨fun z => ?_, fun z => ?_⟩), h2⟩
      · rcases z with (z | z) | ⟨k, k1, k2, k3⟩
        · exact Or.inl z
        · exact Or.inr ⟨j, Nat.le_refl _, by omega, z⟩
        · exact Or.inr ⟨k, by omega, by omega, k3⟩
      · rcases z with z | ⟨k, k1, k2, k3⟩
        · exact Or.inl (Or.inl z)
        · by_cases e2 : k = j
          · subst e2; exact Or.inl (Or.inr k3)
          · exact Or.inr ⟨k, by omega, by omega, k3⟩
    · rw [if_neg (by rw [e]; exact fun z => c (bet_j.mp z))]
      obtain ⟨h1, h2⟩ := jli_mn (p := p) (q := q) m (j + 1) b _ (h.F c) e
      refine ⟨h1.cg (fun u => ⟨fun z => ?_, fun z => ?_⟩), h2⟩
      · rcases z with (z | z) | ⟨k, k1, k2, k3⟩
        · exact Or.inl z
        · exact Or.inr ⟨j, Nat.le_refl _, by omega, z⟩
        · exact Or.inr ⟨k, by omega, by omega, k3⟩
      · rcases z with z | ⟨k, k1, k2, k3⟩
        · exact Or.inl (Or.inl z)
        · by_cases e2 : k = j
          · subst e2; exact Or.inl (Or.inr k3)
          · exact Or.inr ⟨k, by omega, by omega, k3⟩
theorem jlo_mn {p q : Nat → Int32} {m : Nat} : ∀ (k i : Nat) (b : Int32 × Int32) (P : Int32 → Prop), mnR b.1 P → b.2 = jpc b.1 → mnR (jlo p q m k i b).1 (fun z => P z ∨ ∃ i2 j, i ≤ i2 ∧ i2 < i + k ∧ j < m ∧ z = p i2 ||| q j)
  | 0, i, b, P, h, e => h.cg (fun u => ⟨Or.inl, fun z => z.elim id (fun ⟨k, _, a, b, _⟩ => absurd a (by omega))⟩)
  | k + 1, i, b, P, h, e => by
    rw [jlo]
    obtain ⟨h1, h2⟩ := jli_mn (p := p i) (q := q) m 0 b P h e
    refine (jlo_mn (p := p) (q := q) (m := m) k (i + 1) _ _ h1 h2).cg (fun u => ⟨fun z => ?_, fun z => ?_⟩)
    · rcases z with (z | ⟨j, j1, j2, j3⟩) | ⟨i2, j, a1, a2, a3, a4⟩
      · exact Or.inl z
      · exact Or.inr ⟨i, j, Nat.le_refl _, by omega, by omega, j3⟩
      · exact Or.inr ⟨i2, j, by omega, by omega, a3, a4⟩
    · rcases z with z | ⟨i2, j, a1, a2, a3, a4⟩
      · exact Or.inl (Or.inl z)
      · by_cases e2 : i2 = i
        · subst e2; exact Or.inl (Or.inr ⟨j, Nat.zero_le _, by omega, a4⟩)
        · exact Or.inr ⟨i2, j, by omega, by omega, a3, a4⟩
theorem jsm_mn {s t : Int32} (hs : Sq s) (ns : Ne s) (ht : Sq t) (nt : Ne t) : mnR (jsm s t) (uP s t) := by
  have h0 : mnR (33554431, (25 : Int32)).1 (fun z => z = 33554431) := ⟨rfl, fun u hu => by rw [hu]; exact bet_ir _⟩
  refine (jlo_mn (p := jP s) (q := jP t) (m := ju t) (ju s) 0 (33554431, 25) _ h0 (by decide +kernel)).cg (fun u => ⟨fun z => ?_, fun z => ?_⟩)
  · rcases z with z | ⟨i, j, a1, a2, a3, a4⟩
    · exact Or.inl z
    · exact Or.inr ⟨i, j, by have := ju_le s; omega, by have := ju_le t; omega, a4⟩
  · rcases z with z | ⟨i, j, a1, a2, a3⟩
    · exact Or.inl z
    · obtain ⟨i2, b1, b2⟩ := (ju_mem hs ns).mpr ⟨i, a1, rfl⟩
      obtain ⟨j2, c1, c2⟩ := (ju_mem ht nt).mpr ⟨j, a2, rfl⟩
      exact Or.inr ⟨i2, j2, Nat.zero_le _, by omega, c1, by rw [b2, c2]; exact a3⟩
/-- by a way; 0: none -/
def wsh (s : Int32) (w : Nat) : Int32 := if w % 10 < 5 ∧ w / 10 % 10 < 5 then jmv (jturn s (w / 100)) (w % 10) (w / 10 % 10) else 0
theorem wsh_mem {s v : Int32} (h : Sq s) (hn : Ne s) : (∃ w, w < 345 ∧ ¬ wsh s w = 0 ∧ wsh s w = v) ↔ ∃ j, j < jn s ∧ jP s j = v := by
  rw [jP_mem]
  constructor
  · rintro ⟨w, w1, w2, w3⟩
    unfold wsh at w2 w3
    by_cases c : w % 10 < 5 ∧ w / 10 % 10 < 5
    · rw [if_pos c] at w2 w3
      rw [jmv_eq (jturn_SN h hn _).1 (jturn_Cn h hn _) (by omega) (by omega)] at w2 w3
      by_cases c2 : w % 10 ≤ jr (jturn s (w / 100)) ∧ w / 10 % 10 ≤ jdn (jturn s (w / 100))
      · rw [if_pos c2] at w3
        exact ⟨w / 100, w / 10 % 10, w % 10, by omega, c2.2, c2.1, w3⟩
      · rw [if_neg c2] at w2
        exact absurd rfl w2
    · rw [if_neg c] at w2
      exact absurd rfl w2
  · rintro ⟨t, dy, dx, h1, h2, h3, h4⟩
    have b1 := jdn_le (jturn s t)
    have b2 := jr_le (jturn s t)
    have hS := jturn_SN h hn t
    have e : wsh s (100 * t + 10 * dy + dx) = jsh5 (jturn s t) dx dy := by
      unfold wsh
      rw [show (100 * t + 10 * dy + dx) % 10 = dx by omega, show (100 * t + 10 * dy + dx) / 10 % 10 = dy by omega, show (100 * t + 10 * dy + dx) / 100 = t by omega, if_pos ⟨by omega, by omega⟩, jmv_eq hS.1 (jturn_Cn h hn t) (by omega) (by omega), if_pos ⟨h3, h2⟩]
    refine ⟨100 * t + 10 * dy + dx, by omega, ?_, by rw [e, h4]⟩
    rw [e]
    exact jsh5_ne0 hS.1 hS.2 (by omega) (by omega) ((fits_iff (jturn_Cn h hn t) (by omega) (by omega)).mpr ⟨h3, h2⟩)
/-- what the ways ahead of i, j give -/
def wP (s t : Int32) (i j : Nat) (z : Int32) : Prop := z = 33554431 ∨ ∃ a b, (a < i ∨ (a = i ∧ b < j)) ∧ a < 345 ∧ b < 345 ∧ ¬ wsh s a = 0 ∧ ¬ wsh t b = 0 ∧ z = wsh t b ||| wsh s a
theorem wP_st0 {s t : Int32} {i j : Nat} (h : wsh t j = 0) (z : Int32) : wP s t i j z ↔ wP s t i (j + 1) z := by
  unfold wP
  refine or_congr Iff.rfl ⟨fun ⟨a, b, h1, h2⟩ => ⟨a, b, by omega, h2⟩, fun ⟨a, b, h1, h2⟩ => ⟨a, b, ?_, h2⟩⟩
  have : ¬ b = j := fun e => h2.2.2.2.1 (by rw [e]; exact h)
  omega
theorem wP_st1 {s t : Int32} {i j : Nat} (hi : i < 345) (hj : j < 345) (h0 : ¬ wsh s i = 0) (h : ¬ wsh t j = 0) (z : Int32) : (wP s t i j z ∨ z = wsh t j ||| wsh s i) ↔ wP s t i (j + 1) z := by
  unfold wP
  constructor
  · rintro ((h1 | ⟨a, b, h1, h2⟩) | h1)
    · exact Or.inl h1
    · exact Or.inr ⟨a, b, by omega, h2⟩
    · exact Or.inr ⟨i, j, Or.inr ⟨rfl, by omega⟩, hi, hj, h0, h, h1⟩
  · rintro (h1 | ⟨a, b, h1, h2⟩)
    · exact Or.inl (Or.inl h1)
    · by_cases e : a = i ∧ b = j
      · obtain ⟨rfl, rfl⟩ := e
        exact Or.inr h2.2.2.2.2
      · exact Or.inl (Or.inr ⟨a, b, by omega, h2⟩)
theorem wP_e0 {s t : Int32} {i j : Nat} (h : wsh s i = 0) (z : Int32) : wP s t i j z ↔ wP s t (i + 1) 0 z := by
  unfold wP
  refine or_congr Iff.rfl ⟨fun ⟨a, b, h1, h2⟩ => ⟨a, b, by omega, h2⟩, fun ⟨a, b, h1, h2⟩ => ⟨a, b, ?_, h2⟩⟩
  have : ¬ a = i := fun e => h2.2.2.1 (by rw [e]; exact h)
  omega
theorem wP_e1 {s t : Int32} {i : Nat} (z : Int32) : wP s t i 345 z ↔ wP s t (i + 1) 0 z := by
  unfold wP
  refine or_congr Iff.rfl ⟨fun ⟨a, b, h1, h2⟩ => ⟨a, b, by omega, h2⟩, fun ⟨a, b, h1, h2⟩ => ⟨a, b, by omega, h2⟩⟩
theorem wP_end {s t : Int32} (hs : Sq s) (ns : Ne s) (ht : Sq t) (nt : Ne t) (z : Int32) : wP s t 345 0 z ↔ uP s t z := by
  unfold wP uP
  refine or_congr Iff.rfl ⟨fun ⟨a, b, h1, h2, h3, h4, h5, h6⟩ => ?_, fun ⟨i, j, h1, h2, h3⟩ => ?_⟩
  · obtain ⟨i, i1, i2⟩ := (wsh_mem hs ns).mp ⟨a, h2, h4, rfl⟩
    obtain ⟨j, j1, j2⟩ := (wsh_mem ht nt).mp ⟨b, h3, h5, rfl⟩
    exact ⟨i, j, i1, j1, by rw [i2, j2, h6]; exact Int32.or_comm _ _⟩
  · obtain ⟨a, a1, a2, a3⟩ := (wsh_mem hs ns).mpr ⟨i, h1, rfl⟩
    obtain ⟨b, b1, b2, b3⟩ := (wsh_mem ht nt).mpr ⟨j, h2, rfl⟩
    exact ⟨a, b, Or.inl a1, a1, b1, a2, b2, by rw [a3, b3, h3]; exact Int32.or_comm _ _⟩
theorem u_small0 (d : Nat) (sw : Bool) (f : Nat → Nat → Int32) (g : Nat → Nat → Int64) (n : Nat) (x y : Int32) (hn : f 81 0 = nI n) (hn10 : n ≤ 10) (h : ¬ (two n x ∧ ∃ w, w < 2 ∧ y = nI w)) : CT (d + 110) 0 0 iX11_smallest [.ref 81, .int x, .int y] (S sw f g) (rdM g f (-1)) := by
  refine CT.rdM ?_
  refine CT.of rfl (Nat.le_of_ble_eq_true rfl) (fun X hX hR hN _ => ?_)
  have hX : Good X RX11 cX11_smallest (d + 110) 0 0 := hX
  have hN : x_nl X = 8 := hN
  show WP X 0 0 0 [_, _, _, _, _, _, _, _] [] _
  by_cases c1 : two n x
  · obtain ⟨a, b, ha, hb, hab, _, _, rfl⟩ := c1
    refine wp_aload_n hX (dk DX11_smallest 0 rfl) rfl ?_
    refine wp_iload_n hX (dk DX11_smallest 1 rfl) rfl ?_
    refine w_callV (As := [_]) lkX11_281 hX (dk DX11_smallest 2 rfl) rfl rfl (by decide) hN (k_mT1 (d + 107) sw f g n a b hn hn10 ha hb hab) ?_
    show WP _ _ _ 5 [_, _, _, _, _, _, _, _] [_] _
    refine wp_if_eq (tgt := 17) hX (dk DX11_smallest 3 rfl) (by decide) (fun h_ => absurd h_ (by decide)) (fun _ => ?_)
    refine wp_iload_n hX (dk DX11_smallest 4 rfl) rfl ?_
    refine wp_iconst (v := 0) hX (dk DX11_smallest 5 rfl) (by decide) ?_
    refine wp_iconst (v := 1) hX (dk DX11_smallest 6 rfl) (by decide) ?_
    refine w_callS (As := [_, _, _]) lkX11_116 hX (dk DX11_smallest 7 rfl) rfl (by decide) (k_wi0 (d + 109) 1 y 1 _ rfl (by decide) (fun ⟨i, h1, h2⟩ => h ⟨⟨a, b, ha, hb, hab, by omega, by omega, rfl⟩, i, by omega, h2⟩)) ?_
    show WP _ _ _ 14 [_, _, _, _, _, _, _, _] [_] _
    refine wp_if_ne (tgt := 19) hX (dk DX11_smallest 8 rfl) (by decide) (fun h_ => absurd (rfl) h_) (fun _ => ?_)
    refine wp_iconst (v := -1) hX (dk DX11_smallest 9 rfl) (by decide) ?_
    exact wp_ireturn hX hR (dk DX11_smallest 10 rfl) rfl (Nat.le_refl _) (Nat.le_refl _) (⟨rfl, rfl⟩)
  · refine wp_aload_n hX (dk DX11_smallest 0 rfl) rfl ?_
    refine wp_iload_n hX (dk DX11_smallest 1 rfl) rfl ?_
    refine w_callV (As := [_]) lkX11_281 hX (dk DX11_smallest 2 rfl) rfl rfl (by decide) hN (k_mT0 (d + 107) sw f g n x hn hn10 c1) ?_
    show WP _ _ _ 5 [_, _, _, _, _, _, _, _] [_] _
    refine wp_if_eq (tgt := 17) hX (dk DX11_smallest 3 rfl) (by decide) (fun _ => ?_) (fun h_ => absurd (rfl) h_)
    refine wp_iconst (v := -1) hX (dk DX11_smallest 9 rfl) (by decide) ?_
    exact wp_ireturn hX hR (dk DX11_smallest 10 rfl) rfl (Nat.le_refl _) (Nat.le_refl _) (⟨rfl, rfl⟩)
theorem u_small1 (d : Nat) (sw : Bool) (f : Nat → Nat → Int32) (g : Nat → Nat → Int64) (n a b w : Nat) (sh : Nat → Int32) (hF : mFg f n sh) (ha : a < n) (hb : b < n) (hab : a ≠ b) (hw : w < 2) : CT (d + 110) 0 0 iX11_smallest [.ref 81, .int (nI (10 * a + b)), .int (nI w)] (S sw f g) (rdM g f (if w = 0 then jpc (jsm (sh a) (sh b)) else jsm (sh a) (sh b))) := by
  refine CT.rdM ?_
  have hn10 := hF.2.1
  have er : nI (10 * a + b) - nI (10 * a + b) / 10 * 10 = nI b := rm10 (by omega) (by omega)
  have ed : nI (10 * a + b) / 10 = nI a := dv10 (by omega) (by omega)
  obtain ⟨ea, sa⟩ := hF.2.2 a ha
  obtain ⟨eb, sb⟩ := hF.2.2 b hb
  obtain ⟨Sa, Na⟩ := shp_Sq sa
  obtain ⟨Sb, Nb⟩ := shp_Sq sb
  have mn := jsm_mn Sa Na Sb Nb
  refine CT.of rfl (Nat.le_of_ble_eq_true rfl) (fun X hX hR hN _ => ?_)
  have hX : Good X RX11 cX11_smallest (d + 110) 0 0 := hX
  have hN : x_nl X = 8 := hN
  show WP X 0 0 0 [_, _, _, _, _, _, _, _] [] _
  have fin : ∀ (v : Int32) (z5 z6 z7 : Option Value), mnR v (wP (sh a) (sh b) 345 0) → WP X 0 0 165 [some (.ref 81), some (.int (nI (10 * a + b))), some (.int (nI w)), some (.int v), some (.int (nI 345)), z5, z6, z7] [] (S sw f g) := by
    intro v z5 z6 z7 hv
    have e := (hv.cg (wP_end Sa Na Sb Nb)).uq mn
    subst e
    have hw2 : w = 0 ∨ w = 1 := by omega
    rcases hw2 with rfl | rfl
    · refine wp_iload_n hX (dk DX11_smallest_1 19 rfl) rfl ?_
      refine wp_if_ne (tgt := 176) hX (dk DX11_smallest_1 20 rfl) (by decide) (fun h_ => absurd (rfl) h_) (fun _ => ?_)
      refine wp_iload_n hX (dk DX11_smallest_1 21 rfl) rfl ?_
      refine w_callS (As := [_]) lkX11_156 hX (dk DX11_smallest_1 22 rfl) rfl (by decide) (k_mcells (d + 108) sw f g _) ?_
      show WP _ _ _ 173 [_, _, _, _, _, _, _, _] [_] _
      refine wp_goto (tgt := 177) hX (dk DX11_smallest_1 23 rfl) (by decide) ?_
      exact wp_ireturn hX hR (dk DX11_smallest_1 25 rfl) rfl (Nat.le_refl _) (Nat.le_refl _) (⟨rfl, rfl⟩)
    · refine wp_iload_n hX (dk DX11_smallest_1 19 rfl) rfl ?_
      refine wp_if_ne (tgt := 176) hX (dk DX11_smallest_1 20 rfl) (by decide) (fun _ => ?_) (fun h_ => absurd h_ (by decide))
      refine wp_iload_n hX (dk DX11_smallest_1 24 rfl) rfl ?_
      exact wp_ireturn hX hR (dk DX11_smallest_1 25 rfl) rfl (Nat.le_refl _) (Nat.le_refl _) (⟨rfl, rfl⟩)
  have lo2 : ∀ (i : Nat), i < 345 → ∀ (m j : Nat) (v : Int32) (z7 : Option Value), j + m = 345 → mnR v (wP (sh a) (sh b) i j) → (∀ (v : Int32) (z6 z7 : Option Value), mnR v (wP (sh a) (sh b) (i + 1) 0) → WP X 0 0 159 [some (.ref 81), some (.int (nI (10 * a + b))), some (.int (nI w)), some (.int v), some (.int (nI i)), some (.int (wsh (sh a) i)), z6, z7] [] (S sw f g)) → WP X 0 0 64 [some (.ref 81), some (.int (nI (10 * a + b))), some (.int (nI w)), some (.int v), some (.int (nI i)), some (.int (wsh (sh a) i)), some (.int (nI j)), z7] [] (S sw f g) := by
    intro i hi m
    induction m with
    | zero =>
      intro j v z7 hj hv k
      obtain rfl : j = 345 := by omega
      refine wp_iload hX (dk DX11_smallest 34 rfl) rfl ?_
      refine wp_sipush (v := 345) hX (dk DX11_smallest 35 rfl) (by decide) ?_
      refine wp_icmp_ge (tgt := 159) hX (dk DX11_smallest 36 rfl) (by decide) (fun _ => ?_) (fun h_ => absurd (by decide) h_)
      exact k v _ _ (hv.cg wP_e1)
    | succ m ih =>
      intro j v z7 hj hv k
      by_cases c0 : wsh (sh a) i = 0
      · refine wp_iload hX (dk DX11_smallest 34 rfl) rfl ?_
        refine wp_sipush (v := 345) hX (dk DX11_smallest 35 rfl) (by decide) ?_
        refine wp_icmp_ge (tgt := 159) hX (dk DX11_smallest 36 rfl) (by decide) (fun h_ => absurd h_ (nI_ge (b := 345) (by omega) (by omega))) (fun _ => ?_)
        refine wp_iload hX (dk DX11_smallest 37 rfl) rfl ?_
        refine wp_if_eq (tgt := 159) hX (dk DX11_smallest 38 rfl) (by decide) (fun _ => ?_) (fun h_ => absurd (c0) h_)
        exact k v _ _ (hv.cg (wP_e0 c0))
      · by_cases cw : j % 10 < 5 ∧ j / 10 % 10 < 5
        · have ew : jmv (jturn (sh b) (j / 100)) (j % 10) (j / 10 % 10) = wsh (sh b) j := by rw [wsh, if_pos cw]
          by_cases cz : wsh (sh b) j = 0
          · refine wp_iload hX (dk DX11_smallest 34 rfl) rfl ?_
            refine wp_sipush (v := 345) hX (dk DX11_smallest 35 rfl) (by decide) ?_
            refine wp_icmp_ge (tgt := 159) hX (dk DX11_smallest 36 rfl) (by decide) (fun h_ => absurd h_ (nI_ge (b := 345) (by omega) (by omega))) (fun _ => ?_)
            refine wp_iload hX (dk DX11_smallest 37 rfl) rfl ?_
            refine wp_if_eq (tgt := 159) hX (dk DX11_smallest 38 rfl) (by decide) (fun h_ => absurd h_ (c0)) (fun _ => ?_)
            refine wp_iload hX (dk DX11_smallest 39 rfl) rfl ?_
            refine w_callS (As := [_]) lkX11_309 hX (dk DX11_smallest 40 rfl) rfl (by decide) (k_isWay (d + 109) j (by omega) _) ?_
            show WP _ _ _ 82 [_, _, _, _, _, _, _, _] [_] _
            rw [if_pos cw]
            refine wp_if_eq (tgt := 102) hX (dk DX11_smallest 41 rfl) (by decide) (fun h_ => absurd h_ (by decide)) (fun _ => ?_)
            refine wp_aload_n hX (dk DX11_smallest 42 rfl) rfl ?_
            refine w_getr hX flX11_9 (dk DX11_smallest 43 rfl) rfl rfl ?_
            refine wp_iload_n hX (dk DX11_smallest 44 rfl) rfl ?_
            refine wp_bipush (v := 10) hX (dk DX11_smallest 45 rfl) (by decide) ?_
            refine wp_irem hX (dk DX11_smallest 46 rfl) (by decide) ?_
            rw [show nI (10 * a + b) - nI (10 * a + b) / 10 * 10 = nI b from er]
            refine w_iald (j := _) hX (dk DX11_smallest 47 rfl) rfl rfl (show _ < 10 by omega) ?_
            rw [eb]
            refine wp_iload hX (dk DX11_smallest 48 rfl) rfl ?_
            refine w_callS (As := [_, _]) lkX11_312 hX (dk DX11_smallest 49 rfl) rfl (by decide) (k_placed (d + 106) sw f g _ j Sb Nb (by omega)) ?_
            show WP _ _ _ 99 [_, _, _, _, _, _, _, _] [_] _
            rw [ew]
            refine wp_goto (tgt := 103) hX (dk DX11_smallest 50 rfl) (by decide) ?_
            refine wp_istore hX (dk DX11_smallest 52 rfl) rfl hN (Nat.le_of_ble_eq_true rfl) ?_
            show WP _ _ _ 105 [_, _, _, _, _, _, _, _] [] _
            refine wp_iload hX (dk DX11_smallest 53 rfl) rfl ?_
            refine wp_if_ne (tgt := 113) hX (dk DX11_smallest 54 rfl) (by decide) (fun h_ => absurd (cz) h_) (fun _ => ?_)
            refine wp_goto (tgt := 153) hX (dk DX11_smallest 55 rfl) (by decide) ?_
            refine wp_iinc hX (dk DX11_smallest_1 15 rfl) rfl (nI_inc _) rfl hN ?_
            show WP _ _ _ 156 [_, _, _, _, _, _, _, _] [] _
            refine wp_goto (tgt := 64) hX (dk DX11_smallest_1 16 rfl) (by decide) ?_
            exact ih (j + 1) v _ (by omega) (hv.cg (wP_st0 cz)) k
          · have key : ∀ u z7, mnR u (wP (sh a) (sh b) i (j + 1)) → WP X 0 0 64 [some (.ref 81), some (.int (nI (10 * a + b))), some (.int (nI w)), some (.int u), some (.int (nI i)), some (.int (wsh (sh a) i)), some (.int (nI (j + 1))), z7] [] (S sw f g) := fun u z7 hu => ih (j + 1) u z7 (by omega) hu k
            have kT : bet (wsh (sh b) j ||| wsh (sh a) i) v → ∀ z7, WP X 0 0 64 [some (.ref 81), some (.int (nI (10 * a + b))), some (.int (nI w)), some (.int (wsh (sh b) j ||| wsh (sh a) i)), some (.int (nI i)), some (.int (wsh (sh a) i)), some (.int (nI (j + 1))), z7] [] (S sw f g) := fun c z7 => key _ z7 ((hv.T c).cg (wP_st1 hi (by omega) c0 cz))
            have kF : ¬ bet (wsh (sh b) j ||| wsh (sh a) i) v → ∀ z7, WP X 0 0 64 [some (.ref 81), some (.int (nI (10 * a + b))), some (.int (nI w)), some (.int v), some (.int (nI i)), some (.int (wsh (sh a) i)), some (.int (nI (j + 1))), z7] [] (S sw f g) := fun c z7 => key _ z7 ((hv.F c).cg (wP_st1 hi (by omega) c0 cz))
            refine wp_iload hX (dk DX11_smallest 34 rfl) rfl ?_
            refine wp_sipush (v := 345) hX (dk DX11_smallest 35 rfl) (by decide) ?_
            refine wp_icmp_ge (tgt := 159) hX (dk DX11_smallest 36 rfl) (by decide) (fun h_ => absurd h_ (nI_ge (b := 345) (by omega) (by omega))) (fun _ => ?_)
            refine wp_iload hX (dk DX11_smallest 37 rfl) rfl ?_
            refine wp_if_eq (tgt := 159) hX (dk DX11_smallest 38 rfl) (by decide) (fun h_ => absurd h_ (c0)) (fun _ => ?_)
            refine wp_iload hX (dk DX11_smallest 39 rfl) rfl ?_
            refine w_callS (As := [_]) lkX11_309 hX (dk DX11_smallest 40 rfl) rfl (by decide) (k_isWay (d + 109) j (by omega) _) ?_
            show WP _ _ _ 82 [_, _, _, _, _, _, _, _] [_] _
            rw [if_pos cw]
            refine wp_if_eq (tgt := 102) hX (dk DX11_smallest 41 rfl) (by decide) (fun h_ => absurd h_ (by decide)) (fun _ => ?_)
            refine wp_aload_n hX (dk DX11_smallest 42 rfl) rfl ?_
            refine w_getr hX flX11_9 (dk DX11_smallest 43 rfl) rfl rfl ?_
            refine wp_iload_n hX (dk DX11_smallest 44 rfl) rfl ?_
            refine wp_bipush (v := 10) hX (dk DX11_smallest 45 rfl) (by decide) ?_
            refine wp_irem hX (dk DX11_smallest 46 rfl) (by decide) ?_
            rw [show nI (10 * a + b) - nI (10 * a + b) / 10 * 10 = nI b from er]
            refine w_iald (j := _) hX (dk DX11_smallest 47 rfl) rfl rfl (show _ < 10 by omega) ?_
            rw [eb]
            refine wp_iload hX (dk DX11_smallest 48 rfl) rfl ?_
            refine w_callS (As := [_, _]) lkX11_312 hX (dk DX11_smallest 49 rfl) rfl (by decide) (k_placed (d + 106) sw f g _ j Sb Nb (by omega)) ?_
            show WP _ _ _ 99 [_, _, _, _, _, _, _, _] [_] _
            rw [ew]
            refine wp_goto (tgt := 103) hX (dk DX11_smallest 50 rfl) (by decide) ?_
            refine wp_istore hX (dk DX11_smallest 52 rfl) rfl hN (Nat.le_of_ble_eq_true rfl) ?_
            show WP _ _ _ 105 [_, _, _, _, _, _, _, _] [] _
            refine wp_iload hX (dk DX11_smallest 53 rfl) rfl ?_
            refine wp_if_ne (tgt := 113) hX (dk DX11_smallest 54 rfl) (by decide) (fun _ => ?_) (fun h_ => absurd h_ (cz))
            refine wp_iload hX (dk DX11_smallest 56 rfl) rfl ?_
            refine wp_iload hX (dk DX11_smallest 57 rfl) rfl ?_
            refine wp_ior hX (dk DX11_smallest 58 rfl) ?_
            refine wp_istore hX (dk DX11_smallest 59 rfl) rfl hN (Nat.le_of_ble_eq_true rfl) ?_
            show WP _ _ _ 120 [_, _, _, _, _, _, _, _] [] _
            refine wp_iload hX (dk DX11_smallest_1 0 rfl) rfl ?_
            refine w_callS (As := [_]) lkX11_156 hX (dk DX11_smallest_1 1 rfl) rfl (by decide) (k_mcells (d + 108) sw f g _) ?_
            show WP _ _ _ 125 [_, _, _, _, _, _, _, _] [_] _
            refine wp_iload_n hX (dk DX11_smallest_1 2 rfl) rfl ?_
            refine w_callS (As := [_]) lkX11_156 hX (dk DX11_smallest_1 3 rfl) rfl (by simp [Value.category]) (k_mcells (d + 108) sw f g _) ?_
            show WP _ _ _ 129 [_, _, _, _, _, _, _, _] [_, _] _
            refine wp_icmp_lt (tgt := 150) hX (dk DX11_smallest_1 4 rfl) (by decide) (fun h129 => ?_) (fun h129 => ?_)
            · have cc : bet (wsh (sh b) j ||| wsh (sh a) i) v := bet_j.mp (Or.inl h129)
              refine wp_iload hX (dk DX11_smallest_1 13 rfl) rfl ?_
              refine wp_istore_n hX (dk DX11_smallest_1 14 rfl) rfl rfl hN (Nat.le_of_ble_eq_true rfl) ?_
              show WP _ _ _ 153 [_, _, _, _, _, _, _, _] [] _
              refine wp_iinc hX (dk DX11_smallest_1 15 rfl) rfl (nI_inc _) rfl hN ?_
              show WP _ _ _ 156 [_, _, _, _, _, _, _, _] [] _
              refine wp_goto (tgt := 64) hX (dk DX11_smallest_1 16 rfl) (by decide) ?_
              first | exact kT cc _ | exact kF cc _
            · refine wp_iload hX (dk DX11_smallest_1 5 rfl) rfl ?_
              refine w_callS (As := [_]) lkX11_156 hX (dk DX11_smallest_1 6 rfl) rfl (by decide) (k_mcells (d + 108) sw f g _) ?_
              show WP _ _ _ 137 [_, _, _, _, _, _, _, _] [_] _
              refine wp_iload_n hX (dk DX11_smallest_1 7 rfl) rfl ?_
              refine w_callS (As := [_]) lkX11_156 hX (dk DX11_smallest_1 8 rfl) rfl (by simp [Value.category]) (k_mcells (d + 108) sw f g _) ?_
              show WP _ _ _ 141 [_, _, _, _, _, _, _, _] [_, _] _
              refine wp_icmp_ne (tgt := 153) hX (dk DX11_smallest_1 9 rfl) (by decide) (fun h141 => ?_) (fun h141 => ?_)
              · have cc : ¬ bet (wsh (sh b) j ||| wsh (sh a) i) v := fun q => (bet_j.mpr q).elim h129 (fun e => h141 e.1)
                refine wp_iinc hX (dk DX11_smallest_1 15 rfl) rfl (nI_inc _) rfl hN ?_
                show WP _ _ _ 156 [_, _, _, _, _, _, _, _] [] _
                refine wp_goto (tgt := 64) hX (dk DX11_smallest_1 16 rfl) (by decide) ?_
                first | exact kT cc _ | exact kF cc _
              · refine wp_iload hX (dk DX11_smallest_1 10 rfl) rfl ?_
                refine wp_iload_n hX (dk DX11_smallest_1 11 rfl) rfl ?_
                refine wp_icmp_ge (tgt := 153) hX (dk DX11_smallest_1 12 rfl) (by decide) (fun h147 => ?_) (fun h147 => ?_)
                · have cc : ¬ bet (wsh (sh b) j ||| wsh (sh a) i) v := fun q => (bet_j.mpr q).elim h129 (fun e => absurd e.2 (Int32.not_lt.mpr h147))
                  refine wp_iinc hX (dk DX11_smallest_1 15 rfl) rfl (nI_inc _) rfl hN ?_
                  show WP _ _ _ 156 [_, _, _, _, _, _, _, _] [] _
                  refine wp_goto (tgt := 64) hX (dk DX11_smallest_1 16 rfl) (by decide) ?_
                  first | exact kT cc _ | exact kF cc _
                · have cc : bet (wsh (sh b) j ||| wsh (sh a) i) v := bet_j.mp (Or.inr ⟨h141, Int32.not_le.mp h147⟩)
                  refine wp_iload hX (dk DX11_smallest_1 13 rfl) rfl ?_
                  refine wp_istore_n hX (dk DX11_smallest_1 14 rfl) rfl rfl hN (Nat.le_of_ble_eq_true rfl) ?_
                  show WP _ _ _ 153 [_, _, _, _, _, _, _, _] [] _
                  refine wp_iinc hX (dk DX11_smallest_1 15 rfl) rfl (nI_inc _) rfl hN ?_
                  show WP _ _ _ 156 [_, _, _, _, _, _, _, _] [] _
                  refine wp_goto (tgt := 64) hX (dk DX11_smallest_1 16 rfl) (by decide) ?_
                  first | exact kT cc _ | exact kF cc _
        · have ew : (0 : Int32) = wsh (sh b) j := by rw [wsh, if_neg cw]
          refine wp_iload hX (dk DX11_smallest 34 rfl) rfl ?_
          refine wp_sipush (v := 345) hX (dk DX11_smallest 35 rfl) (by decide) ?_
          refine wp_icmp_ge (tgt := 159) hX (dk DX11_smallest 36 rfl) (by decide) (fun h_ => absurd h_ (nI_ge (b := 345) (by omega) (by omega))) (fun _ => ?_)
          refine wp_iload hX (dk DX11_smallest 37 rfl) rfl ?_
          refine wp_if_eq (tgt := 159) hX (dk DX11_smallest 38 rfl) (by decide) (fun h_ => absurd h_ (c0)) (fun _ => ?_)
          refine wp_iload hX (dk DX11_smallest 39 rfl) rfl ?_
          refine w_callS (As := [_]) lkX11_309 hX (dk DX11_smallest 40 rfl) rfl (by decide) (k_isWay (d + 109) j (by omega) _) ?_
          show WP _ _ _ 82 [_, _, _, _, _, _, _, _] [_] _
          rw [if_neg cw]
          refine wp_if_eq (tgt := 102) hX (dk DX11_smallest 41 rfl) (by decide) (fun _ => ?_) (fun h_ => absurd (rfl) h_)
          refine wp_iconst (v := 0) hX (dk DX11_smallest 51 rfl) (by decide) ?_
          refine wp_istore hX (dk DX11_smallest 52 rfl) rfl hN (Nat.le_of_ble_eq_true rfl) ?_
          show WP _ _ _ 105 [_, _, _, _, _, _, _, _] [] _
          refine wp_iload hX (dk DX11_smallest 53 rfl) rfl ?_
          refine wp_if_ne (tgt := 113) hX (dk DX11_smallest 54 rfl) (by decide) (fun h_ => absurd (rfl) h_) (fun _ => ?_)
          refine wp_goto (tgt := 153) hX (dk DX11_smallest 55 rfl) (by decide) ?_
          refine wp_iinc hX (dk DX11_smallest_1 15 rfl) rfl (nI_inc _) rfl hN ?_
          show WP _ _ _ 156 [_, _, _, _, _, _, _, _] [] _
          refine wp_goto (tgt := 64) hX (dk DX11_smallest_1 16 rfl) (by decide) ?_
          exact ih (j + 1) v _ (by omega) (hv.cg (wP_st0 ew.symm)) k
  have lo1 : ∀ (m i : Nat) (v : Int32) (z5 z6 z7 : Option Value), i + m = 345 → mnR v (wP (sh a) (sh b) i 0) → WP X 0 0 25 [some (.ref 81), some (.int (nI (10 * a + b))), some (.int (nI w)), some (.int v), some (.int (nI i)), z5, z6, z7] [] (S sw f g) := by
    intro m
    induction m with
    | zero =>
      intro i v z5 z6 z7 hi hv
      obtain rfl : i = 345 := by omega
      refine wp_iload hX (dk DX11_smallest 15 rfl) rfl ?_
      refine wp_sipush (v := 345) hX (dk DX11_smallest 16 rfl) (by decide) ?_
      refine wp_icmp_ge (tgt := 165) hX (dk DX11_smallest 17 rfl) (by decide) (fun _ => ?_) (fun h_ => absurd (by decide) h_)
      exact fin v _ _ _ hv
    | succ m ih =>
      intro i v z5 z6 z7 hi hv
      have after : ∀ (v : Int32) (z6 z7 : Option Value), mnR v (wP (sh a) (sh b) (i + 1) 0) → WP X 0 0 159 [some (.ref 81), some (.int (nI (10 * a + b))), some (.int (nI w)), some (.int v), some (.int (nI i)), some (.int (wsh (sh a) i)), z6, z7] [] (S sw f g) := by
        intro v z6 z7 hv
        refine wp_iinc hX (dk DX11_smallest_1 17 rfl) rfl (nI_inc _) rfl hN ?_
        show WP _ _ _ 162 [_, _, _, _, _, _, _, _] [] _
        refine wp_goto (tgt := 25) hX (dk DX11_smallest_1 18 rfl) (by decide) ?_
        exact ih (i + 1) v _ _ _ (by omega) hv
      by_cases cw : i % 10 < 5 ∧ i / 10 % 10 < 5
      · have ew : jmv (jturn (sh a) (i / 100)) (i % 10) (i / 10 % 10) = wsh (sh a) i := by rw [wsh, if_pos cw]
        refine wp_iload hX (dk DX11_smallest 15 rfl) rfl ?_
        refine wp_sipush (v := 345) hX (dk DX11_smallest 16 rfl) (by decide) ?_
        refine wp_icmp_ge (tgt := 165) hX (dk DX11_smallest 17 rfl) (by decide) (fun h_ => absurd h_ (nI_ge (b := 345) (by omega) (by omega))) (fun _ => ?_)
        refine wp_iload hX (dk DX11_smallest 18 rfl) rfl ?_
        refine w_callS (As := [_]) lkX11_309 hX (dk DX11_smallest 19 rfl) rfl (by decide) (k_isWay (d + 109) i (by omega) _) ?_
        show WP _ _ _ 38 [_, _, _, _, _, _, _, _] [_] _
        rw [if_pos cw]
        refine wp_if_eq (tgt := 58) hX (dk DX11_smallest 20 rfl) (by decide) (fun h_ => absurd h_ (by decide)) (fun _ => ?_)
        refine wp_aload_n hX (dk DX11_smallest 21 rfl) rfl ?_
        refine w_getr hX flX11_9 (dk DX11_smallest 22 rfl) rfl rfl ?_
        refine wp_iload_n hX (dk DX11_smallest 23 rfl) rfl ?_
        refine wp_bipush (v := 10) hX (dk DX11_smallest 24 rfl) (by decide) ?_
        refine wp_idiv hX (dk DX11_smallest 25 rfl) (by decide) ?_
        rw [ed]
        refine w_iald (j := _) hX (dk DX11_smallest 26 rfl) rfl rfl (show _ < 10 by omega) ?_
        rw [ea]
        refine wp_iload hX (dk DX11_smallest 27 rfl) rfl ?_
        refine w_callS (As := [_, _]) lkX11_312 hX (dk DX11_smallest 28 rfl) rfl (by decide) (k_placed (d + 106) sw f g _ i Sa Na (by omega)) ?_
        show WP _ _ _ 55 [_, _, _, _, _, _, _, _] [_] _
        rw [ew]
        refine wp_goto (tgt := 59) hX (dk DX11_smallest 29 rfl) (by decide) ?_
        refine wp_istore hX (dk DX11_smallest 31 rfl) rfl hN (Nat.le_of_ble_eq_true rfl) ?_
        show WP _ _ _ 61 [_, _, _, _, _, _, _, _] [] _
        refine wp_iconst (v := 0) hX (dk DX11_smallest 32 rfl) (by decide) ?_
        refine wp_istore hX (dk DX11_smallest 33 rfl) rfl hN (Nat.le_of_ble_eq_true rfl) ?_
        show WP _ _ _ 64 [_, _, _, _, _, _, _, _] [] _
        exact lo2 i (by omega) 345 0 v _ (by omega) hv after
      · have ew : (0 : Int32) = wsh (sh a) i := by rw [wsh, if_neg cw]
        refine wp_iload hX (dk DX11_smallest 15 rfl) rfl ?_
        refine wp_sipush (v := 345) hX (dk DX11_smallest 16 rfl) (by decide) ?_
        refine wp_icmp_ge (tgt := 165) hX (dk DX11_smallest 17 rfl) (by decide) (fun h_ => absurd h_ (nI_ge (b := 345) (by omega) (by omega))) (fun _ => ?_)
        refine wp_iload hX (dk DX11_smallest 18 rfl) rfl ?_
        refine w_callS (As := [_]) lkX11_309 hX (dk DX11_smallest 19 rfl) rfl (by decide) (k_isWay (d + 109) i (by omega) _) ?_
        show WP _ _ _ 38 [_, _, _, _, _, _, _, _] [_] _
        rw [if_neg cw]
        refine wp_if_eq (tgt := 58) hX (dk DX11_smallest 20 rfl) (by decide) (fun _ => ?_) (fun h_ => absurd (rfl) h_)
        refine wp_iconst (v := 0) hX (dk DX11_smallest 30 rfl) (by decide) ?_
        refine wp_istore hX (dk DX11_smallest 31 rfl) rfl hN (Nat.le_of_ble_eq_true rfl) ?_
        show WP _ _ _ 61 [_, _, _, _, _, _, _, _] [] _
        refine wp_iconst (v := 0) hX (dk DX11_smallest 32 rfl) (by decide) ?_
        refine wp_istore hX (dk DX11_smallest 33 rfl) rfl hN (Nat.le_of_ble_eq_true rfl) ?_
        show WP _ _ _ 64 [_, _, _, _, _, _, _, _] [] _
        have key := fun z7 => lo2 i (by omega) 345 0 v z7 (by omega) hv after
        rw [← ew] at key
        exact key _
  refine wp_aload_n hX (dk DX11_smallest 0 rfl) rfl ?_
  refine wp_iload_n hX (dk DX11_smallest 1 rfl) rfl ?_
  refine w_callV (As := [_]) lkX11_281 hX (dk DX11_smallest 2 rfl) rfl rfl (by decide) hN (k_mT1 (d + 107) sw f g n a b hF.1 hn10 ha hb hab) ?_
  show WP _ _ _ 5 [_, _, _, _, _, _, _, _] [_] _
  refine wp_if_eq (tgt := 17) hX (dk DX11_smallest 3 rfl) (by decide) (fun h_ => absurd h_ (by decide)) (fun _ => ?_)
  refine wp_iload_n hX (dk DX11_smallest 4 rfl) rfl ?_
  refine wp_iconst (v := 0) hX (dk DX11_smallest 5 rfl) (by decide) ?_
  refine wp_iconst (v := 1) hX (dk DX11_smallest 6 rfl) (by decide) ?_
  refine w_callS (As := [_, _, _]) lkX11_116 hX (dk DX11_smallest 7 rfl) rfl (by decide) (k_wi1 (d + 109) w 1 1 _ rfl (by decide) (by omega)) ?_
  show WP _ _ _ 14 [_, _, _, _, _, _, _, _] [_] _
  refine wp_if_ne (tgt := 19) hX (dk DX11_smallest 8 rfl) (by decide) (fun _ => ?_) (fun h_ => absurd h_ (by decide))
  refine wp_ldc hX (dk DX11_smallest 11 rfl) kcX11_130 ?_
  refine wp_istore_n hX (dk DX11_smallest 12 rfl) rfl rfl hN (Nat.le_of_ble_eq_true rfl) ?_
  show WP _ _ _ 22 [_, _, _, _, _, _, _, _] [] _
  refine wp_iconst (v := 0) hX (dk DX11_smallest 13 rfl) (by decide) ?_
  refine wp_istore hX (dk DX11_smallest 14 rfl) rfl hN (Nat.le_of_ble_eq_true rfl) ?_
  show WP _ _ _ 25 [_, _, _, _, _, _, _, _] [] _
  exact lo1 345 0 33554431 _ _ _ (by omega) ⟨Or.inl rfl, fun u hu => hu.elim (fun e => by rw [e]; exact bet_ir _) (fun ⟨a, b, h1, _⟩ => absurd h1 (by omega))⟩
