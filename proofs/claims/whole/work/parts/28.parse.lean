/-! THE TEXT OF THE LAW, abstract. c a: the byte at a; 999 behind the end (n) -/
def isDg (x : Nat) : Bool := decide (48 ≤ x ∧ x ≤ 57)
/-- a number of at most k more digits: what it is, where it ends -/
def pNu (c : Nat → Nat) : Nat → Nat → Nat → Nat × Nat
  | 0, a, v => (v, a)
  | k + 1, a, v => if isDg (c a) then pNu c k (a + 1) (10 * v + (c a - 48)) else (v, a)
/-- which name: 6 none -/
def pNm (x : Nat) : Nat := if x = 119 then 0 else if x = 102 then 1 else if x = 97 then 2 else if x = 99 then 3 else if x = 110 then 4 else if x = 107 then 5 else 6
/-- which sign of a level: 0 none -/
def pOp (l x : Nat) : Nat :=
  if l = 0 then (if x = 124 then 6 else 0)
  else if l = 1 then (if x = 38 then 7 else 0)
  else if l = 2 then (if x = 60 then 8 else if x = 61 then 9 else if x = 62 then 10 else 0)
  else if l = 3 then (if x = 43 then 11 else if x = 45 then 12 else 0)
  else (if x = 42 then 13 else if x = 47 then 14 else if x = 37 then 15 else 0)
abbrev pR : Type := Bool × Nat × List Nat
/-- at most q more of a level, joined by its signs -/
def pJr (c : Nat → Nat) (l : Nat) (nx : Nat → pR) : Nat → Nat → List Nat → pR
  | 0, a, k => (true, a, k)
  | q + 1, a, k => if pOp l (c a) = 0 then (true, a, k) else
    if (nx (a + 1)).1 = true then pJr c l nx q (nx (a + 1)).2.1 (k ++ (nx (a + 1)).2.2 ++ [pOp l (c a)]) else (false, (nx (a + 1)).2.1, [])
/-- level l (5: an operand), o open ones: whether it is so, where it ends, its code -/
def pJ (c : Nat → Nat) : Nat → Nat → Nat → Nat → pR
  | 0, _, _, a => (false, a, [])
  | m + 1, l, o, a =>
    if l < 5 then
      (if (pJ c m (l + 1) o a).1 = true then pJr c l (fun b => pJ c m (l + 1) o b) (if l = 2 then 1 else 120) (pJ c m (l + 1) o a).2.1 (pJ c m (l + 1) o a).2.2 else (false, (pJ c m (l + 1) o a).2.1, []))
    else if isDg (c a) then (true, (pNu c 4 a 0).2, [18 + (pNu c 4 a 0).1])
    else if pNm (c a) < 6 then (true, a + 1, [pNm (c a)])
    else if 6 ≤ o then (false, a, [])
    else if c a = 40 then
      (if (pJ c m 0 (o + 1) (a + 1)).1 = true then (if c (pJ c m 0 (o + 1) (a + 1)).2.1 = 41 then (true, (pJ c m 0 (o + 1) (a + 1)).2.1 + 1, (pJ c m 0 (o + 1) (a + 1)).2.2) else (false, (pJ c m 0 (o + 1) (a + 1)).2.1, [])) else (false, (pJ c m 0 (o + 1) (a + 1)).2.1, []))
    else if c a = 33 then ((pJ c m 5 (o + 1) (a + 1)).1, (pJ c m 5 (o + 1) (a + 1)).2.1, (pJ c m 5 (o + 1) (a + 1)).2.2 ++ [16])
    else if c a = 45 then ((pJ c m 5 (o + 1) (a + 1)).1, (pJ c m 5 (o + 1) (a + 1)).2.1, (pJ c m 5 (o + 1) (a + 1)).2.2 ++ [17])
    else (false, a, [])
/-- a line: whether it is so, where it ends, what counts, what it gives -/
def pLn (c : Nat → Nat) (a : Nat) : Bool × Nat × (List Nat × List Nat) :=
  if (pJ c 48 0 0 a).1 = true then
    (if c (pJ c 48 0 0 a).2.1 = 63 then ((pJ c 48 0 0 ((pJ c 48 0 0 a).2.1 + 1)).1, (pJ c 48 0 0 ((pJ c 48 0 0 a).2.1 + 1)).2.1, ((pJ c 48 0 0 a).2.2, (pJ c 48 0 0 ((pJ c 48 0 0 a).2.1 + 1)).2.2)) else (true, (pJ c 48 0 0 a).2.1, ([], (pJ c 48 0 0 a).2.2)))
  else (false, (pJ c 48 0 0 a).2.1, ([], []))
/-- the lines from a on: the law (empty: a fault), where it stands -/
def pLs (c : Nat → Nat) (n : Nat) : Nat → Nat → List (List Nat × List Nat) → List (List Nat × List Nat) × Nat
  | 0, a, _ => ([], a)
  | q + 1, a, L => if (pLn c a).1 = true then
      (if (pLn c a).2.1 = n then (L ++ [(pLn c a).2.2], n)
      else if c (pLn c a).2.1 = 59 then pLs c n q ((pLn c a).2.1 + 1) (L ++ [(pLn c a).2.2]) else ([], (pLn c a).2.1))
    else ([], (pLn c a).2.1)
theorem pNu_ok {c : Nat → Nat} {n : Nat} (hc : ∀ a, n ≤ a → c a = 999) : ∀ (k a v j : Nat), a ≤ n → v < 10 ^ j → a ≤ (pNu c k a v).2 ∧ (pNu c k a v).2 ≤ n ∧ (pNu c k a v).1 < 10 ^ (j + k)
  | 0, a, v, j, ha, hv => ⟨Nat.le_refl _, ha, hv⟩
  | k + 1, a, v, j, ha, hv => by
    rw [pNu]
    split
    · next h =>
      have h2 := of_decide_eq_true h
      have ha2 : a + 1 ≤ n := by
        by_cases q : a = n
        · rw [hc a (by omega)] at h2; omega
        · omega
      have := pNu_ok hc k (a + 1) (10 * v + (c a - 48)) (j + 1) ha2 (by rw [Nat.pow_succ]; omega)
      exact ⟨by omega, this.2.1, by rw [show j + (k + 1) = j + 1 + k by omega]; exact this.2.2⟩
    · exact ⟨Nat.le_refl _, ha, Nat.lt_of_lt_of_le hv (Nat.pow_le_pow_right (by decide) (by omega))⟩
theorem pNu_lt {c : Nat → Nat} {n : Nat} (hc : ∀ a, n ≤ a → c a = 999) {k a v : Nat} (h : isDg (c a) = true) (ha : a ≤ n) : a < (pNu c (k + 1) a v).2 := by
  rw [pNu, if_pos h]
  have h2 := of_decide_eq_true h
  have ha2 : a + 1 ≤ n := by
    by_cases q : a = n
    · rw [hc a (by omega)] at h2; omega
    · omega
  have : ∀ (k a v : Nat), a ≤ (pNu c k a v).2 := by
    intro k
    induction k with
    | zero => intro a v; exact Nat.le_refl _
    | succ k ih =>
      intro a v
      rw [pNu]
      split
      · exact Nat.le_trans (by omega) (ih (a + 1) _)
      · exact Nat.le_refl _
  exact this k (a + 1) _
theorem jwf_1 {k : Nat} (h : k < 6 ∨ 18 ≤ k) (h2 : k < 10018) : jwf 1 [k] := by
  intro h0 m hm
  simp only [jhk]
  rw [if_pos h, if_pos ⟨by omega, h2⟩]
theorem jwf.up {b b2 : Nat} {c : List Nat} (h : jwf b c) (hb : b ≤ b2) : jwf b2 c := fun h0 m hm => h h0 m (by omega)
theorem jwf_2 {b b2 : Nat} {c c2 : List Nat} {k : Nat} (h : jwf b c) (h2 : jwf b2 c2) (hb : b2 + 1 ≤ b) (hk : 6 ≤ k) (hk2 : k < 16) : jwf b (c ++ c2 ++ [k]) := by
  intro h0 m hm
  rw [jhk_app, jhk_app, h h0 m hm]
  show ((jhk c2 (h0 + 1) m).bind (fun q => jhk [k] q m)) = _
  rw [h2 (h0 + 1) m (by omega)]
  show jhk [k] (h0 + 1 + 1) m = _
  simp only [jhk]
  rw [if_neg (by omega), if_pos hk2, if_pos (by omega)]
  rfl
theorem jwf_3 {b : Nat} {c : List Nat} {k : Nat} (h : jwf b c) (hk : k = 16 ∨ k = 17) : jwf b (c ++ [k]) := by
  intro h0 m hm
  rw [jhk_app, h h0 m hm]
  show jhk [k] (h0 + 1) m = _
  simp only [jhk]
  rw [if_neg (by omega), if_neg (by omega), if_pos (by omega)]
theorem pOp_ok {l x : Nat} (h : ¬ pOp l x = 0) : 6 ≤ pOp l x ∧ pOp l x < 16 ∧ x < 999 := by
  have hx : x = 124 ∨ x = 38 ∨ x = 60 ∨ x = 61 ∨ x = 62 ∨ x = 43 ∨ x = 45 ∨ x = 42 ∨ x = 47 ∨ x = 37 := by
    unfold pOp at h
    by_cases c : x = 124 ∨ x = 38 ∨ x = 60 ∨ x = 61 ∨ x = 62 ∨ x = 43 ∨ x = 45 ∨ x = 42 ∨ x = 47 ∨ x = 37
    · exact c
    · simp only [not_or] at c
      obtain ⟨c1, c2, c3, c4, c5, c6, c7, c8, c9, c10⟩ := c
      simp [c1, c2, c3, c4, c5, c6, c7, c8, c9, c10] at h
  refine ⟨?_, ?_, by omega⟩
  · unfold pOp at h ⊢
    rcases hx with rfl | rfl | rfl | rfl | rfl | rfl | rfl | rfl | rfl | rfl <;> (repeat' split) <;> first | omega | (simp_all)
  · unfold pOp
    rcases hx with rfl | rfl | rfl | rfl | rfl | rfl | rfl | rfl | rfl | rfl <;> (repeat' split) <;> first | omega | (simp_all)
theorem pNm_lt {x : Nat} (h : pNm x < 6) : x < 999 := by
  unfold pNm at h
  repeat' split at h
  all_goals omega
/-- what a reading gives: it goes on, its code is not longer, and is of one value -/
def pG (n b a : Nat) (r : pR) : Prop := a ≤ r.2.1 ∧ r.2.1 ≤ n ∧ (r.1 = true → a < r.2.1 ∧ r.2.2.length ≤ r.2.1 - a ∧ jwf b r.2.2)
def pB (l o : Nat) : Nat := 1 + 5 * (6 - o) + (5 - l)
theorem pG_f {n b a e : Nat} {k : List Nat} (h1 : a ≤ e) (h2 : e ≤ n) : pG n b a (false, e, k) := ⟨h1, h2, fun t => Bool.noConfusion t⟩
theorem pG_t {n b a e : Nat} {k : List Nat} (h1 : a < e) (h2 : e ≤ n) (h3 : k.length ≤ e - a) (h4 : jwf b k) : pG n b a (true, e, k) := ⟨Nat.le_of_lt h1, h2, fun _ => ⟨h1, h3, h4⟩⟩
theorem pG_x {n b a e : Nat} {k : List Nat} {t : Bool} (h1 : a < e) (h2 : e ≤ n) (h3 : t = true → k.length ≤ e - a ∧ jwf b k) : pG n b a (t, e, k) := ⟨Nat.le_of_lt h1, h2, fun q => ⟨h1, h3 q⟩⟩
theorem pJr_ok {c : Nat → Nat} {n l b a0 : Nat} {nx : Nat → pR} (hc : ∀ a, n ≤ a → c a = 999) (hx : ∀ a, a ≤ n → pG n b a (nx a)) : ∀ (q a : Nat) (k : List Nat), a0 < a → a ≤ n → k.length ≤ a - a0 → jwf (b + 1) k → pG n (b + 1) a0 (pJr c l nx q a k)
  | 0, a, k, h0, ha, hk, hw => ⟨by show a0 ≤ a; omega, ha, fun _ => ⟨h0, hk, hw⟩⟩
  | q + 1, a, k, h0, ha, hk, hw => by
    rw [pJr]
    split
    · exact ⟨by show a0 ≤ a; omega, ha, fun _ => ⟨h0, hk, hw⟩⟩
    · next c0 =>
      obtain ⟨o1, o2, o3⟩ := pOp_ok c0
      have ha2 : a + 1 ≤ n := by
        by_cases q : a = n
        · rw [hc a (by omega)] at o3; omega
        · omega
      obtain ⟨x1, x2, x3⟩ := hx (a + 1) ha2
      split
      · next t =>
        obtain ⟨y1, y2, y3⟩ := x3 t
        exact pJr_ok hc hx q _ _ (by omega) x2 (by simp; omega) (jwf_2 hw y3 (by omega) o1 o2)
      · exact pG_f (by omega) x2
theorem pJ_ok {c : Nat → Nat} {n : Nat} (hc : ∀ a, n ≤ a → c a = 999) : ∀ (m l o a : Nat), l ≤ 5 → a ≤ n → pG n (pB l o) a (pJ c m l o a)
  | 0, l, o, a, _, ha => pG_f (Nat.le_refl _) ha
  | m + 1, l, o, a, hl, ha => by
    rw [pJ]
    split
    · next hl5 =>
      obtain ⟨x1, x2, x3⟩ := pJ_ok hc m (l + 1) o a (by omega) ha
      split
      · next t =>
        obtain ⟨y1, y2, y3⟩ := x3 t
        have := pJr_ok (l := l) (a0 := a) hc (fun b hb => pJ_ok hc m (l + 1) o b (by omega) hb) (if l = 2 then 1 else 120) _ _ y1 x2 y2 (y3.up (by omega))
        rw [show pB (l + 1) o + 1 = pB l o by unfold pB; omega] at this
        exact this
      · exact pG_f x1 x2
    · have ha1 : ∀ v, c a = v → v < 999 → a + 1 ≤ n := by
        intro v hv hv9
        by_cases q : a = n
        · rw [hc a (by omega)] at hv; omega
        · omega
      have hb1 : 1 ≤ pB l o := by unfold pB; omega
      split
      · next hd =>
        have p1 := pNu_ok hc 4 a 0 0 ha (by decide)
        have p2 := pNu_lt (k := 3) (v := 0) hc hd ha
        have p2 : a < (pNu c 4 a 0).2 := p2
        exact pG_t p2 p1.2.1 (by simp; omega) ((jwf_1 (Or.inr (by omega)) (by have := p1.2.2; omega)).up hb1)
      · split
        · next hn =>
          have := ha1 _ rfl (pNm_lt hn)
          exact pG_t (by omega) this (by simp) ((jwf_1 (Or.inl hn) (by omega)).up hb1)
        · split
          · exact pG_f (Nat.le_refl _) ha
          · next ho =>
            have hb5 : pB 5 (o + 1) ≤ pB l o := by unfold pB; omega
            have hb0 : pB 0 (o + 1) ≤ pB l o := by unfold pB; omega
            split
            · next h40 =>
              have a1 := ha1 _ h40 (by decide)
              obtain ⟨x1, x2, x3⟩ := pJ_ok hc m 0 (o + 1) (a + 1) (by omega) a1
              split
              · next t =>
                obtain ⟨y1, y2, y3⟩ := x3 t
                split
                · next h41 =>
                  have a2 : (pJ c m 0 (o + 1) (a + 1)).2.1 + 1 ≤ n := by
                    by_cases q : (pJ c m 0 (o + 1) (a + 1)).2.1 = n
                    · rw [hc _ (by omega)] at h41; omega
                    · omega
                  exact pG_t (by omega) a2 (by omega) (y3.up hb0)
                · exact pG_f (by omega) x2
              · exact pG_f (by omega) x2
            · split
              · next h33 =>
                have a1 := ha1 _ h33 (by decide)
                obtain ⟨x1, x2, x3⟩ := pJ_ok hc m 5 (o + 1) (a + 1) (by omega) a1
                exact pG_x (by omega) x2 (fun t => ⟨by have := (x3 t).2.1; have := (x3 t).1; simp; omega, jwf_3 ((x3 t).2.2.up hb5) (Or.inl rfl)⟩)
              · split
                · next h45 =>
                  have a1 := ha1 _ h45 (by decide)
                  obtain ⟨x1, x2, x3⟩ := pJ_ok hc m 5 (o + 1) (a + 1) (by omega) a1
                  exact pG_x (by omega) x2 (fun t => ⟨by have := (x3 t).2.1; have := (x3 t).1; simp; omega, jwf_3 ((x3 t).2.2.up hb5) (Or.inr rfl)⟩)
                · exact pG_f (Nat.le_refl _) ha
theorem jwf_ne {b : Nat} {c : List Nat} (h : jwf b c) : ¬ c = [] := by
  intro q
  subst q
  have := h 0 b (by omega)
  simp [jhk] at this
/-- a line that is so -/
theorem pLn_ok {c : Nat → Nat} {n a : Nat} (hc : ∀ a, n ≤ a → c a = 999) (ha : a ≤ n) : a ≤ (pLn c a).2.1 ∧ (pLn c a).2.1 ≤ n ∧ ((pLn c a).1 = true → a < (pLn c a).2.1 ∧ jwl (pLn c a).2.2 ∧ (((pLn c a).2.2.1 = [] ∧ (pLn c a).2.2.2.length ≤ (pLn c a).2.1 - a) ∨ (¬ (pLn c a).2.2.1 = [] ∧ (pLn c a).2.2.1.length + (pLn c a).2.2.2.length + 1 ≤ (pLn c a).2.1 - a ∧ a + 3 ≤ (pLn c a).2.1))) := by
  obtain ⟨x1, x2, x3⟩ := pJ_ok hc 48 0 0 a (by decide) ha
  unfold pLn
  split
  · next t =>
    obtain ⟨y1, y2, y3⟩ := x3 t
    split
    · next h63 =>
      have a2 : (pJ c 48 0 0 a).2.1 + 1 ≤ n := by
        by_cases q : (pJ c 48 0 0 a).2.1 = n
        · rw [hc _ (by omega)] at h63; omega
        · omega
      obtain ⟨z1, z2, z3⟩ := pJ_ok hc 48 0 0 _ (by decide) a2
      refine ⟨Nat.le_trans (Nat.le_of_lt y1) (Nat.le_trans (Nat.le_succ _) z1), z2, fun t2 => ?_⟩
      obtain ⟨w1, w2, w3⟩ := z3 t2
      refine ⟨Nat.lt_trans y1 (Nat.lt_trans (Nat.lt_succ_self _) w1), ⟨Or.inr (y3.up (by decide)), w3.up (by decide)⟩, Or.inr ⟨jwf_ne y3, ?_, ?_⟩⟩
      · simp only; omega
      · simp only; omega
    · exact ⟨x1, x2, fun _ => ⟨y1, ⟨Or.inl rfl, y3.up (by decide)⟩, Or.inl ⟨rfl, y2⟩⟩⟩
  · exact ⟨x1, x2, fun t => Bool.noConfusion t⟩
