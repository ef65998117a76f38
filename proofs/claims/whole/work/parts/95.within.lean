/-! GEOMETRY: what can be cut out of what can be cut out -/
def Pl (s v : Int32) : Prop := ∃ j, j < jn s ∧ jP s j = v
theorem Tr_0 {u v : Int32} (h : Tr u v 0 0) (su : Sq u) (sv : Sq v) : u = v := by
  refine b_ext (fun i hi => ?_)
  by_cases c : i < 25
  · have e := h (i % 5 : Nat) (i / 5 : Nat)
    rw [Int.add_zero, Int.add_zero, ce_n (by omega) (by omega), ce_n (by omega) (by omega)] at e
    unfold cl at e
    rw [show 5 * (i / 5) + i % 5 = i by omega] at e
    exact Bool.eq_iff_iff.mpr e
  · rw [su i (by omega), sv i (by omega)]
theorem Tr_jsh5 {s : Int32} (h : Sq s) {dx dy : Nat} (hx : dx ≤ 4) (hy : dy ≤ 4) (hf : fitsIn s dx dy) : Tr s (jsh5 s dx dy) dx dy := fun x y => by
  constructor
  · rintro ⟨x0, x5, y0, y5, c⟩
    have := hf x.toNat y.toNat (by omega) (by omega) c
    refine ⟨by omega, by omega, by omega, by omega, (jsh5_cl h hx hy hf (by omega) (by omega)).mpr ⟨by omega, by omega, ?_⟩⟩
    rw [show (x + (dx : Int)).toNat - dx = x.toNat by omega, show (y + (dy : Int)).toNat - dy = y.toNat by omega]
    exact c
  · rintro ⟨x0, x5, y0, y5, c⟩
    obtain ⟨h1, h2, h3⟩ := (jsh5_cl h hx hy hf (by omega) (by omega)).mp c
    rw [show (x + (dx : Int)).toNat - dx = x.toNat by omega, show (y + (dy : Int)).toNat - dy = y.toNat by omega] at h3
    exact ⟨by omega, by omega, by omega, by omega, h3⟩
theorem Tr_rot4 (s : Int32) (r : Nat) : Tr (jrot s (r + 4)) (jrot s r) 0 0 := fun x y => by
  show ce (jto (jto (jto (jto (jrot s r) 5) 5) 5) 5) x y ↔ _
  rw [ce_jto, ce_jto, ce_jto, ce_jto, show 4 - (4 - x) = x + 0 by omega, show 4 - (4 - y) = y + 0 by omega]
theorem rot_lt (s v : Int32) : ∀ (m r : Nat), r < m → (∃ p q, Tr (jrot s r) v p q) → ∃ r2, r2 < 4 ∧ ∃ p q, Tr (jrot s r2) v p q
  | 0, _, h, _ => absurd h (Nat.not_lt_zero _)
  | m + 1, r, h, ⟨p, q, e⟩ => by
    by_cases c : r < 4
    · exact ⟨r, c, p, q, e⟩
    · obtain ⟨r3, rfl⟩ : ∃ r3, r = r3 + 4 := ⟨r - 4, by omega⟩
      exact rot_lt s v m r3 (by omega) ⟨_, _, (Tr_rot4 s r3).symm.trans e⟩
theorem Pl_iff {s v : Int32} (h : Sq s) (hn : Ne s) : Pl s v ↔ Sq v ∧ ∃ r p q, Tr (jrot s r) v p q := by
  constructor
  · intro hp
    obtain ⟨t, dy, dx, h1, h2, h3, e⟩ := jP_mem.mp hp
    obtain ⟨j, j1, j2⟩ := hp
    have hS := jturn_SN h hn t
    have hC := jturn_Cn h hn t
    have d1 := jdn_le (jturn s t)
    have d2 := jr_le (jturn s t)
    have hf := (fits_iff hC (show dx ≤ 4 by omega) (show dy ≤ 4 by omega)).mpr ⟨h3, h2⟩
    refine ⟨by rw [← j2]; exact (jP_ok h hn j1).1, ?_⟩
    obtain ⟨p, q, e2⟩ := Tr_jcor (jrot_SN h hn t).1 (jrot_SN h hn t).2
    have e3 := Tr_jsh5 hS.1 (by omega) (by omega) hf
    rw [e] at e3
    exact ⟨t, _, _, e2.symm.trans e3⟩
  · rintro ⟨sv, r, p, q, e⟩
    obtain ⟨t, ht, p, q, e⟩ := rot_lt s v (r + 1) r (by omega) ⟨p, q, e⟩
    obtain ⟨p2, q2, e2⟩ := Tr_jcor (jrot_SN h hn t).1 (jrot_SN h hn t).2
    have hS := jturn_SN h hn t
    have hC := jturn_Cn h hn t
    obtain ⟨P, hP⟩ : ∃ P, P = p2 + p := ⟨_, rfl⟩
    obtain ⟨Q, hQ⟩ : ∃ Q, Q = q2 + q := ⟨_, rfl⟩
    have e3 : Tr (jturn s t) v P Q := by rw [hP, hQ]; exact e2.trans e
    obtain ⟨⟨x1, x5, c1⟩, y1, y5, c2⟩ := hC
    have a1 := (e3 _ _).mp ((ce_n (y := 0) x5 (by decide)).mpr c1)
    have a2 := (e3 _ _).mp ((ce_n (x := 0) (by decide) y5).mpr c2)
    have b1 := a1.2.2.1
    have b2 := a1.2.2.2.1
    have b3 := a2.1
    have b4 := a2.2.1
    have hf : fitsIn (jturn s t) P.toNat Q.toNat := fun x y hx hy c => by
      have a3 := (e3 _ _).mp ((ce_n hx hy).mpr c)
      have k1 := a3.2.1
      have k2 := a3.2.2.2.1
      omega
    have e4 := Tr_jsh5 hS.1 (show P.toNat ≤ 4 by omega) (show Q.toNat ≤ 4 by omega) hf
    have e5 := e4.symm.trans e3
    rw [show -(P.toNat : Int) + P = 0 by omega, show -(Q.toNat : Int) + Q = 0 by omega] at e5
    have hfi := (fits_iff (jturn_Cn h hn t) (show P.toNat ≤ 4 by omega) (show Q.toNat ≤ 4 by omega)).mp hf
    exact jP_mem.mpr ⟨t, Q.toNat, P.toNat, ht, hfi.2, hfi.1, Tr_0 e5 (jsh5_Sq hS.1 (by omega) (by omega) hf) sv⟩
theorem wth {s x : Int32} : s &&& (x ^^^ (-1)) = 0 ↔ ∀ i, i < 32 → bt s i = true → bt x i = true := by
  constructor
  · intro h i hi hb
    have e : bt (s &&& (x ^^^ (-1))) i = false := by rw [h, b_0]
    rw [b_and, hb, bt_not x hi, Bool.true_and] at e
    cases c : bt x i with
    | true => rfl
    | false => rw [c] at e; cases e
  · intro h
    refine b_ext (fun i hi => ?_)
    rw [b_and, bt_not x hi, b_0]
    cases c : bt s i with
    | false => rfl
    | true => rw [h i hi c]; rfl
theorem jct_iff {s x : Int32} : ¬ jct s x = 0 ↔ pct s < pct x ∧ ∃ v, Pl s v ∧ ∀ i, i < 32 → bt v i = true → bt x i = true := by
  unfold jct jcan
  have e : jfirst (jP s) x (jn s) 0 = jfp s x := rfl
  rw [e]
  have key : ¬ jfp s x = -2 ↔ ∃ v, Pl s v ∧ ∀ i, i < 32 → bt v i = true → bt x i = true := by
    rw [jfp_no]
    constructor
    · intro h
      refine Classical.byContradiction (fun hno => h (fun j hj q => hno ⟨jP s j, ⟨j, hj, rfl⟩, wth.mp q⟩))
    · rintro ⟨v, ⟨j, hj, rfl⟩, h⟩ q
      exact q j hj (wth.mpr h)
  rw [← key, ← jpc_lt]
  by_cases c : jpc s < jpc x ∧ ¬ jfp s x = -2
  · rw [if_pos c]; exact ⟨fun _ => c, fun _ => by decide⟩
  · rw [if_neg c]; exact ⟨fun q => absurd rfl q, fun q => absurd q c⟩
theorem Tr_jrot {u v : Int32} : ∀ (k : Nat) {p q : Int}, Tr u v p q → ∃ p2 q2, Tr (jrot u k) (jrot v k) p2 q2
  | 0, p, q, h => ⟨p, q, h⟩
  | k + 1, p, q, h => by
    obtain ⟨p2, q2, h2⟩ := Tr_jrot k h
    exact ⟨_, _, Tr_jto h2⟩
theorem jrot_add (s : Int32) (r : Nat) : ∀ k, jrot (jrot s r) k = jrot s (r + k)
  | 0 => rfl
  | k + 1 => by
    show jto (jrot (jrot s r) k) 5 = jto (jrot s (r + k)) 5
    rw [jrot_add s r k]
theorem ce_rot {u v : Int32} (h : ∀ x y, ce u x y → ce v x y) : ∀ k x y, ce (jrot u k) x y → ce (jrot v k) x y
  | 0, x, y, c => h x y c
  | k + 1, x, y, c => (ce_jto _ x y).mpr (ce_rot h k _ _ ((ce_jto _ x y).mp c))
theorem ce_bt {u : Int32} {i : Nat} (hi : i < 25) : ce u (i % 5 : Nat) (i / 5 : Nat) ↔ bt u i = true := by
  rw [ce_n (by omega) (by omega)]
  unfold cl
  rw [show 5 * (i / 5) + i % 5 = i by omega]
theorem ce_at {u : Int32} {x y : Int} (h : ce u x y) : ∃ i : Nat, i < 25 ∧ x = (i % 5 : Nat) ∧ y = (i / 5 : Nat) := by
  obtain ⟨h1, h2, h3, h4, _⟩ := h
  refine ⟨5 * y.toNat + x.toNat, by omega, ?_, ?_⟩ <;> omega
theorem jct_tr {s t x : Int32} (hs : Sq s) (ns : Ne s) (ht : Sq t) (nt : Ne t) (h1 : ¬ jct s t = 0) (h2 : ¬ jct t x = 0) : ¬ jct s x = 0 := by
  obtain ⟨a1, v, a2, a3⟩ := jct_iff.mp h1
  obtain ⟨b1, w, b2, b3⟩ := jct_iff.mp h2
  obtain ⟨sv, r, p, q, ev⟩ := (Pl_iff hs ns).mp a2
  obtain ⟨sw, r2, p2, q2, ew⟩ := (Pl_iff ht nt).mp b2
  have hvt : ∀ x y, ce v x y → ce t x y := fun x y c => by
    obtain ⟨i, hi, rfl, rfl⟩ := ce_at c
    exact (ce_bt hi).mpr (a3 i (by omega) ((ce_bt hi).mp c))
  obtain ⟨u, hu⟩ : ∃ u : Int32, u = jbs (fun i => @ite Int32 (ce (jrot v r2) ((i % 5 : Nat) - p2) ((i / 5 : Nat) - q2)) (Classical.propDecidable _) 1 0) 25 := ⟨_, rfl⟩
  have ub : ∀ i, i < 32 → (bt u i = true ↔ i < 25 ∧ ce (jrot v r2) ((i % 5 : Nat) - p2) ((i / 5 : Nat) - q2)) := fun i hi => by
    rw [hu, bt_jbs _ 25 i (by decide) hi]
    constructor
    · intro c
      obtain ⟨c1, c2⟩ := of_decide_eq_true c
      refine ⟨c1, Classical.byContradiction (fun hno => c2 (if_neg hno))⟩
    · rintro ⟨c1, c2⟩
      exact decide_eq_true ⟨c1, by rw [if_pos c2]; decide⟩
  have su : Sq u := fun i hi => by
    by_cases c : i < 32
    · cases e : bt u i with
      | false => rfl
      | true => exact absurd ((ub i c).mp e).1 (by omega)
    · exact b_big (by omega)
  have uw : ∀ i, i < 25 → ce (jrot v r2) ((i % 5 : Nat) - p2) ((i / 5 : Nat) - q2) → bt w i = true := fun i hi c => by
    have := (ew _ _).mp (ce_rot hvt r2 _ _ c)
    rw [show ((i % 5 : Nat) : Int) - p2 + p2 = (i % 5 : Nat) by omega, show ((i / 5 : Nat) : Int) - q2 + q2 = (i / 5 : Nat) by omega] at this
    exact (ce_bt hi).mp this
  have eu : Tr (jrot v r2) u p2 q2 := fun x y => by
    constructor
    · intro c
      have cw := (ew _ _).mp (ce_rot hvt r2 _ _ c)
      obtain ⟨i, hi, e1, e2⟩ := ce_at cw
      rw [e1, e2]
      refine (ce_bt hi).mpr ((ub i (by omega)).mpr ⟨hi, ?_⟩)
      rw [← e1, ← e2, show x + p2 - p2 = x by omega, show y + q2 - q2 = y by omega]
      exact c
    · intro c
      obtain ⟨i, hi, e1, e2⟩ := ce_at c
      rw [e1, e2] at c
      have := ((ub i (by omega)).mp ((ce_bt hi).mp c)).2
      rw [← e1, ← e2, show x + p2 - p2 = x by omega, show y + q2 - q2 = y by omega] at this
      exact this
  obtain ⟨p3, q3, e3⟩ := Tr_jrot r2 ev
  rw [jrot_add] at e3
  exact jct_iff.mpr ⟨by omega, u, (Pl_iff hs ns).mpr ⟨su, _, _, _, e3.trans eu⟩, fun i hi c => by
    obtain ⟨c1, c2⟩ := (ub i hi).mp c
    exact b3 i hi (uw i c1 c2)⟩
theorem jfo_bt {sh : Nat → Int32} {n : Nat} {x : Int32} (hn : n ≤ 10) {j : Nat} (hj : j < n) : bt (jfo sh n x) j = true ↔ ¬ jct (sh j) x = 0 := by
  unfold jfo
  rw [bt_jbs _ n j (by omega) (by omega)]
  exact ⟨fun h => (of_decide_eq_true h).2, fun h => decide_eq_true ⟨hj, h⟩⟩
theorem jfo_tr {sh : Nat → Int32} {n : Nat} {x : Int32} (hn : n ≤ 10) (hsh : ∀ i, i < n → shp (sh i)) {a b : Nat} (ha : a < n) (hb : b < n) (h1 : bt (jfo sh n x) a = true) (h2 : bt (BB sh n a) b = true) : bt (jfo sh n x) b = true := by
  rw [jfo_bt hn hb]
  have A := shp_Sq (hsh a ha)
  have C := shp_Sq (hsh b hb)
  exact jct_tr C.1 C.2 A.1 A.2 ((jfo_bt hn hb).mp h2) ((jfo_bt hn ha).mp h1)
