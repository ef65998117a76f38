/-! SHAPES: the list of places, the reference's ways -/
theorem fm_flat {α β γ : Type} (f : α → List β) (g : β → Option γ) : ∀ l : List α, (l.flatMap f).filterMap g = l.flatMap (fun a => (f a).filterMap g)
  | [] => rfl
  | a :: l => by simp only [List.flatMap_cons, List.filterMap_append, fm_flat f g l]
theorem rngF {β : Type} (h : Nat → β) (r : Nat) (hr : r ≤ 4) : (List.range 5).filterMap (fun d => if d ≤ r then some (h d) else none) = (List.range (r + 1)).map h := by
  have : r = 0 ∨ r = 1 ∨ r = 2 ∨ r = 3 ∨ r = 4 := by omega
  rcases this with rfl | rfl | rfl | rfl | rfl <;> rfl
theorem rngM {β : Type} (L : Nat → List β) (r : Nat) (hr : r ≤ 4) : (List.range 5).flatMap (fun d => if d ≤ r then L d else []) = (List.range (r + 1)).flatMap L := by
  have : r = 0 ∨ r = 1 ∨ r = 2 ∨ r = 3 ∨ r = 4 := by omega
  rcases this with rfl | rfl | rfl | rfl | rfl <;> simp [List.range, List.range.loop]
/-- the number of a way -/
def jwn (t dy dx : Nat) : Int32 := 100 * nI t + 10 * nI dy + nI dx
/-- the reference's c-th way: what it gives, its number -/
def jG (s : Int32) (c : Nat) : Option (Int32 × Int32) := if jmv (jturn s (c / 25)) (c % 5) (c / 5 % 5) = 0 then none else some (jmv (jturn s (c / 25)) (c % 5) (c / 5 % 5), jwn (c / 25) (c / 5 % 5) (c % 5))
theorem rng100 : List.range 100 = (List.range 4).flatMap (fun t => (List.range 5).flatMap (fun dy => (List.range 5).map (fun dx => 25 * t + 5 * dy + dx))) := by decide +kernel
theorem fm_map {α β γ : Type} (f : α → β) (g : β → Option γ) (l : List α) : (l.map f).filterMap g = l.filterMap (fun a => g (f a)) := by
  induction l with
  | nil => rfl
  | cons a l ih => simp only [List.map_cons, List.filterMap_cons, ih]
theorem fm_cong {α β : Type} {f g : α → Option β} : ∀ l : List α, (∀ a ∈ l, f a = g a) → l.filterMap f = l.filterMap g
  | [], _ => rfl
  | a :: l, h => by simp only [List.filterMap_cons, h a List.mem_cons_self, fm_cong l (fun b hb => h b (List.mem_cons_of_mem _ hb))]
theorem fl_cong {α β : Type} {f g : α → List β} : ∀ l : List α, (∀ a ∈ l, f a = g a) → l.flatMap f = l.flatMap g
  | [], _ => rfl
  | a :: l, h => by simp only [List.flatMap_cons, h a List.mem_cons_self, fl_cong l (fun b hb => h b (List.mem_cons_of_mem _ hb))]
theorem jpl_G {s : Int32} (h : Sq s) (hn : Ne s) : (List.range 100).filterMap (jG s) = jpl s 4 := by
  rw [rng100, fm_flat]
  unfold jpl
  refine fl_cong _ (fun t ht => ?_)
  have ht4 : t < 4 := List.mem_range.mp ht
  have hS := jturn_SN h hn t
  have hC := jturn_Cn h hn t
  rw [fm_flat]
  unfold jtrn jrow
  rw [← rngM (fun dy => (List.range (jr (jturn s t) + 1)).map (jit (jturn s t) t dy)) (jdn (jturn s t)) (jdn_le _)]
  refine fl_cong _ (fun dy hdy => ?_)
  have hdy5 : dy < 5 := List.mem_range.mp hdy
  rw [fm_map]
  by_cases c : dy ≤ jdn (jturn s t)
  · rw [if_pos c, ← rngF (jit (jturn s t) t dy) (jr (jturn s t)) (jr_le _)]
    refine fm_cong _ (fun dx hdx => ?_)
    have hdx5 : dx < 5 := List.mem_range.mp hdx
    unfold jG
    rw [show (25 * t + 5 * dy + dx) / 25 = t by omega, show (25 * t + 5 * dy + dx) % 5 = dx by omega, show (25 * t + 5 * dy + dx) / 5 % 5 = dy by omega]
    have ej := jmv_eq hS.1 hC (show dx ≤ 4 by omega) (show dy ≤ 4 by omega)
    by_cases c2 : dx ≤ jr (jturn s t)
    · rw [if_pos ⟨c2, c⟩] at ej
      rw [ej, if_pos c2, if_neg (jsh5_ne0 hS.1 hS.2 (by omega) (by omega) ((fits_iff hC (by omega) (by omega)).mpr ⟨c2, c⟩))]
      rfl
    · rw [if_neg (fun q => c2 q.1)] at ej
      rw [ej, if_neg c2, if_pos rfl]
  · rw [if_neg c]
    have : ∀ dx ∈ List.range 5, jG s (25 * t + 5 * dy + dx) = none := fun dx hdx => by
      have hdx5 : dx < 5 := List.mem_range.mp hdx
      unfold jG
      have ej := jmv_eq hS.1 hC (show dx ≤ 4 by omega) (show dy ≤ 4 by omega)
      rw [if_neg (fun q => c q.2)] at ej
      rw [show (25 * t + 5 * dy + dx) / 25 = t by omega, show (25 * t + 5 * dy + dx) % 5 = dx by omega, show (25 * t + 5 * dy + dx) / 5 % 5 = dy by omega, ej, if_pos rfl]
    rw [fm_cong _ this]
    rfl
/-- the first way of a list within x -/
def fsL (x : Int32) : List (Int32 × Int32) → Int32
  | [] => -2
  | q :: r => if q.1 &&& (x ^^^ (-1)) = 0 then q.2 else fsL x r
def ctL (x : Int32) : Int32 → List (Int32 × Int32) → Int32
  | k, [] => k
  | k, q :: r => ctL x (if q.1 &&& (x ^^^ (-1)) = 0 then k + 1 else k) r
/-- the reference's 'waysIn': m more from c on, k found -/
def wyR (s x w : Int32) : Nat → Nat → Int32 → Int32
  | 0, _, k => if w = 1 then -2 else k
  | m + 1, c, k => if jmv (jturn s (c / 25)) (c % 5) (c / 5 % 5) = 0 ∨ ¬ jmv (jturn s (c / 25)) (c % 5) (c / 5 % 5) &&& (x ^^^ (-1)) = 0 then wyR s x w m (c + 1) k
    else if w = 1 then jwn (c / 25) (c / 5 % 5) (c % 5) else wyR s x w m (c + 1) (k + 1)
theorem wyR_eq (s x w : Int32) : ∀ (m c : Nat) (k : Int32), wyR s x w m c k = if w = 1 then fsL x ((List.range' c m).filterMap (jG s)) else ctL x k ((List.range' c m).filterMap (jG s))
  | 0, c, k => rfl
  | m + 1, c, k => by
    rw [wyR, wyR_eq s x w m (c + 1), wyR_eq s x w m (c + 1), List.range'_succ, List.filterMap_cons]
    unfold jG
    by_cases c1 : jmv (jturn s (c / 25)) (c % 5) (c / 5 % 5) = 0
    · rw [if_pos (Or.inl c1), if_pos c1]
    · rw [if_neg c1]
      by_cases c2 : jmv (jturn s (c / 25)) (c % 5) (c / 5 % 5) &&& (x ^^^ (-1)) = 0
      · rw [if_neg (fun q => q.elim c1 (fun q => q c2))]
        by_cases c3 : w = 1
        · rw [if_pos c3, if_pos c3]
          exact (if_pos c2).symm
        · rw [if_neg c3, if_neg c3, if_neg c3, ctL, if_pos c2]
      · rw [if_pos (Or.inr c2)]
        by_cases c3 : w = 1
        · rw [if_pos c3, if_pos c3]
          exact (if_neg c2).symm
        · rw [if_neg c3, if_neg c3, ctL, if_neg c2]
theorem jfirst_fs (x : Int32) (l : List (Int32 × Int32)) (hl : l.length ≤ 1000) : ∀ (k j : Nat), j + k = l.length → (if jfirst (fun i => (l.getD i (0, 0)).1) x k j = -2 then -2 else (l.getD (jfirst (fun i => (l.getD i (0, 0)).1) x k j).toNatClampNeg (0, 0)).2) = fsL x (l.drop j)
  | 0, j, h => by
    rw [List.drop_eq_nil_of_le (by omega)]
    rfl
  | k + 1, j, h => by
    have hj : j < l.length := by omega
    rw [List.drop_eq_getElem_cons hj, fsL, jfirst]
    have e : l.getD j (0, 0) = l[j] := by simp [hj]
    simp only [e]
    by_cases c : l[j].1 &&& (x ^^^ (-1)) = 0
    · rw [if_pos c, if_neg (rE_ne j (by omega)), if_pos c, nI_clamp (by omega), e]
    · rw [if_neg c, if_neg c]
      exact jfirst_fs x l hl k (j + 1) (by omega)
theorem ctL_app (x : Int32) : ∀ (l r : List (Int32 × Int32)) (k : Int32), ctL x k (l ++ r) = ctL x (ctL x k l) r
  | [], _, _ => rfl
  | q :: l, r, k => ctL_app x l r _
theorem jcnt_ct (x : Int32) (l : List (Int32 × Int32)) : ∀ k, k ≤ l.length → jcnt (fun i => (l.getD i (0, 0)).1) x k = ctL x 0 (l.take k)
  | 0, _ => rfl
  | k + 1, h => by
    have hk : k < l.length := by omega
    rw [jcnt, List.take_succ_eq_append_getElem hk, ctL_app, ← jcnt_ct x l k (by omega)]
    have e : l.getD k (0, 0) = l[k] := by simp [hk]
    simp only [e]
    rfl
/-- the reference's ways are the class's -/
theorem wyR_1 {s : Int32} (h : Sq s) (hn : Ne s) (x : Int32) : wyR s x 1 100 0 0 = jwy s x 1 := by
  rw [wyR_eq, if_pos rfl, ← List.range_eq_range', jpl_G h hn]
  have := jfirst_fs x (jpl s 4) (Nat.le_trans (jn_le s) (by decide)) (jn s) 0 (Nat.zero_add _)
  rw [List.drop_zero] at this
  rw [← this]
  rfl
theorem wyR_0 {s : Int32} (h : Sq s) (hn : Ne s) (x w : Int32) (hw : ¬ w = 1) : wyR s x w 100 0 0 = jwy s x 0 := by
  rw [wyR_eq, if_neg hw, ← List.range_eq_range', jpl_G h hn]
  have := jcnt_ct x (jpl s 4) (jn s) (Nat.le_refl _)
  rw [show (jpl s 4).take (jn s) = jpl s 4 from List.take_length] at this
  rw [← this]
  rfl
/-- the places -/
theorem jP_mem {s : Int32} {v : Int32} : (∃ j, j < jn s ∧ jP s j = v) ↔ ∃ t dy dx, t < 4 ∧ dy ≤ jdn (jturn s t) ∧ dx ≤ jr (jturn s t) ∧ jsh5 (jturn s t) dx dy = v := by
  constructor
  · rintro ⟨j, hj, e⟩
    have hm : (jpl s 4).getD j (0, 0) ∈ jpl s 4 := by
      have hj' : j < (jpl s 4).length := hj
      rw [show (jpl s 4).getD j (0, 0) = (jpl s 4)[j] by simp [hj']]
      exact List.getElem_mem hj'
    obtain ⟨q, hq⟩ : ∃ q, q = (jpl s 4).getD j (0, 0) := ⟨_, rfl⟩
    rw [← hq] at hm
    have e2 : q.1 = v := by rw [hq]; exact e
    obtain ⟨t, ht, h2⟩ := List.mem_flatMap.mp hm
    obtain ⟨dy, hdy, h3⟩ := List.mem_flatMap.mp h2
    obtain ⟨dx, hdx, h4⟩ := List.mem_map.mp h3
    refine ⟨t, dy, dx, List.mem_range.mp ht, Nat.le_of_lt_succ (List.mem_range.mp hdy), Nat.le_of_lt_succ (List.mem_range.mp hdx), ?_⟩
    rw [← e2, ← h4]
    rfl
  · rintro ⟨t, dy, dx, h1, h2, h3, e⟩
    have hm : jit (jturn s t) t dy dx ∈ jpl s 4 := List.mem_flatMap.mpr ⟨t, List.mem_range.mpr h1, List.mem_flatMap.mpr ⟨dy, List.mem_range.mpr (Nat.lt_succ_of_le h2), List.mem_map.mpr ⟨dx, List.mem_range.mpr (Nat.lt_succ_of_le h3), rfl⟩⟩⟩
    obtain ⟨j, hj, e2⟩ := List.getElem_of_mem hm
    refine ⟨j, hj, ?_⟩
    unfold jP
    rw [show (jpl s 4).getD j (0, 0) = (jpl s 4)[j] by simp [hj], e2]
    exact e
theorem jP_ok {s : Int32} (h : Sq s) (hn : Ne s) {j : Nat} (hj : j < jn s) : Sq (jP s j) ∧ Ne (jP s j) ∧ pct (jP s j) = pct s := by
  obtain ⟨t, dy, dx, h1, h2, h3, e⟩ := jP_mem.mp ⟨j, hj, rfl⟩
  have hS := jturn_SN h hn t
  have hC := jturn_Cn h hn t
  have d1 := jdn_le (jturn s t)
  have d2 := jr_le (jturn s t)
  have hf := (fits_iff hC (show dx ≤ 4 by omega) (show dy ≤ 4 by omega)).mpr ⟨h3, h2⟩
  rw [← e]
  exact ⟨jsh5_Sq hS.1 (by omega) (by omega) hf, jsh5_Ne hS.1 hS.2 (by omega) (by omega) hf, (pct_jsh5 hS.1 (by omega) (by omega) hf).trans (pct_jturn h hn t)⟩
theorem jfp_no {s x : Int32} : jfp s x = -2 ↔ ∀ j, j < jn s → ¬ jP s j &&& (x ^^^ (-1)) = 0 := by
  constructor
  · intro h j hj
    have key : ∀ (k i : Nat), jfirst (jP s) x k i = -2 → (∀ l, i ≤ l → l < i + k → ¬ jP s l &&& (x ^^^ (-1)) = 0) ∨ ¬ (i + k < 1000) := by
      intro k
      induction k with
      | zero => intro i _; exact Or.inl (fun l h1 h2 => absurd h2 (by omega))
      | succ k ih =>
        intro i e
        by_cases hb : i + (k + 1) < 1000
        · rw [jfirst] at e
          split at e
          · exact absurd e (rE_ne i (by omega))
          · next c =>
            rcases ih (i + 1) e with q | q
            · left
              intro l h1 h2
              by_cases cl : l = i
              · rw [cl]; exact c
              · exact q l (by omega) (by omega)
            · omega
        · exact Or.inr hb
    rcases key (jn s) 0 h with q | q
    · exact q j (Nat.zero_le _) (by omega)
    · have := jn_le s; omega
  · intro h
    rcases jfirst_in (p := jP s) (x := x) (jn s) 0 with q | ⟨i, h1, h2, h3, h4, h5⟩
    · exact q
    · exact absurd h4 (h i (by omega))
