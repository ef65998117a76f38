/-! CONSTRUCTORS: n cells are made, the references P are wanting -/
def rP (P : List (Nat × Nat)) : Nat → Nat → Option Nat := fun a k => if (a, k) ∈ P then none else rf0 false a k
def TT (n : Nat) (f : Nat → Nat → Int32) (g : Nat → Nat → Int64) (P : List (Nat × Nat)) : mM := (n, kd0, ln0, f, g, rP P)
theorem u1_same {α : Type} {f : Nat → Nat → α} {a : Nat} {q : Nat → α} (h : f a = q) : u1 f a q = f := by
  funext b
  unfold u1
  by_cases c : b = a
  · rw [if_pos c, c, h]
  · rw [if_neg c]
/-- those of object a, in the order in which they come -/
def own (a : Nat) (l : List Nat) : List (Nat × Nat) := l.map (fun k => (a, k))
def ordOk (a : Nat) (l : List Nat) : Prop := ∀ k, k ∉ l → rf0 false a k = none
theorem rf_50 : ∀ a k, 50 ≤ k → rf0 false a k = none := by
  intro a k hk
  unfold rf0
  rw [if_neg (by omega), if_neg (by omega)]
  have hall : ∀ q ∈ rfL, q.length ≤ 50 := by decide +kernel
  rw [List.getD_eq_getElem?_getD, List.getElem?_eq_none]
  · rfl
  · refine Nat.le_trans ?_ hk
    rw [List.getD_eq_getElem?_getD]
    cases h : rfL[a]? with
    | none => exact Nat.zero_le _
    | some q => exact hall q (List.mem_of_getElem? h)
theorem ord_of {a : Nat} {l : List Nat} (h : ∀ k, k < 50 → k ∉ l → rf0 false a k = none) : ordOk a l := fun k hk => by
  by_cases c : k < 50
  · exact h k c hk
  · exact rf_50 a k (by omega)
theorem rP_new {a : Nat} {l : List Nat} {P : List (Nat × Nat)} (h : ordOk a l) (hP : ∀ q ∈ P, q.1 < a) : u1 (rP P) a (fun _ => none) = rP (own a l ++ P) := by
  funext b k
  unfold u1 rP
  by_cases c : b = a
  · subst c
    rw [if_pos rfl]
    by_cases c2 : k ∈ l
    · rw [if_pos (show (b, k) ∈ own b l ++ P from List.mem_append_left _ (List.mem_map.mpr ⟨k, c2, rfl⟩))]
    · rw [h k c2]
      split <;> rfl
  · rw [if_neg c]
    have e : (b, k) ∈ own a l ++ P ↔ (b, k) ∈ P := by
      rw [List.mem_append]
      refine ⟨fun z => z.elim (fun z => ?_) id, Or.inr⟩
      obtain ⟨j, _, hj⟩ := List.mem_map.mp z
      exact absurd (congrArg Prod.fst hj).symm c
    by_cases c2 : (b, k) ∈ P
    · rw [if_pos c2, if_pos (e.mpr c2)]
    · rw [if_neg c2, if_neg (fun z => c2 (e.mp z))]
theorem rP_set {A B : List (Nat × Nat)} {a k x : Nat} (h : rf0 false a k = some x) (hA : (a, k) ∉ A) (hB : (a, k) ∉ B) : u2 (rP (A ++ (a, k) :: B)) a k (some x) = rP (A ++ B) := by
  funext b j
  unfold u2 rP
  by_cases c : b = a ∧ j = k
  · obtain ⟨rfl, rfl⟩ := c
    rw [if_pos rfl, if_pos rfl, if_neg (fun z => (List.mem_append.mp z).elim hA hB), h]
  · have e : (b, j) ∈ A ++ (a, k) :: B ↔ (b, j) ∈ A ++ B := by
      rw [List.mem_append, List.mem_append, List.mem_cons]
      constructor
      · rintro (z | z | z)
        · exact Or.inl z
        · exact absurd ⟨congrArg Prod.fst z, congrArg Prod.snd z⟩ c
        · exact Or.inr z
      · rintro (z | z)
        · exact Or.inl z
        · exact Or.inr (Or.inr z)
    have e2 : (if b = a then (if j = k then some x else (if (b, j) ∈ A ++ (a, k) :: B then none else rf0 false b j)) else (if (b, j) ∈ A ++ (a, k) :: B then none else rf0 false b j)) = (if (b, j) ∈ A ++ (a, k) :: B then none else rf0 false b j) := by
      by_cases c1 : b = a
      · rw [if_pos c1, if_neg (fun z => c ⟨c1, z⟩)]
      · rw [if_neg c1]
    rw [e2]
    by_cases c2 : (b, j) ∈ A ++ B
    · rw [if_pos c2, if_pos (e.mpr c2)]
    · rw [if_neg c2, if_neg (fun z => c2 (e.mp z))]
theorem nin_P {a k : Nat} {A P : List (Nat × Nat)} (hA : (a, k) ∉ A) (hP : ∀ q ∈ P, q.1 < a) : (a, k) ∉ A ++ P := fun z => (List.mem_append.mp z).elim hA (fun q => Nat.lt_irrefl _ (hP _ q))
theorem lt_P {a b : Nat} {A P : List (Nat × Nat)} (hA : ∀ q ∈ A, q.1 < b) (hP : ∀ q ∈ P, q.1 < a) (hab : a ≤ b) : ∀ q ∈ A ++ P, q.1 < b := fun q z => (List.mem_append.mp z).elim (hA q) (fun q2 => Nat.lt_of_lt_of_le (hP _ q2) hab)
/-- nothing is in the cells from n on -/
def zf (n : Nat) (f : Nat → Nat → Int32) (g : Nat → Nat → Int64) : Prop := ∀ b, n ≤ b → (f b = fun _ => 0) ∧ g b = fun _ => 0
theorem zf.up {n m : Nat} {f : Nat → Nat → Int32} {g : Nat → Nat → Int64} (h : zf n f g) (hm : n ≤ m) : zf m f g := fun b hb => h b (Nat.le_trans hm hb)
theorem TT_new {n k l : Nat} {f : Nat → Nat → Int32} {g : Nat → Nat → Int64} {P : List (Nat × Nat)} {o : List Nat} (hk : kd0 n = k) (hl : ln0 n = l) (hz : zf n f g) (ho : ordOk n o) (hP : ∀ q ∈ P, q.1 < n) : m_new (TT n f g P) k l = TT (n + 1) f g (own n o ++ P) := by
  have e1 : (fun b => if b = n then k else kd0 b) = kd0 := by
    funext b
    by_cases c : b = n
    · rw [if_pos c, c, hk]
    · rw [if_neg c]
  have e2 : (fun b => if b = n then l else ln0 b) = ln0 := by
    funext b
    by_cases c : b = n
    · rw [if_pos c, c, hl]
    · rw [if_neg c]
  show (n + 1, (fun b => if b = n then k else kd0 b), (fun b => if b = n then l else ln0 b), u1 f n (fun _ => 0), u1 g n (fun _ => 0), u1 (rP P) n (fun _ => none)) = _
  rw [e1, e2, u1_same (hz n (Nat.le_refl _)).1, u1_same (hz n (Nat.le_refl _)).2, rP_new ho hP]
  rfl
theorem old_r {n a : Nat} (h : a < n) : x_old n (.ref a) := fun r e => by cases e; exact Or.inl h
theorem old_i {n : Nat} {x : Int32} : x_old n (.int x) := fun r e => by cases e
theorem old_0 {n : Nat} : ∀ v ∈ ([] : List Value), x_old n v := fun v h => by cases h
theorem old_c {n : Nat} {v : Value} {st : List Value} (h : x_old n v) (t : ∀ w ∈ st, x_old n w) : ∀ w ∈ v :: st, x_old n w := fun w hw => (List.mem_cons.mp hw).elim (fun e => e ▸ h) (t w)
theorem lold_0 {n : Nat} : ∀ (i : Nat) (v : Value), ([] : List (Option Value))[i]? = some (some v) → x_old n v := fun i v h => by simp at h
theorem lold_c {n : Nat} {u : Value} {ls : List (Option Value)} (h : x_old n u) (t : ∀ (i : Nat) (v : Value), ls[i]? = some (some v) → x_old n v) : ∀ (i : Nat) (v : Value), (some u :: ls)[i]? = some (some v) → x_old n v
  | 0, v, e => by simp at e; rw [← e]; exact h
  | i + 1, v, e => t i v (by simpa using e)
theorem lold_n {n : Nat} {ls : List (Option Value)} (t : ∀ (i : Nat) (v : Value), ls[i]? = some (some v) → x_old n v) : ∀ (i : Nat) (v : Value), ((none : Option Value) :: ls)[i]? = some (some v) → x_old n v
  | 0, v, e => by simp at e
  | i + 1, v, e => t i v (by simpa using e)
section INIT
variable {X : cxT} {ow : String} {cc : ByteArray} {d C Sl pc cells slots n : Nat} {ls : List (Option Value)} {st : List Value} {f : Nat → Nat → Int32} {g : Nat → Nat → Int64} {P : List (Nat × Nat)}
theorem t_new {idx ci N : Nat} {C0 : String} {T : u_T} {ty0 : Nat → FieldType} {o : List Nat} (hX : Good X ow cc d C Sl) (hc : CF ci C0 T N ty0) (hw : Cond.classLink ow idx C0 ∈ x_tbl) (hw2 : Cond.instantiable C0 N ∈ x_tbl ∧ Cond.initialized C0 ∈ x_tbl) (hd : decode cc pc = .ok (.new idx, 3)) (hM : n < 1000) (hcells : cells + 1 ≤ C) (hslots : slots + N ≤ Sl) (ho1 : ∀ v ∈ st, x_old n v) (ho2 : ∀ (i : Nat) (v : Value), ls[i]? = some (some v) → x_old n v) (hk : kd0 n = ci) (hl : ln0 n = 0) (hz : zf n f g) (ho : ordOk n o) (hP : ∀ q ∈ P, q.1 < n) (kk : WP X (cells + 1) (slots + N) (pc + 3) ls (.ref n :: st) (TT (n + 1) f g (own n o ++ P))) : WP X cells slots pc ls st (TT n f g P) := by
  refine wp_new hX hc hw hw2.1 hw2.2 hd (show n < 1000 from hM) hcells hslots ho1 ho2 ?_
  rw [TT_new hk hl hz ho hP]
  exact kk
theorem t_newi {x : Int32} {N : Nat} (hX : Good X ow cc d C Sl) (hd : decode cc pc = .ok (.newarray .int, 2)) (hn : ¬ x < 0) (hN : x.toNatClampNeg = N) (hb : N * 4 ≤ 536870912) (hM : n < 1000) (hcells : cells + 1 ≤ C) (hslots : slots + N ≤ Sl) (ho1 : ∀ v ∈ st, x_old n v) (ho2 : ∀ (i : Nat) (v : Value), ls[i]? = some (some v) → x_old n v) (hk : kd0 n = 12) (hl : ln0 n = N) (hz : zf n f g) (ho : ordOk n []) (hP : ∀ q ∈ P, q.1 < n) (kk : WP X (cells + 1) (slots + N) (pc + 2) ls (.ref n :: st) (TT (n + 1) f g P)) : WP X cells slots pc ls (.int x :: st) (TT n f g P) := by
  refine wp_newi hX ka_int hd hn hN hb (show n < 1000 from hM) hcells hslots ho1 ho2 ?_
  rw [TT_new hk hl hz ho hP]
  exact kk
theorem t_newl {x : Int32} {N : Nat} (hX : Good X ow cc d C Sl) (hd : decode cc pc = .ok (.newarray .long, 2)) (hn : ¬ x < 0) (hN : x.toNatClampNeg = N) (hb : N * 8 ≤ 536870912) (hM : n < 1000) (hcells : cells + 1 ≤ C) (hslots : slots + N ≤ Sl) (ho1 : ∀ v ∈ st, x_old n v) (ho2 : ∀ (i : Nat) (v : Value), ls[i]? = some (some v) → x_old n v) (hk : kd0 n = 13) (hl : ln0 n = N) (hz : zf n f g) (ho : ordOk n []) (hP : ∀ q ∈ P, q.1 < n) (kk : WP X (cells + 1) (slots + N) (pc + 2) ls (.ref n :: st) (TT (n + 1) f g P)) : WP X cells slots pc ls (.int x :: st) (TT n f g P) := by
  refine wp_newl hX ka_long hd hn hN hb (show n < 1000 from hM) hcells hslots ho1 ho2 ?_
  rw [TT_new hk hl hz ho hP]
  exact kk
theorem t_newf {x : Int32} {N idx : Nat} {o : List Nat} (hX : Good X ow cc d C Sl) (hw : Cond.classLink ow idx "CutFromOthers$Form" ∈ x_tbl) (hd : decode cc pc = .ok (.anewarray idx, 3)) (hn : ¬ x < 0) (hN : x.toNatClampNeg = N) (hb : N * 4 ≤ 536870912) (hM : n < 1000) (hcells : cells + 1 ≤ C) (hslots : slots + N ≤ Sl) (ho1 : ∀ v ∈ st, x_old n v) (ho2 : ∀ (i : Nat) (v : Value), ls[i]? = some (some v) → x_old n v) (hk : kd0 n = 14) (hl : ln0 n = N) (hz : zf n f g) (ho : ordOk n o) (hP : ∀ q ∈ P, q.1 < n) (kk : WP X (cells + 1) (slots + N) (pc + 3) ls (.ref n :: st) (TT (n + 1) f g (own n o ++ P))) : WP X cells slots pc ls (.int x :: st) (TT n f g P) := by
  refine wp_newf hX hw hd hn hN hb (show n < 1000 from hM) hcells hslots ho1 ho2 ?_
  rw [TT_new hk hl hz ho hP]
  exact kk
theorem t_putF {idx ci a k x : Nat} {A B : List (Nat × Nat)} (hX : Good X ow cc d C Sl) (hin : x_init X) (hf : FF ow idx ci k 0) (hd : decode cc pc = .ok (.putfield idx, 3)) (ha : a < n) (hk : kd0 a = ci) (hr : x < n) (h : rf0 false a k = some x) (hA : (a, k) ∉ A) (hB : (a, k) ∉ B) (kk : WP X cells slots (pc + 3) ls st (TT n f g (A ++ B))) : WP X cells slots pc ls (.ref x :: .ref a :: st) (TT n f g (A ++ (a, k) :: B)) := by
  refine wp_putF hX hin hf hd (show a < n from ha) hk (show x < n from hr) ?_
  show WP X cells slots (pc + 3) ls st (n, kd0, ln0, f, g, u2 (rP (A ++ (a, k) :: B)) a k (some x))
  rw [rP_set h hA hB]
  exact kk
theorem t_putr {idx ci a k x : Nat} {A B : List (Nat × Nat)} (hX : Good X ow cc d C Sl) (hf : FP ow idx ci k 0) (hd : decode cc pc = .ok (.putfield idx, 3)) (ha : a < n) (hk : kd0 a = ci) (hr : x < n) (h : rf0 false a k = some x) (hA : (a, k) ∉ A) (hB : (a, k) ∉ B) (kk : WP X cells slots (pc + 3) ls st (TT n f g (A ++ B))) : WP X cells slots pc ls (.ref x :: .ref a :: st) (TT n f g (A ++ (a, k) :: B)) := by
  refine wp_putr hX hf hd (show a < n from ha) hk (show x < n from hr) ?_
  show WP X cells slots (pc + 3) ls st (n, kd0, ln0, f, g, u2 (rP (A ++ (a, k) :: B)) a k (some x))
  rw [rP_set h hA hB]
  exact kk
theorem t_aast {a k x : Nat} {i : Int32} {A B : List (Nat × Nat)} (hX : Good X ow cc d C Sl) (hd : decode cc pc = .ok (.aastore, 1)) (ha : a < n) (hk : kd0 a = 14) (hik : i = nI k) (hi : k < ln0 a) (hb : ln0 a < 2 ^ 31) (hr : x < n) (hkr : kd0 x = 1) (h : rf0 false a k = some x) (hA : (a, k) ∉ A) (hB : (a, k) ∉ B) (kk : WP X cells slots (pc + 1) ls st (TT n f g (A ++ B))) : WP X cells slots pc ls (.ref x :: .int i :: .ref a :: st) (TT n f g (A ++ (a, k) :: B)) := by
  subst hik
  refine wp_aast hX hd (show a < n from ha) hk (vp_in_nI hi hb) (show x < n from hr) hkr ?_
  rw [nI_clamp (Nat.lt_trans hi hb)]
  show WP X cells slots (pc + 1) ls st (n, kd0, ln0, f, g, u2 (rP (A ++ (a, k) :: B)) a k (some x))
  rw [rP_set h hA hB]
  exact kk
theorem t_getr {idx ci k a x : Nat} (hX : Good X ow cc d C Sl) (hf : FL ow idx ci k 0) (hd : decode cc pc = .ok (.getfield idx, 3)) (ha : a < n) (hk : kd0 a = ci) (hr : rf0 false a k = some x) (hP : (a, k) ∉ P) (hlt : x < 1000) (kk : WP X cells slots (pc + 3) ls (.ref x :: st) (TT n f g P)) : WP X cells slots pc ls (.ref a :: st) (TT n f g P) :=
  wp_getr hX hf hd (show a < n from ha) hk (show rP P a k = some x by unfold rP; rw [if_neg hP, hr]) hlt kk
theorem t_iast {a k : Nat} {i v : Int32} (hX : Good X ow cc d C Sl) (hd : decode cc pc = .ok (.iastore, 1)) (ha : a < n) (hk : kd0 a = 12) (hik : i = nI k) (hi : k < ln0 a) (hb : ln0 a < 2 ^ 31) (kk : WP X cells slots (pc + 1) ls st (TT n (u2 f a k v) g P)) : WP X cells slots pc ls (.int v :: .int i :: .ref a :: st) (TT n f g P) := by
  subst hik
  refine wp_iast hX hd (show a < n from ha) hk (vp_in_nI hi hb) ?_
  rw [nI_clamp (Nat.lt_trans hi hb)]
  exact kk
theorem t_call {i : mI} {idx b mc ms q : Nat} {As : List Value} {M2 : mM} (hl : II ow idx i q) (hX : Good X ow cc (d + 1) C Sl) (hd : decode cc pc = .ok (.invokespecial idx, 3)) (hn : As.length = q) (hst : (st.map fun v => v.category).sum ≤ 8) (hcells : cells + mc ≤ C) (hslots : slots + ms ≤ Sl) (hct : CT d mc ms i (.ref b :: As) (TT n f g P) (QR none M2)) (ho1 : ∀ v ∈ st, x_old n v) (ho2 : ∀ (i : Nat) (v : Value), ls[i]? = some (some v) → x_old n v) (kk : WP X (cells + mc) (slots + ms) (pc + 3) ls st M2) : WP X cells slots pc ls (As.reverse ++ .ref b :: st) (TT n f g P) := by
  refine wp_invI' hX hl.1 hl.2.1 hl.2.2.2.1 hl.2.2.2.2 hl.2.2.1 hd hn hst hcells hslots hct (fun _ _ => Or.inr ⟨ho1, ho2⟩) (fun r M3 hq => ?_)
  obtain ⟨rfl, rfl⟩ := hq
  exact kk
end INIT
theorem ord0 : ordOk 0 [0, 1, 2, 3, 4, 5, 6, 7, 8, 9] := ord_of (by decide +kernel)
theorem ord1 : ordOk 1 [0, 1, 2, 3] := ord_of (by decide +kernel)
theorem ord2 : ordOk 2 [0, 1, 2, 3, 4, 5, 6, 7, 8, 9] := ord_of (by decide +kernel)
theorem ord3 : ordOk 3 [] := ord_of (by decide +kernel)
theorem ord4 : ordOk 4 [] := ord_of (by decide +kernel)
theorem ord5 : ordOk 5 [] := ord_of (by decide +kernel)
theorem ord6 : ordOk 6 [0, 1, 2] := ord_of (by decide +kernel)
theorem ord7 : ordOk 7 [] := ord_of (by decide +kernel)
theorem ord8 : ordOk 8 [] := ord_of (by decide +kernel)
theorem ord9 : ordOk 9 [] := ord_of (by decide +kernel)
theorem ord10 : ordOk 10 [0, 1, 2] := ord_of (by decide +kernel)
theorem ord11 : ordOk 11 [] := ord_of (by decide +kernel)
theorem ord12 : ordOk 12 [] := ord_of (by decide +kernel)
theorem ord13 : ordOk 13 [] := ord_of (by decide +kernel)
theorem ord14 : ordOk 14 [0, 1, 2] := ord_of (by decide +kernel)
theorem ord15 : ordOk 15 [] := ord_of (by decide +kernel)
theorem ord16 : ordOk 16 [] := ord_of (by decide +kernel)
theorem ord17 : ordOk 17 [] := ord_of (by decide +kernel)
theorem ord18 : ordOk 18 [0, 1, 2] := ord_of (by decide +kernel)
theorem ord19 : ordOk 19 [] := ord_of (by decide +kernel)
theorem ord20 : ordOk 20 [] := ord_of (by decide +kernel)
theorem ord21 : ordOk 21 [] := ord_of (by decide +kernel)
theorem ord22 : ordOk 22 [0, 1, 2] := ord_of (by decide +kernel)
theorem ord23 : ordOk 23 [] := ord_of (by decide +kernel)
theorem ord24 : ordOk 24 [] := ord_of (by decide +kernel)
theorem ord25 : ordOk 25 [] := ord_of (by decide +kernel)
theorem ord26 : ordOk 26 [0, 1, 2] := ord_of (by decide +kernel)
theorem ord27 : ordOk 27 [] := ord_of (by decide +kernel)
theorem ord28 : ordOk 28 [] := ord_of (by decide +kernel)
theorem ord29 : ordOk 29 [] := ord_of (by decide +kernel)
theorem ord30 : ordOk 30 [0, 1, 2] := ord_of (by decide +kernel)
theorem ord31 : ordOk 31 [] := ord_of (by decide +kernel)
theorem ord32 : ordOk 32 [] := ord_of (by decide +kernel)
theorem ord33 : ordOk 33 [] := ord_of (by decide +kernel)
theorem ord34 : ordOk 34 [0, 1, 2] := ord_of (by decide +kernel)
theorem ord35 : ordOk 35 [] := ord_of (by decide +kernel)
theorem ord36 : ordOk 36 [] := ord_of (by decide +kernel)
theorem ord37 : ordOk 37 [] := ord_of (by decide +kernel)
theorem ord38 : ordOk 38 [0, 1, 2] := ord_of (by decide +kernel)
theorem ord39 : ordOk 39 [] := ord_of (by decide +kernel)
theorem ord40 : ordOk 40 [] := ord_of (by decide +kernel)
theorem ord41 : ordOk 41 [] := ord_of (by decide +kernel)
theorem ord42 : ordOk 42 [0, 1, 2] := ord_of (by decide +kernel)
theorem ord43 : ordOk 43 [] := ord_of (by decide +kernel)
theorem ord44 : ordOk 44 [] := ord_of (by decide +kernel)
theorem ord45 : ordOk 45 [] := ord_of (by decide +kernel)
theorem ord46 : ordOk 46 [0, 1] := ord_of (by decide +kernel)
theorem ord47 : ordOk 47 [] := ord_of (by decide +kernel)
theorem ord48 : ordOk 48 [] := ord_of (by decide +kernel)
theorem ord49 : ordOk 49 [0, 1, 2] := ord_of (by decide +kernel)
theorem ord50 : ordOk 50 [] := ord_of (by decide +kernel)
theorem ord51 : ordOk 51 [] := ord_of (by decide +kernel)
theorem ord52 : ordOk 52 [] := ord_of (by decide +kernel)
theorem ord53 : ordOk 53 [2, 3, 4, 5, 0, 1] := ord_of (by decide +kernel)
theorem ord54 : ordOk 54 [] := ord_of (by decide +kernel)
theorem ord55 : ordOk 55 [] := ord_of (by decide +kernel)
theorem ord56 : ordOk 56 [] := ord_of (by decide +kernel)
theorem ord57 : ordOk 57 [] := ord_of (by decide +kernel)
theorem ord58 : ordOk 58 [1, 2, 0] := ord_of (by decide +kernel)
theorem ord59 : ordOk 59 [] := ord_of (by decide +kernel)
theorem ord60 : ordOk 60 [] := ord_of (by decide +kernel)
theorem ord61 : ordOk 61 [0, 1, 2, 3, 4, 5] := ord_of (by decide +kernel)
theorem ord62 : ordOk 62 [] := ord_of (by decide +kernel)
theorem ord63 : ordOk 63 [] := ord_of (by decide +kernel)
theorem ord64 : ordOk 64 [] := ord_of (by decide +kernel)
theorem ord65 : ordOk 65 [] := ord_of (by decide +kernel)
theorem ord66 : ordOk 66 [] := ord_of (by decide +kernel)
theorem ord67 : ordOk 67 [] := ord_of (by decide +kernel)
theorem ord68 : ordOk 68 [0] := ord_of (by decide +kernel)
theorem ord69 : ordOk 69 [] := ord_of (by decide +kernel)
theorem ord70 : ordOk 70 [0, 1] := ord_of (by decide +kernel)
theorem ord71 : ordOk 71 [] := ord_of (by decide +kernel)
theorem ord72 : ordOk 72 [] := ord_of (by decide +kernel)
theorem ord73 : ordOk 73 [0, 1, 2] := ord_of (by decide +kernel)
theorem ord74 : ordOk 74 [] := ord_of (by decide +kernel)
theorem ord75 : ordOk 75 [] := ord_of (by decide +kernel)
theorem ord76 : ordOk 76 [] := ord_of (by decide +kernel)
theorem ord77 : ordOk 77 [0, 1, 2] := ord_of (by decide +kernel)
theorem ord78 : ordOk 78 [] := ord_of (by decide +kernel)
theorem ord79 : ordOk 79 [] := ord_of (by decide +kernel)
theorem ord80 : ordOk 80 [] := ord_of (by decide +kernel)
theorem ord81 : ordOk 81 [1, 2, 3, 4, 6, 7, 10, 13, 14, 15, 16, 21, 22, 23, 24, 25, 26, 27, 31, 32, 33, 36, 38, 40, 41, 42, 43, 44, 45, 46, 47, 48, 49] := ord_of (by decide +kernel)
theorem ord82 : ordOk 82 [] := ord_of (by decide +kernel)
theorem ord83 : ordOk 83 [] := ord_of (by decide +kernel)
theorem ord84 : ordOk 84 [] := ord_of (by decide +kernel)
theorem ord85 : ordOk 85 [] := ord_of (by decide +kernel)
theorem ord86 : ordOk 86 [] := ord_of (by decide +kernel)
theorem ord87 : ordOk 87 [] := ord_of (by decide +kernel)
theorem ord88 : ordOk 88 [] := ord_of (by decide +kernel)
theorem ord89 : ordOk 89 [] := ord_of (by decide +kernel)
theorem ord90 : ordOk 90 [] := ord_of (by decide +kernel)
theorem ord91 : ordOk 91 [] := ord_of (by decide +kernel)
theorem ord92 : ordOk 92 [] := ord_of (by decide +kernel)
theorem ord93 : ordOk 93 [] := ord_of (by decide +kernel)
theorem ord94 : ordOk 94 [] := ord_of (by decide +kernel)
theorem ord95 : ordOk 95 [] := ord_of (by decide +kernel)
theorem ord96 : ordOk 96 [] := ord_of (by decide +kernel)
theorem ord97 : ordOk 97 [] := ord_of (by decide +kernel)
theorem ord98 : ordOk 98 [] := ord_of (by decide +kernel)
theorem ord99 : ordOk 99 [] := ord_of (by decide +kernel)
theorem ord100 : ordOk 100 [] := ord_of (by decide +kernel)
theorem ord101 : ordOk 101 [] := ord_of (by decide +kernel)
theorem ord102 : ordOk 102 [] := ord_of (by decide +kernel)
theorem ord103 : ordOk 103 [] := ord_of (by decide +kernel)
theorem ord104 : ordOk 104 [] := ord_of (by decide +kernel)
theorem ord105 : ordOk 105 [] := ord_of (by decide +kernel)
theorem ord106 : ordOk 106 [] := ord_of (by decide +kernel)
theorem ord107 : ordOk 107 [] := ord_of (by decide +kernel)
theorem ord108 : ordOk 108 [] := ord_of (by decide +kernel)
theorem ord109 : ordOk 109 [] := ord_of (by decide +kernel)
theorem ord110 : ordOk 110 [] := ord_of (by decide +kernel)
theorem ord111 : ordOk 111 [] := ord_of (by decide +kernel)
theorem ord112 : ordOk 112 [] := ord_of (by decide +kernel)
theorem ord113 : ordOk 113 [] := ord_of (by decide +kernel)
theorem ord114 : ordOk 114 [] := ord_of (by decide +kernel)
theorem zf_u2 {n a k : Nat} {f : Nat → Nat → Int32} {g : Nat → Nat → Int64} {v : Int32} (h : zf n f g) : a < n → zf n (u2 f a k v) g := fun ha b hb => ⟨by rw [u2_ne _ _ _ (by omega)]; exact (h b hb).1, (h b hb).2⟩
