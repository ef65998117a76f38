/-! HELPS: switches -/
theorem wp_eqc {X : cxT} {cells slots pc : Nat} {ls : List (Option Value)} {st : List Value} {M : mM} {x : Int32} (c : Int32) (kt : x = c → WP X cells slots pc ls (.int x :: st) M) (kf : ¬ x = c → WP X cells slots pc ls (.int x :: st) M) : WP X cells slots pc ls (.int x :: st) M := by
  by_cases h : x = c
  · exact kt h
  · exact kf h
theorem ne_toI {x c : Int32} {k : Int} (h : ¬ x = c) (hc : c.toInt = k) : x.toInt ≠ k := fun e => h (Int32.toInt_inj.mp (e.trans hc.symm))
theorem ne_toI' {x c : Int32} {k : Int} (h : ¬ x = c) (hc : c.toInt = k) : ¬ k = x.toInt := fun e => ne_toI h hc e.symm
theorem lk_cons {a o k df : Int} {r : List (Int × Int)} (h : ¬ a = k) (t : Op.lookupswitch.offset r df k = df) : Op.lookupswitch.offset ((a, o) :: r) df k = df := by
  rw [Op.lookupswitch.offset_cons, if_neg h]; exact t
theorem lk_nil {k df : Int} : Op.lookupswitch.offset [] df k = df := rfl
theorem wp_tabAt {X : cxT} {own : String} {cc : ByteArray} {d C S cells slots pc : Nat} {ls : List (Option Value)} {st : List Value} {M : mM} {dflt lo hi : Int} {offs : Array Int} {len : Nat} {x c : Int32} {off : Int} {tgt : Nat} (hX : Good X own cc d C S) (hd : decode cc pc = .ok (.tableswitch dflt lo hi offs, len)) (hx : x = c) (h1 : ¬ c.toInt < lo) (h2 : ¬ hi < c.toInt) (ho : offs[(c.toInt - lo).toNat]? = some off) (ht : (pc : Int) + off = (tgt : Int)) (k : WP X cells slots tgt ls st M) : WP X cells slots pc ls (.int x :: st) M := by
  subst hx
  exact wp_tabIn hX hd h1 h2 ho ht k
theorem wp_lookAt {X : cxT} {own : String} {cc : ByteArray} {d C S cells slots pc : Nat} {ls : List (Option Value)} {st : List Value} {M : mM} {dflt : Int} {ps : Array (Int × Int)} {len : Nat} {x c : Int32} {off : Int} {tgt : Nat} (hX : Good X own cc d C S) (hd : decode cc pc = .ok (.lookupswitch dflt ps, len)) (hx : x = c) (hp : (ps.toList.zip (ps.toList.drop 1)).all (fun (a, next) => a.1 < next.1) = true) (ho : Op.lookupswitch.offset ps.toList dflt c.toInt = off) (ht : (pc : Int) + off = (tgt : Int)) (k : WP X cells slots tgt ls st M) : WP X cells slots pc ls (.int x :: st) M := by
  subst hx
  exact wp_lookup hX hd hp ho ht k
/-! THE LAW, abstract: words k: 0 to 5 names; 6 to 15 signs between two; 16 not, 17 minus; from 18 on a number k - 18 -/
def jop (k : Nat) (x y : Int32) : Int32 :=
  if k = 6 then (if x = 0 ∧ y = 0 then 0 else 1)
  else if k = 7 then (if x = 0 ∨ y = 0 then 0 else 1)
  else if k = 8 then (if x < y then 1 else 0)
  else if k = 9 then (if x = y then 1 else 0)
  else if k = 10 then (if y < x then 1 else 0)
  else if k = 11 then x + y
  else if k = 12 then x - y
  else if k = 13 then x * y
  else if k = 14 then (if y = 0 then 0 else x / y)
  else (if y = 0 then 0 else x - x / y * y)
def jst (nm : Nat → Int32) (k : Nat) (s : List Int32) : List Int32 :=
  if 18 ≤ k then nI (k - 18) :: s
  else if k < 6 then nm k :: s
  else if k = 17 then (match s with | x :: r => (-x) :: r | [] => [])
  else if k = 16 then (match s with | x :: r => (if x = 0 then 1 else 0) :: r | [] => [])
  else (match s with | y :: x :: r => jop k x y :: r | l => l)
def jev (nm : Nat → Int32) : List Nat → List Int32 → List Int32
  | [], s => s
  | k :: c, s => jev nm c (jst nm k s)
/-- the height of the stack behind a code, m at most on the way -/
def jhk : List Nat → Nat → Nat → Option Nat
  | [], h, _ => some h
  | k :: c, h, m => if k < 6 ∨ 18 ≤ k then (if h < m ∧ k < 10018 then jhk c (h + 1) m else none) else if k < 16 then (if 2 ≤ h then jhk c (h - 1) m else none) else (if 1 ≤ h then jhk c h m else none)
theorem jev_app (nm : Nat → Int32) : ∀ (a b : List Nat) (s : List Int32), jev nm (a ++ b) s = jev nm b (jev nm a s)
  | [], _, _ => rfl
  | k :: c, b, s => jev_app nm c b (jst nm k s)
theorem jhk_app : ∀ (a b : List Nat) (h m : Nat), jhk (a ++ b) h m = (jhk a h m).bind (fun q => jhk b q m)
  | [], _, _, _ => rfl
  | k :: c, b, h, m => by
    simp only [List.cons_append, jhk]
    split
    · split
      · exact jhk_app c b _ _
      · rfl
    · split
      · split
        · exact jhk_app c b _ _
        · rfl
      · split
        · exact jhk_app c b _ _
        · rfl
theorem jst_len (nm : Nat → Int32) (k h h2 m : Nat) (c : List Nat) (s : List Int32) (hs : s.length = h) (hh : jhk (k :: c) h m = some h2) : jhk c (jst nm k s).length m = some h2 := by
  subst hs
  simp only [jhk] at hh
  unfold jst
  split at hh
  · next q =>
    split at hh
    · rcases q with q | q
      · rw [if_neg (by omega), if_pos q]; exact hh
      · rw [if_pos q]; exact hh
    · cases hh
  · next q =>
    rw [if_neg (by omega), if_neg (by omega)]
    split at hh
    · next q2 =>
      rw [if_neg (by omega), if_neg (by omega)]
      split at hh
      · match s, hh with
        | y :: x :: r, hh => exact hh
        | [x], hh => simp at *
        | [], hh => simp at *
      · cases hh
    · next q2 =>
      split at hh
      · split
        · match s, hh with
          | x :: r, hh => exact hh
          | [], hh => simp at *
        · rw [if_pos (by omega)]
          match s, hh with
          | x :: r, hh => exact hh
          | [], hh => simp at *
      · cases hh
theorem jev_len (nm : Nat → Int32) : ∀ (c : List Nat) (s : List Int32) (h2 m : Nat), jhk c s.length m = some h2 → (jev nm c s).length = h2
  | [], s, h2, m, h => by cases h; rfl
  | k :: c, s, h2, m, h => jev_len nm c (jst nm k s) h2 m (jst_len nm k s.length h2 m c s rfl h)
/-- a code of one value, with at most b more on the stack -/
def jwf (b : Nat) (c : List Nat) : Prop := ∀ h m, h + b ≤ m → jhk c h m = some (h + 1)
/-- what a code of one value gives -/
def jvl (nm : Nat → Int32) (c : List Nat) : Int32 := (jev nm c []).headD 0
/-- what the lines give: of each what counts, what it gives -/
def jln (nm : Nat → Int32) : List (List Nat × List Nat) → Int32
  | [] => 0
  | (a, b) :: r => if ¬ a = [] ∧ jvl nm a = 0 then jln nm r else jvl nm b
def jnm (w fd a c n k : Int32) : Nat → Int32 := fun j => [w, fd, a, c, n, k].getD j 0
/-- what the law gives; no text: what the document says of that -/
def jlw (L : List (List Nat × List Nat)) (w fd a c n k : Int32) : Int32 := if L = [] then imx 0 (w - fd * a) else imx 0 (imn 9999 (jln (jnm w fd a c n k) L))
/-- a word in the class's code -/
def jtw (k : Nat) : Int32 :=
  if 18 ≤ k then nI (k - 18)
  else if k < 6 then -1000 - nI k
  else [0, 0, 0, 0, 0, 0, -124, -38, -60, -61, -62, -43, -45, -42, -47, -37, -4, -3].getD k 0
/-- a line in the class's code that begins at p -/
def jcl (a b : List Nat) (p : Nat) : List Int32 := if a = [] then b.map jtw ++ [-1] else a.map jtw ++ (-2 :: nI (p + a.length + b.length + 3) :: (b.map jtw ++ [-1]))
def jcd : List (List Nat × List Nat) → Nat → List Int32
  | [], _ => []
  | (a, b) :: r, p => jcl a b p ++ jcd r (p + (jcl a b p).length)
def jwl (l : List Nat × List Nat) : Prop := (l.1 = [] ∨ jwf 40 l.1) ∧ jwf 40 l.2
/-- the class's Rule holds the law L -/
def rlOk (f : Nat → Nat → Int32) (L : List (List Nat × List Nat)) : Prop := f 49 3 = nI (jcd L 0).length ∧ (jcd L 0).length ≤ 256 ∧ (∀ (j : Nat) (q : Int32), (jcd L 0)[j]? = some q → f 50 j = q) ∧ ∀ l ∈ L, jwl l
/-- the class's stack -/
def skO (r : Nat → Int32) : List Int32 → Prop
  | [] => True
  | x :: s => r s.length = x ∧ skO r s
def skF (f : Nat → Nat → Int32) (s : List Int32) : Prop := f 49 4 = nI s.length ∧ s.length ≤ 64 ∧ skO (f 52) s
/-- all but the stack is as it was -/
def rlS (f f2 : Nat → Nat → Int32) : Prop := (∀ b, b ≠ 49 → b ≠ 52 → f2 b = f b) ∧ ∀ i, i ≠ 4 → f2 49 i = f 49 i
theorem rlS.rf {f : Nat → Nat → Int32} : rlS f f := ⟨fun _ _ _ => rfl, fun _ _ => rfl⟩
theorem rlS.trans {f f2 f3 : Nat → Nat → Int32} (h : rlS f f2) (h2 : rlS f2 f3) : rlS f f3 := ⟨fun b g1 g2 => (h2.1 b g1 g2).trans (h.1 b g1 g2), fun i hi => (h2.2 i hi).trans (h.2 i hi)⟩
theorem skO_up {r r2 : Nat → Int32} : ∀ (s : List Int32), (∀ j, j < s.length → r2 j = r j) → skO r s → skO r2 s
  | [], _, _ => trivial
  | x :: s, h, ⟨h1, h2⟩ => ⟨(h _ (by simp)).trans h1, skO_up s (fun j hj => h j (by simp; omega)) h2⟩
theorem k_push (d : Nat) (sw : Bool) (f : Nat → Nat → Int32) (g : Nat → Nat → Int64) (s : List Int32) (v : Int32) (hs : skF f s) (hl : s.length < 64) : CT d 0 0 iX3_push [.ref 49, .int v] (S sw f g) (QS (fun r sw2 f2 g2 => r = none ∧ sw2 = sw ∧ g2 = g ∧ rlS f f2 ∧ skF f2 (v :: s))) := by
  obtain ⟨h1, h2, h3⟩ := hs
  refine CT.of rfl (Nat.le_of_ble_eq_true rfl) (fun X hX hR hN _ => ?_)
  have hX : Good X RX3 cX3_push d 0 0 := hX
  have hN : x_nl X = 2 := hN
  show WP X 0 0 0 [_, _] [] _
  refine wp_aload_n hX (dk DX3_push 0 rfl) rfl ?_
  refine w_geti hX flX3_60 (dk DX3_push 1 rfl) (by decide) rfl ?_
  refine wp_bipush (v := 64) hX (dk DX3_push 2 rfl) (by decide) ?_
  rw [h1]
  refine wp_icmp_ge (tgt := 29) hX (dk DX3_push 3 rfl) (by decide) (fun h_ => absurd h_ ((nI_ge (b := 64) (by omega) (by omega)))) (fun _ => ?_)
  refine wp_aload_n hX (dk DX3_push 4 rfl) rfl ?_
  refine w_getr hX flX3_18 (dk DX3_push 5 rfl) rfl rfl ?_
  refine wp_aload_n hX (dk DX3_push 6 rfl) rfl ?_
  refine w_geti hX flX3_60 (dk DX3_push 7 rfl) (by decide) rfl ?_
  rw [h1]
  refine wp_iload_n hX (dk DX3_push 8 rfl) rfl ?_
  refine w_iast (j := _) hX (dk DX3_push 9 rfl) rfl rfl (show _ < 64 by omega) ?_
  refine wp_aload_n hX (dk DX3_push 10 rfl) rfl ?_
  refine wp_dup hX (dk DX3_push 11 rfl) rfl ?_
  refine w_geti hX flX3_60 (dk DX3_push 12 rfl) (by decide) rfl ?_
  rw [show u2 f 52 s.length v 49 4 = nI s.length from h1]
  refine wp_iconst (v := 1) hX (dk DX3_push 13 rfl) (by decide) ?_
  refine wp_iadd hX (dk DX3_push 14 rfl) ?_
  rw [nI_1]
  refine w_puti hX fpX3_60 (dk DX3_push 15 rfl) rfl ?_
  refine wp_return hX hR (dk DX3_push 16 rfl) (Nat.le_refl _) (Nat.le_refl _) ⟨sw, _, g, rfl, rfl, rfl, rfl, ⟨fun c g1 g2 => by rw [u2_ne _ _ _ g1, u2_ne _ _ _ g2], fun i hi => by rw [u2_off _ _ _ hi, u2_ne _ _ _ (by decide)]⟩, ?_, ?_, ?_⟩
  · rw [u2_at]; simp
  · simp; omega
  · rw [u2_ne _ _ _ (by decide)]
    exact ⟨u2_at _ _ _ _, skO_up s (fun j hj => u2_off _ _ _ (by omega)) h3⟩
theorem k_pop (d : Nat) (sw : Bool) (f : Nat → Nat → Int32) (g : Nat → Nat → Int64) (s : List Int32) (v : Int32) (hs : skF f (v :: s)) : CT d 0 0 iX3_pop [.ref 49] (S sw f g) (QS (fun r sw2 f2 g2 => r = some (.int v) ∧ sw2 = sw ∧ g2 = g ∧ rlS f f2 ∧ skF f2 s)) := by
  obtain ⟨h1, h2, h3, h4⟩ := hs
  simp only [List.length_cons] at h1 h2
  refine CT.of rfl (Nat.le_of_ble_eq_true rfl) (fun X hX hR hN _ => ?_)
  have hX : Good X RX3 cX3_pop d 0 0 := hX
  have hN : x_nl X = 1 := hN
  show WP X 0 0 0 [_] [] _
  refine wp_aload_n hX (dk DX3_pop 0 rfl) rfl ?_
  refine w_geti hX flX3_60 (dk DX3_pop 1 rfl) (by decide) rfl ?_
  rw [h1]
  refine wp_if_gt (tgt := 9) hX (dk DX3_pop 2 rfl) (by decide) (fun _ => ?_) (fun h_ => absurd ((Int32.not_le.mp (nI_nle (by omega) (by omega)))) h_)
  refine wp_aload_n hX (dk DX3_pop 5 rfl) rfl ?_
  refine wp_dup hX (dk DX3_pop 6 rfl) rfl ?_
  refine w_geti hX flX3_60 (dk DX3_pop 7 rfl) (by decide) rfl ?_
  rw [h1]
  refine wp_iconst (v := 1) hX (dk DX3_pop 8 rfl) (by decide) ?_
  refine wp_isub hX (dk DX3_pop 9 rfl) ?_
  rw [nI_pred]
  refine w_puti hX fpX3_60 (dk DX3_pop 10 rfl) rfl ?_
  refine wp_aload_n hX (dk DX3_pop 11 rfl) rfl ?_
  refine w_getr hX flX3_18 (dk DX3_pop 12 rfl) rfl rfl ?_
  refine wp_aload_n hX (dk DX3_pop 13 rfl) rfl ?_
  refine w_geti hX flX3_60 (dk DX3_pop 14 rfl) (by decide) rfl ?_
  rw [u2_at]
  refine w_iald (j := _) hX (dk DX3_pop 15 rfl) rfl rfl (show _ < 64 by omega) ?_
  rw [u2_ne _ _ _ (by decide), h3]
  refine wp_ireturn hX hR (dk DX3_pop 16 rfl) rfl (Nat.le_refl _) (Nat.le_refl _) ⟨sw, _, g, rfl, rfl, rfl, rfl, ⟨fun c g1 g2 => by rw [u2_ne _ _ _ g1], fun i hi => u2_off _ _ _ hi⟩, u2_at _ _ _ _, by omega, ?_⟩
  rw [u2_ne _ _ _ (by decide)]
  exact h4
theorem k_truth (d : Nat) (x : Int32) (M : mM) : CT d 0 0 iX3_truth [.int x] M (QR (some (.int (if x = 0 then 0 else 1))) M) := by
  refine CT.of rfl (Nat.le_of_ble_eq_true rfl) (fun X hX hR hN _ => ?_)
  have hX : Good X RX3 cX3_truth d 0 0 := hX
  have hN : x_nl X = 1 := hN
  show WP X 0 0 0 [_] [] _
  refine wp_iload_n hX (dk DX3_truth 0 rfl) rfl ?_
  refine wp_if_eq (tgt := 8) hX (dk DX3_truth 1 rfl) (by decide) (fun h1 => ?_) (fun h1 => ?_)
  · refine wp_iconst (v := 0) hX (dk DX3_truth 4 rfl) (by decide) ?_
    exact wp_ireturn hX hR (dk DX3_truth 5 rfl) rfl (Nat.le_refl _) (Nat.le_refl _) (⟨by simp only [h1, if_true, if_false], rfl⟩)
  · refine wp_iconst (v := 1) hX (dk DX3_truth 2 rfl) (by decide) ?_
    refine wp_goto (tgt := 9) hX (dk DX3_truth 3 rfl) (by decide) ?_
    exact wp_ireturn hX hR (dk DX3_truth 5 rfl) rfl (Nat.le_refl _) (Nat.le_refl _) (⟨by simp only [h1, if_true, if_false], rfl⟩)
/-- a sign between two, by the class's number of it -/
def jsg (k : Nat) : Nat := [0, 0, 0, 0, 0, 0, 124, 38, 60, 61, 62, 43, 45, 42, 47, 37].getD k 0
theorem k_join (d : Nat) (sw : Bool) (f : Nat → Nat → Int32) (g : Nat → Nat → Int64) (k : Nat) (x y : Int32) (h6 : 6 ≤ k) (h16 : k < 16) : CT (d + 1) 0 0 iX3_join [.int (nI (jsg k)), .int x, .int y] (S sw f g) (QR (some (.int (jop k x y))) (S sw f g)) := by
  refine CT.of rfl (Nat.le_of_ble_eq_true rfl) (fun X hX hR hN _ => ?_)
  have hX : Good X RX3 cX3_join (d + 1) 0 0 := hX
  have hN : x_nl X = 3 := hN
  show WP X 0 0 0 [_, _, _] [] _
  have hk : k = 6 ∨ k = 7 ∨ k = 8 ∨ k = 9 ∨ k = 10 ∨ k = 11 ∨ k = 12 ∨ k = 13 ∨ k = 14 ∨ k = 15 := by omega
  refine wp_iload_n hX (dk DX3_join 0 rfl) rfl ?_
  rcases hk with rfl | rfl | rfl | rfl | rfl | rfl | rfl | rfl | rfl | rfl
  · refine wp_lookAt (c := 124) (off := 91) (tgt := 92) hX (dk DX3_join 1 rfl) (rfl) (by decide) (by decide) (by decide) ?_
    refine wp_iload_n hX (dk DX3_join 2 rfl) rfl ?_
    refine wp_if_ne (tgt := 100) hX (dk DX3_join 3 rfl) (by decide) (fun h93 => ?_) (fun h93 => ?_)
    · refine wp_iconst (v := 1) hX (dk DX3_join 6 rfl) (by decide) ?_
      refine wp_goto (tgt := 105) hX (dk DX3_join 7 rfl) (by decide) ?_
      refine w_callS (As := [_]) lkX3_73 hX (dk DX3_join 9 rfl) rfl (by decide) (k_truth d _ _) ?_
      show WP _ _ _ 108 [_, _, _] [_] _
      exact wp_ireturn hX hR (dk DX3_join 10 rfl) rfl (Nat.le_refl _) (Nat.le_refl _) (⟨by simp [jop, h93], rfl⟩)
    · refine wp_iload_n hX (dk DX3_join 4 rfl) rfl ?_
      refine wp_if_eq (tgt := 104) hX (dk DX3_join 5 rfl) (by decide) (fun h97 => ?_) (fun h97 => ?_)
      · refine wp_iconst (v := 0) hX (dk DX3_join 8 rfl) (by decide) ?_
        refine w_callS (As := [_]) lkX3_73 hX (dk DX3_join 9 rfl) rfl (by decide) (k_truth d _ _) ?_
        show WP _ _ _ 108 [_, _, _] [_] _
        exact wp_ireturn hX hR (dk DX3_join 10 rfl) rfl (Nat.le_refl _) (Nat.le_refl _) (⟨by simp [jop, h93, h97], rfl⟩)
      · refine wp_iconst (v := 1) hX (dk DX3_join 6 rfl) (by decide) ?_
        refine wp_goto (tgt := 105) hX (dk DX3_join 7 rfl) (by decide) ?_
        refine w_callS (As := [_]) lkX3_73 hX (dk DX3_join 9 rfl) rfl (by decide) (k_truth d _ _) ?_
        show WP _ _ _ 108 [_, _, _] [_] _
        exact wp_ireturn hX hR (dk DX3_join 10 rfl) rfl (Nat.le_refl _) (Nat.le_refl _) (⟨by simp [jop, h93, h97], rfl⟩)
  · refine wp_lookAt (c := 38) (off := 108) (tgt := 109) hX (dk DX3_join 1 rfl) (rfl) (by decide) (by decide) (by decide) ?_
    refine wp_iload_n hX (dk DX3_join 11 rfl) rfl ?_
    refine wp_if_eq (tgt := 121) hX (dk DX3_join 12 rfl) (by decide) (fun h110 => ?_) (fun h110 => ?_)
    · refine wp_iconst (v := 0) hX (dk DX3_join 17 rfl) (by decide) ?_
      refine w_callS (As := [_]) lkX3_73 hX (dk DX3_join 18 rfl) rfl (by decide) (k_truth d _ _) ?_
      show WP _ _ _ 125 [_, _, _] [_] _
      exact wp_ireturn hX hR (dk DX3_join 19 rfl) rfl (Nat.le_refl _) (Nat.le_refl _) (⟨by simp [jop, h110], rfl⟩)
    · refine wp_iload_n hX (dk DX3_join 13 rfl) rfl ?_
      refine wp_if_eq (tgt := 121) hX (dk DX3_join 14 rfl) (by decide) (fun h114 => ?_) (fun h114 => ?_)
      · refine wp_iconst (v := 0) hX (dk DX3_join 17 rfl) (by decide) ?_
        refine w_callS (As := [_]) lkX3_73 hX (dk DX3_join 18 rfl) rfl (by decide) (k_truth d _ _) ?_
        show WP _ _ _ 125 [_, _, _] [_] _
        exact wp_ireturn hX hR (dk DX3_join 19 rfl) rfl (Nat.le_refl _) (Nat.le_refl _) (⟨by simp [jop, h110, h114], rfl⟩)
      · refine wp_iconst (v := 1) hX (dk DX3_join 15 rfl) (by decide) ?_
        refine wp_goto (tgt := 122) hX (dk DX3_join 16 rfl) (by decide) ?_
        refine w_callS (As := [_]) lkX3_73 hX (dk DX3_join 18 rfl) rfl (by decide) (k_truth d _ _) ?_
        show WP _ _ _ 125 [_, _, _] [_] _
        exact wp_ireturn hX hR (dk DX3_join 19 rfl) rfl (Nat.le_refl _) (Nat.le_refl _) (⟨by simp [jop, h110, h114], rfl⟩)
  · refine wp_lookAt (c := 60) (off := 125) (tgt := 126) hX (dk DX3_join 1 rfl) (rfl) (by decide) (by decide) (by decide) ?_
    refine wp_iload_n hX (dk DX3_join 20 rfl) rfl ?_
    refine wp_iload_n hX (dk DX3_join 21 rfl) rfl ?_
    refine wp_icmp_ge (tgt := 135) hX (dk DX3_join 22 rfl) (by decide) (fun h128 => ?_) (fun h128 => ?_)
    · refine wp_iconst (v := 0) hX (dk DX3_join 25 rfl) (by decide) ?_
      refine w_callS (As := [_]) lkX3_73 hX (dk DX3_join 26 rfl) rfl (by decide) (k_truth d _ _) ?_
      show WP _ _ _ 139 [_, _, _] [_] _
      exact wp_ireturn hX hR (dk DX3_join 27 rfl) rfl (Nat.le_refl _) (Nat.le_refl _) (⟨by simp [jop, h128, ← Int32.not_le], rfl⟩)
    · refine wp_iconst (v := 1) hX (dk DX3_join 23 rfl) (by decide) ?_
      refine wp_goto (tgt := 136) hX (dk DX3_join 24 rfl) (by decide) ?_
      refine w_callS (As := [_]) lkX3_73 hX (dk DX3_join 26 rfl) rfl (by decide) (k_truth d _ _) ?_
      show WP _ _ _ 139 [_, _, _] [_] _
      exact wp_ireturn hX hR (dk DX3_join 27 rfl) rfl (Nat.le_refl _) (Nat.le_refl _) (⟨by simp [jop, h128, ← Int32.not_le], rfl⟩)
  · refine wp_lookAt (c := 61) (off := 139) (tgt := 140) hX (dk DX3_join 1 rfl) (rfl) (by decide) (by decide) (by decide) ?_
    refine wp_iload_n hX (dk DX3_join 28 rfl) rfl ?_
    refine wp_iload_n hX (dk DX3_join 29 rfl) rfl ?_
    refine wp_icmp_ne (tgt := 149) hX (dk DX3_join 30 rfl) (by decide) (fun h142 => ?_) (fun h142 => ?_)
    · refine wp_iconst (v := 0) hX (dk DX3_join 33 rfl) (by decide) ?_
      refine w_callS (As := [_]) lkX3_73 hX (dk DX3_join 34 rfl) rfl (by decide) (k_truth d _ _) ?_
      show WP _ _ _ 153 [_, _, _] [_] _
      exact wp_ireturn hX hR (dk DX3_join 35 rfl) rfl (Nat.le_refl _) (Nat.le_refl _) (⟨by simp [jop, h142], rfl⟩)
    · refine wp_iconst (v := 1) hX (dk DX3_join 31 rfl) (by decide) ?_
      refine wp_goto (tgt := 150) hX (dk DX3_join 32 rfl) (by decide) ?_
      refine w_callS (As := [_]) lkX3_73 hX (dk DX3_join 34 rfl) rfl (by decide) (k_truth d _ _) ?_
      show WP _ _ _ 153 [_, _, _] [_] _
      exact wp_ireturn hX hR (dk DX3_join 35 rfl) rfl (Nat.le_refl _) (Nat.le_refl _) (⟨by simp [jop, h142], rfl⟩)
  · refine wp_lookAt (c := 62) (off := 153) (tgt := 154) hX (dk DX3_join 1 rfl) (rfl) (by decide) (by decide) (by decide) ?_
    refine wp_iload_n hX (dk DX3_join 36 rfl) rfl ?_
    refine wp_iload_n hX (dk DX3_join 37 rfl) rfl ?_
    refine wp_icmp_le (tgt := 163) hX (dk DX3_join 38 rfl) (by decide) (fun h156 => ?_) (fun h156 => ?_)
    · refine wp_iconst (v := 0) hX (dk DX3_join 41 rfl) (by decide) ?_
      refine w_callS (As := [_]) lkX3_73 hX (dk DX3_join 42 rfl) rfl (by decide) (k_truth d _ _) ?_
      show WP _ _ _ 167 [_, _, _] [_] _
      exact wp_ireturn hX hR (dk DX3_join 43 rfl) rfl (Nat.le_refl _) (Nat.le_refl _) (⟨by simp [jop, h156, ← Int32.not_le], rfl⟩)
    · refine wp_iconst (v := 1) hX (dk DX3_join 39 rfl) (by decide) ?_
      refine wp_goto (tgt := 164) hX (dk DX3_join 40 rfl) (by decide) ?_
      refine w_callS (As := [_]) lkX3_73 hX (dk DX3_join 42 rfl) rfl (by decide) (k_truth d _ _) ?_
      show WP _ _ _ 167 [_, _, _] [_] _
      exact wp_ireturn hX hR (dk DX3_join 43 rfl) rfl (Nat.le_refl _) (Nat.le_refl _) (⟨by simp [jop, h156, ← Int32.not_le], rfl⟩)
  · refine wp_lookAt (c := 43) (off := 167) (tgt := 168) hX (dk DX3_join 1 rfl) (rfl) (by decide) (by decide) (by decide) ?_
    refine wp_iload_n hX (dk DX3_join 44 rfl) rfl ?_
    refine wp_iload_n hX (dk DX3_join 45 rfl) rfl ?_
    refine wp_iadd hX (dk DX3_join 46 rfl) ?_
    exact wp_ireturn hX hR (dk DX3_join 47 rfl) rfl (Nat.le_refl _) (Nat.le_refl _) (⟨rfl, rfl⟩)
  · refine wp_lookAt (c := 45) (off := 171) (tgt := 172) hX (dk DX3_join 1 rfl) (rfl) (by decide) (by decide) (by decide) ?_
    refine wp_iload_n hX (dk DX3_join 48 rfl) rfl ?_
    refine wp_iload_n hX (dk DX3_join 49 rfl) rfl ?_
    refine wp_isub hX (dk DX3_join 50 rfl) ?_
    exact wp_ireturn hX hR (dk DX3_join 51 rfl) rfl (Nat.le_refl _) (Nat.le_refl _) (⟨rfl, rfl⟩)
  · refine wp_lookAt (c := 42) (off := 175) (tgt := 176) hX (dk DX3_join 1 rfl) (rfl) (by decide) (by decide) (by decide) ?_
    refine wp_iload_n hX (dk DX3_join 52 rfl) rfl ?_
    refine wp_iload_n hX (dk DX3_join 53 rfl) rfl ?_
    refine wp_imul hX (dk DX3_join 54 rfl) ?_
    exact wp_ireturn hX hR (dk DX3_join 55 rfl) rfl (Nat.le_refl _) (Nat.le_refl _) (⟨rfl, rfl⟩)
  · refine wp_lookAt (c := 47) (off := 179) (tgt := 180) hX (dk DX3_join 1 rfl) (rfl) (by decide) (by decide) (by decide) ?_
    refine wp_iload_n hX (dk DX3_join 56 rfl) rfl ?_
    refine wp_if_ne (tgt := 188) hX (dk DX3_join 57 rfl) (by decide) (fun h181 => ?_) (fun h181 => ?_)
    · refine wp_iload_n hX (dk DX3_join_1 0 rfl) rfl ?_
      refine wp_iload_n hX (dk DX3_join_1 1 rfl) rfl ?_
      refine wp_idiv hX (dk DX3_join_1 2 rfl) h181 ?_
      exact wp_ireturn hX hR (dk DX3_join_1 3 rfl) rfl (Nat.le_refl _) (Nat.le_refl _) (⟨by simp [jop, h181], rfl⟩)
    · refine wp_iconst (v := 0) hX (dk DX3_join 58 rfl) (by decide) ?_
      refine wp_goto (tgt := 191) hX (dk DX3_join 59 rfl) (by decide) ?_
      exact wp_ireturn hX hR (dk DX3_join_1 3 rfl) rfl (Nat.le_refl _) (Nat.le_refl _) (⟨by simp [jop, h181], rfl⟩)
  · refine wp_lookAt (c := 37) (off := 191) (tgt := 192) hX (dk DX3_join 1 rfl) (rfl) (by decide) (by decide) (by decide) ?_
    refine wp_iload_n hX (dk DX3_join_1 4 rfl) rfl ?_
    refine wp_if_ne (tgt := 200) hX (dk DX3_join_1 5 rfl) (by decide) (fun h193 => ?_) (fun h193 => ?_)
    · refine wp_iload_n hX (dk DX3_join_1 8 rfl) rfl ?_
      refine wp_iload_n hX (dk DX3_join_1 9 rfl) rfl ?_
      refine wp_irem hX (dk DX3_join_1 10 rfl) h193 ?_
      exact wp_ireturn hX hR (dk DX3_join_1 11 rfl) rfl (Nat.le_refl _) (Nat.le_refl _) (⟨by simp [jop, h193], rfl⟩)
    · refine wp_iconst (v := 0) hX (dk DX3_join_1 6 rfl) (by decide) ?_
      refine wp_goto (tgt := 203) hX (dk DX3_join_1 7 rfl) (by decide) ?_
      exact wp_ireturn hX hR (dk DX3_join_1 11 rfl) rfl (Nat.le_refl _) (Nat.le_refl _) (⟨by simp [jop, h193], rfl⟩)
