/-! WHAT STANDS AT THE LAW'S START -/
section WORLD
variable {args : Array Value} {s : State}
theorem w_tab (hts : ∀ w ∈ lw_tbl, w.before args s = true) : ∀ w ∈ x_tbl, w.before args s = true := fun w hw => hts w (List.mem_filter.mp hw).1
theorem w_cls (hts : ∀ w ∈ lw_tbl, w.before args s = true) (k : Nat) : ∃ (c : ClassId) (iS : Nat → Nat), ∀ q : vw_C, vwCl[k]? = some q → u_Kn s q.1 q.2.1 q.2.2 c iS := by
  have hx := w_tab hts
  have one : ∀ {C : String} {T : u_T} {N : Nat}, (∀ w ∈ u_ws C T N, w ∈ x_tbl) → Cond.instantiable C N ∈ x_tbl → vwCl[k]? = some (C, T, N) → ∃ (c : ClassId) (iS : Nat → Nat), ∀ q : vw_C, vwCl[k]? = some q → u_Kn s q.1 q.2.1 q.2.2 c iS := fun {C T N} h1 h2 h3 => by
    obtain ⟨c, iS, h⟩ := u_known (n := N) hx h1 (hx _ h2)
    refine ⟨c, iS, fun q hq => ?_⟩
    rw [h3] at hq
    cases hq
    exact h
  match k with
  | 0 => exact one inX0 ciX0.1 rfl
  | 1 => exact one inX1 ciX1.1 rfl
  | 2 => exact one inX2 ciX2.1 rfl
  | 3 => exact one inX3 ciX3.1 rfl
  | 4 => exact one inX4 ciX4.1 rfl
  | 5 => exact one inX5 ciX5.1 rfl
  | 6 => exact one inX6 ciX6.1 rfl
  | 7 => exact one inX7 ciX7.1 rfl
  | 8 => exact one inX8 ciX8.1 rfl
  | 9 => exact one inX9 ciX9.1 rfl
  | 10 => exact one inX10 ciX10.1 rfl
  | 11 => exact one inX11 ciX11.1 rfl
  | k + 12 => exact ⟨0, fun _ => 0, fun q hq => by simp at hq⟩
theorem w_over : Cond.arrayOver (.object "CutFromOthers$Form") ∈ lw_tbl := by decide +kernel
theorem w_K (hts : ∀ w ∈ lw_tbl, w.before args s = true) : ∃ (D : va_G) (ty : Nat → ClassId), va_K D vwCl (x_ty ty) s := by
  obtain ⟨c0, k0, p0, h1, h2, h3⟩ := Cond.arrayClass_spec (hts _ (List.mem_filter.mp ka_int).1)
  obtain ⟨c1, k1, p1, g1, g2, g3⟩ := Cond.arrayClass_spec (hts _ (List.mem_filter.mp ka_long).1)
  obtain ⟨p2, c2, k2, f1, f2, f3, f4, f5⟩ := Cond.arrayOver_spec (hts _ w_over)
  refine ⟨(fun k => (w_cls hts k).choose, fun k => (w_cls hts k).choose_spec.choose), fun k => if k = 0 then c0 else if k = 1 then c1 else c2, fun k q hq => (w_cls hts k).choose_spec.choose_spec q hq, fun k q hq => ?_⟩
  match k, hq with
  | 0, hq => cases hq; exact ⟨fun n z => ⟨fun k h => (by cases h), k0, h2, p0, h3⟩, h1⟩
  | 1, hq => cases hq; exact ⟨fun n z => ⟨fun k h => (by cases h), k1, g2, p1, g3⟩, g1⟩
  | 2, hq => cases hq; exact ⟨fun n z => ⟨fun k h => (by cases h), k2, f3, p2, f4⟩, k2, p2, f3, f4, f1, f5⟩
  | k + 3, hq => simp [x_ty] at hq
/-- what is given at the start, in pieces -/
abbrev w_G : List Cond := flatC (Jvm.Cond.and given_1 narrow_1)
abbrev w_tm (i : Nat) : Term := .string "CutFromOthers$Tape" (x_sr.getD i (0, "")).1
theorem w_most : ∀ j, j < 3 → Cond.eq (.elem (.static "CutFromOthers" "MOST_OF_TRAIT" "[I") (.int (Int32.ofNat j))) (.int (x_most j)) ∈ w_G := by decide +kernel
theorem w_abov : ∀ j, j < 8 → Cond.eq (.elem (.static "CutFromOthers$Stones" "ABOVE" "[I") (.int (Int32.ofNat j))) (.int (x_abov j)) ∈ w_G := by decide +kernel
theorem w_bods : ∀ j, j < 32 → Cond.eq (.elem (.static "CutFromOthers$Stones" "BODIES" "[I") (.int (Int32.ofNat j))) (.int (x_bods j)) ∈ w_G := by decide +kernel
theorem w_ex : ∀ i, i < 6 → Cond.exactly (w_tm i) "java/lang/String" ∈ w_G := by decide +kernel
theorem w_co : ∀ i, i < 6 → Cond.eq (.field (w_tm i) "java/lang/String" "coder" "B") (.int 0) ∈ w_G := by decide +kernel
theorem w_ar : ∀ i, i < 6 → Cond.arrayOf (.field (w_tm i) "java/lang/String" "value" "[B") .byte ∈ w_G := by decide +kernel
theorem w_le : ∀ i, i < 6 → Cond.eq (.length (.field (w_tm i) "java/lang/String" "value" "[B")) (.int (Int32.ofNat (x_sl.getD i 0))) ∈ w_G := by decide +kernel
theorem w_el : ∀ i, i < 6 → ∀ j, j < x_sl.getD i 0 → Cond.eq (.elem (.field (w_tm i) "java/lang/String" "value" "[B") (.int (Int32.ofNat j))) (.int ((x_sb.getD i []).getD j 0)) ∈ w_G := by decide +kernel
theorem w_ne : ∀ i, i < 6 → ∀ j, j < 6 → i ≠ j → Cond.not (Cond.eq (w_tm i) (w_tm j)) ∈ w_G ∨ Cond.not (Cond.eq (w_tm j) (w_tm i)) ∈ w_G := by decide +kernel
theorem w_st : ∀ q ∈ ([("CutFromOthers", "MOST_OF_TRAIT", "[I"), ("CutFromOthers$Stones", "ABOVE", "[I"), ("CutFromOthers$Stones", "BODIES", "[I"), ("java/lang/String", "COMPACT_STRINGS", "Z")] : List (String × String × String)), Cond.laysStatic q.1 q.2.1 q.2.2 ∈ lw_tbl ∧ Cond.initialized q.1 ∈ lw_tbl := by decide +kernel
theorem w_nF : ∀ q ∈ x_nF, Cond.fieldLinkNest q.1 q.2.1 q.2.2.1 q.2.2.2.1 q.2.2.2.2.1 q.2.2.2.2.2 ∈ lw_tbl := by decide +kernel
theorem w_nM : ∀ q ∈ x_nM, Cond.methodLinkNest q.1 q.2.1 q.2.2.1 q.2.2.2 ∈ lw_tbl := by decide +kernel
theorem w_sr : ∀ q ∈ x_sr, Cond.stringRef "CutFromOthers$Tape" q.1 q.2 ∈ lw_tbl := by decide +kernel
theorem w_ex_all (hts : ∀ w ∈ lw_tbl, w.before args s = true) (hgv : (Jvm.Cond.and given_1 narrow_1).before args s = true) {A : Nat → Prop} (hA : ∀ a : Nat, a < s.heap.size → ¬ A a) (b : Nat) : ∃ xt : Nat → Nat, xt 1000 = b ∧ ExH xt A s s.heap ∧ ExV xt s := by
  have hs := flat_of_before _ hgv
  obtain ⟨t1, e1, T1⟩ := va_Tof (tm := .static "CutFromOthers" "MOST_OF_TRAIT" "[I") (ty := .int) (N := 3) (f := fun j => .int (x_most j)) (by decide) (hs _ (by decide +kernel)) (va_eqt (hs _ (by decide +kernel))) (fun j hj => va_eqt (hs _ (w_most j hj))) hA
  obtain ⟨t2, e2, T2⟩ := va_Tof (tm := .static "CutFromOthers$Stones" "ABOVE" "[I") (ty := .int) (N := 8) (f := fun j => .int (x_abov j)) (by decide) (hs _ (by decide +kernel)) (va_eqt (hs _ (by decide +kernel))) (fun j hj => va_eqt (hs _ (w_abov j hj))) hA
  obtain ⟨t3, e3, T3⟩ := va_Tof (tm := .static "CutFromOthers$Stones" "BODIES" "[I") (ty := .int) (N := 32) (f := fun j => .int (x_bods j)) (by decide) (hs _ (by decide +kernel)) (va_eqt (hs _ (by decide +kernel))) (fun j hj => va_eqt (hs _ (w_bods j hj))) hA
  obtain ⟨adK, adV, hS, hE⟩ := vk_Sof (args := args) (s := s) (N := 6) (tm := w_tm) (len := x_sl) (byt := x_sb) (A := A) (by decide) (fun i hi => hs _ (w_ex i hi)) (fun i hi => hs _ (w_co i hi)) (fun i hi => hs _ (w_ar i hi)) (fun i hi => hs _ (w_le i hi)) (fun i hi j hj => hs _ (w_el i hi j hj)) (fun i j hi hj hne => (w_ne i hi j hj hne).imp (hs _) (hs _)) hA
  have st : ∀ {C n d : String} {v : Value}, (C, n, d) ∈ ([("CutFromOthers", "MOST_OF_TRAIT", "[I"), ("CutFromOthers$Stones", "ABOVE", "[I"), ("CutFromOthers$Stones", "BODIES", "[I"), ("java/lang/String", "COMPACT_STRINGS", "Z")] : List (String × String × String)) → (Term.static C n d).eval args s none [] s = some v → va_Z C n d v A s s.heap := fun {C n d v} h1 h2 => va_Zof (hts _ (w_st (C, n, d) h1).1) (hts _ (w_st (C, n, d) h1).2) h2 hA
  obtain ⟨xt, hxt⟩ : ∃ xt : Nat → Nat, xt = fun k => if k = 1000 then b else if k = 1001 then t1 else if k = 1002 then t2 else if k = 1003 then t3 else if k < 1020 then adK (k - 1010) else adV (k - 1020) := ⟨_, rfl⟩
  have x0 : xt 1000 = b := by rw [hxt]; rfl
  have x1 : xt 1001 = t1 := by rw [hxt]; rfl
  have x2 : xt 1002 = t2 := by rw [hxt]; rfl
  have x3 : xt 1003 = t3 := by rw [hxt]; rfl
  have xK : ∀ i, i < 6 → xt (1010 + i) = adK i := fun i hi => by
    rw [hxt]
    show (if 1010 + i = 1000 then b else if 1010 + i = 1001 then t1 else if 1010 + i = 1002 then t2 else if 1010 + i = 1003 then t3 else if 1010 + i < 1020 then adK (1010 + i - 1010) else adV (1010 + i - 1020)) = adK i
    rw [if_neg (by omega), if_neg (by omega), if_neg (by omega), if_neg (by omega), if_pos (by omega), Nat.add_sub_cancel_left]
  have xV : ∀ i, i < 6 → xt (1020 + i) = adV i := fun i hi => by
    rw [hxt]
    show (if 1020 + i = 1000 then b else if 1020 + i = 1001 then t1 else if 1020 + i = 1002 then t2 else if 1020 + i = 1003 then t3 else if 1020 + i < 1020 then adK (1020 + i - 1010) else adV (1020 + i - 1020)) = adV i
    rw [if_neg (by omega), if_neg (by omega), if_neg (by omega), if_neg (by omega), if_neg (by omega), Nat.add_sub_cancel_left]
  refine ⟨xt, x0, ⟨⟨by rw [x1]; exact st (by decide) e1, by rw [x1]; exact T1⟩, ⟨by rw [x2]; exact st (by decide) e2, by rw [x2]; exact T2⟩, ⟨by rw [x3]; exact st (by decide) e3, by rw [x3]; exact T3⟩, ⟨fun i hi => ?_, fun i j hi hj h => ?_⟩, st (by decide) (va_eqt (hs _ (by decide +kernel)))⟩, fun i q hq => ?_, fun q hq => va_Nw.of rfl (hts _ (w_nF q hq)), fun q hq => va_Nw.of rfl (hts _ (w_nM q hq)), va_AO.of (hts _ w_over)⟩
  · show va_O "java/lang/String" (xt (1010 + i)) A s s.heap ∧ va_OF "java/lang/String" "coder" "B" (.int 0) (xt (1010 + i)) A s s.heap ∧ va_OF "java/lang/String" "value" "[B" (.ref (xt (1020 + i))) (xt (1010 + i)) A s s.heap ∧ va_T .byte (xt (1020 + i)) (x_sl.getD i 0) (fun j => .int ((x_sb.getD i []).getD j 0)) A s s.heap
    rw [xK i hi, xV i hi]
    exact hS.1 i hi
  · have h : xt (1010 + i) = xt (1010 + j) := h
    rw [xK i hi, xK j hj] at h
    exact hS.2 i j hi hj h
  · have hl : i < 6 := (List.getElem?_eq_some_iff.mp hq).1
    have he := hE i hl
    have e : x_sr.getD i (0, "") = q := by rw [List.getD_eq_getElem?_getD, hq]; rfl
    rw [xK i hl]
    refine vk_R.of (A := args) (hts _ (w_sr q (List.mem_of_getElem? hq))) ?_
    rw [← e]
    exact he
end WORLD
