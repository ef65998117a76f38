theorem wp_iconst {X : cxT} {own : String} {cc : ByteArray} {d C S cells slots pc : Nat} {ls : List (Option Value)} {st : List Value} {M : mM} {n : Int} {v : Int32} (hX : Good X own cc d C S) (hd : decode cc pc = .ok (.iconst n, 1)) (hv : Int32.ofInt n = v) (k : WP X cells slots (pc + 1) ls (.int v :: st) M) : WP X cells slots pc ls st M := by
  obtain ⟨⟨p, l, e, R, s, m, args, below, meth, c⟩, Z, A, D, ty, xt, nL, L0⟩ := X
  intro L H locs lc h0 hP hS hl
  exact lv_iconst hX.1 hX.2.1 hd hv (k L H locs lc h0 hP hS hl)
theorem wp_bipush {X : cxT} {own : String} {cc : ByteArray} {d C S cells slots pc : Nat} {ls : List (Option Value)} {st : List Value} {M : mM} {n : Int} {v : Int32} (hX : Good X own cc d C S) (hd : decode cc pc = .ok (.bipush n, 2)) (hv : (Int8.ofInt n).toInt32 = v) (k : WP X cells slots (pc + 2) ls (.int v :: st) M) : WP X cells slots pc ls st M := by
  obtain ⟨⟨p, l, e, R, s, m, args, below, meth, c⟩, Z, A, D, ty, xt, nL, L0⟩ := X
  intro L H locs lc h0 hP hS hl
  exact lv_bipush hX.1 hX.2.1 hd hv (k L H locs lc h0 hP hS hl)
theorem wp_sipush {X : cxT} {own : String} {cc : ByteArray} {d C S cells slots pc : Nat} {ls : List (Option Value)} {st : List Value} {M : mM} {n : Int} {v : Int32} (hX : Good X own cc d C S) (hd : decode cc pc = .ok (.sipush n, 3)) (hv : (Int16.ofInt n).toInt32 = v) (k : WP X cells slots (pc + 3) ls (.int v :: st) M) : WP X cells slots pc ls st M := by
  obtain ⟨⟨p, l, e, R, s, m, args, below, meth, c⟩, Z, A, D, ty, xt, nL, L0⟩ := X
  intro L H locs lc h0 hP hS hl
  exact lv_sipush hX.1 hX.2.1 hd hv (k L H locs lc h0 hP hS hl)
theorem wp_lconst {X : cxT} {own : String} {cc : ByteArray} {d C S cells slots pc : Nat} {ls : List (Option Value)} {st : List Value} {M : mM} {n : Fin 2} {v : Int64} (hX : Good X own cc d C S) (hd : decode cc pc = .ok (.lconst n, 1)) (hv : Int64.ofNat (n : Nat) = v) (k : WP X cells slots (pc + 1) ls (.long v :: st) M) : WP X cells slots pc ls st M := by
  obtain ⟨⟨p, l, e, R, s, m, args, below, meth, c⟩, Z, A, D, ty, xt, nL, L0⟩ := X
  intro L H locs lc h0 hP hS hl
  exact lv_lconst hX.1 hX.2.1 hd hv (k L H locs lc h0 hP hS hl)
theorem wp_ldc {X : cxT} {own : String} {cc : ByteArray} {d C S cells slots pc : Nat} {ls : List (Option Value)} {st : List Value} {M : mM} {index : Nat} {v : Int32} (hX : Good X own cc d C S) (hd : decode cc pc = .ok (.ldc index, 2)) (hw : Cond.constant own index v ∈ x_tbl) (k : WP X cells slots (pc + 2) ls (.int v :: st) M) : WP X cells slots pc ls st M := by
  obtain ⟨⟨p, l, e, R, s, m, args, below, meth, c⟩, Z, A, D, ty, xt, nL, L0⟩ := X
  intro L H locs lc h0 hP hS hl
  exact lv_ldc hX.1 hX.2.1 hX.2.2.2.1 (hX.2.2.2.2.1 _ hw) hd (k L H locs lc h0 hP hS hl)
theorem wp_ldc2 {X : cxT} {own : String} {cc : ByteArray} {d C S cells slots pc : Nat} {ls : List (Option Value)} {st : List Value} {M : mM} {index : Nat} {v : Int64} (hX : Good X own cc d C S) (hd : decode cc pc = .ok (.ldc2_w index, 3)) (hw : Cond.constantLong own index v ∈ x_tbl) (k : WP X cells slots (pc + 3) ls (.long v :: st) M) : WP X cells slots pc ls st M := by
  obtain ⟨⟨p, l, e, R, s, m, args, below, meth, c⟩, Z, A, D, ty, xt, nL, L0⟩ := X
  intro L H locs lc h0 hP hS hl
  exact lv_ldc2 hX.1 hX.2.1 hX.2.2.2.1 (hX.2.2.2.2.1 _ hw) hd (k L H locs lc h0 hP hS hl)
theorem wp_ldcw {X : cxT} {own : String} {cc : ByteArray} {d C S cells slots pc : Nat} {ls : List (Option Value)} {st : List Value} {M : mM} {index : Nat} {v : Int32} (hX : Good X own cc d C S) (hd : decode cc pc = .ok (.ldc_w index, 3)) (hw : Cond.constant own index v ∈ x_tbl) (k : WP X cells slots (pc + 3) ls (.int v :: st) M) : WP X cells slots pc ls st M := by
  obtain ⟨⟨p, l, e, R, s, m, args, below, meth, c⟩, Z, A, D, ty, xt, nL, L0⟩ := X
  intro L H locs lc h0 hP hS hl
  intro T hT X9
  obtain ⟨t, a1, b1⟩ := k L H locs lc h0 hP hS hl T hT X9
  exact ⟨t, va_ldcwI X9 hX.1 hX.2.2.2.1 (hX.2.2.2.2.1 _ hw) (g := F0 m pc lc (st.map (cv xt L))) rfl (by rw [hX.2.1]; exact hd) t a1, b1⟩
theorem wp_iload_n {X : cxT} {own : String} {cc : ByteArray} {d C S cells slots pc : Nat} {ls : List (Option Value)} {st : List Value} {M : mM} {j : Fin 4} {x : Int32} (hX : Good X own cc d C S) (hd : decode cc pc = .ok (.iload_n j, 1)) (hv : ls[(j : Nat)]? = some (some (.int x))) (k : WP X cells slots (pc + 1) ls (.int x :: st) M) : WP X cells slots pc ls st M := by
  obtain ⟨⟨p, l, e, R, s, m, args, below, meth, c⟩, Z, A, D, ty, xt, nL, L0⟩ := X
  intro L H locs lc h0 hP hS hl
  exact lv_iload_n hX.1 hX.2.1 hd rfl (hl.2.2 _ _ hv) (k L H locs lc h0 hP hS hl)
theorem wp_iload {X : cxT} {own : String} {cc : ByteArray} {d C S cells slots pc : Nat} {ls : List (Option Value)} {st : List Value} {M : mM} {i : Nat} {x : Int32} (hX : Good X own cc d C S) (hd : decode cc pc = .ok (.iload i, 2)) (hv : ls[i]? = some (some (.int x))) (k : WP X cells slots (pc + 2) ls (.int x :: st) M) : WP X cells slots pc ls st M := by
  obtain ⟨⟨p, l, e, R, s, m, args, below, meth, c⟩, Z, A, D, ty, xt, nL, L0⟩ := X
  intro L H locs lc h0 hP hS hl
  exact lv_iload hX.1 hX.2.1 hd (hl.2.2 _ _ hv) (k L H locs lc h0 hP hS hl)
theorem wp_lload_n {X : cxT} {own : String} {cc : ByteArray} {d C S cells slots pc : Nat} {ls : List (Option Value)} {st : List Value} {M : mM} {j : Fin 4} {x : Int64} (hX : Good X own cc d C S) (hd : decode cc pc = .ok (.lload_n j, 1)) (hv : ls[(j : Nat)]? = some (some (.long x))) (k : WP X cells slots (pc + 1) ls (.long x :: st) M) : WP X cells slots pc ls st M := by
  obtain ⟨⟨p, l, e, R, s, m, args, below, meth, c⟩, Z, A, D, ty, xt, nL, L0⟩ := X
  intro L H locs lc h0 hP hS hl
  exact lv_lload_n hX.1 hX.2.1 hd rfl (hl.2.2 _ _ hv) (k L H locs lc h0 hP hS hl)
theorem wp_lload {X : cxT} {own : String} {cc : ByteArray} {d C S cells slots pc : Nat} {ls : List (Option Value)} {st : List Value} {M : mM} {i : Nat} {x : Int64} (hX : Good X own cc d C S) (hd : decode cc pc = .ok (.lload i, 2)) (hv : ls[i]? = some (some (.long x))) (k : WP X cells slots (pc + 2) ls (.long x :: st) M) : WP X cells slots pc ls st M := by
  obtain ⟨⟨p, l, e, R, s, m, args, below, meth, c⟩, Z, A, D, ty, xt, nL, L0⟩ := X
  intro L H locs lc h0 hP hS hl
  exact lv_lload hX.1 hX.2.1 hd (hl.2.2 _ _ hv) (k L H locs lc h0 hP hS hl)
theorem wp_aload_n {X : cxT} {own : String} {cc : ByteArray} {d C S cells slots pc : Nat} {ls : List (Option Value)} {st : List Value} {M : mM} {j : Fin 4} {x : Nat} (hX : Good X own cc d C S) (hd : decode cc pc = .ok (.aload_n j, 1)) (hv : ls[(j : Nat)]? = some (some (.ref x))) (k : WP X cells slots (pc + 1) ls (.ref x :: st) M) : WP X cells slots pc ls st M := by
  obtain ⟨⟨p, l, e, R, s, m, args, below, meth, c⟩, Z, A, D, ty, xt, nL, L0⟩ := X
  intro L H locs lc h0 hP hS hl
  exact lv_aload_n hX.1 hX.2.1 hd rfl (hl.2.2 _ _ hv) (k L H locs lc h0 hP hS hl)
theorem wp_aload {X : cxT} {own : String} {cc : ByteArray} {d C S cells slots pc : Nat} {ls : List (Option Value)} {st : List Value} {M : mM} {i : Nat} {x : Nat} (hX : Good X own cc d C S) (hd : decode cc pc = .ok (.aload i, 2)) (hv : ls[i]? = some (some (.ref x))) (k : WP X cells slots (pc + 2) ls (.ref x :: st) M) : WP X cells slots pc ls st M := by
  obtain ⟨⟨p, l, e, R, s, m, args, below, meth, c⟩, Z, A, D, ty, xt, nL, L0⟩ := X
  intro L H locs lc h0 hP hS hl
  exact lv_aload hX.1 hX.2.1 hd (hl.2.2 _ _ hv) (k L H locs lc h0 hP hS hl)
theorem wp_istore_n {X : cxT} {own : String} {cc : ByteArray} {d C S cells slots pc : Nat} {ls : List (Option Value)} {st : List Value} {M : mM} {j : Fin 4} {i : Nat} {x : Int32} (hX : Good X own cc d C S) (hd : decode cc pc = .ok (.istore_n j, 1)) (hi : (j : Nat) = i) (hok : x_ok ls i = true) (hn : x_nl X = ls.length) (hlt : i < ls.length) (k : WP X cells slots (pc + 1) (ls.set i (some (.int x))) st M) : WP X cells slots pc ls (.int x :: st) M := by
  obtain ⟨⟨p, l, e, R, s, m, args, below, meth, c⟩, Z, A, D, ty, xt, nL, L0⟩ := X
  intro L H locs lc h0 hP hS hl
  have hn : nL = ls.length := hn
  exact lv_istore_n hX.1 hX.2.1 hd hi hl.has (by omega) rfl (fun lc' hl' => k L H locs lc' h0 hP hS (LR.st1 (v := .int x) hok hl'))
theorem wp_istore {X : cxT} {own : String} {cc : ByteArray} {d C S cells slots pc : Nat} {ls : List (Option Value)} {st : List Value} {M : mM} {i : Nat} {x : Int32} (hX : Good X own cc d C S) (hd : decode cc pc = .ok (.istore i, 2)) (hok : x_ok ls i = true) (hn : x_nl X = ls.length) (hlt : i < ls.length) (k : WP X cells slots (pc + 2) (ls.set i (some (.int x))) st M) : WP X cells slots pc ls (.int x :: st) M := by
  obtain ⟨⟨p, l, e, R, s, m, args, below, meth, c⟩, Z, A, D, ty, xt, nL, L0⟩ := X
  intro L H locs lc h0 hP hS hl
  have hn : nL = ls.length := hn
  exact lv_istore hX.1 hX.2.1 hd hl.has (by omega) rfl (fun lc' hl' => k L H locs lc' h0 hP hS (LR.st1 (v := .int x) hok hl'))
theorem wp_lstore_n {X : cxT} {own : String} {cc : ByteArray} {d C S cells slots pc : Nat} {ls : List (Option Value)} {st : List Value} {M : mM} {j : Fin 4} {i : Nat} {x : Int64} (hX : Good X own cc d C S) (hd : decode cc pc = .ok (.lstore_n j, 1)) (hi : (j : Nat) = i) (hok : x_ok ls i = true) (hn : x_nl X = ls.length) (hlt : i + 1 < ls.length) (k : WP X cells slots (pc + 1) ((ls.set (i + 1) none).set i (some (.long x))) st M) : WP X cells slots pc ls (.long x :: st) M := by
  obtain ⟨⟨p, l, e, R, s, m, args, below, meth, c⟩, Z, A, D, ty, xt, nL, L0⟩ := X
  intro L H locs lc h0 hP hS hl
  have hn : nL = ls.length := hn
  exact lv_lstore_n hX.1 hX.2.1 hd hi hl.has (by omega) rfl (fun lc' hl' => k L H locs lc' h0 hP hS (LR.st2 (v := .long x) hok hl'))
theorem wp_lstore {X : cxT} {own : String} {cc : ByteArray} {d C S cells slots pc : Nat} {ls : List (Option Value)} {st : List Value} {M : mM} {i : Nat} {x : Int64} (hX : Good X own cc d C S) (hd : decode cc pc = .ok (.lstore i, 2)) (hok : x_ok ls i = true) (hn : x_nl X = ls.length) (hlt : i + 1 < ls.length) (k : WP X cells slots (pc + 2) ((ls.set (i + 1) none).set i (some (.long x))) st M) : WP X cells slots pc ls (.long x :: st) M := by
  obtain ⟨⟨p, l, e, R, s, m, args, below, meth, c⟩, Z, A, D, ty, xt, nL, L0⟩ := X
  intro L H locs lc h0 hP hS hl
  have hn : nL = ls.length := hn
  exact lv_lstore hX.1 hX.2.1 hd hl.has (by omega) rfl (fun lc' hl' => k L H locs lc' h0 hP hS (LR.st2 (v := .long x) hok hl'))
theorem wp_astore_n {X : cxT} {own : String} {cc : ByteArray} {d C S cells slots pc : Nat} {ls : List (Option Value)} {st : List Value} {M : mM} {j : Fin 4} {i : Nat} {x : Nat} (hX : Good X own cc d C S) (hd : decode cc pc = .ok (.astore_n j, 1)) (hi : (j : Nat) = i) (hok : x_ok ls i = true) (hn : x_nl X = ls.length) (hlt : i < ls.length) (k : WP X cells slots (pc + 1) (ls.set i (some (.ref x))) st M) : WP X cells slots pc ls (.ref x :: st) M := by
  obtain ⟨⟨p, l, e, R, s, m, args, below, meth, c⟩, Z, A, D, ty, xt, nL, L0⟩ := X
  intro L H locs lc h0 hP hS hl
  have hn : nL = ls.length := hn
  exact lv_astore_n hX.1 hX.2.1 hd hi hl.has (by omega) rfl (fun lc' hl' => k L H locs lc' h0 hP hS (LR.st1 (v := .ref x) hok hl'))
theorem wp_astore {X : cxT} {own : String} {cc : ByteArray} {d C S cells slots pc : Nat} {ls : List (Option Value)} {st : List Value} {M : mM} {i : Nat} {x : Nat} (hX : Good X own cc d C S) (hd : decode cc pc = .ok (.astore i, 2)) (hok : x_ok ls i = true) (hn : x_nl X = ls.length) (hlt : i < ls.length) (k : WP X cells slots (pc + 2) (ls.set i (some (.ref x))) st M) : WP X cells slots pc ls (.ref x :: st) M := by
  obtain ⟨⟨p, l, e, R, s, m, args, below, meth, c⟩, Z, A, D, ty, xt, nL, L0⟩ := X
  intro L H locs lc h0 hP hS hl
  have hn : nL = ls.length := hn
  exact lv_astore hX.1 hX.2.1 hd hl.has (by omega) rfl (fun lc' hl' => k L H locs lc' h0 hP hS (LR.st1 (v := .ref x) hok hl'))
theorem wp_iinc {X : cxT} {own : String} {cc : ByteArray} {d C S cells slots pc : Nat} {ls : List (Option Value)} {st : List Value} {M : mM} {i : Nat} {n : Int} {x v : Int32} (hX : Good X own cc d C S) (hd : decode cc pc = .ok (.iinc i n, 3)) (hx : ls[i]? = some (some (.int x))) (hv : x + Int32.ofInt n = v) (hok : x_ok ls i = true) (hn : x_nl X = ls.length) (k : WP X cells slots (pc + 3) (ls.set i (some (.int v))) st M) : WP X cells slots pc ls st M := by
  obtain ⟨⟨p, l, e, R, s, m, args, below, meth, c⟩, Z, A, D, ty, xt, nL, L0⟩ := X
  intro L H locs lc h0 hP hS hl
  have hn : nL = ls.length := hn
  have hi := (List.getElem?_eq_some_iff.mp hx).1
  obtain ⟨j, hj⟩ := List.getElem?_of_mem (x_lv_mem.mpr ⟨i, _, hx, rfl⟩ : (i, cv xt L (.int x)) ∈ x_lv xt L ls)
  exact lv_iinc hX.1 hX.2.1 hd hl.has (k := j) hj hv (by omega) rfl (fun lc' hl' => k L H locs lc' h0 hP hS (LR.st1 (v := .int v) hok hl'))
theorem wp_iadd {X : cxT} {own : String} {cc : ByteArray} {d C S cells slots pc : Nat} {ls : List (Option Value)} {st : List Value} {M : mM} {x y : Int32} (hX : Good X own cc d C S) (hd : decode cc pc = .ok (.iadd, 1))  (k : WP X cells slots (pc + 1) ls (.int (x + y) :: st) M) : WP X cells slots pc ls (.int y :: .int x :: st) M := by
  obtain ⟨⟨p, l, e, R, s, m, args, below, meth, c⟩, Z, A, D, ty, xt, nL, L0⟩ := X
  intro L H locs lc h0 hP hS hl
  exact lv_iadd hX.1 hX.2.1 hd (k L H locs lc h0 hP hS hl)
theorem wp_isub {X : cxT} {own : String} {cc : ByteArray} {d C S cells slots pc : Nat} {ls : List (Option Value)} {st : List Value} {M : mM} {x y : Int32} (hX : Good X own cc d C S) (hd : decode cc pc = .ok (.isub, 1))  (k : WP X cells slots (pc + 1) ls (.int (x - y) :: st) M) : WP X cells slots pc ls (.int y :: .int x :: st) M := by
  obtain ⟨⟨p, l, e, R, s, m, args, below, meth, c⟩, Z, A, D, ty, xt, nL, L0⟩ := X
  intro L H locs lc h0 hP hS hl
  exact lv_isub hX.1 hX.2.1 hd (k L H locs lc h0 hP hS hl)
theorem wp_imul {X : cxT} {own : String} {cc : ByteArray} {d C S cells slots pc : Nat} {ls : List (Option Value)} {st : List Value} {M : mM} {x y : Int32} (hX : Good X own cc d C S) (hd : decode cc pc = .ok (.imul, 1))  (k : WP X cells slots (pc + 1) ls (.int (x * y) :: st) M) : WP X cells slots pc ls (.int y :: .int x :: st) M := by
  obtain ⟨⟨p, l, e, R, s, m, args, below, meth, c⟩, Z, A, D, ty, xt, nL, L0⟩ := X
  intro L H locs lc h0 hP hS hl
  exact lv_imul hX.1 hX.2.1 hd (k L H locs lc h0 hP hS hl)
theorem wp_iand {X : cxT} {own : String} {cc : ByteArray} {d C S cells slots pc : Nat} {ls : List (Option Value)} {st : List Value} {M : mM} {x y : Int32} (hX : Good X own cc d C S) (hd : decode cc pc = .ok (.iand, 1))  (k : WP X cells slots (pc + 1) ls (.int (x &&& y) :: st) M) : WP X cells slots pc ls (.int y :: .int x :: st) M := by
  obtain ⟨⟨p, l, e, R, s, m, args, below, meth, c⟩, Z, A, D, ty, xt, nL, L0⟩ := X
  intro L H locs lc h0 hP hS hl
  exact lv_iand hX.1 hX.2.1 hd (k L H locs lc h0 hP hS hl)
theorem wp_ior {X : cxT} {own : String} {cc : ByteArray} {d C S cells slots pc : Nat} {ls : List (Option Value)} {st : List Value} {M : mM} {x y : Int32} (hX : Good X own cc d C S) (hd : decode cc pc = .ok (.ior, 1))  (k : WP X cells slots (pc + 1) ls (.int (x ||| y) :: st) M) : WP X cells slots pc ls (.int y :: .int x :: st) M := by
  obtain ⟨⟨p, l, e, R, s, m, args, below, meth, c⟩, Z, A, D, ty, xt, nL, L0⟩ := X
  intro L H locs lc h0 hP hS hl
  exact lv_ior hX.1 hX.2.1 hd (k L H locs lc h0 hP hS hl)
theorem wp_ixor {X : cxT} {own : String} {cc : ByteArray} {d C S cells slots pc : Nat} {ls : List (Option Value)} {st : List Value} {M : mM} {x y : Int32} (hX : Good X own cc d C S) (hd : decode cc pc = .ok (.ixor, 1))  (k : WP X cells slots (pc + 1) ls (.int (x ^^^ y) :: st) M) : WP X cells slots pc ls (.int y :: .int x :: st) M := by
  obtain ⟨⟨p, l, e, R, s, m, args, below, meth, c⟩, Z, A, D, ty, xt, nL, L0⟩ := X
  intro L H locs lc h0 hP hS hl
  exact lv_ixor hX.1 hX.2.1 hd (k L H locs lc h0 hP hS hl)
theorem wp_ishl {X : cxT} {own : String} {cc : ByteArray} {d C S cells slots pc : Nat} {ls : List (Option Value)} {st : List Value} {M : mM} {x y : Int32} (hX : Good X own cc d C S) (hd : decode cc pc = .ok (.ishl, 1))  (k : WP X cells slots (pc + 1) ls (.int (x <<< (y &&& 31)) :: st) M) : WP X cells slots pc ls (.int y :: .int x :: st) M := by
  obtain ⟨⟨p, l, e, R, s, m, args, below, meth, c⟩, Z, A, D, ty, xt, nL, L0⟩ := X
  intro L H locs lc h0 hP hS hl
  exact lv_ishl hX.1 hX.2.1 hd (k L H locs lc h0 hP hS hl)
theorem wp_ishr {X : cxT} {own : String} {cc : ByteArray} {d C S cells slots pc : Nat} {ls : List (Option Value)} {st : List Value} {M : mM} {x y : Int32} (hX : Good X own cc d C S) (hd : decode cc pc = .ok (.ishr, 1))  (k : WP X cells slots (pc + 1) ls (.int (x >>> (y &&& 31)) :: st) M) : WP X cells slots pc ls (.int y :: .int x :: st) M := by
  obtain ⟨⟨p, l, e, R, s, m, args, below, meth, c⟩, Z, A, D, ty, xt, nL, L0⟩ := X
  intro L H locs lc h0 hP hS hl
  exact lv_ishr hX.1 hX.2.1 hd (k L H locs lc h0 hP hS hl)
theorem wp_iushr {X : cxT} {own : String} {cc : ByteArray} {d C S cells slots pc : Nat} {ls : List (Option Value)} {st : List Value} {M : mM} {x y : Int32} (hX : Good X own cc d C S) (hd : decode cc pc = .ok (.iushr, 1))  (k : WP X cells slots (pc + 1) ls (.int ((x.toUInt32 >>> (y.toUInt32 &&& Int32.toUInt32 31)).toInt32) :: st) M) : WP X cells slots pc ls (.int y :: .int x :: st) M := by
  obtain ⟨⟨p, l, e, R, s, m, args, below, meth, c⟩, Z, A, D, ty, xt, nL, L0⟩ := X
  intro L H locs lc h0 hP hS hl
  exact lv_iushr hX.1 hX.2.1 hd rfl (k L H locs lc h0 hP hS hl)
theorem wp_idiv {X : cxT} {own : String} {cc : ByteArray} {d C S cells slots pc : Nat} {ls : List (Option Value)} {st : List Value} {M : mM} {x y : Int32} (hX : Good X own cc d C S) (hd : decode cc pc = .ok (.idiv, 1)) (hne : ¬ y = 0) (k : WP X cells slots (pc + 1) ls (.int (x / y) :: st) M) : WP X cells slots pc ls (.int y :: .int x :: st) M := by
  obtain ⟨⟨p, l, e, R, s, m, args, below, meth, c⟩, Z, A, D, ty, xt, nL, L0⟩ := X
  intro L H locs lc h0 hP hS hl
  exact lv_idiv hX.1 hX.2.1 hd hne (k L H locs lc h0 hP hS hl)
theorem wp_irem {X : cxT} {own : String} {cc : ByteArray} {d C S cells slots pc : Nat} {ls : List (Option Value)} {st : List Value} {M : mM} {x y : Int32} (hX : Good X own cc d C S) (hd : decode cc pc = .ok (.irem, 1)) (hne : ¬ y = 0) (k : WP X cells slots (pc + 1) ls (.int (x - x / y * y) :: st) M) : WP X cells slots pc ls (.int y :: .int x :: st) M := by
  obtain ⟨⟨p, l, e, R, s, m, args, below, meth, c⟩, Z, A, D, ty, xt, nL, L0⟩ := X
  intro L H locs lc h0 hP hS hl
  exact lv_irem hX.1 hX.2.1 hd hne (k L H locs lc h0 hP hS hl)
theorem wp_ineg {X : cxT} {own : String} {cc : ByteArray} {d C S cells slots pc : Nat} {ls : List (Option Value)} {st : List Value} {M : mM} {x : Int32} (hX : Good X own cc d C S) (hd : decode cc pc = .ok (.ineg, 1))  (k : WP X cells slots (pc + 1) ls (.int (-x) :: st) M) : WP X cells slots pc ls (.int x :: st) M := by
  obtain ⟨⟨p, l, e, R, s, m, args, below, meth, c⟩, Z, A, D, ty, xt, nL, L0⟩ := X
  intro L H locs lc h0 hP hS hl
  exact lv_ineg hX.1 hX.2.1 hd (k L H locs lc h0 hP hS hl)
theorem wp_ladd {X : cxT} {own : String} {cc : ByteArray} {d C S cells slots pc : Nat} {ls : List (Option Value)} {st : List Value} {M : mM} {x y : Int64} (hX : Good X own cc d C S) (hd : decode cc pc = .ok (.ladd, 1))  (k : WP X cells slots (pc + 1) ls (.long (x + y) :: st) M) : WP X cells slots pc ls (.long y :: .long x :: st) M := by
  obtain ⟨⟨p, l, e, R, s, m, args, below, meth, c⟩, Z, A, D, ty, xt, nL, L0⟩ := X
  intro L H locs lc h0 hP hS hl
  exact lv_ladd hX.1 hX.2.1 hd (k L H locs lc h0 hP hS hl)
theorem wp_lsub {X : cxT} {own : String} {cc : ByteArray} {d C S cells slots pc : Nat} {ls : List (Option Value)} {st : List Value} {M : mM} {x y : Int64} (hX : Good X own cc d C S) (hd : decode cc pc = .ok (.lsub, 1))  (k : WP X cells slots (pc + 1) ls (.long (x - y) :: st) M) : WP X cells slots pc ls (.long y :: .long x :: st) M := by
  obtain ⟨⟨p, l, e, R, s, m, args, below, meth, c⟩, Z, A, D, ty, xt, nL, L0⟩ := X
  intro L H locs lc h0 hP hS hl
  exact lv_lsub hX.1 hX.2.1 hd (k L H locs lc h0 hP hS hl)
theorem wp_lmul {X : cxT} {own : String} {cc : ByteArray} {d C S cells slots pc : Nat} {ls : List (Option Value)} {st : List Value} {M : mM} {x y : Int64} (hX : Good X own cc d C S) (hd : decode cc pc = .ok (.lmul, 1))  (k : WP X cells slots (pc + 1) ls (.long (x * y) :: st) M) : WP X cells slots pc ls (.long y :: .long x :: st) M := by
  obtain ⟨⟨p, l, e, R, s, m, args, below, meth, c⟩, Z, A, D, ty, xt, nL, L0⟩ := X
  intro L H locs lc h0 hP hS hl
  exact lv_lmul hX.1 hX.2.1 hd (k L H locs lc h0 hP hS hl)
theorem wp_land {X : cxT} {own : String} {cc : ByteArray} {d C S cells slots pc : Nat} {ls : List (Option Value)} {st : List Value} {M : mM} {x y : Int64} (hX : Good X own cc d C S) (hd : decode cc pc = .ok (.land, 1))  (k : WP X cells slots (pc + 1) ls (.long (x &&& y) :: st) M) : WP X cells slots pc ls (.long y :: .long x :: st) M := by
  obtain ⟨⟨p, l, e, R, s, m, args, below, meth, c⟩, Z, A, D, ty, xt, nL, L0⟩ := X
  intro L H locs lc h0 hP hS hl
  exact lv_land hX.1 hX.2.1 hd (k L H locs lc h0 hP hS hl)
theorem wp_lor {X : cxT} {own : String} {cc : ByteArray} {d C S cells slots pc : Nat} {ls : List (Option Value)} {st : List Value} {M : mM} {x y : Int64} (hX : Good X own cc d C S) (hd : decode cc pc = .ok (.lor, 1))  (k : WP X cells slots (pc + 1) ls (.long (x ||| y) :: st) M) : WP X cells slots pc ls (.long y :: .long x :: st) M := by
  obtain ⟨⟨p, l, e, R, s, m, args, below, meth, c⟩, Z, A, D, ty, xt, nL, L0⟩ := X
  intro L H locs lc h0 hP hS hl
  exact lv_lor hX.1 hX.2.1 hd (k L H locs lc h0 hP hS hl)
theorem wp_lshl {X : cxT} {own : String} {cc : ByteArray} {d C S cells slots pc : Nat} {ls : List (Option Value)} {st : List Value} {M : mM} {x : Int64} {y : Int32} (hX : Good X own cc d C S) (hd : decode cc pc = .ok (.lshl, 1))  (k : WP X cells slots (pc + 1) ls (.long (x <<< (y.toInt64 &&& 63)) :: st) M) : WP X cells slots pc ls (.int y :: .long x :: st) M := by
  obtain ⟨⟨p, l, e, R, s, m, args, below, meth, c⟩, Z, A, D, ty, xt, nL, L0⟩ := X
  intro L H locs lc h0 hP hS hl
  exact lv_lshl hX.1 hX.2.1 hd rfl (k L H locs lc h0 hP hS hl)
theorem wp_lcmp {X : cxT} {own : String} {cc : ByteArray} {d C S cells slots pc : Nat} {ls : List (Option Value)} {st : List Value} {M : mM} {x y : Int64} (hX : Good X own cc d C S) (hd : decode cc pc = .ok (.lcmp, 1))  (k : WP X cells slots (pc + 1) ls (.int (lg_cmp x y) :: st) M) : WP X cells slots pc ls (.long y :: .long x :: st) M := by
  obtain ⟨⟨p, l, e, R, s, m, args, below, meth, c⟩, Z, A, D, ty, xt, nL, L0⟩ := X
  intro L H locs lc h0 hP hS hl
  exact W.lcmp hX.1 hX.2.1 hd (k L H locs lc h0 hP hS hl)
theorem wp_i2l {X : cxT} {own : String} {cc : ByteArray} {d C S cells slots pc : Nat} {ls : List (Option Value)} {st : List Value} {M : mM} {x : Int32} (hX : Good X own cc d C S) (hd : decode cc pc = .ok (.i2l, 1))  (k : WP X cells slots (pc + 1) ls (.long x.toInt64 :: st) M) : WP X cells slots pc ls (.int x :: st) M := by
  obtain ⟨⟨p, l, e, R, s, m, args, below, meth, c⟩, Z, A, D, ty, xt, nL, L0⟩ := X
  intro L H locs lc h0 hP hS hl
  exact lv_i2l hX.1 hX.2.1 hd rfl (k L H locs lc h0 hP hS hl)
theorem wp_l2i {X : cxT} {own : String} {cc : ByteArray} {d C S cells slots pc : Nat} {ls : List (Option Value)} {st : List Value} {M : mM} {x : Int64} (hX : Good X own cc d C S) (hd : decode cc pc = .ok (.l2i, 1))  (k : WP X cells slots (pc + 1) ls (.int x.toInt32 :: st) M) : WP X cells slots pc ls (.long x :: st) M := by
  obtain ⟨⟨p, l, e, R, s, m, args, below, meth, c⟩, Z, A, D, ty, xt, nL, L0⟩ := X
  intro L H locs lc h0 hP hS hl
  exact lv_l2i hX.1 hX.2.1 hd rfl (k L H locs lc h0 hP hS hl)
theorem wp_i2b {X : cxT} {own : String} {cc : ByteArray} {d C S cells slots pc : Nat} {ls : List (Option Value)} {st : List Value} {M : mM} {x : Int32} (hX : Good X own cc d C S) (hd : decode cc pc = .ok (.i2b, 1))  (k : WP X cells slots (pc + 1) ls (.int x.toInt8.toInt32 :: st) M) : WP X cells slots pc ls (.int x :: st) M := by
  obtain ⟨⟨p, l, e, R, s, m, args, below, meth, c⟩, Z, A, D, ty, xt, nL, L0⟩ := X
  intro L H locs lc h0 hP hS hl
  exact lv_i2b hX.1 hX.2.1 hd rfl (k L H locs lc h0 hP hS hl)
theorem wp_i2s {X : cxT} {own : String} {cc : ByteArray} {d C S cells slots pc : Nat} {ls : List (Option Value)} {st : List Value} {M : mM} {x : Int32} (hX : Good X own cc d C S) (hd : decode cc pc = .ok (.i2s, 1))  (k : WP X cells slots (pc + 1) ls (.int x.toInt16.toInt32 :: st) M) : WP X cells slots pc ls (.int x :: st) M := by
  obtain ⟨⟨p, l, e, R, s, m, args, below, meth, c⟩, Z, A, D, ty, xt, nL, L0⟩ := X
  intro L H locs lc h0 hP hS hl
  exact lv_i2s hX.1 hX.2.1 hd rfl (k L H locs lc h0 hP hS hl)
theorem wp_i2c {X : cxT} {own : String} {cc : ByteArray} {d C S cells slots pc : Nat} {ls : List (Option Value)} {st : List Value} {M : mM} {x : Int32} (hX : Good X own cc d C S) (hd : decode cc pc = .ok (.i2c, 1))  (k : WP X cells slots (pc + 1) ls (.int (x.toUInt32 % 65536).toInt32 :: st) M) : WP X cells slots pc ls (.int x :: st) M := by
  obtain ⟨⟨p, l, e, R, s, m, args, below, meth, c⟩, Z, A, D, ty, xt, nL, L0⟩ := X
  intro L H locs lc h0 hP hS hl
  exact lv_i2c hX.1 hX.2.1 hd rfl (k L H locs lc h0 hP hS hl)
theorem wp_dup {X : cxT} {own : String} {cc : ByteArray} {d C S cells slots pc : Nat} {ls : List (Option Value)} {st : List Value} {M : mM} {a : Value} (hX : Good X own cc d C S) (hd : decode cc pc = .ok (.dup, 1)) (h1 : a.category = 1) (k : WP X cells slots (pc + 1) ls (a :: a :: st) M) : WP X cells slots pc ls (a :: st) M := by
  obtain ⟨⟨p, l, e, R, s, m, args, below, meth, c⟩, Z, A, D, ty, xt, nL, L0⟩ := X
  intro L H locs lc h0 hP hS hl
  exact lv_dup hX.1 hX.2.1 hd (by rw [cv_cat]; exact h1) (k L H locs lc h0 hP hS hl)
theorem wp_pop {X : cxT} {own : String} {cc : ByteArray} {d C S cells slots pc : Nat} {ls : List (Option Value)} {st : List Value} {M : mM} {a : Value} (hX : Good X own cc d C S) (hd : decode cc pc = .ok (.pop, 1)) (h1 : a.category = 1) (k : WP X cells slots (pc + 1) ls st M) : WP X cells slots pc ls (a :: st) M := by
  obtain ⟨⟨p, l, e, R, s, m, args, below, meth, c⟩, Z, A, D, ty, xt, nL, L0⟩ := X
  intro L H locs lc h0 hP hS hl
  exact lv_pop hX.1 hX.2.1 hd (by rw [cv_cat]; exact h1) (k L H locs lc h0 hP hS hl)
theorem wp_dup_x1 {X : cxT} {own : String} {cc : ByteArray} {d C S cells slots pc : Nat} {ls : List (Option Value)} {st : List Value} {M : mM} {a b : Value} (hX : Good X own cc d C S) (hd : decode cc pc = .ok (.dup_x1, 1)) (h1 : a.category = 1) (h2 : b.category = 1) (k : WP X cells slots (pc + 1) ls (a :: b :: a :: st) M) : WP X cells slots pc ls (a :: b :: st) M := by
  obtain ⟨⟨p, l, e, R, s, m, args, below, meth, c⟩, Z, A, D, ty, xt, nL, L0⟩ := X
  intro L H locs lc h0 hP hS hl
  exact lv_dup_x1 hX.1 hX.2.1 hd (by rw [cv_cat]; exact h1) (by rw [cv_cat]; exact h2) (k L H locs lc h0 hP hS hl)
theorem wp_dup2 {X : cxT} {own : String} {cc : ByteArray} {d C S cells slots pc : Nat} {ls : List (Option Value)} {st : List Value} {M : mM} {a b : Value} (hX : Good X own cc d C S) (hd : decode cc pc = .ok (.dup2, 1)) (h1 : a.category = 1) (h2 : b.category = 1) (k : WP X cells slots (pc + 1) ls (a :: b :: a :: b :: st) M) : WP X cells slots pc ls (a :: b :: st) M := by
  obtain ⟨⟨p, l, e, R, s, m, args, below, meth, c⟩, Z, A, D, ty, xt, nL, L0⟩ := X
  intro L H locs lc h0 hP hS hl
  exact lv_dup2_11 hX.1 hX.2.1 hd (by rw [cv_cat]; exact h1) (by rw [cv_cat]; exact h2) (k L H locs lc h0 hP hS hl)
-- BRANCHES
theorem wp_icmp_eq {X : cxT} {own : String} {cc : ByteArray} {d C S cells slots pc : Nat} {ls : List (Option Value)} {st : List Value} {M : mM} {x y : Int32} {off : Int} {tgt : Nat} (hX : Good X own cc d C S) (hd : decode cc pc = .ok (.if_icmp .eq off, 3)) (ht : (pc : Int) + off = (tgt : Int)) (kt : x = y → WP X cells slots tgt ls st M) (kf : ¬ x = y → WP X cells slots (pc + 3) ls st M) : WP X cells slots pc ls (.int y :: .int x :: st) M := by
  obtain ⟨⟨p, l, e, R, s, m, args, below, meth, c⟩, Z, A, D, ty, xt, nL, L0⟩ := X
  intro L H locs lc h0 hP hS hl
  exact lv_icmp_eq hX.1 hX.2.1 hd ht (fun h => kt h L H locs lc h0 hP hS hl) (fun h => kf h L H locs lc h0 hP hS hl)
theorem wp_icmp_ne {X : cxT} {own : String} {cc : ByteArray} {d C S cells slots pc : Nat} {ls : List (Option Value)} {st : List Value} {M : mM} {x y : Int32} {off : Int} {tgt : Nat} (hX : Good X own cc d C S) (hd : decode cc pc = .ok (.if_icmp .ne off, 3)) (ht : (pc : Int) + off = (tgt : Int)) (kt : ¬ x = y → WP X cells slots tgt ls st M) (kf : x = y → WP X cells slots (pc + 3) ls st M) : WP X cells slots pc ls (.int y :: .int x :: st) M := by
  obtain ⟨⟨p, l, e, R, s, m, args, below, meth, c⟩, Z, A, D, ty, xt, nL, L0⟩ := X
  intro L H locs lc h0 hP hS hl
  exact lv_icmp_ne hX.1 hX.2.1 hd ht (fun h => kt h L H locs lc h0 hP hS hl) (fun h => kf h L H locs lc h0 hP hS hl)
theorem wp_icmp_lt {X : cxT} {own : String} {cc : ByteArray} {d C S cells slots pc : Nat} {ls : List (Option Value)} {st : List Value} {M : mM} {x y : Int32} {off : Int} {tgt : Nat} (hX : Good X own cc d C S) (hd : decode cc pc = .ok (.if_icmp .lt off, 3)) (ht : (pc : Int) + off = (tgt : Int)) (kt : x < y → WP X cells slots tgt ls st M) (kf : ¬ x < y → WP X cells slots (pc + 3) ls st M) : WP X cells slots pc ls (.int y :: .int x :: st) M := by
  obtain ⟨⟨p, l, e, R, s, m, args, below, meth, c⟩, Z, A, D, ty, xt, nL, L0⟩ := X
  intro L H locs lc h0 hP hS hl
  exact lv_icmp_lt hX.1 hX.2.1 hd ht (fun h => kt h L H locs lc h0 hP hS hl) (fun h => kf h L H locs lc h0 hP hS hl)
theorem wp_icmp_ge {X : cxT} {own : String} {cc : ByteArray} {d C S cells slots pc : Nat} {ls : List (Option Value)} {st : List Value} {M : mM} {x y : Int32} {off : Int} {tgt : Nat} (hX : Good X own cc d C S) (hd : decode cc pc = .ok (.if_icmp .ge off, 3)) (ht : (pc : Int) + off = (tgt : Int)) (kt : y ≤ x → WP X cells slots tgt ls st M) (kf : ¬ y ≤ x → WP X cells slots (pc + 3) ls st M) : WP X cells slots pc ls (.int y :: .int x :: st) M := by
  obtain ⟨⟨p, l, e, R, s, m, args, below, meth, c⟩, Z, A, D, ty, xt, nL, L0⟩ := X
  intro L H locs lc h0 hP hS hl
  exact lv_icmp_ge hX.1 hX.2.1 hd ht (fun h => kt h L H locs lc h0 hP hS hl) (fun h => kf h L H locs lc h0 hP hS hl)
theorem wp_icmp_gt {X : cxT} {own : String} {cc : ByteArray} {d C S cells slots pc : Nat} {ls : List (Option Value)} {st : List Value} {M : mM} {x y : Int32} {off : Int} {tgt : Nat} (hX : Good X own cc d C S) (hd : decode cc pc = .ok (.if_icmp .gt off, 3)) (ht : (pc : Int) + off = (tgt : Int)) (kt : y < x → WP X cells slots tgt ls st M) (kf : ¬ y < x → WP X cells slots (pc + 3) ls st M) : WP X cells slots pc ls (.int y :: .int x :: st) M := by
  obtain ⟨⟨p, l, e, R, s, m, args, below, meth, c⟩, Z, A, D, ty, xt, nL, L0⟩ := X
  intro L H locs lc h0 hP hS hl
  exact lv_icmp_gt hX.1 hX.2.1 hd ht (fun h => kt h L H locs lc h0 hP hS hl) (fun h => kf h L H locs lc h0 hP hS hl)
theorem wp_icmp_le {X : cxT} {own : String} {cc : ByteArray} {d C S cells slots pc : Nat} {ls : List (Option Value)} {st : List Value} {M : mM} {x y : Int32} {off : Int} {tgt : Nat} (hX : Good X own cc d C S) (hd : decode cc pc = .ok (.if_icmp .le off, 3)) (ht : (pc : Int) + off = (tgt : Int)) (kt : x ≤ y → WP X cells slots tgt ls st M) (kf : ¬ x ≤ y → WP X cells slots (pc + 3) ls st M) : WP X cells slots pc ls (.int y :: .int x :: st) M := by
  obtain ⟨⟨p, l, e, R, s, m, args, below, meth, c⟩, Z, A, D, ty, xt, nL, L0⟩ := X
  intro L H locs lc h0 hP hS hl
  exact lv_icmp_le hX.1 hX.2.1 hd ht (fun h => kt h L H locs lc h0 hP hS hl) (fun h => kf h L H locs lc h0 hP hS hl)
theorem wp_if_eq {X : cxT} {own : String} {cc : ByteArray} {d C S cells slots pc : Nat} {ls : List (Option Value)} {st : List Value} {M : mM} {x : Int32} {off : Int} {tgt : Nat} (hX : Good X own cc d C S) (hd : decode cc pc = .ok (.ifCond .eq off, 3)) (ht : (pc : Int) + off = (tgt : Int)) (kt : x = 0 → WP X cells slots tgt ls st M) (kf : ¬ x = 0 → WP X cells slots (pc + 3) ls st M) : WP X cells slots pc ls (.int x :: st) M := by
  obtain ⟨⟨p, l, e, R, s, m, args, below, meth, c⟩, Z, A, D, ty, xt, nL, L0⟩ := X
  intro L H locs lc h0 hP hS hl
  exact lv_if_eq hX.1 hX.2.1 hd ht (fun h => kt h L H locs lc h0 hP hS hl) (fun h => kf h L H locs lc h0 hP hS hl)
theorem wp_if_ne {X : cxT} {own : String} {cc : ByteArray} {d C S cells slots pc : Nat} {ls : List (Option Value)} {st : List Value} {M : mM} {x : Int32} {off : Int} {tgt : Nat} (hX : Good X own cc d C S) (hd : decode cc pc = .ok (.ifCond .ne off, 3)) (ht : (pc : Int) + off = (tgt : Int)) (kt : ¬ x = 0 → WP X cells slots tgt ls st M) (kf : x = 0 → WP X cells slots (pc + 3) ls st M) : WP X cells slots pc ls (.int x :: st) M := by
  obtain ⟨⟨p, l, e, R, s, m, args, below, meth, c⟩, Z, A, D, ty, xt, nL, L0⟩ := X
  intro L H locs lc h0 hP hS hl
  exact lv_if_ne hX.1 hX.2.1 hd ht (fun h => kt h L H locs lc h0 hP hS hl) (fun h => kf h L H locs lc h0 hP hS hl)
theorem wp_if_lt {X : cxT} {own : String} {cc : ByteArray} {d C S cells slots pc : Nat} {ls : List (Option Value)} {st : List Value} {M : mM} {x : Int32} {off : Int} {tgt : Nat} (hX : Good X own cc d C S) (hd : decode cc pc = .ok (.ifCond .lt off, 3)) (ht : (pc : Int) + off = (tgt : Int)) (kt : x < 0 → WP X cells slots tgt ls st M) (kf : ¬ x < 0 → WP X cells slots (pc + 3) ls st M) : WP X cells slots pc ls (.int x :: st) M := by
  obtain ⟨⟨p, l, e, R, s, m, args, below, meth, c⟩, Z, A, D, ty, xt, nL, L0⟩ := X
  intro L H locs lc h0 hP hS hl
  exact lv_if_lt hX.1 hX.2.1 hd ht (fun h => kt h L H locs lc h0 hP hS hl) (fun h => kf h L H locs lc h0 hP hS hl)
theorem wp_if_ge {X : cxT} {own : String} {cc : ByteArray} {d C S cells slots pc : Nat} {ls : List (Option Value)} {st : List Value} {M : mM} {x : Int32} {off : Int} {tgt : Nat} (hX : Good X own cc d C S) (hd : decode cc pc = .ok (.ifCond .ge off, 3)) (ht : (pc : Int) + off = (tgt : Int)) (kt : 0 ≤ x → WP X cells slots tgt ls st M) (kf : ¬ 0 ≤ x → WP X cells slots (pc + 3) ls st M) : WP X cells slots pc ls (.int x :: st) M := by
  obtain ⟨⟨p, l, e, R, s, m, args, below, meth, c⟩, Z, A, D, ty, xt, nL, L0⟩ := X
  intro L H locs lc h0 hP hS hl
  exact lv_if_ge hX.1 hX.2.1 hd ht (fun h => kt h L H locs lc h0 hP hS hl) (fun h => kf h L H locs lc h0 hP hS hl)
theorem wp_if_gt {X : cxT} {own : String} {cc : ByteArray} {d C S cells slots pc : Nat} {ls : List (Option Value)} {st : List Value} {M : mM} {x : Int32} {off : Int} {tgt : Nat} (hX : Good X own cc d C S) (hd : decode cc pc = .ok (.ifCond .gt off, 3)) (ht : (pc : Int) + off = (tgt : Int)) (kt : 0 < x → WP X cells slots tgt ls st M) (kf : ¬ 0 < x → WP X cells slots (pc + 3) ls st M) : WP X cells slots pc ls (.int x :: st) M := by
  obtain ⟨⟨p, l, e, R, s, m, args, below, meth, c⟩, Z, A, D, ty, xt, nL, L0⟩ := X
  intro L H locs lc h0 hP hS hl
  exact lv_if_gt hX.1 hX.2.1 hd ht (fun h => kt h L H locs lc h0 hP hS hl) (fun h => kf h L H locs lc h0 hP hS hl)
theorem wp_if_le {X : cxT} {own : String} {cc : ByteArray} {d C S cells slots pc : Nat} {ls : List (Option Value)} {st : List Value} {M : mM} {x : Int32} {off : Int} {tgt : Nat} (hX : Good X own cc d C S) (hd : decode cc pc = .ok (.ifCond .le off, 3)) (ht : (pc : Int) + off = (tgt : Int)) (kt : x ≤ 0 → WP X cells slots tgt ls st M) (kf : ¬ x ≤ 0 → WP X cells slots (pc + 3) ls st M) : WP X cells slots pc ls (.int x :: st) M := by
  obtain ⟨⟨p, l, e, R, s, m, args, below, meth, c⟩, Z, A, D, ty, xt, nL, L0⟩ := X
  intro L H locs lc h0 hP hS hl
  exact lv_if_le hX.1 hX.2.1 hd ht (fun h => kt h L H locs lc h0 hP hS hl) (fun h => kf h L H locs lc h0 hP hS hl)
theorem wp_goto {X : cxT} {own : String} {cc : ByteArray} {d C S cells slots pc : Nat} {ls : List (Option Value)} {st : List Value} {M : mM} {off : Int} {tgt : Nat} (hX : Good X own cc d C S) (hd : decode cc pc = .ok (.goto off, 3)) (ht : (pc : Int) + off = (tgt : Int)) (k : WP X cells slots tgt ls st M) : WP X cells slots pc ls st M := by
  obtain ⟨⟨p, l, e, R, s, m, args, below, meth, c⟩, Z, A, D, ty, xt, nL, L0⟩ := X
  intro L H locs lc h0 hP hS hl
  exact lv_goto hX.1 hX.2.1 hd ht (k L H locs lc h0 hP hS hl)
theorem wp_lookup {X : cxT} {own : String} {cc : ByteArray} {d C S cells slots pc : Nat} {ls : List (Option Value)} {st : List Value} {M : mM} {dflt : Int} {ps : Array (Int × Int)} {len : Nat} {x : Int32} {off : Int} {tgt : Nat} (hX : Good X own cc d C S) (hd : decode cc pc = .ok (.lookupswitch dflt ps, len)) (hp : (ps.toList.zip (ps.toList.drop 1)).all (fun (a, next) => a.1 < next.1) = true) (ho : Op.lookupswitch.offset ps.toList dflt x.toInt = off) (ht : (pc : Int) + off = (tgt : Int)) (k : WP X cells slots tgt ls st M) : WP X cells slots pc ls (.int x :: st) M := by
  obtain ⟨⟨p, l, e, R, s, m, args, below, meth, c⟩, Z, A, D, ty, xt, nL, L0⟩ := X
  intro L H locs lc h0 hP hS hl
  exact lv_lookup hX.1 hX.2.1 hd hp ho ht (k L H locs lc h0 hP hS hl)
theorem wp_tabOut {X : cxT} {own : String} {cc : ByteArray} {d C S cells slots pc : Nat} {ls : List (Option Value)} {st : List Value} {M : mM} {dflt lo hi : Int} {offs : Array Int} {len : Nat} {x : Int32} {tgt : Nat} (hX : Good X own cc d C S) (hd : decode cc pc = .ok (.tableswitch dflt lo hi offs, len)) (h : x.toInt < lo ∨ hi < x.toInt) (ht : (pc : Int) + dflt = (tgt : Int)) (k : WP X cells slots tgt ls st M) : WP X cells slots pc ls (.int x :: st) M := by
  obtain ⟨⟨p, l, e, R, s, m, args, below, meth, c⟩, Z, A, D, ty, xt, nL, L0⟩ := X
  intro L H locs lc h0 hP hS hl
  exact lv_tableOut hX.1 hX.2.1 hd h ht (k L H locs lc h0 hP hS hl)
theorem wp_tabIn {X : cxT} {own : String} {cc : ByteArray} {d C S cells slots pc : Nat} {ls : List (Option Value)} {st : List Value} {M : mM} {dflt lo hi : Int} {offs : Array Int} {len : Nat} {x : Int32} {off : Int} {tgt : Nat} (hX : Good X own cc d C S) (hd : decode cc pc = .ok (.tableswitch dflt lo hi offs, len)) (h1 : ¬ x.toInt < lo) (h2 : ¬ hi < x.toInt) (ho : offs[(x.toInt - lo).toNat]? = some off) (ht : (pc : Int) + off = (tgt : Int)) (k : WP X cells slots tgt ls st M) : WP X cells slots pc ls (.int x :: st) M := by
  obtain ⟨⟨p, l, e, R, s, m, args, below, meth, c⟩, Z, A, D, ty, xt, nL, L0⟩ := X
  intro L H locs lc h0 hP hS hl
  exact lv_tableIn hX.1 hX.2.1 hd h1 h2 ho ht (k L H locs lc h0 hP hS hl)
theorem wp_ls {X : cxT} {cells slots pc : Nat} {ls ls2 : List (Option Value)} {st : List Value} {M : mM} (h : ∀ (i : Nat) (v : Value), ls2[i]? = some (some v) → ls[i]? = some (some v)) (k : WP X cells slots pc ls2 st M) : WP X cells slots pc ls st M := by
  obtain ⟨⟨p, l, e, R, s, m, args, below, meth, c⟩, Z, A, D, ty, xt, nL, L0⟩ := X
  intro L H locs lc h0 hP hS hl
  exact k L H locs lc h0 hP hS ⟨hl.1, hl.2.1, fun i v hi => hl.2.2 i v (h i v hi)⟩
theorem wp_ireturn {X : cxT} {own : String} {cc : ByteArray} {d C S cells slots pc : Nat} {ls : List (Option Value)} {M : mM} {mc ms : Nat} {Q : Option Value → mM → Prop} {v : Int32} {t : FieldType} (hX : Good X own cc d C S) (hR : RQ X (some t) mc ms Q) (hd : decode cc pc = .ok (.ireturn, 1)) (hn : narrow t (.int v) = .int v) (hc : cells ≤ mc) (hs : slots ≤ ms) (hq : Q (some (.int v)) M) : WP X cells slots pc ls [.int v] M := by
  obtain ⟨⟨p, l, e, R, s, m, args, below, meth, c⟩, Z, A, D, ty, xt, nL, L0⟩ := X
  intro L H locs lc h0 hP hS hl
  obtain ⟨hr, hZ⟩ := hR
  subst hZ
  refine W.widen (k := mc) (n := ms) hc hs ?_
  exact W.zret hX.1 hX.2.1 hr hn (fun t ht hW => ⟨⟨some (.int v), M, L, rfl, hq, h0, by rw [ht]; exact hP, va_K.moved hW.alike hX.2.2.2.2.2.2.1⟩, hS.F ht⟩) hS.2.2 hd hX.2.2.2.2.2.1
theorem wp_lreturn {X : cxT} {own : String} {cc : ByteArray} {d C S cells slots pc : Nat} {ls : List (Option Value)} {M : mM} {mc ms : Nat} {Q : Option Value → mM → Prop} {v : Int64} (hX : Good X own cc d C S) (hR : RQ X (some .long) mc ms Q) (hd : decode cc pc = .ok (.lreturn, 1)) (hc : cells ≤ mc) (hs : slots ≤ ms) (hq : Q (some (.long v)) M) : WP X cells slots pc ls [.long v] M := by
  obtain ⟨⟨p, l, e, R, s, m, args, below, meth, c⟩, Z, A, D, ty, xt, nL, L0⟩ := X
  intro L H locs lc h0 hP hS hl
  obtain ⟨hr, hZ⟩ := hR
  subst hZ
  refine W.widen (k := mc) (n := ms) hc hs ?_
  exact W.lret hX.1 hX.2.1 hr (fun t ht hW => ⟨⟨some (.long v), M, L, rfl, hq, h0, by rw [ht]; exact hP, va_K.moved hW.alike hX.2.2.2.2.2.2.1⟩, hS.F ht⟩) hS.2.2 hd hX.2.2.2.2.2.1
theorem wp_areturn {X : cxT} {own : String} {cc : ByteArray} {d C S cells slots pc : Nat} {ls : List (Option Value)} {M : mM} {mc ms : Nat} {Q : Option Value → mM → Prop} {a : Nat} {t : FieldType} (hX : Good X own cc d C S) (hR : RQ X (some t) mc ms Q) (hd : decode cc pc = .ok (.areturn, 1)) (ht : (∃ n, t = .object n) ∨ ∃ r, t = .array r) (hc : cells ≤ mc) (hs : slots ≤ ms) (hq : Q (some (.ref a)) M) : WP X cells slots pc ls [.ref a] M := by
  obtain ⟨⟨p, l, e, R, s, m, args, below, meth, c⟩, Z, A, D, ty, xt, nL, L0⟩ := X
  intro L H locs lc h0 hP hS hl
  obtain ⟨hr, hZ⟩ := hR
  subst hZ
  refine W.widen (k := mc) (n := ms) hc hs ?_
  exact W.aret hX.1 hX.2.1 hr ht (Or.inr ⟨_, rfl⟩) (fun t ht hW => ⟨⟨some (.ref a), M, L, rfl, hq, h0, by rw [ht]; exact hP, va_K.moved hW.alike hX.2.2.2.2.2.2.1⟩, hS.F ht⟩) hS.2.2 hd hX.2.2.2.2.2.1
theorem wp_return {X : cxT} {own : String} {cc : ByteArray} {d C S cells slots pc : Nat} {ls : List (Option Value)} {M : mM} {mc ms : Nat} {Q : Option Value → mM → Prop} (hX : Good X own cc d C S) (hR : RQ X none mc ms Q) (hd : decode cc pc = .ok (.return_, 1)) (hc : cells ≤ mc) (hs : slots ≤ ms) (hq : Q none M) : WP X cells slots pc ls [] M := by
  obtain ⟨⟨p, l, e, R, s, m, args, below, meth, c⟩, Z, A, D, ty, xt, nL, L0⟩ := X
  intro L H locs lc h0 hP hS hl
  obtain ⟨hr, hZ⟩ := hR
  subst hZ
  refine W.widen (k := mc) (n := ms) hc hs ?_
  exact W.vret hX.1 hX.2.1 hr (fun t ht hW => ⟨⟨none, M, L, rfl, hq, h0, by rw [ht]; exact hP, va_K.moved hW.alike hX.2.2.2.2.2.2.1⟩, hS.F ht⟩) hS.2.2 hd hX.2.2.2.2.2.1
