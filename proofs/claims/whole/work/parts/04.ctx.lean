/-! WHAT WAS THERE BEFORE: tables, strings, links of the nest -/
def x_most : Nat → Int32 := fun j => ([999, 9, 99] : List Int32).getD j 0
def x_abov : Nat → Int32 := fun j => ([-1, 0, 0, 2, 1, 3, 0, 4] : List Int32).getD j 0
def x_bods : Nat → Int32 := fun j => ([1, 10, 11, 2, 20, 0, 0, 0, 0, 30, 0, 0, 0, 41, 40, 0, 0, 0, 50, 0, 0, 0, 0, 60, 70, 0, 0, 0, 0, 80, 0, 81] : List Int32).getD j 0
def x_sl : List Nat := [6, 1, 1, 3, 2, 3]
def x_sb : List (List Int32) := [[119, 102, 97, 99, 110, 107], [124], [38], [60, 61, 62], [43, 45], [42, 47, 37]]
def x_sr : List (Nat × String) := [(68, "wfacnk"), (76, "|"), (78, "&"), (80, "<=>"), (82, "+-"), (84, "*/%")]
def x_nF : List (String × Nat × String × String × String × String) := [("CutFromOthers", 159, "CutFromOthers$Form", "turns", "[I", "CutFromOthers"), ("CutFromOthers", 123, "CutFromOthers$Form", "shape", "I", "CutFromOthers"), ("CutFromOthers$Stock", 54, "CutFromOthers$Form", "shape", "I", "CutFromOthers"), ("CutFromOthers$Rule", 48, "CutFromOthers$Form", "cells", "I", "CutFromOthers"), ("CutFromOthers", 156, "CutFromOthers$Form", "cells", "I", "CutFromOthers"), ("CutFromOthers$Stock", 61, "CutFromOthers$Form", "cells", "I", "CutFromOthers")]
def x_nM : List (String × Nat × MethodName × String) := [("CutFromOthers$Stock", 27, ⟨"CutFromOthers$Form", "<init>", "()V"⟩, "CutFromOthers"), ("CutFromOthers", 18, ⟨"CutFromOthers$Tape", "<init>", "()V"⟩, "CutFromOthers"), ("CutFromOthers", 25, ⟨"CutFromOthers$Rule", "<init>", "()V"⟩, "CutFromOthers"), ("CutFromOthers", 50, ⟨"CutFromOthers$Yard", "<init>", "()V"⟩, "CutFromOthers"), ("CutFromOthers", 57, ⟨"CutFromOthers$Changes", "<init>", "()V"⟩, "CutFromOthers"), ("CutFromOthers", 64, ⟨"CutFromOthers$Stones", "<init>", "()V"⟩, "CutFromOthers"), ("CutFromOthers", 71, ⟨"CutFromOthers$Shelves", "<init>", "()V"⟩, "CutFromOthers"), ("CutFromOthers", 78, ⟨"CutFromOthers$Form", "<init>", "()V"⟩, "CutFromOthers"), ("CutFromOthers$Stock", 50, ⟨"CutFromOthers", "holds", "(II)Z"⟩, "CutFromOthers"), ("CutFromOthers$Rows", 42, ⟨"CutFromOthers", "holds", "(II)Z"⟩, "CutFromOthers"), ("CutFromOthers$Told", 57, ⟨"CutFromOthers", "holds", "(II)Z"⟩, "CutFromOthers")]
/-- what the heap holds of it -/
def ExH (xt : Nat → Nat) (A : Nat → Prop) (U : State) (H : Heap) : Prop :=
  (va_Z "CutFromOthers" "MOST_OF_TRAIT" "[I" (.ref (xt 1001)) A U H ∧ va_T .int (xt 1001) 3 (fun j => .int (x_most j)) A U H) ∧
  (va_Z "CutFromOthers$Stones" "ABOVE" "[I" (.ref (xt 1002)) A U H ∧ va_T .int (xt 1002) 8 (fun j => .int (x_abov j)) A U H) ∧
  (va_Z "CutFromOthers$Stones" "BODIES" "[I" (.ref (xt 1003)) A U H ∧ va_T .int (xt 1003) 32 (fun j => .int (x_bods j)) A U H) ∧
  vk_S 6 x_sl x_sb (fun i => xt (1010 + i)) (fun i => xt (1020 + i)) A U H ∧ va_Z "java/lang/String" "COMPACT_STRINGS" "Z" (.int 1) A U H
/-- what the machine's tables hold of it -/
def ExV (xt : Nat → Nat) (U : State) : Prop :=
  (∀ (i : Nat) (q : Nat × String), x_sr[i]? = some q → vk_R "CutFromOthers$Tape" q.1 q.2 (xt (1010 + i)) U) ∧
  (∀ q ∈ x_nF, va_Nw (.fieldLinkNest q.1 q.2.1 q.2.2.1 q.2.2.2.1 q.2.2.2.2.1 q.2.2.2.2.2) U) ∧
  (∀ q ∈ x_nM, va_Nw (.methodLinkNest q.1 q.2.1 q.2.2.1 q.2.2.2) U) ∧ va_AO "CutFromOthers$Form" U
theorem ExH.kept {xt : Nat → Nat} {A : Nat → Prop} {U : State} {H H1 : Heap} (h : ExH xt A U H) (hq : ∀ a : Nat, a < H.size → ¬ A a → H1[a]? = H[a]?) : ExH xt A U H1 :=
  ⟨⟨h.1.1.kept hq, h.1.2.kept hq⟩, ⟨h.2.1.1.kept hq, h.2.1.2.kept hq⟩, ⟨h.2.2.1.1.kept hq, h.2.2.1.2.kept hq⟩, h.2.2.2.1.kept hq, h.2.2.2.2.kept hq⟩
theorem ExH.narrow {xt : Nat → Nat} {A B : Nat → Prop} {U : State} {H : Heap} (h : ExH xt A U H) (hq : ∀ q, B q → A q) : ExH xt B U H :=
  ⟨⟨h.1.1.narrow hq, h.1.2.narrow hq⟩, ⟨h.2.1.1.narrow hq, h.2.1.2.narrow hq⟩, ⟨h.2.2.1.1.narrow hq, h.2.2.1.2.narrow hq⟩, h.2.2.2.1.narrow hq, h.2.2.2.2.narrow hq⟩
theorem ExH.moved {xt : Nat → Nat} {A : Nat → Prop} {u U : State} {H : Heap} (hvm : u.vm.Alike U.vm) (h : ExH xt A u H) : ExH xt A U H :=
  ⟨⟨h.1.1.moved hvm, h.1.2.moved hvm⟩, ⟨h.2.1.1.moved hvm, h.2.1.2.moved hvm⟩, ⟨h.2.2.1.1.moved hvm, h.2.2.1.2.moved hvm⟩, h.2.2.2.1.moved hvm, h.2.2.2.2.moved hvm⟩
theorem ExV.warm {xt : Nat → Nat} {s U : State} (hW : s.WarmedH U.vm) (h : ExV xt s) : ExV xt U :=
  ⟨fun i q hq => (h.1 i q hq).warm hW, fun q hq => (h.2.1 q hq).warmF hW, fun q hq => (h.2.2.1 q hq).warmM hW, h.2.2.2.moved hW.alike⟩
theorem ExV.same {xt : Nat → Nat} {u U : State} (hv : U.vm = u.vm) (h : ExV xt u) : ExV xt U :=
  ⟨fun i q hq => (h.1 i q hq).same hv, fun q hq => (h.2.1 q hq).same rfl hv.symm, fun q hq => (h.2.2.1 q hq).same rfl hv.symm, by
    have h4 := h.2.2.2
    exact va_AO.moved (by rw [hv]; exact Vm.Alike.refl _) h4⟩
/-- the array classes -/
def x_ty (ty : Nat → ClassId) : List (ClassId × FieldType) := [(ty 0, .int), (ty 1, .long), (ty 2, .object "CutFromOthers$Form")]
/-- where one stands: the machine's words of W, its end, the cells that may change, the classes' numbers, what was there before, how many places, the addresses at the start -/
abbrev cxT : Type := (Program × Launch × Env × Room × State × MethodId × Array Value × List Frame × Method × Code) × (State → Prop) × (Nat → Prop) × va_G × (Nat → ClassId) × (Nat → Nat) × Nat × List Nat
def x_init (X : cxT) : Prop := X.1.2.2.2.2.2.2.2.2.1.name = "<init>"
def x_nl (X : cxT) : Nat := X.2.2.2.2.2.2.1
/-- the machine, at pc with these places, this stack and this memory, comes to its end -/
def WP : cxT → Nat → Nat → Nat → List (Option Value) → List Value → mM → Prop
  | ((p, l, e, R, s, m, args, below, meth, c), Z, A, D, ty, xt, nL, L0), cells, slots, pc, ls, st, M => ∀ (L : List Nat) (H : Heap) (locs : List Loc) (lc : Array Slot), L0 <+: L → PR D ty xt A L M H → va_S A s.heap H locs → LR xt L nL lc ls → W p l e R s m args below meth c H locs cells slots Z (F0 m pc lc (st.map (cv xt L)))
/-- what holds all along a method: depth d of calls is left, C cells and S slots -/
def Good : cxT → String → ByteArray → Nat → Nat → Nat → Prop
  | ((p, _, _, R, s, m, args, _, meth, c), _, A, D, ty, xt, nL, _), own, cc, d, C, S => p.tables.exec = Jvm.exec ∧ c.code = cc ∧ c.maxLocals = nL ∧ s.vm.findClass own = some m.cls ∧ (∀ w ∈ x_tbl, w.before args s = true) ∧ meth.locks = false ∧ va_K D vwCl (x_ty ty) s ∧ (∀ q : Nat, s.heap.size ≤ q → A q) ∧ ExH xt A s s.heap ∧ ExV xt s ∧ d ≤ R.frames ∧ 64 * d ≤ R.locals ∧ C ≤ R.cells ∧ S ≤ R.slots
/-- what a method leaves -/
def QO (D : va_G) (ty : Nat → ClassId) (xt : Nat → Nat) (A : Nat → Prop) (L : List Nat) (Q : Option Value → mM → Prop) : Array Value → State → Outcome → State → Prop := fun _ st oc t =>
  (∃ (r : Option Value) (M' : mM) (L' : List Nat), oc = .returned (r.map (cv xt L')) ∧ Q r M' ∧ L <+: L' ∧ PR D ty xt A L' M' t.heap ∧ va_K D vwCl (x_ty ty) t) ∧ va_F A st t
/-- the end of a method's frame -/
def RQ : cxT → Option FieldType → Nat → Nat → (Option Value → mM → Prop) → Prop
  | ((_, _, _, _, s, _, args, below, meth, _), Z, A, D, ty, xt, _, L0), ret, mc, ms, Q => meth.sig.returnType = ret ∧ Z = MQ below (QO D ty xt A L0 Q) args s mc ms A
/-- a method: its name, its bytes, its places, what it returns -/
abbrev mI : Type := MethodName × ByteArray × Nat × Option FieldType
abbrev x_cw (i : mI) : Cond := Cond.code i.1 i.2.1 i.2.2.1 i.2.2.2
abbrev x_rm (d mc ms : Nat) : Room := { frames := d, cells := mc, slots := ms, locals := 64 * d }
/-- THE CONTRACT: called with these values over this memory, at depth d, it returns, and Q holds of the answer and the memory -/
def CT (d mc ms : Nat) (i : mI) (av : List Value) (M : mM) (Q : Option Value → mM → Prop) : Prop :=
  ∀ (l : Launch) (D : va_G) (ty : Nat → ClassId) (xt : Nat → Nat) (L : List Nat) (sz : Nat), Met l i.1 (x_cw i :: x_tbl) (x_rm d mc ms) (va_Pc (av.map (cv xt L)) (fun U => U.heap.size = sz ∧ PR D ty xt (fun _ => True) L M U.heap ∧ va_K D vwCl (x_ty ty) U ∧ ExH xt (va_A (x_ws ty xt L M) sz) U U.heap ∧ ExV xt U)) (QO D ty xt (va_A (x_ws ty xt L M) sz) L Q) mc ms (va_A (x_ws ty xt L M) sz)
/-- the places at a method's start -/
def x_en : List Value → List (Option Value)
  | [] => []
  | .long v :: r => some (.long v) :: none :: x_en r
  | .double v :: r => some (.double v) :: none :: x_en r
  | v :: r => some v :: x_en r
theorem x_en_args (xt : Nat → Nat) (L : List Nat) : ∀ (av : List Value) (k i : Nat) (v : Value), (x_en av)[i]? = some (some v) → (k + i, cv xt L v) ∈ lv_args k (av.map (cv xt L)) := by
  intro av
  induction av with
  | nil => intro k i v h; simp [x_en] at h
  | cons a r ih =>
    intro k i v h
    have two : a.category = 2 → (x_en (a :: r) = some a :: none :: x_en r) := by
      intro hc
      cases a <;> first | rfl | (simp [Value.category] at hc)
    have one : ¬ a.category = 2 → (x_en (a :: r) = some a :: x_en r) := by
      intro hc
      cases a <;> first | rfl | (simp [Value.category] at hc)
    by_cases hc : a.category = 2
    · rw [two hc] at h
      show _ ∈ (k, cv xt L a) :: lv_args (if (cv xt L a).category = 2 then k + 2 else k + 1) (r.map (cv xt L))
      rw [cv_cat, if_pos hc]
      match i, h with
      | 0, h => simp at h; subst h; exact List.mem_cons_self
      | 1, h => simp at h
      | i + 2, h =>
        have h2 := ih (k + 2) i v (by simpa using h)
        rw [show k + 2 + i = k + (i + 2) by omega] at h2
        exact List.mem_cons_of_mem _ h2
    · rw [one hc] at h
      show _ ∈ (k, cv xt L a) :: lv_args (if (cv xt L a).category = 2 then k + 2 else k + 1) (r.map (cv xt L))
      rw [cv_cat, if_neg hc]
      match i, h with
      | 0, h => simp at h; subst h; exact List.mem_cons_self
      | i + 1, h =>
        have h2 := ih (k + 1) i v (by simpa using h)
        rw [show k + 1 + i = k + (i + 1) by omega] at h2
        exact List.mem_cons_of_mem _ h2
theorem x_en_get {xt : Nat → Nat} {L : List Nat} {av : List Value} {n i : Nat} {v : Value} (h : (x_en av ++ List.replicate n none)[i]? = some (some v)) : (i, cv xt L v) ∈ lv_args 0 (av.map (cv xt L)) := by
  by_cases hi : i < (x_en av).length
  · rw [List.getElem?_append_left hi] at h
    have := x_en_args xt L av 0 i v h
    rwa [Nat.zero_add] at this
  · rw [List.getElem?_append_right (by omega)] at h
    simp [List.getElem?_replicate] at h
theorem PR.weaken {D : va_G} {ty : Nat → ClassId} {xt : Nat → Nat} {A B : Nat → Prop} {L : List Nat} {M : mM} {H : Heap} (h : PR D ty xt A L M H) (hAB : ∀ (k : Nat) (q : Nat × va_E), (x_ws ty xt L M)[k]? = some q → A q.1 → B q.1) : PR D ty xt B L M H :=
  ⟨h.1, h.2.1, h.2.2.1, h.2.2.2.1, h.2.2.2.2.1, fun k q hk => hAB k q hk (h.2.2.2.2.2 k q hk)⟩
/-- A METHOD'S CONTRACT OUT OF ITS WALK -/
theorem CT.of {d mc ms : Nat} {y : MethodName} {cc : ByteArray} {nL : Nat} {ret : Option FieldType} {av : List Value} {M : mM} {Q : Option Value → mM → Prop} (hy : plainName y.cls = true) (hn : (lg_sl av).length ≤ nL)
    (h : ∀ X : cxT, Good X y.cls cc d mc ms → RQ X ret mc ms Q → x_nl X = nL → (y.name = "<init>" → x_init X) → WP X 0 0 0 (x_en av ++ List.replicate (nL - (x_en av).length) none) [] M) : CT d mc ms (y, cc, nL, ret) av M Q := by
  intro l D ty xt L sz
  refine Met.ofW (cc := cc) (maxL := nL) (ret := ret) hy rfl ?_
  intro p e s m args below meth c s₁ B hml hv
  obtain ⟨rfl, hsz, hP, hK, hE, hV⟩ := hv
  subst hsz
  have hts : ∀ w ∈ x_cw (y, cc, nL, ret) :: x_tbl, w.before _ s = true := atoms_spec (ws := x_cw (y, cc, nL, ret) :: x_tbl) B.pre
  have hP2 : PR D ty xt (va_A (x_ws ty xt L M) s.heap.size) L M s.heap := ⟨hP.1, hP.2.1, hP.2.2.1, hP.2.2.2.1, hP.2.2.2.2.self⟩
  have key := h ((p, l, e, x_rm d mc ms, s, m, (av.map (cv xt L)).toArray, below, meth, c), MQ below (QO D ty xt (va_A (x_ws ty xt L M) s.heap.size) L Q) (av.map (cv xt L)).toArray s mc ms (va_A (x_ws ty xt L M) s.heap.size), va_A (x_ws ty xt L M) s.heap.size, D, ty, xt, nL, L)
    ⟨B.exec, B.bytes, hml, findClass_of_methodNamed B.named, fun w hw => hts w (List.mem_cons_of_mem _ hw), B.notSynchronized, hK, fun q hq => Or.inr hq, hE, hV, Nat.le_refl _, Nat.le_refl _, Nat.le_refl _, Nat.le_refl _⟩ ⟨B.returns, rfl⟩ rfl (fun hi => by
      show meth.name = "<init>"
      rw [(name_of_methodNamed B.named B.method).1]
      exact hi)
  have hlen : (lg_sl (av.map (cv xt L))).length ≤ nL := by
    have : ∀ vs : List Value, (lg_sl (vs.map (cv xt L))).length = (lg_sl vs).length := by
      intro vs
      induction vs with
      | nil => rfl
      | cons a r ih => cases a <;> simp_all [lg_sl, cv, Value.category]
    rw [this]
    exact hn
  have hl := lv_entry (av.map (cv xt L)) (n := nL) hlen
  rw [lg_entry_eq]
  refine key L s.heap [] _ (List.prefix_refl L) hP2 va_S.rf ⟨hl.1, hl.2.1, fun i v hi => ?_⟩
  exact hl.2.2 _ (x_en_get hi)
