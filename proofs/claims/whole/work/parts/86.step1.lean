/-! CALLS THAT READ: class and reference answer alike -/
section STEP
theorem qC.c {f f1 : Nat → Nat → Int32} (q : qC f f1) {b : Nat} (h1 : b ≠ 49) (h2 : b < 51 ∨ 60 < b) (h3 : b < 77 ∨ 80 < b) : f1 b = f b := q.1 b h1 h2 h3
theorem e86 {f f1 : Nat → Nat → Int32} {g : Nat → Nat → Int64} {n m c : Nat} {sh : Nat → Int32} {L : List (List Nat × List Nat)} (h : IVp f g n sh L m c) (q : qC f f1) : f1 86 = f 62 := by rw [q.c (b := 86) (by decide) (by decide) (by decide), h.e62]
theorem s_size (x y : Int32) : stepOK iX10_size iX11_size [.int x, .int y] := rd_step (fun d sw f g n sh L m c h => by
  by_cases c1 : (∃ i, i < n ∧ x = nI i) ∧ ∃ w, w < 3 ∧ y = nI w
  · obtain ⟨⟨i, hi, rfl⟩, w, hw, rfl⟩ := c1
    exact ⟨_, t_size1 d sw f g n i w sh h.st hi hw, fun sw1 f1 _ h1 => u_size1 d sw1 f1 g n i w sh h1.mf hi hw⟩
  · exact ⟨_, t_size0 d sw f g n x y h.n1 h.n10 c1, fun sw1 f1 _ h1 => u_size0 d sw1 f1 g n x y h1.n81 h1.n10 c1⟩)
theorem s_turned (x y : Int32) : stepOK iX10_turned iX11_turned [.int x, .int y] := rd_step (fun d sw f g n sh L m c h => by
  by_cases c1 : (∃ i, i < n ∧ x = nI i) ∧ ∃ w, w < 4 ∧ y = nI w
  · obtain ⟨⟨i, hi, rfl⟩, w, hw, rfl⟩ := c1
    exact ⟨_, t_turned1 d sw f g n i w sh h.st hi hw, fun sw1 f1 _ h1 => u_turned1 d sw1 f1 g n i w sh h1.mf hi hw⟩
  · exact ⟨_, t_turned0 d sw f g n x y h.n1 h.n10 c1, fun sw1 f1 _ h1 => u_turned0 d sw1 f1 g n x y h1.n81 h1.n10 c1⟩)
theorem s_ways (x y : Int32) : stepOK iX10_ways iX11_ways [.int x, .int y] := rd_step (fun d sw f g n sh L m c h => by
  by_cases c1 : (∃ b i, b < m ∧ i < n ∧ i < 10 ∧ x = nI (10 * b + i)) ∧ ∃ w, w < 3 ∧ y = nI w
  · obtain ⟨⟨b, i, hb, hi, _, rfl⟩, w, hw, rfl⟩ := c1
    refine ⟨_, t_ways1 d sw f g n m b i w sh h.st h.m61 h.m6 hb hi hw, fun sw1 f1 q h1 => ?_⟩
    rw [← e86 h q]
    exact u_ways1 d sw1 f1 g n m b i w sh h1.mf h1.m81 h1.m6 hb hi hw
  · exact ⟨_, t_ways0 d sw f g n m x y h.n1 h.n10 h.m61 h.m6 c1, fun sw1 f1 _ h1 => u_ways0 d sw1 f1 g n m x y h1.n81 h1.n10 h1.m81 h1.m6 c1⟩)
theorem s_inside (x : Int32) : stepOK iX10_inside iX11_inside [.int x] := rd_step (fun d sw f g n sh L m c h => by
  have hn := h.n10
  by_cases c1 : two n x
  · obtain ⟨a, b, ha, hb, hab, _, _, rfl⟩ := c1
    refine ⟨_, t_inside1 d sw f g n a b h.n1 h.n10 ha hb hab, fun sw1 f1 q h1 => ?_⟩
    have key : (if jb (f 4 b) a = 0 then (0 : Int32) else 1) = if jct (sh a) (sh b) = 0 then 0 else 1 := by
      have e := h.stk.cut (i := b) (j := a) hb (by omega)
      by_cases c2 : jct (sh a) (sh b) = 0
      · rw [if_pos c2, if_pos ((jb_eq _ (by omega)).mpr (by rw [e]; exact decide_eq_false (fun z => z.2 c2)))]
      · rw [if_neg c2, if_neg ((jb_ne _ (by omega)).mpr (by rw [e]; exact decide_eq_true ⟨ha, c2⟩))]
    rw [key]
    exact u_inside1 d sw1 f1 g n a b sh h1.mf ha hb hab
  · exact ⟨_, t_inside0 d sw f g n x h.n1 h.n10 c1, fun sw1 f1 _ h1 => u_inside0 d sw1 f1 g n x h1.n81 h1.n10 c1⟩)
theorem s_around (x y : Int32) : stepOK iX10_around iX11_around [.int x, .int y] := rd_step (fun d sw f g n sh L m c h => by
  have hn := h.n10
  by_cases c1 : (∃ i, i < n ∧ x = nI i) ∧ ∃ w, w < 2 ∧ y = nI w
  · obtain ⟨⟨i, hi, rfl⟩, w, hw, rfl⟩ := c1
    refine ⟨_, t_around1 d sw f g n i w h.n1 h.n10 hi hw, fun sw1 f1 q h1 => ?_⟩
    have key : (if w = 0 then jbs (fun k => jbit (f 4 k) (nI i)) n else f 4 i) = if w = 0 then jbs (fun k => jct (sh i) (sh k)) n else jfo sh n (sh i) := by
      have e1 : jbs (fun k => jbit (f 4 k) (nI i)) n = jbs (fun k => jct (sh i) (sh k)) n := by
        refine b_ext (fun j hj => ?_)
        rw [bt_jbs _ n j (by omega) hj, bt_jbs _ n j (by omega) hj]
        by_cases c2 : j < n
        · have e := h.stk.cut (i := j) (j := i) c2 (by omega)
          have e2 : (¬ jbit (f 4 j) (nI i) = 0) ↔ ¬ jct (sh i) (sh j) = 0 := by
            rw [show jbit (f 4 j) (nI i) = jb (f 4 j) i from rfl, jb_ne _ (by omega), e]
            simp [hi]
          simp only [c2, true_and]
          exact decide_eq_decide.mpr e2
        · rw [decide_eq_false (fun z => c2 z.1), decide_eq_false (fun z => c2 z.1)]
      rw [e1, h.B4 i hi]
      rfl
    rw [key]
    exact u_around1 d sw1 f1 g n i w sh h1.mf hi hw
  · exact ⟨_, t_around0 d sw f g n x y h.n1 h.n10 c1, fun sw1 f1 _ h1 => u_around0 d sw1 f1 g n x y h1.n81 h1.n10 c1⟩)
theorem jall_nI : ∀ n, n ≤ 10 → jall (nI n) = nI (2 ^ n - 1) := by decide +kernel
theorem set_in {n : Nat} {x : Int32} (hn : n ≤ 10) : (¬ x < 0 ∧ x &&& (jall (nI n) ^^^ (-1)) = 0) ↔ (¬ x < 0 ∧ ¬ jall (nI n) < x) := by
  refine and_congr_right (fun h => ?_)
  obtain ⟨j, hj, rfl⟩ := nI_of h
  have hp : 2 ^ n ≤ 2 ^ 10 := Nat.pow_le_pow_right (by decide) hn
  have hp1 : 1 ≤ 2 ^ n := Nat.one_le_two_pow
  have e1 : (nI j &&& (jall (nI n) ^^^ (-1)) = 0) ↔ ∀ i, n ≤ i → i < 32 → j.testBit i = false := by
    constructor
    · intro e i h1 h2
      have := congrArg (fun z => bt z i) e
      simp only [b_and, bt_not _ h2, b_0, bt_nI, bt_all (show n < 31 by omega) h2] at this
      simpa [h2, show ¬ i < n by omega] using this
    · intro e
      refine b_ext (fun i hi => ?_)
      rw [b_and, bt_not _ hi, b_0, bt_nI, bt_all (by omega) hi]
      by_cases c : i < n
      · simp [c]
      · rw [e i (by omega) hi]; simp
  have e2 : (¬ jall (nI n) < nI j) ↔ j < 2 ^ n := by
    rw [jall_nI n hn, nI_ltI (by omega) hj]
    omega
  rw [e1, e2]
  constructor
  · intro e
    refine Nat.lt_pow_two_of_testBit j (fun i hi => ?_)
    by_cases c : i < 32
    · exact e i hi c
    · exact Nat.testBit_lt_two_pow (Nat.lt_of_lt_of_le hj (Nat.pow_le_pow_right (by decide) (by omega)))
  · intro e i h1 _
    exact Nat.testBit_lt_two_pow (Nat.lt_of_lt_of_le e (Nat.pow_le_pow_right (by decide) h1))
theorem s_common (x : Int32) : stepOK iX10_common iX11_common [.int x] := rd_step (fun d sw f g n sh L m c h => by
  have hn := h.n10
  by_cases c1 : ¬ x < 0 ∧ x &&& (jall (nI n) ^^^ (-1)) = 0
  · refine ⟨_, t_common1 d sw f g n x h.n1 h.n10 c1, fun sw1 f1 q h1 => ?_⟩
    have hs : ∀ j, n ≤ j → j < 32 → bt x j = false := fun j h1 h2 => by
      have := congrArg (fun z => bt z j) c1.2
      simp only [b_and, bt_not _ h2, b_0, bt_all (show n < 31 by omega) h2] at this
      simpa [show ¬ j < n by omega] using this
    have e := jcom_hi (B := f 4) (a := jall (nI n)) hs (10 - n) (by omega)
    rw [show n + (10 - n) = 10 by omega] at e
    rw [e, jcom_cg h.B4 n (Nat.le_refl _)]
    exact u_common1 d sw1 f1 g n sh x h1.mf ((set_in hn).mp c1)
  · exact ⟨_, t_common0 d sw f g n x h.n1 h.n10 c1, fun sw1 f1 _ h1 => u_common0 d sw1 f1 g n x h1.n81 h1.n10 (fun z => c1 ((set_in hn).mpr z))⟩)
theorem e83 {f f1 : Nat → Nat → Int32} {g : Nat → Nat → Int64} {n m c : Nat} {sh : Nat → Int32} {L : List (List Nat × List Nat)} (h : IVp f g n sh L m c) (q : qC f f1) (i : Nat) : f1 83 i = f 3 (i * 3) ∧ f1 84 i = f 3 (i * 3 + 1) ∧ f1 85 i = f 3 (i * 3 + 2) := by
  rw [q.c (b := 83) (by decide) (by decide) (by decide), q.c (b := 84) (by decide) (by decide) (by decide), q.c (b := 85) (by decide) (by decide) (by decide)]
  exact ⟨(h.t3 i 0 (by decide)).symm, (h.t3 i 1 (by decide)).symm, (h.t3 i 2 (by decide)).symm⟩
theorem s_brings (x y z : Int32) : stepOK iX10_brings iX11_brings [.int x, .int y, .int z] := rd_step (fun d sw f g n sh L m c h => by
  by_cases c1 : (∃ i, i < n ∧ x = nI i) ∧ (∃ w, w < 100 ∧ y = nI w) ∧ ∃ k, k < 100 ∧ z = nI k
  · obtain ⟨⟨i, hi, rfl⟩, ⟨w, hw, rfl⟩, k, hk, rfl⟩ := c1
    refine ⟨_, t_brings1 d sw f g n i w k sh L h.st h.rl hi hw hk, fun sw1 f1 q h1 => ?_⟩
    obtain ⟨a1, a2, a3⟩ := e83 h q i
    rw [← a1, ← a2, ← a3]
    exact u_brings1 d sw1 f1 g n i w k sh L h1.mf h1.ml h1.jw hi hw hk
  · exact ⟨_, t_brings0 d sw f g n x y z h.n1 h.n10 c1, fun sw1 f1 _ h1 => u_brings0 d sw1 f1 g n x y z h1.n81 h1.n10 c1⟩)
theorem s_when (x y : Int32) : stepOK iX10_when iX11_when [.int x, .int y] := rd_step (fun d sw f g n sh L m c h => by
  by_cases c1 : (∃ i, i < n ∧ x = nI i) ∧ ∃ w, w < 2 ∧ y = nI w
  · obtain ⟨⟨i, hi, rfl⟩, w, hw, rfl⟩ := c1
    refine ⟨_, t_when1 d sw f g n i w sh L h.st h.rl hi hw, fun sw1 f1 q h1 => ?_⟩
    have e : jwv f L sh i = mwv f1 L sh i := by
      obtain ⟨a1, a2, a3⟩ := e83 h q i
      funext k
      unfold jwv mwv
      rw [a1, a2, a3]
    rw [e]
    exact u_when1 d sw1 f1 g n i w sh L h1.mf h1.ml h1.jw hi hw
  · exact ⟨_, t_when0 d sw f g n x y h.n1 h.n10 c1, fun sw1 f1 _ h1 => u_when0 d sw1 f1 g n x y h1.n81 h1.n10 c1⟩)
theorem s_smallest (x y : Int32) : stepOK iX10_smallest iX11_smallest [.int x, .int y] := rd_step (fun d sw f g n sh L m c h => by
  by_cases c1 : two n x ∧ ∃ w, w < 2 ∧ y = nI w
  · obtain ⟨⟨a, b, ha, hb, hab, _, _, rfl⟩, w, hw, rfl⟩ := c1
    exact ⟨_, t_small1 d sw f g n a b w sh h.st ha hb hab hw, fun sw1 f1 q h1 => u_small1 d sw1 f1 g n a b w sh h1.mf ha hb hab hw⟩
  · exact ⟨_, t_small0 d sw f g n x y h.n1 h.n10 c1, fun sw1 f1 _ h1 => u_small0 d sw1 f1 g n x y h1.n81 h1.n10 c1⟩)
theorem s_leave (x y : Int32) : stepOK iX10_leave iX11_leave [.int x, .int y] := rd_step (fun d sw f g n sh L m c h => by
  have hn := h.n10
  by_cases c1 : (∃ b, b < m ∧ x = nI b) ∧ ∃ w, w < 2 ∧ y = nI w
  · obtain ⟨⟨b, hb, rfl⟩, w, hw, rfl⟩ := c1
    refine ⟨_, t_leave1 d sw f g n m b w sh h.st h.m61 h.m6 hb hw, fun sw1 f1 q h1 => ?_⟩
    rw [lvF_cg (c2 := fun i => jpc (BB sh n i)) (fun j a1 a2 => jfo_hi hn a1 a2) (fun j hj => by rw [h.B4 j hj]) 10 (by decide), ← e86 h q]
    exact u_leave1 d sw1 f1 g n m b w sh h1.mf h1.m81 h1.m6 hb hw
  · exact ⟨_, t_leave0 d sw f g m x y h.m61 h.m6 c1, fun sw1 f1 _ h1 => u_leave0 d sw1 f1 g m x y h1.m81 h1.m6 c1⟩)
theorem s_byTurns (x y : Int32) : stepOK iX10_byTurns iX11_byTurns [.int x, .int y] := rd_step (fun d sw f g n sh L m c h => by
  have hn := h.n10
  by_cases c1 : (∃ b, b < m ∧ x = nI b) ∧ ∃ w, w < 3 ∧ y = nI w
  · obtain ⟨⟨b, hb, rfl⟩, w, hw, rfl⟩ := c1
    obtain ⟨ρ, hp⟩ := h.pos
    refine ⟨_, t_turns1 d sw f g n m b w sh h.stk h.m61 h.m6 hb hw, fun sw1 f1 q h1 => ?_⟩
    rw [jbt_cg h.B4 (by omega), ← e86 h q]
    exact u_turns1 d sw1 f1 g n m b w sh ρ h1.mf hp h1.m81 h1.m6 hb hw
  · exact ⟨_, t_turns0 d sw f g m x y h.m61 h.m6 c1, fun sw1 f1 _ h1 => u_turns0 d sw1 f1 g m x y h1.m81 h1.m6 c1⟩)
theorem s_egg (x y : Int32) : stepOK iX10_egg iX11_egg [.int x, .int y] := rd_step (fun d sw f g n sh L m c h => by
  by_cases c1 : shp x ∧ ∃ w, w < 3 ∧ y = nI w
  · obtain ⟨hx, w, hw, rfl⟩ := c1
    exact ⟨_, t_egg1 d sw f g n w x sh h.st hx hw, fun sw1 f1 q h1 => u_egg1 d sw1 f1 g n w x sh h1.mf hx hw⟩
  · exact ⟨_, t_egg0 d sw f g x y c1, fun sw1 f1 _ h1 => u_egg0 d sw1 f1 g x y c1⟩)
theorem s_longest (x k : Int32) : stepOK iX10_longest iX11_longest [.int x, .int k] := rd_step (fun d sw f g n sh L m c h => by
  have hn := h.n10
  by_cases c1 : (∃ b, b < m ∧ x = nI b) ∧ -1 ≤ k
  · obtain ⟨⟨b, hb, rfl⟩, hk⟩ := c1
    obtain ⟨ρ, hp⟩ := h.pos
    refine ⟨_, t_longest1 d sw f g n m b sh k h.stk h.m61 h.m6 hb hk, fun sw1 f1 q h1 => ?_⟩
    rw [LG_cg h.B4 (by omega), LG_MG (s := 33554431) hn hp (fun i hi => by rw [bt_all (by omega) (by omega), b_sq (by omega), decide_eq_true hi, decide_eq_true (by omega)]), jil_cg h.B4 (by omega), jil_cong (by omega) (fun j hj => (LN_cg h.B4 (by omega) 10 j hj).trans (LN_MLn hn hp hj)), ← e86 h q]
    exact u_longest1 d sw1 f1 g n m b sh ρ k h1.mf hp h1.m81 h1.m6 hb hk
  · exact ⟨_, t_longest0 d sw f g m x k h.m61 h.m6 c1, fun sw1 f1 _ h1 => u_longest0 d sw1 f1 g m x k h1.m81 h1.m6 c1⟩)
theorem s_richest (x y k : Int32) : stepOK iX10_richest iX11_richest [.int x, .int y, .int k] := rd_step (fun d sw f g n sh L m c h => by
  have hn := h.n10
  by_cases c1 : (∃ b, b < m ∧ x = nI b) ∧ (∃ z, z < 100 ∧ y = nI z) ∧ -1 ≤ k
  · obtain ⟨⟨b, hb, rfl⟩, ⟨z, hz, rfl⟩, hk⟩ := c1
    refine ⟨_, t_richest1 d sw f g n m b z sh L k h.stk h.rl h.m61 h.m6 hb hz hk, fun sw1 f1 q h1 => ?_⟩
    have eW : ∀ i p, i < n → p < 10 → jwp f L sh (nI z) i p = mwp f1 L sh (nI z) i p := fun i p _ _ => by
      obtain ⟨a1, a2, a3⟩ := e83 h q i
      unfold jwp mwp
      rw [a1, a2, a3]
    rw [rC_cong n (fun j hj => rS_cg h.B4 eW 10 j (by decide) hj), rI_cg h.B4 (fun q j hq hj => rS_cg h.B4 eW q j hq hj) 10 _ (by decide), ← e86 h q]
    exact u_richest1 d sw1 f1 g n m b z sh L k h1.mf h1.ml h1.jw h1.m81 h1.m6 hb hz hk
  · exact ⟨_, t_richest0 d sw f g m x y k h.m61 h.m6 c1, fun sw1 f1 _ h1 => u_richest0 d sw1 f1 g m x y k h1.m81 h1.m6 c1⟩)
theorem spF_cg {v w : Nat → Int32} : ∀ k, (∀ i, i ≤ k → v i = w i) → spF v k = spF w k
  | 0, h => by rw [spF, spF, h 0 (Nat.le_refl _)]
  | k + 1, h => by rw [spF, spF, spF_cg k (fun i hi => h i (by omega)), h (k + 1) (Nat.le_refl _)]
theorem s_spare (x y : Int32) : stepOK iX10_spare iX11_spare [.int x, .int y] := rd_step (fun d sw f g n sh L m c h => by
  have hn := h.n10
  by_cases c1 : (∃ b, b < m ∧ x = nI b) ∧ ∃ w, w < 2 ∧ y = nI w
  · obtain ⟨⟨b, hb, rfl⟩, w, hw, rfl⟩ := c1
    by_cases c0 : n = 0
    · subst c0
      exact ⟨_, t_spareN d sw f g m b w h.n1 h.m61 h.m6 hb hw, fun sw1 f1 q h1 => u_spareN d sw1 f1 g m b w sh h1.mf h1.m81 h1.m6 hb hw⟩
    · obtain ⟨ρ, hp⟩ := h.pos
      refine ⟨_, t_spare1 d sw f g n m b w sh h.stk (by omega) h.m61 h.m6 hb hw, fun sw1 f1 q h1 => ?_⟩
      rw [spF_cg (w := fun i => MG sh n (33554431 &&& ((1 : Int32) <<< (nI i &&& 31) ^^^ -1)) (jfo sh n (f1 86 b))) (n - 1) (fun i hi => by
        show LG (f 4) n (jall (nI n) &&& ((1 : Int32) <<< (nI i &&& 31) ^^^ -1)) (jfo sh n (f 62 b)) = MG sh n (33554431 &&& ((1 : Int32) <<< (nI i &&& 31) ^^^ -1)) (jfo sh n (f1 86 b))
        rw [LG_cg h.B4 (by omega), LG_MG hn hp (al_out hn (by omega)), e86 h q])]
      exact u_spare1 d sw1 f1 g n m b w sh h1.mf (by omega) h1.m81 h1.m6 hb hw
  · exact ⟨_, t_spare0 d sw f g m x y h.m61 h.m6 c1, fun sw1 f1 _ h1 => u_spare0 d sw1 f1 g m x y h1.m81 h1.m6 c1⟩)
theorem s_drawn (x z q y : Int32) : stepOK iX10_drawn iX11_drawn [.int x, .int z, .int q, .int y] := rd_step (fun d sw f g n sh L m c h => by
  have hn := h.n10
  by_cases c1 : (∃ b, b < m ∧ x = nI b) ∧ (∃ k, 1 ≤ k ∧ k ≤ 50 ∧ q = nI k) ∧ (y = -1 ∨ ∃ i, i < n ∧ y = nI i)
  · obtain ⟨⟨b, hb, rfl⟩, ⟨k, k1, k2, rfl⟩, hy⟩ := c1
    obtain ⟨ρ, hp⟩ := h.pos
    refine ⟨_, t_drawn1 d sw f g n m b k z y sh h.st h.m61 h.m6 hb k1 k2 hy, fun sw1 f1 q h1 => ?_⟩
    rw [drN_cg h.B4 (BB_hi hn) (by omega) (fun j a1 a2 => jfo_hi hn a1 a2), ← e86 h q]
    exact u_drawn1 d sw1 f1 g n m b k z y sh ρ h1.mf hp h1.m81 h1.m6 hb k1 k2 hy
  · exact ⟨_, t_drawn0 d sw f g n m x z q y h.n1 h.n10 h.m61 h.m6 c1, fun sw1 f1 _ h1 => u_drawn0 d sw1 f1 g n m x z q y h1.n81 h1.n10 h1.m81 h1.m6 c1⟩)
theorem s_led (x : Int32) : stepOK iX10_led iX11_led [.int x] := rd_step (fun d sw f g n sh L m c h => by
  by_cases c1 : ∃ k, k < 4 ∧ x = nI k
  · obtain ⟨k, hk, rfl⟩ := c1
    refine ⟨_, t_led1 d sw f g k hk, fun sw1 f1 q h1 => ?_⟩
    have e : f 64 k = if k = 3 then f1 81 8 else f1 99 k := by
      rw [q.c (b := 81) (by decide) (by decide) (by decide), q.c (b := 99) (by decide) (by decide) (by decide)]
      by_cases c2 : k = 3
      · rw [if_pos c2, c2]; exact h.2.2.1.2.2.2.2.2.2.2.1
      · rw [if_neg c2]; exact h.2.2.1.2.2.2.2.2.2.1 k (by omega)
    rw [e]
    exact u_led1 d sw1 f1 g k hk
  · exact ⟨_, t_led0 d sw f g x c1, fun sw1 f1 _ h1 => u_led0 d sw1 f1 g x c1⟩)
theorem s_trace (x : Int32) : stepOK iX10_trace iX11_trace [.int x] := rd_step (fun d sw f g n sh L m c h => by
  obtain ⟨t, t1, t2⟩ := h.2.2.2.2.2.2.1
  refine ⟨_, t_trace d sw f g t x t1, fun sw1 f1 q h1 => ?_⟩
  refine u_trace d sw1 f1 g t x ?_
  unfold trM at t2 ⊢
  rw [q.c (b := 81) (by decide) (by decide) (by decide), q.c (b := 105) (by decide) (by decide) (by decide)]
  exact t2)
theorem s_count (x : Int32) : stepOK iX10_count iX11_count [.int x] := rd_step (fun d sw f g n sh L m c h => by
  refine ⟨_, t_count d sw f g x, fun sw1 f1 q h1 => ?_⟩
  obtain ⟨t, t1, t2⟩ := h.2.2.2.2.2.2.1
  obtain ⟨T, tn, _, a1, a2, _⟩ := h.2.2.2.1
  obtain ⟨qq, u, _, b1, _, b2, _⟩ := h.2.2.2.2.1
  have e := u_count d sw1 f1 g x
  rw [q.c (b := 81) (by decide) (by decide) (by decide), h.n81, h.m81, a2, b2, h.c81, t2.1] at e
  rw [h.n1, h.m61, a1, b1, h.c70, t1.1]
  exact e)
theorem s_of (x y : Int32) : stepOK iX10_of iX11_of [.int x, .int y] := rd_step (fun d sw f g n sh L m c h => by
  by_cases c1 : ofG n m x y
  · have e81 : ∀ {f1}, qC f f1 → f1 81 = f 81 := fun q => q.c (by decide) (by decide) (by decide)
    rcases c1 with ⟨i, w, hi, hw, rfl, rfl⟩ | ⟨b, w, hb, hw, rfl, rfl⟩ | ⟨rfl, rfl⟩
    · by_cases c2 : w = 3
      · subst c2
        refine ⟨_, t_of3 d sw f g n i sh h.st hi, fun sw1 f1 q h1 => ?_⟩
        rw [← (h1.mf.2.2 i hi).1]
        exact u_of3 d sw1 f1 g n i h1.n81 h1.n10 hi
      · refine ⟨_, t_ofT d sw f g n i w h.n1 h.n10 hi (by omega), fun sw1 f1 q h1 => ?_⟩
        rw [h.t3 i w (by omega), ← q.c (b := 83 + w) (by omega) (by omega) (by omega)]
        exact u_ofT d sw1 f1 g n i w h1.n81 h1.n10 hi (by omega)
    · rcases hw with rfl | rfl
      · refine ⟨_, t_of4 d sw f g m b h.m61 h.m6 hb, fun sw1 f1 q h1 => ?_⟩
        rw [← e86 h q]
        exact u_of4 d sw1 f1 g m b h1.m81 h1.m6 hb
      · refine ⟨_, t_of5 d sw f g m b h.m61 h.m6 hb, fun sw1 f1 q h1 => ?_⟩
        rw [h.e63, ← q.c (b := 87) (by decide) (by decide) (by decide)]
        exact u_of5 d sw1 f1 g m b h1.m81 h1.m6 hb
    · refine ⟨_, t_of6 d sw f g, fun sw1 f1 q h1 => ?_⟩
      rw [h.2.2.1.2.2.2.2.2.2.2.1, ← e81 q]
      exact u_of6 d sw1 f1 g
  · exact ⟨_, t_of0 d sw f g n m x y h.n1 h.n10 h.m61 h.m6 c1, fun sw1 f1 _ h1 => u_of0 d sw1 f1 g n m x y h1.n81 h1.n10 h1.m81 h1.m6 c1⟩)
end STEP
