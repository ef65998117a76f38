/-! TOLD -/
/-- which figures an element may stand for -/
def jme (n : Nat) (v : Int64) : Int32 := if v = -1 then jall (nI n) else if ¬ v < 0 ∧ v < lN n then (1 : Int32) <<< (v.toInt32 &&& 31) else 0
theorem k_meant (d : Nat) (sw : Bool) (f : Nat → Nat → Int32) (g : Nat → Nat → Int64) (n : Nat) (v : Int64) (hn : f 1 4 = nI n) (hn10 : n ≤ 10) : CT (d + 1) 0 0 iX8_meant [.ref 58, .long v] (S sw f g) (QR (some (.int (jme n v))) (S sw f g)) := by
  refine CT.of rfl (Nat.le_of_ble_eq_true rfl) (fun X hX hR hN _ => ?_)
  have hX : Good X RX8 cX8_meant (d + 1) 0 0 := hX
  have hN : x_nl X = 3 := hN
  show WP X 0 0 0 [_, _, _] [] _
  refine wp_lload_n hX (dk DX8_meant 0 rfl) rfl ?_
  refine wp_ldc2 hX (dk DX8_meant 1 rfl) kcX8_74 ?_
  refine wp_lcmp hX (dk DX8_meant 2 rfl) ?_
  refine wp_if_ne (tgt := 16) hX (dk DX8_meant 3 rfl) (by decide) (fun h5 => ?_) (fun h5 => ?_)
  · refine wp_lload_n hX (dk DX8_meant 8 rfl) rfl ?_
    refine wp_lconst (v := 0) hX (dk DX8_meant 9 rfl) (by decide) ?_
    refine wp_lcmp hX (dk DX8_meant 10 rfl) ?_
    refine wp_if_lt (tgt := 42) hX (dk DX8_meant 11 rfl) (by decide) (fun h19 => ?_) (fun h19 => ?_)
    · refine wp_iconst (v := 0) hX (dk DX8_meant 24 rfl) (by decide) ?_
      exact wp_ireturn hX hR (dk DX8_meant 25 rfl) rfl (Nat.le_refl _) (Nat.le_refl _) (⟨by simp only [lg_cmp_eq, lg_cmp_lt, lg_cmp_ge] at h5 h19; unfold jme; simp [h5, h19, hn, Int64.not_lt, ← Int64.not_le], rfl⟩)
    · refine wp_lload_n hX (dk DX8_meant 12 rfl) rfl ?_
      refine wp_aload_n hX (dk DX8_meant 13 rfl) rfl ?_
      refine w_getr hX flX8_18 (dk DX8_meant 14 rfl) rfl rfl ?_
      refine w_callV (As := []) lkX8_53 hX (dk DX8_meant 15 rfl) rfl rfl (by simp [Value.category]) hN (k_came d sw f g) ?_
      show WP _ _ _ 30 [_, _, _] [_, _] _
      refine wp_i2l hX (dk DX8_meant 16 rfl) ?_
      rw [hn, nI_l (by omega)]
      refine wp_lcmp hX (dk DX8_meant 17 rfl) ?_
      refine wp_if_ge (tgt := 42) hX (dk DX8_meant 18 rfl) (by decide) (fun h32 => ?_) (fun h32 => ?_)
      · refine wp_iconst (v := 0) hX (dk DX8_meant 24 rfl) (by decide) ?_
        exact wp_ireturn hX hR (dk DX8_meant 25 rfl) rfl (Nat.le_refl _) (Nat.le_refl _) (⟨by simp only [lg_cmp_eq, lg_cmp_lt, lg_cmp_ge] at h5 h19 h32; unfold jme; simp [h5, h19, h32, hn, Int64.not_lt, ← Int64.not_le], rfl⟩)
      · refine wp_iconst (v := 1) hX (dk DX8_meant 19 rfl) (by decide) ?_
        refine wp_lload_n hX (dk DX8_meant 20 rfl) rfl ?_
        refine wp_l2i hX (dk DX8_meant 21 rfl) ?_
        refine wp_ishl hX (dk DX8_meant 22 rfl) ?_
        refine wp_goto (tgt := 43) hX (dk DX8_meant 23 rfl) (by decide) ?_
        exact wp_ireturn hX hR (dk DX8_meant 25 rfl) rfl (Nat.le_refl _) (Nat.le_refl _) (⟨by simp only [lg_cmp_eq, lg_cmp_lt, lg_cmp_ge] at h5 h19 h32; unfold jme; simp [h5, h19, h32, hn, Int64.not_lt, ← Int64.not_le], rfl⟩)
  · refine wp_aload_n hX (dk DX8_meant 4 rfl) rfl ?_
    refine w_getr hX flX8_18 (dk DX8_meant 5 rfl) rfl rfl ?_
    refine w_callV (As := []) lkX8_76 hX (dk DX8_meant 6 rfl) rfl rfl (by decide) hN (k_all d sw f g) ?_
    show WP _ _ _ 15 [_, _, _] [_] _
    exact wp_ireturn hX hR (dk DX8_meant 7 rfl) rfl (Nat.le_refl _) (Nat.le_refl _) (⟨by simp only [lg_cmp_eq, lg_cmp_lt, lg_cmp_ge] at h5; unfold jme; simp [h5, hn, Int64.not_lt, ← Int64.not_le], rfl⟩)
/-- the first unknown element from i on, among m more -/
def jun (E : Nat → Int64) : Nat → Nat → Int32
  | 0, _ => -2
  | m + 1, i => if E i = -1 then nI i else jun E m (i + 1)
theorem k_firstUnknown (d : Nat) (sw : Bool) (f : Nat → Nat → Int32) (g : Nat → Nat → Int64) (b z : Nat) (hb : b < 6) (hz : f 75 b = nI z) (hz60 : z ≤ 60) : CT (d + 1) 0 0 iX8_firstUnknown [.ref 73, .int (nI b)] (S sw f g) (QR (some (.int (jun (fun i => g 76 (b * 60 + i)) z 0))) (S sw f g)) := by
  obtain ⟨R0, hR0⟩ : ∃ R0, R0 = jun (fun i => g 76 (b * 60 + i)) z 0 := ⟨_, rfl⟩
  rw [← hR0]
  refine CT.of rfl (Nat.le_of_ble_eq_true rfl) (fun X hX hR hN _ => ?_)
  have hX : Good X RX8 cX8_firstUnknown (d + 1) 0 0 := hX
  have hN : x_nl X = 3 := hN
  show WP X 0 0 0 [_, _, _] [] _
  refine wp_iconst (v := 0) hX (dk DX8_firstUnknown 0 rfl) (by decide) ?_
  refine wp_istore_n hX (dk DX8_firstUnknown 1 rfl) rfl rfl hN (Nat.le_of_ble_eq_true rfl) ?_
  show WP _ _ _ 2 [_, _, _] [] _
  have lo : ∀ (m i : Nat), i + m = z → R0 = jun (fun i => g 76 (b * 60 + i)) m i → WP X 0 0 2 [some (.ref 73), some (.int (nI b)), some (.int (nI i))] [] (S sw f g) := by
    intro m
    induction m with
    | zero =>
      intro i hi e
      refine wp_iload_n hX (dk DX8_firstUnknown 2 rfl) rfl ?_
      refine wp_aload_n hX (dk DX8_firstUnknown 3 rfl) rfl ?_
      refine wp_iload_n hX (dk DX8_firstUnknown 4 rfl) rfl ?_
      refine w_callV (As := [_]) lkX8_26 hX (dk DX8_firstUnknown 5 rfl) rfl rfl (by simp [Value.category]) hN (k_sizeOf d sw f g b hb) ?_
      show WP _ _ _ 8 [_, _, _] [_, _] _
      refine wp_icmp_ge (tgt := 32) hX (dk DX8_firstUnknown 6 rfl) (by decide) (fun _ => ?_) (fun h_ => absurd (by rw [hz]; exact nI_le (by omega) (by omega)) h_)
      refine wp_bipush (v := -2) hX (dk DX8_firstUnknown 18 rfl) (by decide) ?_
      exact wp_ireturn hX hR (dk DX8_firstUnknown 19 rfl) rfl (Nat.le_refl _) (Nat.le_refl _) (⟨by rw [e]; rfl, rfl⟩)
    | succ m ih =>
      intro i hi e
      rw [jun] at e
      refine wp_iload_n hX (dk DX8_firstUnknown 2 rfl) rfl ?_
      refine wp_aload_n hX (dk DX8_firstUnknown 3 rfl) rfl ?_
      refine wp_iload_n hX (dk DX8_firstUnknown 4 rfl) rfl ?_
      refine w_callV (As := [_]) lkX8_26 hX (dk DX8_firstUnknown 5 rfl) rfl rfl (by simp [Value.category]) hN (k_sizeOf d sw f g b hb) ?_
      show WP _ _ _ 8 [_, _, _] [_, _] _
      refine wp_icmp_ge (tgt := 32) hX (dk DX8_firstUnknown 6 rfl) (by decide) (fun h_ => absurd h_ (by rw [hz]; exact nI_ge (by omega) (by omega))) (fun _ => ?_)
      refine wp_aload_n hX (dk DX8_firstUnknown 7 rfl) rfl ?_
      refine wp_iload_n hX (dk DX8_firstUnknown 8 rfl) rfl ?_
      refine wp_iload_n hX (dk DX8_firstUnknown 9 rfl) rfl ?_
      refine w_callV (As := [_, _]) lkX8_32 hX (dk DX8_firstUnknown 10 rfl) rfl rfl (by decide) hN (k_at d sw f g b i hb (by omega)) ?_
      show WP _ _ _ 17 [_, _, _] [_] _
      refine wp_ldc2 hX (dk DX8_firstUnknown 11 rfl) kcX8_74 ?_
      refine wp_lcmp hX (dk DX8_firstUnknown 12 rfl) ?_
      refine wp_if_ne (tgt := 26) hX (dk DX8_firstUnknown 13 rfl) (by decide) (fun h21 => ?_) (fun h21 => ?_)
      · refine wp_iinc hX (dk DX8_firstUnknown 16 rfl) rfl (nI_inc _) rfl hN ?_
        show WP _ _ _ 29 [_, _, _] [] _
        refine wp_goto (tgt := 2) hX (dk DX8_firstUnknown 17 rfl) (by decide) ?_
        exact ih (i + 1) (by omega) (by rw [e, if_neg (fun q => h21 ((lg_cmp_eq _ _).mpr q))])
      · refine wp_iload_n hX (dk DX8_firstUnknown 14 rfl) rfl ?_
        exact wp_ireturn hX hR (dk DX8_firstUnknown 15 rfl) rfl (Nat.le_refl _) (Nat.le_refl _) (⟨by rw [e, if_pos ((lg_cmp_eq _ _).mp h21)], rfl⟩)
  exact lo z 0 (by omega) hR0
/-- the first place that can't be, the last one read: m elements from i on, nx may come next -/
def tN (B : Nat → Int32) (n : Nat) (E : Nat → Int64) : Nat → Nat → Int32 → Int32 → Int32 × Int32
  | 0, _, _, lr => (-2, lr)
  | m + 1, i, nx, _ => if nx &&& jme n (E i) = 0 then (nI i, 0) else tN B n E m (i + 1) (jany B (nx &&& jme n (E i)) n) (nx &&& jme n (E i))
/-- at one place another one is read -/
def jov (E : Nat → Int64) (p fg : Int32) : Nat → Int64 := fun i => if nI i = p then fg.toInt64 else E i
theorem k_firstWrong (d : Nat) (sw : Bool) (f : Nat → Nat → Int32) (g : Nat → Nat → Int64) (n b z : Nat) (s p fg : Int32) (hn : f 1 4 = nI n) (hn10 : n ≤ 10) (hb : b < 6) (hz : f 75 b = nI z) (hz60 : z ≤ 60) : CT (d + 2) 0 0 iX8_firstWrong [.ref 58, .ref 73, .int (nI b), .int s, .int p, .int fg] (S sw f g) (QS (fun r sw2 f2 g2 => r = some (.int (tN (f 4) n (jov (fun i => g 76 (b * 60 + i)) p fg) z 0 s 0).1) ∧ sw2 = sw ∧ g2 = g ∧ (∀ b, b ≠ 58 → f2 b = f b) ∧ f2 58 3 = (tN (f 4) n (jov (fun i => g 76 (b * 60 + i)) p fg) z 0 s 0).2)) := by
  obtain ⟨R0, hR0⟩ : ∃ R0, R0 = tN (f 4) n (jov (fun i => g 76 (b * 60 + i)) p fg) z 0 s 0 := ⟨_, rfl⟩
  rw [← hR0]
  refine CT.of rfl (Nat.le_of_ble_eq_true rfl) (fun X hX hR hN _ => ?_)
  have hX : Good X RX8 cX8_firstWrong (d + 2) 0 0 := hX
  have hN : x_nl X = 8 := hN
  show WP X 0 0 0 [_, _, _, _, _, _, _, _] [] _
  refine wp_iload_n hX (dk DX8_firstWrong 0 rfl) rfl ?_
  refine wp_istore hX (dk DX8_firstWrong 1 rfl) rfl hN (Nat.le_of_ble_eq_true rfl) ?_
  show WP _ _ _ 3 [_, _, _, _, _, _, _, _] [] _
  refine wp_aload_n hX (dk DX8_firstWrong 2 rfl) rfl ?_
  refine wp_iconst (v := 0) hX (dk DX8_firstWrong 3 rfl) (by decide) ?_
  refine w_puti hX fpX8_22 (dk DX8_firstWrong 4 rfl) rfl ?_
  refine wp_iconst (v := 0) hX (dk DX8_firstWrong 5 rfl) (by decide) ?_
  refine wp_istore hX (dk DX8_firstWrong 6 rfl) rfl hN (Nat.le_of_ble_eq_true rfl) ?_
  show WP _ _ _ 11 [_, _, _, _, _, _, _, _] [] _
  have lo : ∀ (m i : Nat) (nx lr : Int32) (f2 : Nat → Nat → Int32), i + m = z → R0 = tN (f 4) n (jov (fun i => g 76 (b * 60 + i)) p fg) m i nx lr → (∀ b, b ≠ 58 → f2 b = f b) → f2 58 3 = lr → WP X 0 0 11 [some (.ref 58), some (.ref 73), some (.int (nI b)), some (.int s), some (.int p), some (.int fg), some (.int nx), some (.int (nI i))] [] (S sw f2 g) := by
    intro m
    induction m with
    | zero =>
      intro i nx lr f2 hi e hf hl
      rw [tN] at e
      refine wp_iload hX (dk DX8_firstWrong 7 rfl) rfl ?_
      refine wp_aload_n hX (dk DX8_firstWrong 8 rfl) rfl ?_
      refine wp_iload_n hX (dk DX8_firstWrong 9 rfl) rfl ?_
      refine w_callV (As := [_]) lkX8_26 hX (dk DX8_firstWrong 10 rfl) rfl rfl (by simp [Value.category]) hN (k_sizeOf (d + 1) sw f2 g b hb) ?_
      show WP _ _ _ 18 [_, _, _, _, _, _, _, _] [_, _] _
      refine wp_icmp_ge (tgt := 81) hX (dk DX8_firstWrong 11 rfl) (by decide) (fun _ => ?_) (fun h_ => absurd (by rw [hf 75 (by decide), hz]; exact nI_le (by omega) (by omega)) h_)
      refine wp_bipush (v := -2) hX (dk DX8_firstWrong 41 rfl) (by decide) ?_
      exact wp_ireturn hX hR (dk DX8_firstWrong 42 rfl) rfl (Nat.le_refl _) (Nat.le_refl _) (⟨_, _, _, rfl, by rw [e], rfl, rfl, hf, by rw [e]; exact hl⟩)
    | succ m ih =>
      intro i nx lr f2 hi e hf hl
      rw [tN] at e
      have key : ∀ v : Int64, v = jov (fun i => g 76 (b * 60 + i)) p fg i → WP X 0 0 45 [some (.ref 58), some (.ref 73), some (.int (nI b)), some (.int s), some (.int p), some (.int fg), some (.int nx), some (.int (nI i))] [.long v, .ref 58, .int nx, .ref 58] (S sw f2 g) := by
        intro v hv
        refine w_callV (As := [_]) lkX8_36 hX (dk DX8_firstWrong 25 rfl) rfl rfl (by simp [Value.category]) hN (k_meant d sw f2 g n v (by rw [hf 1 (by decide)]; exact hn) hn10) ?_
        show WP _ _ _ 48 [_, _, _, _, _, _, _, _] [_, _, _] _
        refine wp_iand hX (dk DX8_firstWrong 26 rfl) ?_
        refine w_puti hX fpX8_22 (dk DX8_firstWrong 27 rfl) rfl ?_
        refine wp_aload_n hX (dk DX8_firstWrong 28 rfl) rfl ?_
        refine w_geti hX flX8_22 (dk DX8_firstWrong 29 rfl) (by decide) rfl ?_
        rw [u2_at, hv]
        refine wp_if_ne (tgt := 62) hX (dk DX8_firstWrong 30 rfl) (by decide) (fun h56 => ?_) (fun h56 => ?_)
        · refine wp_aload_n hX (dk DX8_firstWrong 33 rfl) rfl ?_
          refine w_getr hX flX8_18 (dk DX8_firstWrong 34 rfl) rfl rfl ?_
          refine wp_aload_n hX (dk DX8_firstWrong 35 rfl) rfl ?_
          refine w_geti hX flX8_22 (dk DX8_firstWrong 36 rfl) (by decide) rfl ?_
          rw [u2_at]
          refine w_callV (As := [_]) lkX8_40 hX (dk DX8_firstWrong 37 rfl) rfl rfl (by decide) hN (k_outOfAny d sw _ g n _ (by rw [u2_ne _ _ _ (by decide), hf 1 (by decide)]; exact hn) hn10) ?_
          show WP _ _ _ 73 [_, _, _, _, _, _, _, _] [_] _
          rw [u2_ne _ _ _ (by decide), hf 4 (by decide)]
          refine wp_istore hX (dk DX8_firstWrong 38 rfl) rfl hN (Nat.le_of_ble_eq_true rfl) ?_
          show WP _ _ _ 75 [_, _, _, _, _, _, _, _] [] _
          refine wp_iinc hX (dk DX8_firstWrong 39 rfl) rfl (nI_inc _) rfl hN ?_
          show WP _ _ _ 78 [_, _, _, _, _, _, _, _] [] _
          refine wp_goto (tgt := 11) hX (dk DX8_firstWrong 40 rfl) (by decide) ?_
          exact ih (i + 1) _ _ _ (by omega) (by rw [e, if_neg h56]) (fun b hb => by rw [u2_ne _ _ _ hb]; exact hf b hb) (u2_at _ _ _ _)
        · refine wp_iload hX (dk DX8_firstWrong 31 rfl) rfl ?_
          exact wp_ireturn hX hR (dk DX8_firstWrong 32 rfl) rfl (Nat.le_refl _) (Nat.le_refl _) (⟨_, _, _, rfl, by rw [e, if_pos h56], rfl, rfl, fun b hb => by rw [u2_ne _ _ _ hb]; exact hf b hb, by rw [u2_at, e, if_pos h56]; exact h56⟩)
      refine wp_iload hX (dk DX8_firstWrong 7 rfl) rfl ?_
      refine wp_aload_n hX (dk DX8_firstWrong 8 rfl) rfl ?_
      refine wp_iload_n hX (dk DX8_firstWrong 9 rfl) rfl ?_
      refine w_callV (As := [_]) lkX8_26 hX (dk DX8_firstWrong 10 rfl) rfl rfl (by simp [Value.category]) hN (k_sizeOf (d + 1) sw f2 g b hb) ?_
      show WP _ _ _ 18 [_, _, _, _, _, _, _, _] [_, _] _
      refine wp_icmp_ge (tgt := 81) hX (dk DX8_firstWrong 11 rfl) (by decide) (fun h_ => absurd h_ (by rw [hf 75 (by decide), hz]; exact nI_ge (by omega) (by omega))) (fun _ => ?_)
      refine wp_aload_n hX (dk DX8_firstWrong 12 rfl) rfl ?_
      refine wp_iload hX (dk DX8_firstWrong 13 rfl) rfl ?_
      refine wp_aload_n hX (dk DX8_firstWrong 14 rfl) rfl ?_
      refine wp_iload hX (dk DX8_firstWrong 15 rfl) rfl ?_
      refine wp_iload hX (dk DX8_firstWrong 16 rfl) rfl ?_
      refine wp_icmp_ne (tgt := 38) hX (dk DX8_firstWrong 17 rfl) (by decide) (fun h29 => ?_) (fun h29 => ?_)
      · refine wp_aload_n hX (dk DX8_firstWrong 21 rfl) rfl ?_
        refine wp_iload_n hX (dk DX8_firstWrong 22 rfl) rfl ?_
        refine wp_iload hX (dk DX8_firstWrong 23 rfl) rfl ?_
        refine w_callV (As := [_, _]) lkX8_32 hX (dk DX8_firstWrong 24 rfl) rfl rfl (by simp [Value.category]) hN (k_at (d + 1) sw f2 g b i hb (by omega)) ?_
        show WP _ _ _ 45 [_, _, _, _, _, _, _, _] [_, _, _, _] _
        exact key _ (by unfold jov; simp [h29])
      · refine wp_iload hX (dk DX8_firstWrong 18 rfl) rfl ?_
        refine wp_i2l hX (dk DX8_firstWrong 19 rfl) ?_
        refine wp_goto (tgt := 45) hX (dk DX8_firstWrong 20 rfl) (by decide) ?_
        exact key _ (by unfold jov; simp [h29])
  exact lo z 0 s 0 _ (by omega) hR0 (fun b hb => u2_ne _ _ _ hb) (u2_at _ _ _ _)
theorem jov_none (E : Nat → Int64) (z : Nat) (hz : z ≤ 60) : ∀ i, i < z → jov E (-1) (-1) i = E i := by
  intro i hi
  unfold jov
  rw [if_neg]
  intro q
  have := nI_pos (n := i) (by omega)
  rw [q] at this
  exact this (by decide)
theorem tN_cong {B : Nat → Int32} {n : Nat} {E E2 : Nat → Int64} : ∀ (m i : Nat) (nx lr : Int32), (∀ k, i ≤ k → k < i + m → E k = E2 k) → tN B n E m i nx lr = tN B n E2 m i nx lr
  | 0, _, _, _, _ => rfl
  | m + 1, i, nx, lr, h => by
    rw [tN, tN, h i (by omega) (by omega), tN_cong m (i + 1) _ _ (fun k h1 h2 => h k (by omega) (by omega))]
theorem k_lastOnes (d : Nat) (sw : Bool) (f : Nat → Nat → Int32) (g : Nat → Nat → Int64) (n b z : Nat) (s : Int32) (hn : f 1 4 = nI n) (hn10 : n ≤ 10) (hb : b < 6) (hz : f 75 b = nI z) (hz60 : z ≤ 60) : CT (d + 3) 0 0 iX8_lastOnes [.ref 58, .ref 73, .int (nI b), .int s] (S sw f g) (QS (fun r sw2 f2 g2 => r = some (.int (if (tN (f 4) n (fun i => g 76 (b * 60 + i)) z 0 s 0).1 = -2 then (tN (f 4) n (fun i => g 76 (b * 60 + i)) z 0 s 0).2 else 0)) ∧ sw2 = sw ∧ g2 = g ∧ (∀ b, b ≠ 58 → f2 b = f b))) := by
  have hc := tN_cong (B := f 4) (n := n) (E := jov (fun i => g 76 (b * 60 + i)) (-1) (-1)) (E2 := fun i => g 76 (b * 60 + i)) z 0 s 0 (fun k _ h2 => jov_none _ z hz60 k (by omega))
  refine CT.of rfl (Nat.le_of_ble_eq_true rfl) (fun X hX hR hN _ => ?_)
  have hX : Good X RX8 cX8_lastOnes (d + 3) 0 0 := hX
  have hN : x_nl X = 4 := hN
  show WP X 0 0 0 [_, _, _, _] [] _
  refine wp_aload_n hX (dk DX8_lastOnes 0 rfl) rfl ?_
  refine wp_aload_n hX (dk DX8_lastOnes 1 rfl) rfl ?_
  refine wp_iload_n hX (dk DX8_lastOnes 2 rfl) rfl ?_
  refine wp_iload_n hX (dk DX8_lastOnes 3 rfl) rfl ?_
  refine wp_iconst (v := -1) hX (dk DX8_lastOnes 4 rfl) (by decide) ?_
  refine wp_iconst (v := -1) hX (dk DX8_lastOnes 5 rfl) (by decide) ?_
  refine w_callVQ (As := [_, _, _, _, _]) lkX8_45 hX (dk DX8_lastOnes 6 rfl) rfl rfl (by decide) hN (k_firstWrong d sw f g n b z s (-1) (-1) hn hn10 hb hz hz60) (fun v_ sw_ f_ g_ hq_ => ?_)
  obtain ⟨rfl, rfl, rfl, hf, hl⟩ := hq_
  rw [hc] at hl ⊢
  show WP _ _ _ 9 [_, _, _, _] [_] _
  refine wp_bipush (v := -2) hX (dk DX8_lastOnes 7 rfl) (by decide) ?_
  refine wp_icmp_ne (tgt := 21) hX (dk DX8_lastOnes 8 rfl) (by decide) (fun h11 => ?_) (fun h11 => ?_)
  · refine wp_iconst (v := 0) hX (dk DX8_lastOnes 12 rfl) (by decide) ?_
    exact wp_ireturn hX hR (dk DX8_lastOnes 13 rfl) rfl (Nat.le_refl _) (Nat.le_refl _) (⟨_, _, _, rfl, by simp [h11, hl], rfl, rfl, hf⟩)
  · refine wp_aload_n hX (dk DX8_lastOnes 9 rfl) rfl ?_
    refine w_geti hX flX8_22 (dk DX8_lastOnes 10 rfl) (by decide) rfl ?_
    refine wp_goto (tgt := 22) hX (dk DX8_lastOnes 11 rfl) (by decide) ?_
    exact wp_ireturn hX hR (dk DX8_lastOnes 13 rfl) rfl (Nat.le_refl _) (Nat.le_refl _) (⟨_, _, _, rfl, by simp [h11, hl], rfl, rfl, hf⟩)
/-- the first figure, of m from i on, with which all is so -/
def jff (B : Nat → Int32) (n z : Nat) (E : Nat → Int64) (s p : Int32) : Nat → Nat → Int32
  | 0, _ => -2
  | m + 1, i => if (tN B n (jov E p (nI i)) z 0 s 0).1 = -2 then nI i else jff B n z E s p m (i + 1)
theorem k_firstFilling (d : Nat) (sw : Bool) (f : Nat → Nat → Int32) (g : Nat → Nat → Int64) (n b z : Nat) (s : Int32) (hn : f 1 4 = nI n) (hn10 : n ≤ 10) (hb : b < 6) (hz : f 75 b = nI z) (hz60 : z ≤ 60) : CT (d + 3) 0 0 iX8_firstFilling [.ref 58, .ref 73, .int (nI b), .int s] (S sw f g) (QS (fun r sw2 f2 g2 => r = some (.int (if jun (fun i => g 76 (b * 60 + i)) z 0 = -2 then -2 else jff (f 4) n z (fun i => g 76 (b * 60 + i)) s (jun (fun i => g 76 (b * 60 + i)) z 0) n 0)) ∧ sw2 = sw ∧ g2 = g ∧ (∀ b, b ≠ 58 → f2 b = f b))) := by
  obtain ⟨p, hp⟩ : ∃ p, p = jun (fun i => g 76 (b * 60 + i)) z 0 := ⟨_, rfl⟩
  obtain ⟨R0, hR0⟩ : ∃ R0, R0 = jff (f 4) n z (fun i => g 76 (b * 60 + i)) s p n 0 := ⟨_, rfl⟩
  rw [← hp, ← hR0]
  refine CT.of rfl (Nat.le_of_ble_eq_true rfl) (fun X hX hR hN _ => ?_)
  have hX : Good X RX8 cX8_firstFilling (d + 3) 0 0 := hX
  have hN : x_nl X = 6 := hN
  show WP X 0 0 0 [_, _, _, _, _, _] [] _
  have lo : ∀ (m i : Nat) (f2 : Nat → Nat → Int32), ¬ p = -2 → i + m = n → R0 = jff (f 4) n z (fun i => g 76 (b * 60 + i)) s p m i → (∀ b, b ≠ 58 → f2 b = f b) → WP X 0 0 20 [some (.ref 58), some (.ref 73), some (.int (nI b)), some (.int s), some (.int p), some (.int (nI i))] [] (S sw f2 g) := by
    intro m
    induction m with
    | zero =>
      intro i f2 h0 hi e hf
      refine wp_iload hX (dk DX8_firstFilling 11 rfl) rfl ?_
      refine wp_aload_n hX (dk DX8_firstFilling 12 rfl) rfl ?_
      refine w_getr hX flX8_18 (dk DX8_firstFilling 13 rfl) rfl rfl ?_
      refine w_callV (As := []) lkX8_53 hX (dk DX8_firstFilling 14 rfl) rfl rfl (by simp [Value.category]) hN (k_came (d + 2) sw f2 g) ?_
      show WP _ _ _ 29 [_, _, _, _, _, _] [_, _] _
      refine wp_icmp_ge (tgt := 57) hX (dk DX8_firstFilling 15 rfl) (by decide) (fun _ => ?_) (fun h_ => absurd (by rw [hf 1 (by decide), hn]; exact nI_le (by omega) (by omega)) h_)
      refine wp_bipush (v := -2) hX (dk DX8_firstFilling 29 rfl) (by decide) ?_
      exact wp_ireturn hX hR (dk DX8_firstFilling 30 rfl) rfl (Nat.le_refl _) (Nat.le_refl _) (⟨_, _, _, rfl, by rw [if_neg h0, e]; rfl, rfl, rfl, hf⟩)
    | succ m ih =>
      intro i f2 h0 hi e hf
      rw [jff] at e
      refine wp_iload hX (dk DX8_firstFilling 11 rfl) rfl ?_
      refine wp_aload_n hX (dk DX8_firstFilling 12 rfl) rfl ?_
      refine w_getr hX flX8_18 (dk DX8_firstFilling 13 rfl) rfl rfl ?_
      refine w_callV (As := []) lkX8_53 hX (dk DX8_firstFilling 14 rfl) rfl rfl (by simp [Value.category]) hN (k_came (d + 2) sw f2 g) ?_
      show WP _ _ _ 29 [_, _, _, _, _, _] [_, _] _
      refine wp_icmp_ge (tgt := 57) hX (dk DX8_firstFilling 15 rfl) (by decide) (fun h_ => absurd h_ (by rw [hf 1 (by decide), hn]; exact nI_ge (by omega) (by omega))) (fun _ => ?_)
      refine wp_aload_n hX (dk DX8_firstFilling 16 rfl) rfl ?_
      refine wp_aload_n hX (dk DX8_firstFilling 17 rfl) rfl ?_
      refine wp_iload_n hX (dk DX8_firstFilling 18 rfl) rfl ?_
      refine wp_iload_n hX (dk DX8_firstFilling 19 rfl) rfl ?_
      refine wp_iload hX (dk DX8_firstFilling 20 rfl) rfl ?_
      refine wp_iload hX (dk DX8_firstFilling 21 rfl) rfl ?_
      refine w_callVQ (As := [_, _, _, _, _]) lkX8_45 hX (dk DX8_firstFilling 22 rfl) rfl rfl (by decide) hN (k_firstWrong d sw f2 g n b z s p (nI i) (by rw [hf 1 (by decide)]; exact hn) hn10 hb (by rw [hf 75 (by decide)]; exact hz) hz60) (fun v_ sw_ f_ g_ hq_ => ?_)
      obtain ⟨rfl, rfl, rfl, hf2, hl⟩ := hq_
      rw [hf 4 (by decide)]
      show WP _ _ _ 43 [_, _, _, _, _, _] [_] _
      refine wp_bipush (v := -2) hX (dk DX8_firstFilling 23 rfl) (by decide) ?_
      refine wp_icmp_ne (tgt := 51) hX (dk DX8_firstFilling 24 rfl) (by decide) (fun h45 => ?_) (fun h45 => ?_)
      · refine wp_iinc hX (dk DX8_firstFilling 27 rfl) rfl (nI_inc _) rfl hN ?_
        show WP _ _ _ 54 [_, _, _, _, _, _] [] _
        refine wp_goto (tgt := 20) hX (dk DX8_firstFilling 28 rfl) (by decide) ?_
        exact ih (i + 1) _ h0 (by omega) (by rw [e, if_neg h45]) (fun b hb => (hf2 b hb).trans (hf b hb))
      · refine wp_iload hX (dk DX8_firstFilling 25 rfl) rfl ?_
        exact wp_ireturn hX hR (dk DX8_firstFilling 26 rfl) rfl (Nat.le_refl _) (Nat.le_refl _) (⟨_, _, _, rfl, by rw [if_neg h0, e, if_pos h45], rfl, rfl, fun b hb => (hf2 b hb).trans (hf b hb)⟩)
  refine wp_aload_n hX (dk DX8_firstFilling 0 rfl) rfl ?_
  refine wp_iload_n hX (dk DX8_firstFilling 1 rfl) rfl ?_
  refine w_callS (As := [_, _]) lkX8_49 hX (dk DX8_firstFilling 2 rfl) rfl (by decide) (k_firstUnknown (d + 1) sw f g b z hb hz hz60) ?_
  show WP _ _ _ 5 [_, _, _, _, _, _] [_] _
  rw [← hp]
  refine wp_istore hX (dk DX8_firstFilling 3 rfl) rfl hN (Nat.le_of_ble_eq_true rfl) ?_
  show WP _ _ _ 7 [_, _, _, _, _, _] [] _
  refine wp_iload hX (dk DX8_firstFilling 4 rfl) rfl ?_
  refine wp_bipush (v := -2) hX (dk DX8_firstFilling 5 rfl) (by decide) ?_
  refine wp_icmp_ne (tgt := 17) hX (dk DX8_firstFilling 6 rfl) (by decide) (fun h11 => ?_) (fun h11 => ?_)
  · refine wp_iconst (v := 0) hX (dk DX8_firstFilling 9 rfl) (by decide) ?_
    refine wp_istore hX (dk DX8_firstFilling 10 rfl) rfl hN (Nat.le_of_ble_eq_true rfl) ?_
    show WP _ _ _ 20 [_, _, _, _, _, _] [] _
    exact lo n 0 f h11 (by omega) hR0 (fun _ _ => rfl)
  · refine wp_bipush (v := -2) hX (dk DX8_firstFilling 7 rfl) (by decide) ?_
    exact wp_ireturn hX hR (dk DX8_firstFilling 8 rfl) rfl (Nat.le_refl _) (Nat.le_refl _) (⟨_, _, _, rfl, by rw [if_pos h11], rfl, rfl, fun _ _ => rfl⟩)
/-- which of Told's rows is 'fillings' -/
def FC (sw : Bool) : Nat := if sw then 60 else 59
theorem kFC (sw : Bool) : kd0 (FC sw) = 12 := by cases sw <;> rfl
theorem lFC (sw : Bool) : ln0 (FC sw) = 10 := by cases sw <;> rfl
theorem rFC1 (sw : Bool) : rf0 sw 58 1 = some (FC sw) := rfl
theorem rFC2 (sw : Bool) : rf0 sw 58 2 = some (FC (!sw)) := by cases sw <;> rfl
theorem neFC (sw : Bool) : FC (!sw) ≠ FC sw := by cases sw <;> decide
theorem notFC {b : Nat} (h1 : b ≠ 59) (h2 : b ≠ 60) (sw : Bool) : b ≠ FC sw := by cases sw <;> assumption
theorem FC4 (sw : Bool) : 4 ≠ FC sw ∧ 1 ≠ FC sw ∧ 75 ≠ FC sw := by cases sw <;> decide
/-- how many fillings end with j, out of those that end with the ones ahead -/
def gA (B F : Nat → Int32) (j : Nat) : Nat → Int32
  | 0 => 0
  | a + 1 => if jb (B a) j = 0 then gA B F j a else imn 9999 (gA B F j a + F a)
theorem gA_cong {B F F2 : Nat → Int32} {j : Nat} : ∀ n, (∀ a, a < n → F a = F2 a) → gA B F j n = gA B F2 j n
  | 0, _ => rfl
  | n + 1, h => by rw [gA, gA, gA_cong n (fun a ha => h a (by omega)), h n (by omega)]
def gO (B F : Nat → Int32) (n : Nat) (al : Int32) (j : Nat) : Int32 := if jb al j = 0 then 0 else gA B F j n
theorem rf_flip (sw : Bool) : u2 (u2 (rf0 sw) 58 1 (some (FC (!sw)))) 58 2 (some (FC sw)) = rf0 (!sw) := by
  funext a k
  unfold u2 rf0
  by_cases ha : a = 58
  · subst ha
    by_cases h1 : k = 1
    · subst h1; cases sw <;> rfl
    · by_cases h2 : k = 2
      · subst h2; cases sw <;> rfl
      · simp [h1, h2]
  · simp [ha]
theorem k_goOn (d : Nat) (sw : Bool) (f : Nat → Nat → Int32) (g : Nat → Nat → Int64) (n : Nat) (al : Int32) (hn : f 1 4 = nI n) (hn10 : n ≤ 10) : CT (d + 2) 0 0 iX8_goOn [.ref 58, .int al] (S sw f g) (QS (fun r sw2 f2 g2 => r = none ∧ sw2 = (!sw) ∧ g2 = g ∧ (∀ b, b ≠ 59 → b ≠ 60 → f2 b = f b) ∧ ∀ j, j < 10 → f2 (FC (!sw)) j = gO (f 4) (f (FC sw)) n al j)) := by
  refine CT.of rfl (Nat.le_of_ble_eq_true rfl) (fun X hX hR hN _ => ?_)
  have hX : Good X RX8 cX8_goOn (d + 2) 0 0 := hX
  have hN : x_nl X = 4 := hN
  show WP X 0 0 0 [_, _, _, _] [] _
  refine wp_iconst (v := 0) hX (dk DX8_goOn 0 rfl) (by decide) ?_
  refine wp_istore_n hX (dk DX8_goOn 1 rfl) rfl rfl hN (Nat.le_of_ble_eq_true rfl) ?_
  show WP _ _ _ 2 [_, _, _, _] [] _
  have lo : ∀ (m j : Nat) (f2 : Nat → Nat → Int32) (z : Option Value), j + m = 10 → (∀ b, b ≠ FC (!sw) → f2 b = f b) → (∀ k, k < j → f2 (FC (!sw)) k = gO (f 4) (f (FC sw)) n al k) → WP X 0 0 2 [some (.ref 58), some (.int al), some (.int (nI j)), z] [] (S sw f2 g) := by
    intro m
    induction m with
    | zero =>
      intro j f2 z hj hf hk
      obtain rfl : j = 10 := by omega
      refine wp_iload_n hX (dk DX8_goOn 2 rfl) rfl ?_
      refine wp_bipush (v := 10) hX (dk DX8_goOn 3 rfl) (by decide) ?_
      refine wp_icmp_ge (tgt := 88) hX (dk DX8_goOn 4 rfl) (by decide) (fun _ => ?_) (fun h_ => absurd ((by decide)) h_)
      refine wp_aload_n hX (dk DX8_goOn 47 rfl) rfl ?_
      refine w_getr hX flX8_9 (dk DX8_goOn 48 rfl) rfl (rFC1 sw) ?_
      refine wp_astore_n hX (dk DX8_goOn 49 rfl) rfl rfl hN (Nat.le_of_ble_eq_true rfl) ?_
      show WP _ _ _ 93 [_, _, _, _] [] _
      refine wp_aload_n hX (dk DX8_goOn 50 rfl) rfl ?_
      refine wp_aload_n hX (dk DX8_goOn 51 rfl) rfl ?_
      refine w_getr hX flX8_15 (dk DX8_goOn 52 rfl) rfl (rFC2 sw) ?_
      refine wp_putr hX fpX8_9 (dk DX8_goOn 53 rfl) (show (58 : Nat) < 115 by decide) rfl (show FC (!sw) < 115 by cases sw <;> decide) ?_
      refine wp_aload_n hX (dk DX8_goOn 54 rfl) rfl ?_
      refine wp_aload_n hX (dk DX8_goOn 55 rfl) rfl ?_
      refine wp_putr hX fpX8_15 (dk DX8_goOn 56 rfl) (show (58 : Nat) < 115 by decide) rfl (show FC sw < 115 by cases sw <;> decide) ?_
      refine wp_return hX hR (dk DX8_goOn 57 rfl) (Nat.le_refl _) (Nat.le_refl _) ⟨!sw, f2, g, ?_, rfl, rfl, rfl, fun b h1 h2 => hf b (notFC h1 h2 _), fun j hj => hk j hj⟩
      show ((115, kd0, ln0, f2, g, u2 (u2 (rf0 sw) 58 1 (some (FC (!sw)))) 58 2 (some (FC sw))) : mM) = _
      rw [rf_flip]
      rfl
    | succ m ih =>
      intro j f2 z hj hf hk
      have B4 : f2 4 = f 4 := hf 4 (FC4 _).1
      have B1 : f2 1 4 = nI n := by rw [hf 1 (FC4 _).2.1]; exact hn
      have BF : f2 (FC sw) = f (FC sw) := hf _ (neFC sw).symm
      -- behind the inner loop
      have key : ∀ (f3 : Nat → Nat → Int32) (z : Option Value), (∀ b, b ≠ FC (!sw) → f3 b = f b) → (∀ k, k ≠ j → f3 (FC (!sw)) k = f2 (FC (!sw)) k) → f3 (FC (!sw)) j = gO (f 4) (f (FC sw)) n al j → WP X 0 0 82 [some (.ref 58), some (.int al), some (.int (nI j)), z] [] (S sw f3 g) := by
        intro f3 z h1 h2 h3
        refine wp_iinc hX (dk DX8_goOn 45 rfl) rfl (nI_inc _) rfl hN ?_
        show WP _ _ _ 85 [_, _, _, _] [] _
        refine wp_goto (tgt := 2) hX (dk DX8_goOn 46 rfl) (by decide) ?_
        -- to 2
        refine ih (j + 1) f3 _ (by omega) h1 (fun k hk3 => ?_)
        by_cases c : k = j
        · rw [c]; exact h3
        · rw [h2 k c]; exact hk k (by omega)
      refine wp_iload_n hX (dk DX8_goOn 2 rfl) rfl ?_
      refine wp_bipush (v := 10) hX (dk DX8_goOn 3 rfl) (by decide) ?_
      refine wp_icmp_ge (tgt := 88) hX (dk DX8_goOn 4 rfl) (by decide) (fun h_ => absurd h_ ((nI_ge (b := 10) (by omega) (by omega)))) (fun _ => ?_)
      refine wp_aload_n hX (dk DX8_goOn 5 rfl) rfl ?_
      refine w_getr hX flX8_15 (dk DX8_goOn 6 rfl) rfl (rFC2 sw) ?_
      refine wp_iload_n hX (dk DX8_goOn 7 rfl) rfl ?_
      refine wp_iconst (v := 0) hX (dk DX8_goOn 8 rfl) (by decide) ?_
      refine w_iast (j := _) hX (dk DX8_goOn 9 rfl) (kFC _) rfl (by rw [lFC]; omega) ?_
      refine wp_iconst (v := 0) hX (dk DX8_goOn 10 rfl) (by decide) ?_
      refine wp_istore_n hX (dk DX8_goOn 11 rfl) rfl rfl hN (Nat.le_of_ble_eq_true rfl) ?_
      show WP _ _ _ 17 [_, _, _, _] [] _
      have li : ∀ (q a : Nat) (f3 : Nat → Nat → Int32), a + q = n → (∀ b, b ≠ FC (!sw) → f3 b = f b) → (∀ k, k ≠ j → f3 (FC (!sw)) k = f2 (FC (!sw)) k) → (¬ jb al j = 0 → f3 (FC (!sw)) j = gA (f 4) (f (FC sw)) j a) → (jb al j = 0 → f3 (FC (!sw)) j = 0) → WP X 0 0 17 [some (.ref 58), some (.int al), some (.int (nI j)), some (.int (nI a))] [] (S sw f3 g) := by
        intro q
        induction q with
        | zero =>
          intro a f3 ha h1 h2 h3 h4
          obtain rfl : a = n := by omega
          refine wp_iload_n hX (dk DX8_goOn 12 rfl) rfl ?_
          refine wp_aload_n hX (dk DX8_goOn 13 rfl) rfl ?_
          refine w_getr hX flX8_18 (dk DX8_goOn 14 rfl) rfl rfl ?_
          refine w_callV (As := []) lkX8_53 hX (dk DX8_goOn 15 rfl) rfl rfl (by simp [Value.category]) hN (k_came (d + 1) sw f3 g) ?_
          show WP _ _ _ 25 [_, _, _, _] [_, _] _
          refine wp_icmp_ge (tgt := 82) hX (dk DX8_goOn 16 rfl) (by decide) (fun _ => ?_) (fun h_ => absurd ((by rw [h1 1 (FC4 _).2.1, hn]; exact nI_le (by omega) (by omega))) h_)
          refine key f3 _ h1 h2 ?_
          unfold gO
          by_cases c : jb al j = 0
          · rw [if_pos c]; exact h4 c
          · rw [if_neg c]; exact h3 c
        | succ q ihq =>
          intro a f3 ha h1 h2 h3 h4
          refine wp_iload_n hX (dk DX8_goOn 12 rfl) rfl ?_
          refine wp_aload_n hX (dk DX8_goOn 13 rfl) rfl ?_
          refine w_getr hX flX8_18 (dk DX8_goOn 14 rfl) rfl rfl ?_
          refine w_callV (As := []) lkX8_53 hX (dk DX8_goOn 15 rfl) rfl rfl (by simp [Value.category]) hN (k_came (d + 1) sw f3 g) ?_
          show WP _ _ _ 25 [_, _, _, _] [_, _] _
          refine wp_icmp_ge (tgt := 82) hX (dk DX8_goOn 16 rfl) (by decide) (fun h_ => absurd h_ ((by rw [h1 1 (FC4 _).2.1, hn]; exact nI_ge (by omega) (by omega)))) (fun _ => ?_)
          refine wp_iload_n hX (dk DX8_goOn 17 rfl) rfl ?_
          refine wp_iload_n hX (dk DX8_goOn 18 rfl) rfl ?_
          refine w_callS (As := [_, _]) lkX8_57 hX (dk DX8_goOn 19 rfl) rfl (by decide) (k_holds (d + 1) al (nI j) _) ?_
          show WP _ _ _ 33 [_, _, _, _] [_] _
          refine wp_if_eq (tgt := 82) hX (dk DX8_goOn 20 rfl) (by decide) (fun c => ?_) (fun c => ?_)
          · exact key f3 _ h1 h2 (by unfold gO; rw [if_pos c]; exact h4 c)
          · refine wp_aload_n hX (dk DX8_goOn 21 rfl) rfl ?_
            refine w_getr hX flX8_18 (dk DX8_goOn 22 rfl) rfl rfl ?_
            refine wp_iload_n hX (dk DX8_goOn 23 rfl) rfl ?_
            refine w_callV (As := [_]) lkX8_71 hX (dk DX8_goOn 24 rfl) rfl rfl (by decide) hN (k_outOf (d + 1) sw f3 g a (by omega)) ?_
            show WP _ _ _ 44 [_, _, _, _] [_] _
            refine wp_iload_n hX (dk DX8_goOn 25 rfl) rfl ?_
            rw [h1 4 (FC4 _).1]
            refine w_callS (As := [_, _]) lkX8_57 hX (dk DX8_goOn 26 rfl) rfl (by decide) (k_holds (d + 1) _ (nI j) _) ?_
            show WP _ _ _ 48 [_, _, _, _] [_] _
            refine wp_if_eq (tgt := 76) hX (dk DX8_goOn 27 rfl) (by decide) (fun c2 => ?_) (fun c2 => ?_)
            · refine wp_iinc hX (dk DX8_goOn 43 rfl) rfl (nI_inc _) rfl hN ?_
              show WP _ _ _ 79 [_, _, _, _] [] _
              refine wp_goto (tgt := 17) hX (dk DX8_goOn 44 rfl) (by decide) ?_
              -- to 17
              exact ihq (a + 1) f3 (by omega) h1 h2 (fun c' => by rw [gA, if_pos c2]; exact h3 c') h4
            · refine wp_aload_n hX (dk DX8_goOn 28 rfl) rfl ?_
              refine w_getr hX flX8_15 (dk DX8_goOn 29 rfl) rfl (rFC2 sw) ?_
              refine wp_iload_n hX (dk DX8_goOn 30 rfl) rfl ?_
              refine wp_sipush (v := 9999) hX (dk DX8_goOn 31 rfl) (by decide) ?_
              refine wp_aload_n hX (dk DX8_goOn 32 rfl) rfl ?_
              refine w_getr hX flX8_15 (dk DX8_goOn 33 rfl) rfl (rFC2 sw) ?_
              refine wp_iload_n hX (dk DX8_goOn 34 rfl) rfl ?_
              refine w_iald (j := _) hX (dk DX8_goOn 35 rfl) (kFC _) rfl (by rw [lFC]; omega) ?_
              refine wp_aload_n hX (dk DX8_goOn 36 rfl) rfl ?_
              refine w_getr hX flX8_9 (dk DX8_goOn 37 rfl) rfl (rFC1 sw) ?_
              refine wp_iload_n hX (dk DX8_goOn 38 rfl) rfl ?_
              refine w_iald (j := _) hX (dk DX8_goOn 39 rfl) (kFC _) rfl (by rw [lFC]; omega) ?_
              refine wp_iadd hX (dk DX8_goOn 40 rfl) ?_
              refine w_min hX lkX8_65 (dk DX8_goOn 41 rfl) (by simp [Value.category]) ?_
              refine w_iast (j := _) hX (dk DX8_goOn 42 rfl) (kFC _) rfl (by rw [lFC]; omega) ?_
              rw [h3 c, h1 _ (neFC sw).symm]
              refine wp_iinc hX (dk DX8_goOn 43 rfl) rfl (nI_inc _) rfl hN ?_
              show WP _ _ _ 79 [_, _, _, _] [] _
              refine wp_goto (tgt := 17) hX (dk DX8_goOn 44 rfl) (by decide) ?_
              -- to 17
              refine ihq (a + 1) _ (by omega) (fun b hb => by rw [u2_ne _ _ _ hb]; exact h1 b hb) (fun k hk4 => by rw [u2_off _ _ _ hk4]; exact h2 k hk4) (fun _ => by rw [u2_at, gA, if_neg c2]; rfl) (fun q => absurd q c)
      refine li n 0 _ (by omega) (fun b hb => by rw [u2_ne _ _ _ hb]; exact hf b hb) (fun k hk4 => u2_off _ _ _ hk4) (fun _ => u2_at _ _ _ _) (fun _ => u2_at _ _ _ _)
  exact lo 10 0 f none (by omega) (fun _ _ => rfl) (fun k hk => absurd hk (by omega))
/-- how many fillings of m elements from i on, when those ahead can be filled in F ways -/
def gN (B : Nat → Int32) (n : Nat) (E : Nat → Int64) : Nat → Nat → (Nat → Int32) → (Nat → Int32)
  | 0, _, F => F
  | m + 1, i, F => gN B n E m (i + 1) (gO B F n (jme n (E i)))
def gS (F : Nat → Int32) : Nat → Int32
  | 0 => 0
  | k + 1 => imn 9999 (gS F k + F k)
theorem gS_cong {F F2 : Nat → Int32} : ∀ n, (∀ a, a < n → F a = F2 a) → gS F n = gS F2 n
  | 0, _ => rfl
  | n + 1, h => by rw [gS, gS, gS_cong n (fun a ha => h a (by omega)), h n (by omega)]
theorem gO_cong {B F F2 : Nat → Int32} {n : Nat} {al : Int32} (hn : n ≤ 10) (h : ∀ a, a < 10 → F a = F2 a) : gO B F n al = gO B F2 n al := by
  funext j
  unfold gO
  rw [gA_cong n (fun a ha => h a (by omega))]
theorem gN_cong {B : Nat → Int32} {n : Nat} {E : Nat → Int64} (hn : n ≤ 10) : ∀ (m i : Nat) (F F2 : Nat → Int32), (∀ a, a < 10 → F a = F2 a) → ∀ a, a < 10 → gN B n E m i F a = gN B n E m i F2 a
  | 0, _, _, _, h => h
  | m + 1, i, F, F2, h => by
    intro a ha
    rw [gN, gN, gO_cong hn h]
/-- in how many ways all can be filled -/
def gC (B : Nat → Int32) (n z : Nat) (E : Nat → Int64) (s : Int32) : Int32 := if z = 0 then 1 else gS (gN B n E (z - 1) 1 (fun j => if jb (s &&& jme n (E 0)) j = 0 then 0 else 1)) 10
theorem k_countFillings (d : Nat) (sw : Bool) (f : Nat → Nat → Int32) (g : Nat → Nat → Int64) (n b z : Nat) (s : Int32) (hn : f 1 4 = nI n) (hn10 : n ≤ 10) (hb : b < 6) (hz : f 75 b = nI z) (hz60 : z ≤ 60) : CT (d + 3) 0 0 iX8_countFillings [.ref 58, .ref 73, .int (nI b), .int s] (S sw f g) (QS (fun r sw2 f2 g2 => r = some (.int (gC (f 4) n z (fun i => g 76 (b * 60 + i)) s)) ∧ g2 = g ∧ (∀ b, b ≠ 59 → b ≠ 60 → f2 b = f b))) := by
  refine CT.of rfl (Nat.le_of_ble_eq_true rfl) (fun X hX hR hN _ => ?_)
  have hX : Good X RX8 cX8_countFillings (d + 3) 0 0 := hX
  have hN : x_nl X = 7 := hN
  show WP X 0 0 0 [_, _, _, _, _, _, _] [] _
  refine wp_aload_n hX (dk DX8_countFillings 0 rfl) rfl ?_
  refine wp_iload_n hX (dk DX8_countFillings 1 rfl) rfl ?_
  refine w_callV (As := [_]) lkX8_26 hX (dk DX8_countFillings 2 rfl) rfl rfl (by decide) hN (k_sizeOf (d + 2) sw f g b hb) ?_
  show WP _ _ _ 5 [_, _, _, _, _, _, _] [_] _
  rw [hz]
  by_cases c0 : z = 0
  · subst c0
    refine wp_if_ne (tgt := 10) hX (dk DX8_countFillings 3 rfl) (by decide) (fun h_ => absurd ((rfl)) h_) (fun _ => ?_)
    refine wp_iconst (v := 1) hX (dk DX8_countFillings 4 rfl) (by decide) ?_
    exact wp_ireturn hX hR (dk DX8_countFillings 5 rfl) rfl (Nat.le_refl _) (Nat.le_refl _) (⟨_, _, _, rfl, rfl, rfl, fun _ _ _ => rfl⟩)
  · refine wp_if_ne (tgt := 10) hX (dk DX8_countFillings 3 rfl) (by decide) (fun _ => ?_) (fun h_ => absurd h_ ((nI_ne0 (by omega) (by omega))))
    refine wp_iload_n hX (dk DX8_countFillings 6 rfl) rfl ?_
    refine wp_aload_n hX (dk DX8_countFillings 7 rfl) rfl ?_
    refine wp_aload_n hX (dk DX8_countFillings 8 rfl) rfl ?_
    refine wp_iload_n hX (dk DX8_countFillings 9 rfl) rfl ?_
    refine wp_iconst (v := 0) hX (dk DX8_countFillings 10 rfl) (by decide) ?_
    refine w_callV (As := [_, _]) lkX8_32 hX (dk DX8_countFillings 11 rfl) rfl rfl (by simp [Value.category]) hN (k_at (d + 2) sw f g b 0 hb (by decide)) ?_
    show WP _ _ _ 18 [_, _, _, _, _, _, _] [_, _, _] _
    refine w_callV (As := [_]) lkX8_36 hX (dk DX8_countFillings 12 rfl) rfl rfl (by simp [Value.category]) hN (k_meant (d + 1) sw f g n _ hn hn10) ?_
    show WP _ _ _ 21 [_, _, _, _, _, _, _] [_, _] _
    refine wp_iand hX (dk DX8_countFillings 13 rfl) ?_
    refine wp_istore hX (dk DX8_countFillings 14 rfl) rfl hN (Nat.le_of_ble_eq_true rfl) ?_
    show WP _ _ _ 24 [_, _, _, _, _, _, _] [] _
    refine wp_iconst (v := 0) hX (dk DX8_countFillings 15 rfl) (by decide) ?_
    refine wp_istore hX (dk DX8_countFillings 16 rfl) rfl hN (Nat.le_of_ble_eq_true rfl) ?_
    show WP _ _ _ 27 [_, _, _, _, _, _, _] [] _
    obtain ⟨F0, hF0⟩ : ∃ F0 : Nat → Int32, F0 = fun j => if jb (s &&& jme n (g 76 (b * 60 + 0))) j = 0 then 0 else 1 := ⟨_, rfl⟩
    obtain ⟨V, hV⟩ : ∃ V, V = gN (f 4) n (fun i => g 76 (b * 60 + i)) (z - 1) 1 F0 := ⟨_, rfl⟩
    have hC : gC (f 4) n z (fun i => g 76 (b * 60 + i)) s = gS V 10 := by rw [gC, if_neg c0, hV, hF0]
    -- the sum
    have l3 : ∀ (m k : Nat) (sw2 : Bool) (f2 : Nat → Nat → Int32), k + m = 10 → (∀ b, b ≠ 59 → b ≠ 60 → f2 b = f b) → (∀ a, a < 10 → f2 (FC sw2) a = V a) → WP X 0 0 102 [some (.ref 58), some (.ref 73), some (.int (nI b)), some (.int s), some (.int (s &&& jme n (g 76 (b * 60 + 0)))), some (.int (gS V k)), some (.int (nI k))] [] (S sw2 f2 g) := by
      intro m
      induction m with
      | zero =>
        intro k sw2 f2 hk hf hv
        obtain rfl : k = 10 := by omega
        refine wp_iload hX (dk DX8_countFillings 54 rfl) rfl ?_
        refine wp_bipush (v := 10) hX (dk DX8_countFillings 55 rfl) (by decide) ?_
        refine wp_icmp_ge (tgt := 133) hX (dk DX8_countFillings 56 rfl) (by decide) (fun _ => ?_) (fun h_ => absurd ((by decide)) h_)
        refine wp_iload hX (dk DX8_countFillings_1 8 rfl) rfl ?_
        exact wp_ireturn hX hR (dk DX8_countFillings_1 9 rfl) rfl (Nat.le_refl _) (Nat.le_refl _) (⟨_, _, _, rfl, by rw [hC], rfl, hf⟩)
      | succ m ih =>
        intro k sw2 f2 hk hf hv
        refine wp_iload hX (dk DX8_countFillings 54 rfl) rfl ?_
        refine wp_bipush (v := 10) hX (dk DX8_countFillings 55 rfl) (by decide) ?_
        refine wp_icmp_ge (tgt := 133) hX (dk DX8_countFillings 56 rfl) (by decide) (fun h_ => absurd h_ ((nI_ge (b := 10) (by omega) (by omega)))) (fun _ => ?_)
        refine wp_sipush (v := 9999) hX (dk DX8_countFillings 57 rfl) (by decide) ?_
        refine wp_iload hX (dk DX8_countFillings 58 rfl) rfl ?_
        refine wp_aload_n hX (dk DX8_countFillings 59 rfl) rfl ?_
        refine w_getr hX flX8_9 (dk DX8_countFillings_1 0 rfl) rfl (rFC1 _) ?_
        refine wp_iload hX (dk DX8_countFillings_1 1 rfl) rfl ?_
        refine w_iald (j := _) hX (dk DX8_countFillings_1 2 rfl) (kFC _) rfl (by rw [lFC]; omega) ?_
        rw [hv k (by omega)]
        refine wp_iadd hX (dk DX8_countFillings_1 3 rfl) ?_
        refine w_min hX lkX8_65 (dk DX8_countFillings_1 4 rfl) (by decide) ?_
        refine wp_istore hX (dk DX8_countFillings_1 5 rfl) rfl hN (Nat.le_of_ble_eq_true rfl) ?_
        show WP _ _ _ 127 [_, _, _, _, _, _, _] [] _
        refine wp_iinc hX (dk DX8_countFillings_1 6 rfl) rfl (nI_inc _) rfl hN ?_
        show WP _ _ _ 130 [_, _, _, _, _, _, _] [] _
        refine wp_goto (tgt := 102) hX (dk DX8_countFillings_1 7 rfl) (by decide) ?_
        -- to 102
        exact ih (k + 1) sw2 f2 (by omega) hf hv
    -- the elements
    have l2 : ∀ (m i : Nat) (sw2 : Bool) (f2 : Nat → Nat → Int32) (y : Option Value), i + m = z → (∀ b, b ≠ 59 → b ≠ 60 → f2 b = f b) → (∀ a, a < 10 → V a = gN (f 4) n (fun i => g 76 (b * 60 + i)) m i (f2 (FC sw2)) a) → WP X 0 0 65 [some (.ref 58), some (.ref 73), some (.int (nI b)), some (.int s), some (.int (s &&& jme n (g 76 (b * 60 + 0)))), some (.int (nI i)), y] [] (S sw2 f2 g) := by
      intro m
      induction m with
      | zero =>
        intro i sw2 f2 y hi hf hv
        obtain rfl : i = z := by omega
        refine wp_iload hX (dk DX8_countFillings 35 rfl) rfl ?_
        refine wp_aload_n hX (dk DX8_countFillings 36 rfl) rfl ?_
        refine wp_iload_n hX (dk DX8_countFillings 37 rfl) rfl ?_
        refine w_callV (As := [_]) lkX8_26 hX (dk DX8_countFillings 38 rfl) rfl rfl (by simp [Value.category]) hN (k_sizeOf (d + 2) sw2 f2 g b hb) ?_
        show WP _ _ _ 72 [_, _, _, _, _, _, _] [_, _] _
        refine wp_icmp_ge (tgt := 96) hX (dk DX8_countFillings 39 rfl) (by decide) (fun _ => ?_) (fun h_ => absurd ((by rw [hf 75 (by decide) (by decide), hz]; exact nI_le (by omega) (by omega))) h_)
        refine wp_iconst (v := 0) hX (dk DX8_countFillings 50 rfl) (by decide) ?_
        refine wp_istore hX (dk DX8_countFillings 51 rfl) rfl hN (Nat.le_of_ble_eq_true rfl) ?_
        show WP _ _ _ 99 [_, _, _, _, _, _, _] [] _
        refine wp_iconst (v := 0) hX (dk DX8_countFillings 52 rfl) (by decide) ?_
        refine wp_istore hX (dk DX8_countFillings 53 rfl) rfl hN (Nat.le_of_ble_eq_true rfl) ?_
        show WP _ _ _ 102 [_, _, _, _, _, _, _] [] _
        exact l3 10 0 sw2 f2 (by omega) hf (fun a ha => (hv a ha).symm)
      | succ m ih =>
        intro i sw2 f2 y hi hf hv
        refine wp_iload hX (dk DX8_countFillings 35 rfl) rfl ?_
        refine wp_aload_n hX (dk DX8_countFillings 36 rfl) rfl ?_
        refine wp_iload_n hX (dk DX8_countFillings 37 rfl) rfl ?_
        refine w_callV (As := [_]) lkX8_26 hX (dk DX8_countFillings 38 rfl) rfl rfl (by simp [Value.category]) hN (k_sizeOf (d + 2) sw2 f2 g b hb) ?_
        show WP _ _ _ 72 [_, _, _, _, _, _, _] [_, _] _
        refine wp_icmp_ge (tgt := 96) hX (dk DX8_countFillings 39 rfl) (by decide) (fun h_ => absurd h_ ((by rw [hf 75 (by decide) (by decide), hz]; exact nI_ge (by omega) (by omega)))) (fun _ => ?_)
        refine wp_aload_n hX (dk DX8_countFillings 40 rfl) rfl ?_
        refine wp_aload_n hX (dk DX8_countFillings 41 rfl) rfl ?_
        refine wp_aload_n hX (dk DX8_countFillings 42 rfl) rfl ?_
        refine wp_iload_n hX (dk DX8_countFillings 43 rfl) rfl ?_
        refine wp_iload hX (dk DX8_countFillings 44 rfl) rfl ?_
        refine w_callV (As := [_, _]) lkX8_32 hX (dk DX8_countFillings 45 rfl) rfl rfl (by simp [Value.category]) hN (k_at (d + 2) sw2 f2 g b i hb (by omega)) ?_
        show WP _ _ _ 84 [_, _, _, _, _, _, _] [_, _, _] _
        refine w_callV (As := [_]) lkX8_36 hX (dk DX8_countFillings 46 rfl) rfl rfl (by simp [Value.category]) hN (k_meant (d + 1) sw2 f2 g n _ (by rw [hf 1 (by decide) (by decide)]; exact hn) hn10) ?_
        show WP _ _ _ 87 [_, _, _, _, _, _, _] [_, _] _
        refine w_callVQ (As := [_]) lkX8_61 hX (dk DX8_countFillings 47 rfl) rfl rfl (by decide) hN (k_goOn d sw2 f2 g n _ (by rw [hf 1 (by decide) (by decide)]; exact hn) hn10) (fun v_ sw_ f_ g_ hq_ => ?_)
        obtain ⟨rfl, rfl, rfl, hf2, hv2⟩ := hq_
        show WP _ _ _ 90 [_, _, _, _, _, _, _] [] _
        rw [hf 4 (by decide) (by decide)] at hv2
        refine wp_iinc hX (dk DX8_countFillings 48 rfl) rfl (nI_inc _) rfl hN ?_
        show WP _ _ _ 93 [_, _, _, _, _, _, _] [] _
        refine wp_goto (tgt := 65) hX (dk DX8_countFillings 49 rfl) (by decide) ?_
        -- to 65
        refine ih (i + 1) _ _ _ (by omega) (fun b h1 h2 => (hf2 b h1 h2).trans (hf b h1 h2)) (fun a ha => ?_)
        rw [hv a ha, gN]
        exact gN_cong hn10 m (i + 1) _ _ (fun k hk => (hv2 k hk).symm) a ha
    -- the first element
    have l1 : ∀ (m k : Nat) (f2 : Nat → Nat → Int32), k + m = 10 → (∀ b, b ≠ FC sw → f2 b = f b) → (∀ a, a < k → f2 (FC sw) a = F0 a) → WP X 0 0 27 [some (.ref 58), some (.ref 73), some (.int (nI b)), some (.int s), some (.int (s &&& jme n (g 76 (b * 60 + 0)))), some (.int (nI k)), none] [] (S sw f2 g) := by
      intro m
      induction m with
      | zero =>
        intro k f2 hk hf hv
        obtain rfl : k = 10 := by omega
        refine wp_iload hX (dk DX8_countFillings 17 rfl) rfl ?_
        refine wp_bipush (v := 10) hX (dk DX8_countFillings 18 rfl) (by decide) ?_
        refine wp_icmp_ge (tgt := 62) hX (dk DX8_countFillings 19 rfl) (by decide) (fun _ => ?_) (fun h_ => absurd ((by decide)) h_)
        refine wp_iconst (v := 1) hX (dk DX8_countFillings 33 rfl) (by decide) ?_
        refine wp_istore hX (dk DX8_countFillings 34 rfl) rfl hN (Nat.le_of_ble_eq_true rfl) ?_
        show WP _ _ _ 65 [_, _, _, _, _, _, _] [] _
        refine l2 (z - 1) 1 sw f2 _ (by omega) (fun b h1 h2 => hf b (notFC h1 h2 _)) (fun a ha => ?_)
        rw [hV]
        exact gN_cong hn10 _ _ _ _ (fun k hk => (hv k hk).symm) a ha
      | succ m ih =>
        intro k f2 hk hf hv
        have key : ∀ v : Int32, v = F0 k → WP X 0 0 55 [some (.ref 58), some (.ref 73), some (.int (nI b)), some (.int s), some (.int (s &&& jme n (g 76 (b * 60 + 0)))), some (.int (nI k)), none] [.int v, .int (nI k), .ref (FC sw)] (S sw f2 g) := by
          intro v hv2
          refine w_iast (j := _) hX (dk DX8_countFillings 30 rfl) (kFC _) rfl (by rw [lFC]; omega) ?_
          refine wp_iinc hX (dk DX8_countFillings 31 rfl) rfl (nI_inc _) rfl hN ?_
          show WP _ _ _ 59 [_, _, _, _, _, _, _] [] _
          refine wp_goto (tgt := 27) hX (dk DX8_countFillings 32 rfl) (by decide) ?_
          -- to 27
          refine ih (k + 1) _ (by omega) (fun b hb => by rw [u2_ne _ _ _ hb]; exact hf b hb) (fun a ha => ?_)
          by_cases c : a = k
          · subst c; rw [u2_at, hv2]
          · rw [u2_off _ _ _ c]; exact hv a (by omega)
        refine wp_iload hX (dk DX8_countFillings 17 rfl) rfl ?_
        refine wp_bipush (v := 10) hX (dk DX8_countFillings 18 rfl) (by decide) ?_
        refine wp_icmp_ge (tgt := 62) hX (dk DX8_countFillings 19 rfl) (by decide) (fun h_ => absurd h_ (nI_ge (b := 10) (by omega) (by omega))) (fun _ => ?_)
        refine wp_aload_n hX (dk DX8_countFillings 20 rfl) rfl ?_
        refine w_getr hX flX8_9 (dk DX8_countFillings 21 rfl) rfl (rFC1 _) ?_
        refine wp_iload hX (dk DX8_countFillings 22 rfl) rfl ?_
        refine wp_iload hX (dk DX8_countFillings 23 rfl) rfl ?_
        refine wp_iload hX (dk DX8_countFillings 24 rfl) rfl ?_
        refine w_callS (As := [_, _]) lkX8_57 hX (dk DX8_countFillings 25 rfl) rfl (by simp [Value.category]) (k_holds (d + 2) _ (nI k) _) ?_
        show WP _ _ _ 47 [_, _, _, _, _, _, _] [_, _, _] _
        refine wp_if_eq (tgt := 54) hX (dk DX8_countFillings 26 rfl) (by decide) (fun h47 => ?_) (fun h47 => ?_)
        · refine wp_iconst (v := 0) hX (dk DX8_countFillings 29 rfl) (by decide) ?_
          exact key _ (by rw [hF0]; first | exact (if_pos h47).symm | exact (if_neg h47).symm)
        · refine wp_iconst (v := 1) hX (dk DX8_countFillings 27 rfl) (by decide) ?_
          refine wp_goto (tgt := 55) hX (dk DX8_countFillings 28 rfl) (by decide) ?_
          exact key _ (by rw [hF0]; first | exact (if_pos h47).symm | exact (if_neg h47).symm)
    exact l1 10 0 f (by omega) (fun _ _ => rfl) (fun a ha => absurd ha (by omega))
