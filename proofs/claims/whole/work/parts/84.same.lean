/-! THE SAME VALUES: what the class says of its own row of sets, what the reference says -/
def eqB (B B2 : Nat → Int32) (n : Nat) : Prop := ∀ i, i < n → B i = B2 i
section SAME
variable {B B2 : Nat → Int32} {n : Nat}
theorem LN_cg {al : Int32} (h : eqB B B2 n) (hn : n ≤ 32) : ∀ k i, i < n → LN B n al k i = LN B2 n al k i
  | 0, _, _ => rfl
  | k + 1, i, hi => by rw [LN, LN, h i hi, jmx_cong n hn (fun j hj _ => LN_cg h hn k j hj)]
theorem LG_cg {al s : Int32} (h : eqB B B2 n) (hn : n ≤ 32) : LG B n al s = LG B2 n al s := jmx_cong n hn (fun j hj _ => LN_cg h hn 10 j hj)
theorem jil_cg {r : Nat → Int32} {k : Int32} (h : eqB B B2 n) (hn : n ≤ 32) : ∀ (m i : Nat) (s : Int32), jil r B n k m i s = jil r B2 n k m i s
  | 0, _, _ => rfl
  | m + 1, i, s => by
    rw [jil, jil]
    rcases jfl_in (r := r) (s := s) (l := jmx r s n) n 0 with e | ⟨j, _, hj, e, _⟩
    · rw [e, if_pos (Or.inl rfl), if_pos (Or.inl rfl)]
    · rw [e, nI_clamp (by omega), h j (by omega), jil_cg h hn m]
theorem rS_cg {W W2 : Nat → Nat → Int32} (h : eqB B B2 n) (hW : ∀ i p, i < n → p < 10 → W i p = W2 i p) : ∀ k i, k ≤ 10 → i < n → rS W B n k i = rS W2 B2 n k i
  | 0, _, _, _ => rfl
  | k + 1, i, hk, hi => by
    rw [rS, rS, h i hi, rC_cong n (fun j hj => rS_cg h hW k j (by omega) hj), hW i 9 hi (by decide), hW i (9 - k) hi (by omega)]
    by_cases c : k = 0
    · rw [if_pos c, if_pos c]
    · rw [if_neg c, if_neg c]
      rcases rC_in (t := rS W2 B2 n k) (s := B2 i) n with e | ⟨j, hj, e, _⟩
      · rw [e]
      · rw [e]
        show (_ + (rS W B n k j).1, 1 + (rS W B n k j).2) = (_ + (rS W2 B2 n k j).1, 1 + (rS W2 B2 n k j).2)
        rw [rS_cg h hW k j (by omega) hj]
theorem rI_cg {R R2 : Nat → Nat → Int32 × Int32} {k : Int32} (h : eqB B B2 n) (hR : ∀ q j, q ≤ 10 → j < n → R q j = R2 q j) : ∀ m s, m ≤ 10 → rI R B n k m s = rI R2 B2 n k m s
  | 0, _, _ => rfl
  | m + 1, s, hm => by
    rw [rI, rI, rC_cong n (fun j hj => hR (m + 1) j hm hj)]
    rcases rC_in (t := R2 (m + 1)) (s := s) n with e | ⟨j, hj, e, _⟩
    · rw [e]
    · rw [e]
      show (if _ then _ else rI R B n k m (B j)) = (if _ then _ else rI R2 B2 n k m (B2 j))
      rw [h j hj, rI_cg h hR m _ (by omega)]
theorem jou_cg (h : eqB B B2 n) (hn : n ≤ 32) {a : Nat} (ha : a < n) : jou B n a = jou B2 n a := by
  unfold jou
  rw [h a ha]
  congr 1
  refine b_ext (fun i hi => ?_)
  rw [bt_jbs _ n i hn hi, bt_jbs _ n i hn hi]
  by_cases c : i < n
  · rw [h i c]
  · rw [decide_eq_false (fun q => c q.1), decide_eq_false (fun q => c q.1)]
theorem jwi_cg {s : Int32} {a b : Nat} (h : eqB B B2 n) (hn : n ≤ 32) (ha : a < n) (hb : b < n) : jwi B n s a b = jwi B2 n s a b := by
  unfold jwi
  rw [jou_cg h hn ha, jou_cg h hn hb, LG_cg h hn]
theorem lvF_cg {s : Int32} {c c2 : Nat → Int32} (hs : ∀ j, n ≤ j → j < 32 → bt s j = false) (hc : ∀ j, j < n → c j = c2 j) : ∀ k, k ≤ 32 → lvF s c k = lvF s c2 k
  | 0, _ => rfl
  | k + 1, hk => by
    rw [lvF, lvF, lvF_cg hs hc k (by omega)]
    by_cases q : k < n
    · rw [hc k q]
    · have e := (jb_eq s (show k < 32 by omega)).mpr (hs k (by omega) (by omega))
      rw [if_neg (fun z => z.1 e), if_neg (fun z => z.1 e)]
theorem pN_cg (h : eqB B B2 n) (hn : n ≤ 32) : ∀ k i, i < n → pN B n k i = pN B2 n k i
  | 0, _, _ => rfl
  | k + 1, i, hi => by
    have e : jbs (fun j => if (pN B n k j).2 then 1 else 0) n = jbs (fun j => if (pN B2 n k j).2 then 1 else 0) n := by
      refine b_ext (fun j hj => ?_)
      rw [bt_jbs _ n j hn hj, bt_jbs _ n j hn hj]
      by_cases c : j < n
      · rw [pN_cg h hn k j c]
      · rw [decide_eq_false (fun q => c q.1), decide_eq_false (fun q => c q.1)]
    rw [pN, pN, e, h i hi]
    exact Prod.ext (jcp_cong hn (fun j hj _ => by rw [pN_cg h hn k j hj]) rfl) rfl
theorem jbt_cg {s : Int32} {w : Nat} (h : eqB B B2 n) (hn : n ≤ 32) : jbt B n s w = jbt B2 n s w := by
  have e : pL B n = pL B2 n := by
    refine b_ext (fun j hj => ?_)
    unfold pL
    rw [bt_jbs _ n j hn hj, bt_jbs _ n j hn hj]
    by_cases c : j < n
    · rw [pN_cg h hn 10 j c]
    · rw [decide_eq_false (fun q => c q.1), decide_eq_false (fun q => c q.1)]
  unfold jbt
  rw [e, jcp_cong hn (fun j hj _ => by rw [pN_cg h hn 10 j hj]) rfl]
theorem tN_cg {E : Nat → Int64} (h : eqB B B2 n) : ∀ (m i : Nat) (x lr : Int32), tN B n E m i x lr = tN B2 n E m i x lr
  | 0, _, _, _ => rfl
  | m + 1, i, x, lr => by rw [tN, tN, jany_cong n h, tN_cg h m]
theorem jff_cg {z : Nat} {E : Nat → Int64} {s p : Int32} (h : eqB B B2 n) : ∀ (m i : Nat), jff B n z E s p m i = jff B2 n z E s p m i
  | 0, _ => rfl
  | m + 1, i => by rw [jff, jff, tN_cg h, jff_cg h m]
theorem gA_cg {F : Nat → Int32} {j : Nat} : ∀ k, (∀ i, i < k → B i = B2 i) → gA B F j k = gA B2 F j k
  | 0, _ => rfl
  | k + 1, h => by rw [gA, gA, h k (by omega), gA_cg k (fun i hi => h i (by omega))]
theorem gN_cg {E : Nat → Int64} (h : eqB B B2 n) : ∀ (m i : Nat) (F : Nat → Int32), gN B n E m i F = gN B2 n E m i F
  | 0, _, _ => rfl
  | m + 1, i, F => by
    rw [gN, gN, show gO B F n (jme n (E i)) = gO B2 F n (jme n (E i)) by
      funext j
      unfold gO
      rw [gA_cg n h], gN_cg h m]
theorem gC_cg {z : Nat} {E : Nat → Int64} {s : Int32} (h : eqB B B2 n) : gC B n z E s = gC B2 n z E s := by
  unfold gC
  rw [gN_cg h]
theorem drB_cg (h : eqB B B2 n) (hh : ∀ i j, i < n → n ≤ j → j < 32 → bt (B2 i) j = false) (hn : n ≤ 32) : ∀ (m : Nat) (q : Int32 × Int32 × Int32) (s : Int32), (∀ j, n ≤ j → j < 32 → bt s j = false) → drB B n m q s = drB B2 n m q s
  | 0, _, _, _ => rfl
  | m + 1, (z, a, e), s, hs => by
    rw [drB, drB]
    by_cases c : s = 0
    · rw [if_pos c, if_pos c]
    · rw [if_neg c, if_neg c]
      obtain ⟨j0, j1, _⟩ := ne0_bit hs c
      generalize (((z * 1103515245 + 12345).toUInt32 >>> ((8 : Int32).toUInt32 &&& Int32.toUInt32 31)).toInt32 - ((z * 1103515245 + 12345).toUInt32 >>> ((8 : Int32).toUInt32 &&& Int32.toUInt32 31)).toInt32 / imx 1 (jpc s) * imx 1 (jpc s)) = q
      obtain ⟨t, t1, t2⟩ : ∃ t, t < n ∧ jnth s q n 0 0 = nI t := by
        rcases jnth_in (s := s) (q := q) n 0 0 with e | ⟨j, _, hj, e⟩
        · exact ⟨0, by omega, e⟩
        · exact ⟨j, by omega, e⟩
      rw [t2, nI_clamp (by omega), h t t1]
      exact drB_cg h hh hn m _ _ (fun j h1 h2 => hh t j t1 h1 h2)
theorem drN_cg {s fg : Int32} (h : eqB B B2 n) (hh : ∀ i j, i < n → n ≤ j → j < 32 → bt (B2 i) j = false) (hn : n ≤ 32) (hs : ∀ j, n ≤ j → j < 32 → bt s j = false) : ∀ (k : Nat) (q : Int32 × Int32 × Int32), drN B n s fg k q = drN B2 n s fg k q
  | 0, _ => rfl
  | k + 1, (z, a, w) => by rw [drN, drN, drB_cg h hh hn 10 _ s hs, drN_cg h hh hn hs k]
theorem jcom_cg {a s : Int32} (h : eqB B B2 n) : ∀ k, k ≤ n → jcom B a s k = jcom B2 a s k
  | 0, _ => rfl
  | k + 1, hk => by rw [jcom, jcom, jcom_cg h k (by omega), h k (by omega)]
theorem jcom_hi {a s : Int32} (hs : ∀ j, n ≤ j → j < 32 → bt s j = false) : ∀ m, n + m ≤ 32 → jcom B a s (n + m) = jcom B a s n
  | 0, _ => rfl
  | m + 1, hm => by
    rw [show n + (m + 1) = (n + m) + 1 by omega, jcom, if_pos ((jb_eq s (by omega)).mpr (hs (n + m) (by omega) (by omega))), jcom_hi hs m (by omega)]
/-! the longest rows -/
theorem LN_nI {al : Int32} (hn : n ≤ 32) : ∀ k i, k < 1000 → ∃ m, m ≤ k ∧ LN B n al k i = nI m
  | 0, _, _ => ⟨0, Nat.le_refl _, nI_0.symm⟩
  | k + 1, i, hk => by
    rw [LN]
    by_cases c : jb al i = 0
    · rw [if_pos c]; exact ⟨0, Nat.zero_le _, nI_0.symm⟩
    · rw [if_neg c]
      obtain ⟨m, m1, m2⟩ := jmx_le (r := LN B n al k) (s := B i) (c := k) n hn (fun j _ _ => LN_nI hn k j (by omega))
      exact ⟨m + 1, by omega, by rw [m2, Int32.add_comm, nI_1]⟩
theorem jmx_and {r : Nat → Int32} {s t : Int32} (hr : ∀ j, ∃ m, m < 1000 ∧ r j = nI m) : ∀ k, k ≤ 32 → (∀ j, j < k → bt t j = false → r j = 0) → jmx r s k = jmx r (s &&& t) k
  | 0, _, _ => rfl
  | k + 1, hk, h => by
    have ih := jmx_and (s := s) (t := t) hr k (by omega) (fun j hj => h j (by omega))
    rw [jmx, jmx]
    by_cases c : jb s k = 0
    · rw [if_pos c, if_pos ((jb_eq _ (by omega)).mpr (by rw [b_and, (jb_eq s (by omega)).mp c, Bool.false_and])), ih]
    · rw [if_neg c]
      cases e : bt t k with
      | false =>
        rw [if_pos ((jb_eq _ (by omega)).mpr (by rw [b_and, e, Bool.and_false])), h k (by omega) e, ih]
        obtain ⟨m, m1, m2⟩ := jmx_le (r := r) (s := s &&& t) (c := 999) k (by omega) (fun j _ _ => by obtain ⟨m, a, b⟩ := hr j; exact ⟨m, by omega, b⟩)
        rw [m2, imx, if_neg (nI_pos (by omega))]
      | true =>
        rw [if_neg ((jb_ne _ (by omega)).mpr (by rw [b_and, (jb_ne s (by omega)).mp c, e]; rfl)), ih]
theorem MN_rho {s : Int32} {ρ : Nat → Nat} (hn : n ≤ 10) (hp : pOk B n ρ) : ∀ (k q i : Nat), i < n → ρ i < k → ρ i < q → MN B n s k i = MN B n s q i
  | 0, _, _, _, h, _ => absurd h (Nat.not_lt_zero _)
  | _, 0, _, _, _, h => absurd h (Nat.not_lt_zero _)
  | k + 1, q + 1, i, hi, h1, h2 => by
    rw [MN, MN]
    refine jmx_cong n (by omega) (fun j hj hb => ?_)
    rw [b_and, Bool.and_eq_true] at hb
    have := hp.2 i j hi hj hb.1
    rw [MN_rho hn hp k q j hj (by omega) (by omega)]
theorem LN_MN {al s : Int32} {ρ : Nat → Nat} (hn : n ≤ 10) (hp : pOk B n ρ) (ha : ∀ j, j < n → bt al j = bt s j) : ∀ (k i : Nat), k < 900 → i < n → ρ i < k → bt al i = true → LN B n al k i = MN B n s k i + 1
  | 0, _, _, _, h, _ => absurd h (Nat.not_lt_zero _)
  | k + 1, i, hk, hi, h, hb => by
    rw [LN, if_neg ((jb_ne al (by omega)).mpr hb), MN, Int32.add_comm]
    congr 1
    have e0 : ∀ j, j < n → bt s j = false → LN B n al k j = 0 := fun j hj e => by
      cases k with
      | zero => rfl
      | succ k => rw [LN, if_pos ((jb_eq al (by omega)).mpr (by rw [ha j hj]; exact e))]
    rw [jmx_and (t := s) (fun j => by obtain ⟨m, a, b⟩ := LN_nI (B := B) (al := al) (show n ≤ 32 by omega) k j (by omega); exact ⟨m, by omega, b⟩) n (by omega) e0]
    refine jmx_cong n (by omega) (fun j hj hb2 => ?_)
    rw [b_and, Bool.and_eq_true] at hb2
    have := hp.2 i j hi hj hb2.1
    exact LN_MN hn hp ha k j (by omega) hj (by omega) (by rw [ha j hj]; exact hb2.2)
end SAME
theorem LG_MG {sh : Nat → Int32} {n : Nat} {al s x : Int32} {ρ : Nat → Nat} (hn : n ≤ 10) (hp : pOk (BB sh n) n ρ) (ha : ∀ j, j < n → bt al j = bt s j) : LG (BB sh n) n al x = MG sh n s x := by
  unfold LG MG
  have e0 : ∀ j, j < n → bt s j = false → LN (BB sh n) n al 10 j = 0 := fun j hj e => by
    rw [LN, if_pos ((jb_eq al (by omega)).mpr (by rw [ha j hj]; exact e))]
  rw [jmx_and (t := s) (fun j => by obtain ⟨m, a, b⟩ := LN_nI (B := BB sh n) (al := al) (show n ≤ 32 by omega) 10 j (by omega); exact ⟨m, by omega, b⟩) n (by omega) e0]
  refine jmx_cong n (by omega) (fun j hj hb2 => ?_)
  rw [b_and, Bool.and_eq_true] at hb2
  have := hp.1 j hj
  rw [LN_MN hn hp ha 10 j (by decide) hj (by omega) (by rw [ha j hj]; exact hb2.2), MN_rho hn hp 10 26 j hj (by omega) (by omega)]
theorem LN_MLn {sh : Nat → Int32} {n : Nat} {ρ : Nat → Nat} (hn : n ≤ 10) (hp : pOk (BB sh n) n ρ) {j : Nat} (hj : j < n) : LN (BB sh n) n (jall (nI n)) 10 j = MLn sh n j := by
  have := hp.1 j hj
  unfold MLn
  rw [LN_MN (s := 33554431) hn hp (fun i hi => by rw [bt_all (by omega) (by omega), b_sq (by omega), decide_eq_true hi, decide_eq_true (by omega)]) 10 j (by decide) hj (by omega) (by rw [bt_all (by omega) (by omega)]; exact decide_eq_true hj), MN_rho hn hp 10 26 j hj (by omega) (by omega)]
/-- with one figure left out -/
theorem al_out {n i : Nat} (hn : n ≤ 10) (hi : i < n) : ∀ j, j < n → bt (jall (nI n) &&& ((1 : Int32) <<< (nI i &&& 31) ^^^ -1)) j = bt (33554431 &&& ((1 : Int32) <<< (nI i &&& 31) ^^^ -1)) j := fun j hj => by
  rw [b_and, b_and, bt_all (by omega) (by omega), b_sq (by omega), decide_eq_true hj, decide_eq_true (show j < 25 by omega)]
