/-! REFERENCE: by turns -/
theorem jfw_no {s : Int32} : ∀ (k i : Nat), i + k ≤ 32 → (jfw s k i = -2 ↔ ∀ j, i ≤ j → j < i + k → bt s j = false)
  | 0, i, _ => ⟨fun _ j h1 h2 => absurd h2 (by omega), fun _ => rfl⟩
  | k + 1, i, h => by
    rw [jfw]
    by_cases c : jb s i = 0
    · rw [if_pos c, jfw_no k (i + 1) (by omega)]
      refine ⟨fun q j h1 h2 => ?_, fun q j h1 h2 => q j (by omega) (by omega)⟩
      by_cases e : j = i
      · rw [e]; exact (jb_eq s (by omega)).mp c
      · exact q j (by omega) (by omega)
    · rw [if_neg c]
      refine ⟨fun q => absurd q (rE_ne i (by omega)), fun q => ?_⟩
      have := q i (Nat.le_refl _) (by omega)
      exact absurd ((jb_eq s (by omega)).mpr this) c
/-- as the reference reckons: whether one wins, how many cuts -/
def plF (c : Nat → Int32) (l : Nat → Bool) (s : Int32) : Nat → Int32 × Int32
  | 0 => (0, 0)
  | k + 1 => if jb s k = 0 then plF c l s k else if l k = true then (1, if (plF c l s k).1 = 0 ∨ c k + 1 < (plF c l s k).2 then c k + 1 else (plF c l s k).2) else ((plF c l s k).1, if (plF c l s k).1 = 0 ∧ (plF c l s k).2 < c k + 1 then c k + 1 else (plF c l s k).2)
theorem plF_a {c : Nat → Int32} {l : Nat → Bool} {s : Int32} : ∀ k, k ≤ 32 → (∀ j, j < k → bt s j = true → l j = false) → plF c l s k = (0, jcm c s k)
  | 0, _, _ => rfl
  | k + 1, hk, h => by
    have ih := plF_a (c := c) (l := l) (s := s) k (by omega) (fun j hj => h j (by omega))
    rw [plF, jcm]
    by_cases c1 : jb s k = 0
    · rw [if_pos c1, if_pos c1, ih]
    · have hb := (jb_ne s (by omega)).mp c1
      rw [if_neg c1, if_neg c1, if_neg (show ¬ l k = true by rw [h k (by omega) hb]; decide), ih, Int32.add_comm 1 (c k), imx]
      show ((0 : Int32), if (0 : Int32) = 0 ∧ jcm c s k < c k + 1 then c k + 1 else jcm c s k) = _
      by_cases c2 : jcm c s k < c k + 1
      · rw [if_pos ⟨rfl, c2⟩, if_pos c2]
      · rw [if_neg (fun q => c2 q.2), if_neg c2]
theorem jcf_10 {c : Nat → Int32} {s : Int32} : ∀ k, k ≤ 32 → (∀ j, j < k → bt s j = false) → jcf c s k = 10
  | 0, _, _ => rfl
  | k + 1, hk, h => by rw [jcf, if_pos ((jb_eq s (by omega)).mpr (h k (by omega))), jcf_10 k (by omega) (fun j hj => h j (by omega))]
theorem plF_b {c : Nat → Int32} {l : Nat → Bool} {s lo : Int32} {n : Nat} (hl : ∀ j, j < n → bt lo j = l j) (hc : ∀ j, j < n → bt s j = true → ∃ m, m ≤ 9 ∧ c j = nI m) : ∀ k, k ≤ n → n ≤ 32 → (∃ j, j < k ∧ bt s j = true ∧ l j = true) → plF c l s k = (1, jcf c (s &&& lo) k)
  | 0, _, _, ⟨j, h, _⟩ => absurd h (Nat.not_lt_zero _)
  | k + 1, hk, hn, h => by
    have hbk : bt (s &&& lo) k = (bt s k && l k) := by rw [b_and, hl k (by omega)]
    rw [plF, jcf]
    by_cases c0 : jb s k = 0
    · have hb := (jb_eq s (by omega)).mp c0
      rw [if_pos c0, if_pos ((jb_eq _ (by omega)).mpr (by rw [hbk, hb]; rfl))]
      obtain ⟨j, h1, h2, h3⟩ := h
      exact plF_b hl hc k (by omega) hn ⟨j, by have : j ≠ k := (fun e => by rw [e, hb] at h2; cases h2); omega, h2, h3⟩
    · have hb := (jb_ne s (by omega)).mp c0
      rw [if_neg c0]
      by_cases cl : l k = true
      · rw [if_pos cl, if_neg ((jb_ne _ (by omega)).mpr (by rw [hbk, hb, cl]; rfl)), Int32.add_comm 1 (c k), imn]
        by_cases c2 : ∃ j, j < k ∧ bt s j = true ∧ l j = true
        · rw [plF_b hl hc k (by omega) hn c2]
          show ((1 : Int32), if (1 : Int32) = 0 ∨ c k + 1 < jcf c (s &&& lo) k then c k + 1 else jcf c (s &&& lo) k) = _
          by_cases c3 : c k + 1 < jcf c (s &&& lo) k
          · rw [if_pos (Or.inr c3), if_pos c3]
          · rw [if_neg (fun q => q.elim (by decide) c3), if_neg c3]
        · have no : ∀ j, j < k → bt s j = true → l j = false := fun j h1 h2 => by
            cases e : l j with
            | false => rfl
            | true => exact absurd ⟨j, h1, h2, e⟩ c2
          rw [plF_a k (by omega) no, if_pos (Or.inl rfl), jcf_10 k (by omega) (fun j hj => by
            rw [b_and, hl j (by omega)]
            cases e : bt s j with
            | false => rfl
            | true => rw [no j hj e]; rfl)]
          obtain ⟨m, m1, m2⟩ := hc k (by omega) hb
          rw [m2, nI_1]
          by_cases c3 : nI (m + 1) < 10
          · rw [if_pos c3]
          · rw [if_neg c3]
            have : m = 9 := by
              have : ¬ m + 1 < 10 := fun q => c3 (nI_lt (b := 10) q (by decide))
              omega
            rw [this]
            rfl
      · rw [if_neg cl, if_pos ((jb_eq _ (by omega)).mpr (by rw [hbk, hb]; cases e : l k <;> first | rfl | exact absurd e cl))]
        obtain ⟨j, h1, h2, h3⟩ := h
        have ih := plF_b hl hc k (by omega) hn ⟨j, by have : j ≠ k := (fun e => by rw [e] at h3; exact cl h3); omega, h2, h3⟩
        rw [ih]
        show ((1 : Int32), if (1 : Int32) = 0 ∧ _ then _ else _) = _
        rw [if_neg (fun q => absurd q.1 (by decide))]
theorem plF_eq {c : Nat → Int32} {l : Nat → Bool} {s lo : Int32} {n : Nat} (hn : n ≤ 32) (hl : ∀ j, j < n → bt lo j = l j) (hc : ∀ j, j < n → bt s j = true → ∃ m, m ≤ 9 ∧ c j = nI m) (hs : ∀ j, n ≤ j → j < 32 → bt s j = false) : plF c l s n = (if jfw (s &&& lo) n 0 = -2 then 0 else 1, jcp c s lo n) := by
  have e0 : s &&& lo = 0 ↔ jfw (s &&& lo) n 0 = -2 := by
    rw [jfw_no n 0 (by omega)]
    refine ⟨fun e j _ _ => by rw [e]; exact b_0 j, fun h => b_ext (fun i hi => ?_)⟩
    rw [b_0]
    by_cases c : i < n
    · exact h i (Nat.zero_le _) (by omega)
    · rw [b_and, hs i (by omega) hi]; rfl
  unfold jcp
  by_cases c1 : jfw (s &&& lo) n 0 = -2
  · rw [if_pos c1, if_pos (e0.mpr c1)]
    refine plF_a n hn (fun j hj hb => ?_)
    have := (jfw_no n 0 (by omega)).mp c1 j (Nat.zero_le _) (by omega)
    rw [b_and, hb, hl j hj] at this
    simpa using this
  · rw [if_neg c1, if_neg (fun q => c1 (e0.mp q))]
    refine plF_b hl hc n (Nat.le_refl _) hn ?_
    have : ¬ ∀ j, 0 ≤ j → j < 0 + n → bt (s &&& lo) j = false := fun q => c1 ((jfw_no n 0 (by omega)).mpr q)
    by_cases c2 : ∃ j, j < n ∧ bt s j = true ∧ l j = true
    · exact c2
    · refine absurd (fun j _ hj => ?_) this
      rw [b_and, hl j (by omega)]
      cases e : bt s j with
      | false => rfl
      | true =>
        cases e2 : l j with
        | false => rfl
        | true => exact absurd ⟨j, by omega, e, e2⟩ c2
theorem jcm_nI {c : Nat → Int32} {s : Int32} {b : Nat} (hb9 : b < 1000) : ∀ n, n ≤ 32 → (∀ j, j < n → bt s j = true → ∃ m, m < b ∧ c j = nI m) → ∃ m, m ≤ b ∧ jcm c s n = nI m
  | 0, _, _ => ⟨0, Nat.zero_le _, nI_0.symm⟩
  | n + 1, hn, h => by
    obtain ⟨m, m1, m2⟩ := jcm_nI hb9 n (by omega) (fun j hj => h j (by omega))
    rw [jcm]
    by_cases c1 : jb s n = 0
    · rw [if_pos c1]; exact ⟨m, m1, m2⟩
    · rw [if_neg c1, imx]
      by_cases c2 : jcm c s n < 1 + c n
      · rw [if_pos c2]
        obtain ⟨q, q1, q2⟩ := h n (by omega) ((jb_ne s (by omega)).mp c1)
        exact ⟨q + 1, by omega, by rw [q2, Int32.add_comm, nI_1]⟩
      · rw [if_neg c2]; exact ⟨m, m1, m2⟩
theorem jcf_nI {c : Nat → Int32} {s : Int32} {b : Nat} (hb9 : b ≤ 10) : ∀ n, n ≤ 32 → (∀ j, j < n → bt s j = true → ∃ m, m < b ∧ c j = nI m) → (∃ j, j < n ∧ bt s j = true) → ∃ m, m ≤ b ∧ jcf c s n = nI m
  | 0, _, _, ⟨j, h, _⟩ => absurd h (Nat.not_lt_zero _)
  | n + 1, hn, h, ⟨j, j1, j2⟩ => by
    rw [jcf]
    by_cases c1 : jb s n = 0
    · rw [if_pos c1]
      have := (jb_eq s (by omega)).mp c1
      exact jcf_nI hb9 n (by omega) (fun j hj => h j (by omega)) ⟨j, by have : j ≠ n := (fun e => by rw [e, this] at j2; cases j2); omega, j2⟩
    · rw [if_neg c1, imn]
      obtain ⟨q, q1, q2⟩ := h n (by omega) ((jb_ne s (by omega)).mp c1)
      rw [q2, Int32.add_comm, nI_1]
      by_cases c2 : nI (q + 1) < jcf c s n
      · rw [if_pos c2]; exact ⟨q + 1, by omega, rfl⟩
      · rw [if_neg c2]
        by_cases c3 : ∃ j, j < n ∧ bt s j = true
        · exact jcf_nI hb9 n (by omega) (fun j hj => h j (by omega)) c3
        · rw [jcf_10 n (by omega) (fun j hj => by
            cases e : bt s j with
            | false => rfl
            | true => exact absurd ⟨j, hj, e⟩ c3)] at c2 ⊢
          have : ¬ q + 1 < 10 := fun z => c2 (nI_lt (b := 10) z (by decide))
          exact ⟨10, by omega, rfl⟩
theorem pN_nI {B : Nat → Int32} {n : Nat} {ρ : Nat → Nat} (hn : n ≤ 10) (hp : pOk B n ρ) : ∀ k i, i < n → ∃ m, m ≤ ρ i ∧ (pN B n k i).1 = nI m
  | 0, i, _ => ⟨0, Nat.zero_le _, nI_0.symm⟩
  | k + 1, i, hi => by
    have hr := hp.1 i hi
    have hc : ∀ j, j < n → bt (B i) j = true → ∃ m, m < ρ i ∧ (pN B n k j).1 = nI m := fun j hj hb => by
      obtain ⟨m, m1, m2⟩ := pN_nI hn hp k j hj
      have := hp.2 i j hi hj hb
      exact ⟨m, by omega, m2⟩
    rw [pN]
    show ∃ m, m ≤ ρ i ∧ jcp (fun j => (pN B n k j).1) (B i) _ n = nI m
    unfold jcp
    split
    · exact jcm_nI (by omega) n (by omega) hc
    · next h =>
      by_cases c3 : ∃ j, j < n ∧ bt (B i &&& jbs (fun j => if (pN B n k j).2 then 1 else 0) n) j = true
      · exact jcf_nI (by omega) n (by omega) (fun j hj hb => hc j hj (by rw [b_and, Bool.and_eq_true] at hb; exact hb.1)) c3
      · refine absurd (b_ext (fun j hj => ?_)) h
        rw [b_0]
        by_cases c : j < n
        · cases e : bt (B i &&& jbs (fun j => if (pN B n k j).2 then 1 else 0) n) j with
          | false => rfl
          | true => exact absurd ⟨j, c, e⟩ c3
        · rw [b_and, bt_jbs _ n j (by omega) hj, decide_eq_false (fun q => c q.1), Bool.and_false]
theorem pN_st {B : Nat → Int32} {n : Nat} {ρ : Nat → Nat} (hn : n ≤ 10) (hp : pOk B n ρ) (hh : ∀ i j, i < n → n ≤ j → j < 32 → bt (B i) j = false) : ∀ (k q i : Nat), i < n → ρ i < k → ρ i < q → pN B n k i = pN B n q i
  | 0, _, _, _, h, _ => absurd h (Nat.not_lt_zero _)
  | _, 0, _, _, _, h => absurd h (Nat.not_lt_zero _)
  | k + 1, q + 1, i, hi, h1, h2 => by
    have ih : ∀ j, j < n → bt (B i) j = true → pN B n k j = pN B n q j := fun j hj hb => by
      have := hp.2 i j hi hj hb
      exact pN_st hn hp hh k q j hj (by omega) (by omega)
    have e : B i &&& jbs (fun j => if (pN B n k j).2 then 1 else 0) n = B i &&& jbs (fun j => if (pN B n q j).2 then 1 else 0) n := by
      refine and_set (n := n) (by omega) (fun j hj hb => ?_) (fun j hj hj2 => hh i j hi hj hj2)
      rw [bt_lose (p := fun j => (pN B n k j).2) (by omega) hj, bt_lose (p := fun j => (pN B n q j).2) (by omega) hj, ih j hj hb]
    rw [pN, pN, e]
    exact Prod.ext (jcp_cong (by omega) (fun j hj hb => by rw [ih j hj hb]) e) rfl
/-- what a figure's place is worth, out of those behind it -/
theorem pN_fx {B : Nat → Int32} {n : Nat} {ρ : Nat → Nat} (hn : n ≤ 10) (hp : pOk B n ρ) (hh : ∀ i j, i < n → n ≤ j → j < 32 → bt (B i) j = false) {i : Nat} (hi : i < n) : pN B n 10 i = (jcp (fun j => (pN B n 10 j).1) (B i) (pL B n) n, decide (jfw (B i &&& pL B n) n 0 = -2)) := by
  have := hp.1 i hi
  rw [pN_st hn hp hh 10 11 i hi (by omega) (by omega), pN]
  rfl
theorem k_mplays (d : Nat) (sw : Bool) (f : Nat → Nat → Int32) (g : Nat → Nat → Int64) (n i : Nat) (s : Int32) (c : Nat → Int32) (l : Nat → Bool) (hn : f 81 0 = nI n) (hn10 : n ≤ 10) (hi : i < 11) (hs : f 109 i = s) (hc : ∀ j, j < n → bt s j = true → j ≠ i ∧ f 113 j = (if l j then 0 else 1) ∧ f 114 j = c j) : CT (d + 2) 0 0 iX11_plays [.ref 81, .int (nI i)] (S sw f g) (QS (fun r sw2 f2 g2 => r = none ∧ sw2 = sw ∧ g2 = g ∧ (∀ b, b ≠ 113 → b ≠ 114 → f2 b = f b) ∧ (∀ j, j ≠ i → f2 113 j = f 113 j ∧ f2 114 j = f 114 j) ∧ f2 113 i = (plF c l s n).1 ∧ f2 114 i = (plF c l s n).2)) := by
  refine CT.of rfl (Nat.le_of_ble_eq_true rfl) (fun X hX hR hN _ => ?_)
  have hX : Good X RX11 cX11_plays (d + 2) 0 0 := hX
  have hN : x_nl X = 4 := hN
  show WP X 0 0 0 [_, _, _, _] [] _
  have lo : ∀ (m k : Nat) (f2 : Nat → Nat → Int32) (z3 : Option Value), k + m = n → (∀ b, b ≠ 113 → b ≠ 114 → f2 b = f b) → (∀ j, j ≠ i → f2 113 j = f 113 j ∧ f2 114 j = f 114 j) → f2 113 i = (plF c l s k).1 → f2 114 i = (plF c l s k).2 → WP X 0 0 16 [some (.ref 81), some (.int (nI i)), some (.int (nI k)), z3] [] (S sw f2 g) := by
    intro m
    induction m with
    | zero =>
      intro k f2 z3 hk hA hB e1 e2
      obtain rfl : k = n := by omega
      refine wp_iload_n hX (dk DX11_plays 12 rfl) rfl ?_
      refine wp_aload_n hX (dk DX11_plays 13 rfl) rfl ?_
      refine w_geti hX flX11_112 (dk DX11_plays 14 rfl) (by decide) rfl ?_
      rw [show f2 81 0 = nI k by rw [hA 81 (by decide) (by decide)]; exact hn]
      refine wp_icmp_ge (tgt := 145) hX (dk DX11_plays 15 rfl) (by decide) (fun _ => ?_) (fun h_ => absurd (nI_le (by omega) (by omega)) h_)
      exact wp_return hX hR (dk DX11_plays_1 27 rfl) (Nat.le_refl _) (Nat.le_refl _) (⟨_, _, _, rfl, rfl, rfl, rfl, hA, hB, e1, e2⟩)
    | succ m ih =>
      intro k f2 z3 hk hA hB e1 e2
      have h109 : f2 109 i = s := by rw [hA 109 (by decide) (by decide)]; exact hs
      have next : ∀ (f3 : Nat → Nat → Int32) (z3 : Option Value) (v w : Int32), (∀ b, b ≠ 113 → b ≠ 114 → f3 b = f2 b) → (∀ j, j ≠ i → f3 113 j = f2 113 j ∧ f3 114 j = f2 114 j) → f3 113 i = v → f3 114 i = w → plF c l s (k + 1) = (v, w) → WP X 0 0 16 [some (.ref 81), some (.int (nI i)), some (.int (nI (k + 1))), z3] [] (S sw f3 g) := fun f3 z3 v w h1 h2 h3 h4 h5 => ih (k + 1) f3 z3 (by omega) (fun b a1 a2 => by rw [h1 b a1 a2, hA b a1 a2]) (fun j hj => by rw [(h2 j hj).1, (h2 j hj).2]; exact hB j hj) (by rw [h5]; exact h3) (by rw [h5]; exact h4)
      have s1 : ∀ (v : Int32) (b : Nat), b ≠ 113 → b ≠ 114 → u2 f2 113 i v b = f2 b := fun v b h1 _ => u2_ne _ _ _ h1
      have s2 : ∀ (v : Int32) (b : Nat), b ≠ 113 → b ≠ 114 → u2 f2 114 i v b = f2 b := fun v b _ h1 => u2_ne _ _ _ h1
      have s3 : ∀ (v w : Int32) (b : Nat), b ≠ 113 → b ≠ 114 → u2 (u2 f2 114 i v) 113 i w b = f2 b := fun v w b h1 h2 => by rw [u2_ne _ _ _ h1, u2_ne _ _ _ h2]
      have t1 : ∀ (v : Int32) (j : Nat), j ≠ i → u2 f2 113 i v 113 j = f2 113 j ∧ u2 f2 113 i v 114 j = f2 114 j := fun v j h => ⟨u2_off _ _ _ h, by rw [u2_ne _ _ _ (show (114 : Nat) ≠ 113 by decide)]⟩
      have t2 : ∀ (v : Int32) (j : Nat), j ≠ i → u2 f2 114 i v 113 j = f2 113 j ∧ u2 f2 114 i v 114 j = f2 114 j := fun v j h => ⟨by rw [u2_ne _ _ _ (show (113 : Nat) ≠ 114 by decide)], u2_off _ _ _ h⟩
      have t3 : ∀ (v w : Int32) (j : Nat), j ≠ i → u2 (u2 f2 114 i v) 113 i w 113 j = f2 113 j ∧ u2 (u2 f2 114 i v) 113 i w 114 j = f2 114 j := fun v w j h => ⟨by rw [u2_off _ _ _ h, u2_ne _ _ _ (show (113 : Nat) ≠ 114 by decide)], by rw [u2_ne _ _ _ (show (114 : Nat) ≠ 113 by decide), u2_off _ _ _ h]⟩
      by_cases cb : jb s k = 0
      · have pf : plF c l s (k + 1) = plF c l s k := by rw [plF, if_pos cb]
        refine wp_iload_n hX (dk DX11_plays 12 rfl) rfl ?_
        refine wp_aload_n hX (dk DX11_plays 13 rfl) rfl ?_
        refine w_geti hX flX11_112 (dk DX11_plays 14 rfl) (by decide) rfl ?_
        rw [show f2 81 0 = nI n by rw [hA 81 (by decide) (by decide)]; exact hn]
        refine wp_icmp_ge (tgt := 145) hX (dk DX11_plays 15 rfl) (by decide) (fun h_ => absurd h_ (nI_ge (by omega) (by omega))) (fun _ => ?_)
        refine wp_aload_n hX (dk DX11_plays 16 rfl) rfl ?_
        refine w_getr hX flX11_94 (dk DX11_plays 17 rfl) rfl rfl ?_
        refine wp_iload_n hX (dk DX11_plays 18 rfl) rfl ?_
        refine w_iald (j := _) hX (dk DX11_plays 19 rfl) rfl rfl (show _ < 11 by omega) ?_
        rw [h109]
        refine wp_iload_n hX (dk DX11_plays 20 rfl) rfl ?_
        refine w_callS (As := [_, _]) lkX11_138 hX (dk DX11_plays 21 rfl) rfl (by decide) (k_mhas (d + 1) _ _ _) ?_
        show WP _ _ _ 34 [_, _, _, _] [_] _
        refine wp_if_ne (tgt := 40) hX (dk DX11_plays 22 rfl) (by decide) (fun h_ => absurd (cb) h_) (fun _ => ?_)
        refine wp_goto (tgt := 139) hX (dk DX11_plays 23 rfl) (by decide) ?_
        refine wp_iinc hX (dk DX11_plays_1 25 rfl) rfl (nI_inc _) rfl hN ?_
        show WP _ _ _ 142 [_, _, _, _] [] _
        refine wp_goto (tgt := 16) hX (dk DX11_plays_1 26 rfl) (by decide) ?_
        exact next f2 _ _ _ (fun _ _ _ => rfl) (fun _ _ => ⟨rfl, rfl⟩) e1 e2 pf
      · obtain ⟨ki, k1, k2⟩ := hc k (by omega) ((jb_ne s (by omega)).mp cb)
        have k3 : f2 113 k = (if l k then 0 else 1) := by rw [(hB k ki).1]; exact k1
        have k4 : f2 114 k = c k := by rw [(hB k ki).2]; exact k2
        cases cl : l k with
        | true =>
          have pf : plF c l s (k + 1) = (1, if (plF c l s k).1 = 0 ∨ c k + 1 < (plF c l s k).2 then c k + 1 else (plF c l s k).2) := by rw [plF, if_neg cb, if_pos cl]
          rw [cl] at k3
          have k3 : f2 113 k = 0 := k3
          refine wp_iload_n hX (dk DX11_plays 12 rfl) rfl ?_
          refine wp_aload_n hX (dk DX11_plays 13 rfl) rfl ?_
          refine w_geti hX flX11_112 (dk DX11_plays 14 rfl) (by decide) rfl ?_
          rw [show f2 81 0 = nI n by rw [hA 81 (by decide) (by decide)]; exact hn]
          refine wp_icmp_ge (tgt := 145) hX (dk DX11_plays 15 rfl) (by decide) (fun h_ => absurd h_ (nI_ge (by omega) (by omega))) (fun _ => ?_)
          refine wp_aload_n hX (dk DX11_plays 16 rfl) rfl ?_
          refine w_getr hX flX11_94 (dk DX11_plays 17 rfl) rfl rfl ?_
          refine wp_iload_n hX (dk DX11_plays 18 rfl) rfl ?_
          refine w_iald (j := _) hX (dk DX11_plays 19 rfl) rfl rfl (show _ < 11 by omega) ?_
          rw [h109]
          refine wp_iload_n hX (dk DX11_plays 20 rfl) rfl ?_
          refine w_callS (As := [_, _]) lkX11_138 hX (dk DX11_plays 21 rfl) rfl (by decide) (k_mhas (d + 1) _ _ _) ?_
          show WP _ _ _ 34 [_, _, _, _] [_] _
          refine wp_if_ne (tgt := 40) hX (dk DX11_plays 22 rfl) (by decide) (fun _ => ?_) (fun h_ => absurd h_ (cb))
          refine wp_aload_n hX (dk DX11_plays 24 rfl) rfl ?_
          refine w_getr hX flX11_106 (dk DX11_plays 25 rfl) rfl rfl ?_
          refine wp_iload_n hX (dk DX11_plays 26 rfl) rfl ?_
          refine w_iald (j := _) hX (dk DX11_plays 27 rfl) rfl rfl (show _ < 11 by omega) ?_
          refine wp_if_ne (tgt := 53) hX (dk DX11_plays 28 rfl) (by decide) (fun h_ => absurd (k3) h_) (fun _ => ?_)
          refine wp_iconst (v := 1) hX (dk DX11_plays 29 rfl) (by decide) ?_
          refine wp_goto (tgt := 54) hX (dk DX11_plays 30 rfl) (by decide) ?_
          refine wp_istore_n hX (dk DX11_plays 32 rfl) rfl rfl hN (Nat.le_of_ble_eq_true rfl) ?_
          show WP _ _ _ 55 [_, _, _, _] [] _
          refine wp_iload_n hX (dk DX11_plays 33 rfl) rfl ?_
          refine wp_if_eq (tgt := 88) hX (dk DX11_plays 34 rfl) (by decide) (fun h_ => absurd h_ (by decide)) (fun _ => ?_)
          refine wp_aload_n hX (dk DX11_plays 35 rfl) rfl ?_
          refine w_getr hX flX11_106 (dk DX11_plays 36 rfl) rfl rfl ?_
          refine wp_iload_n hX (dk DX11_plays 37 rfl) rfl ?_
          refine w_iald (j := _) hX (dk DX11_plays 38 rfl) rfl rfl (show _ < 11 by omega) ?_
          rw [e1]
          refine wp_if_eq (tgt := 114) hX (dk DX11_plays 39 rfl) (by decide) (fun h65 => ?_) (fun h65 => ?_)
          · have cc : (plF c l s k).1 = 0 ∨ c k + 1 < (plF c l s k).2 := Or.inl h65
            refine wp_aload_n hX (dk DX11_plays_1 8 rfl) rfl ?_
            refine w_getr hX flX11_109 (dk DX11_plays_1 9 rfl) rfl rfl ?_
            refine wp_iload_n hX (dk DX11_plays_1 10 rfl) rfl ?_
            refine wp_aload_n hX (dk DX11_plays_1 11 rfl) rfl ?_
            refine w_getr hX flX11_109 (dk DX11_plays_1 12 rfl) rfl rfl ?_
            refine wp_iload_n hX (dk DX11_plays_1 13 rfl) rfl ?_
            refine w_iald (j := _) hX (dk DX11_plays_1 14 rfl) rfl rfl (show _ < 11 by omega) ?_
            refine wp_iconst (v := 1) hX (dk DX11_plays_1 15 rfl) (by decide) ?_
            refine wp_iadd hX (dk DX11_plays_1 16 rfl) ?_
            refine w_iast (j := _) hX (dk DX11_plays_1 17 rfl) rfl rfl (show _ < 11 by omega) ?_
            refine wp_iload_n hX (dk DX11_plays_1 18 rfl) rfl ?_
            refine wp_if_eq (tgt := 139) hX (dk DX11_plays_1 19 rfl) (by decide) (fun h_ => absurd h_ (by decide)) (fun _ => ?_)
            refine wp_aload_n hX (dk DX11_plays_1 20 rfl) rfl ?_
            refine w_getr hX flX11_106 (dk DX11_plays_1 21 rfl) rfl rfl ?_
            refine wp_iload_n hX (dk DX11_plays_1 22 rfl) rfl ?_
            refine wp_iconst (v := 1) hX (dk DX11_plays_1 23 rfl) (by decide) ?_
            refine w_iast (j := _) hX (dk DX11_plays_1 24 rfl) rfl rfl (show _ < 11 by omega) ?_
            refine wp_iinc hX (dk DX11_plays_1 25 rfl) rfl (nI_inc _) rfl hN ?_
            show WP _ _ _ 142 [_, _, _, _] [] _
            refine wp_goto (tgt := 16) hX (dk DX11_plays_1 26 rfl) (by decide) ?_
            first | exact next _ _ _ _ (s3 _ _) (t3 _ _) (u2_at _ _ _ _) (by rw [u2_ne _ _ _ (show (114 : Nat) ≠ 113 by decide), u2_at, k4]) (by rw [pf, if_pos cc]) | exact next _ _ _ _ (s1 _) (t1 _) (u2_at _ _ _ _) (by rw [u2_ne _ _ _ (show (114 : Nat) ≠ 113 by decide), e2]) (by rw [pf, if_neg cc])
          · refine wp_aload_n hX (dk DX11_plays 40 rfl) rfl ?_
            refine w_getr hX flX11_109 (dk DX11_plays 41 rfl) rfl rfl ?_
            refine wp_iload_n hX (dk DX11_plays 42 rfl) rfl ?_
            refine w_iald (j := _) hX (dk DX11_plays 43 rfl) rfl rfl (show _ < 11 by omega) ?_
            rw [k4]
            refine wp_iconst (v := 1) hX (dk DX11_plays 44 rfl) (by decide) ?_
            refine wp_iadd hX (dk DX11_plays 45 rfl) ?_
            refine wp_aload_n hX (dk DX11_plays 46 rfl) rfl ?_
            refine w_getr hX flX11_109 (dk DX11_plays 47 rfl) rfl rfl ?_
            refine wp_iload_n hX (dk DX11_plays 48 rfl) rfl ?_
            refine w_iald (j := _) hX (dk DX11_plays 49 rfl) rfl rfl (show _ < 11 by omega) ?_
            rw [e2]
            refine wp_icmp_ge (tgt := 128) hX (dk DX11_plays 50 rfl) (by decide) (fun h82 => ?_) (fun h82 => ?_)
            · have cc : ¬ ((plF c l s k).1 = 0 ∨ c k + 1 < (plF c l s k).2) := fun z => z.elim h65 (fun q => absurd q (Int32.not_lt.mpr h82))
              refine wp_iload_n hX (dk DX11_plays_1 18 rfl) rfl ?_
              refine wp_if_eq (tgt := 139) hX (dk DX11_plays_1 19 rfl) (by decide) (fun h_ => absurd h_ (by decide)) (fun _ => ?_)
              refine wp_aload_n hX (dk DX11_plays_1 20 rfl) rfl ?_
              refine w_getr hX flX11_106 (dk DX11_plays_1 21 rfl) rfl rfl ?_
              refine wp_iload_n hX (dk DX11_plays_1 22 rfl) rfl ?_
              refine wp_iconst (v := 1) hX (dk DX11_plays_1 23 rfl) (by decide) ?_
              refine w_iast (j := _) hX (dk DX11_plays_1 24 rfl) rfl rfl (show _ < 11 by omega) ?_
              refine wp_iinc hX (dk DX11_plays_1 25 rfl) rfl (nI_inc _) rfl hN ?_
              show WP _ _ _ 142 [_, _, _, _] [] _
              refine wp_goto (tgt := 16) hX (dk DX11_plays_1 26 rfl) (by decide) ?_
              first | exact next _ _ _ _ (s3 _ _) (t3 _ _) (u2_at _ _ _ _) (by rw [u2_ne _ _ _ (show (114 : Nat) ≠ 113 by decide), u2_at, k4]) (by rw [pf, if_pos cc]) | exact next _ _ _ _ (s1 _) (t1 _) (u2_at _ _ _ _) (by rw [u2_ne _ _ _ (show (114 : Nat) ≠ 113 by decide), e2]) (by rw [pf, if_neg cc])
            · have cc : (plF c l s k).1 = 0 ∨ c k + 1 < (plF c l s k).2 := Or.inr (Int32.not_le.mp h82)
              refine wp_goto (tgt := 114) hX (dk DX11_plays 51 rfl) (by decide) ?_
              refine wp_aload_n hX (dk DX11_plays_1 8 rfl) rfl ?_
              refine w_getr hX flX11_109 (dk DX11_plays_1 9 rfl) rfl rfl ?_
              refine wp_iload_n hX (dk DX11_plays_1 10 rfl) rfl ?_
              refine wp_aload_n hX (dk DX11_plays_1 11 rfl) rfl ?_
              refine w_getr hX flX11_109 (dk DX11_plays_1 12 rfl) rfl rfl ?_
              refine wp_iload_n hX (dk DX11_plays_1 13 rfl) rfl ?_
              refine w_iald (j := _) hX (dk DX11_plays_1 14 rfl) rfl rfl (show _ < 11 by omega) ?_
              refine wp_iconst (v := 1) hX (dk DX11_plays_1 15 rfl) (by decide) ?_
              refine wp_iadd hX (dk DX11_plays_1 16 rfl) ?_
              refine w_iast (j := _) hX (dk DX11_plays_1 17 rfl) rfl rfl (show _ < 11 by omega) ?_
              refine wp_iload_n hX (dk DX11_plays_1 18 rfl) rfl ?_
              refine wp_if_eq (tgt := 139) hX (dk DX11_plays_1 19 rfl) (by decide) (fun h_ => absurd h_ (by decide)) (fun _ => ?_)
              refine wp_aload_n hX (dk DX11_plays_1 20 rfl) rfl ?_
              refine w_getr hX flX11_106 (dk DX11_plays_1 21 rfl) rfl rfl ?_
              refine wp_iload_n hX (dk DX11_plays_1 22 rfl) rfl ?_
              refine wp_iconst (v := 1) hX (dk DX11_plays_1 23 rfl) (by decide) ?_
              refine w_iast (j := _) hX (dk DX11_plays_1 24 rfl) rfl rfl (show _ < 11 by omega) ?_
              refine wp_iinc hX (dk DX11_plays_1 25 rfl) rfl (nI_inc _) rfl hN ?_
              show WP _ _ _ 142 [_, _, _, _] [] _
              refine wp_goto (tgt := 16) hX (dk DX11_plays_1 26 rfl) (by decide) ?_
              first | exact next _ _ _ _ (s3 _ _) (t3 _ _) (u2_at _ _ _ _) (by rw [u2_ne _ _ _ (show (114 : Nat) ≠ 113 by decide), u2_at, k4]) (by rw [pf, if_pos cc]) | exact next _ _ _ _ (s1 _) (t1 _) (u2_at _ _ _ _) (by rw [u2_ne _ _ _ (show (114 : Nat) ≠ 113 by decide), e2]) (by rw [pf, if_neg cc])
        | false =>
          have pf : plF c l s (k + 1) = ((plF c l s k).1, if (plF c l s k).1 = 0 ∧ (plF c l s k).2 < c k + 1 then c k + 1 else (plF c l s k).2) := by rw [plF, if_neg cb, if_neg (by rw [cl]; decide)]
          rw [cl] at k3
          have k3 : f2 113 k = 1 := k3
          refine wp_iload_n hX (dk DX11_plays 12 rfl) rfl ?_
          refine wp_aload_n hX (dk DX11_plays 13 rfl) rfl ?_
          refine w_geti hX flX11_112 (dk DX11_plays 14 rfl) (by decide) rfl ?_
          rw [show f2 81 0 = nI n by rw [hA 81 (by decide) (by decide)]; exact hn]
          refine wp_icmp_ge (tgt := 145) hX (dk DX11_plays 15 rfl) (by decide) (fun h_ => absurd h_ (nI_ge (by omega) (by omega))) (fun _ => ?_)
          refine wp_aload_n hX (dk DX11_plays 16 rfl) rfl ?_
          refine w_getr hX flX11_94 (dk DX11_plays 17 rfl) rfl rfl ?_
          refine wp_iload_n hX (dk DX11_plays 18 rfl) rfl ?_
          refine w_iald (j := _) hX (dk DX11_plays 19 rfl) rfl rfl (show _ < 11 by omega) ?_
          rw [h109]
          refine wp_iload_n hX (dk DX11_plays 20 rfl) rfl ?_
          refine w_callS (As := [_, _]) lkX11_138 hX (dk DX11_plays 21 rfl) rfl (by decide) (k_mhas (d + 1) _ _ _) ?_
          show WP _ _ _ 34 [_, _, _, _] [_] _
          refine wp_if_ne (tgt := 40) hX (dk DX11_plays 22 rfl) (by decide) (fun _ => ?_) (fun h_ => absurd h_ (cb))
          refine wp_aload_n hX (dk DX11_plays 24 rfl) rfl ?_
          refine w_getr hX flX11_106 (dk DX11_plays 25 rfl) rfl rfl ?_
          refine wp_iload_n hX (dk DX11_plays 26 rfl) rfl ?_
          refine w_iald (j := _) hX (dk DX11_plays 27 rfl) rfl rfl (show _ < 11 by omega) ?_
          refine wp_if_ne (tgt := 53) hX (dk DX11_plays 28 rfl) (by decide) (fun _ => ?_) (fun h_ => absurd h_ (by rw [k3]; decide))
          refine wp_iconst (v := 0) hX (dk DX11_plays 31 rfl) (by decide) ?_
          refine wp_istore_n hX (dk DX11_plays 32 rfl) rfl rfl hN (Nat.le_of_ble_eq_true rfl) ?_
          show WP _ _ _ 55 [_, _, _, _] [] _
          refine wp_iload_n hX (dk DX11_plays 33 rfl) rfl ?_
          refine wp_if_eq (tgt := 88) hX (dk DX11_plays 34 rfl) (by decide) (fun _ => ?_) (fun h_ => absurd (rfl) h_)
          refine wp_aload_n hX (dk DX11_plays 52 rfl) rfl ?_
          refine w_getr hX flX11_106 (dk DX11_plays 53 rfl) rfl rfl ?_
          refine wp_iload_n hX (dk DX11_plays 54 rfl) rfl ?_
          refine w_iald (j := _) hX (dk DX11_plays 55 rfl) rfl rfl (show _ < 11 by omega) ?_
          rw [e1]
          refine wp_if_ne (tgt := 128) hX (dk DX11_plays 56 rfl) (by decide) (fun h94 => ?_) (fun h94 => ?_)
          · have cc : ¬ ((plF c l s k).1 = 0 ∧ (plF c l s k).2 < c k + 1) := fun z => h94 z.1
            refine wp_iload_n hX (dk DX11_plays_1 18 rfl) rfl ?_
            refine wp_if_eq (tgt := 139) hX (dk DX11_plays_1 19 rfl) (by decide) (fun _ => ?_) (fun h_ => absurd (rfl) h_)
            refine wp_iinc hX (dk DX11_plays_1 25 rfl) rfl (nI_inc _) rfl hN ?_
            show WP _ _ _ 142 [_, _, _, _] [] _
            refine wp_goto (tgt := 16) hX (dk DX11_plays_1 26 rfl) (by decide) ?_
            first | exact next _ _ _ _ (s2 _) (t2 _) (by rw [u2_ne _ _ _ (show (113 : Nat) ≠ 114 by decide), e1]) (by rw [u2_at, k4]) (by rw [pf, if_pos cc]) | exact next _ _ _ _ (fun _ _ _ => rfl) (fun _ _ => ⟨rfl, rfl⟩) e1 e2 (by rw [pf, if_neg cc])
          · refine wp_aload_n hX (dk DX11_plays 57 rfl) rfl ?_
            refine w_getr hX flX11_109 (dk DX11_plays 58 rfl) rfl rfl ?_
            refine wp_iload_n hX (dk DX11_plays 59 rfl) rfl ?_
            refine w_iald (j := _) hX (dk DX11_plays_1 0 rfl) rfl rfl (show _ < 11 by omega) ?_
            rw [k4]
            refine wp_iconst (v := 1) hX (dk DX11_plays_1 1 rfl) (by decide) ?_
            refine wp_iadd hX (dk DX11_plays_1 2 rfl) ?_
            refine wp_aload_n hX (dk DX11_plays_1 3 rfl) rfl ?_
            refine w_getr hX flX11_109 (dk DX11_plays_1 4 rfl) rfl rfl ?_
            refine wp_iload_n hX (dk DX11_plays_1 5 rfl) rfl ?_
            refine w_iald (j := _) hX (dk DX11_plays_1 6 rfl) rfl rfl (show _ < 11 by omega) ?_
            rw [e2]
            refine wp_icmp_le (tgt := 128) hX (dk DX11_plays_1 7 rfl) (by decide) (fun h111 => ?_) (fun h111 => ?_)
            · have cc : ¬ ((plF c l s k).1 = 0 ∧ (plF c l s k).2 < c k + 1) := fun z => absurd z.2 (Int32.not_lt.mpr h111)
              refine wp_iload_n hX (dk DX11_plays_1 18 rfl) rfl ?_
              refine wp_if_eq (tgt := 139) hX (dk DX11_plays_1 19 rfl) (by decide) (fun _ => ?_) (fun h_ => absurd (rfl) h_)
              refine wp_iinc hX (dk DX11_plays_1 25 rfl) rfl (nI_inc _) rfl hN ?_
              show WP _ _ _ 142 [_, _, _, _] [] _
              refine wp_goto (tgt := 16) hX (dk DX11_plays_1 26 rfl) (by decide) ?_
              first | exact next _ _ _ _ (s2 _) (t2 _) (by rw [u2_ne _ _ _ (show (113 : Nat) ≠ 114 by decide), e1]) (by rw [u2_at, k4]) (by rw [pf, if_pos cc]) | exact next _ _ _ _ (fun _ _ _ => rfl) (fun _ _ => ⟨rfl, rfl⟩) e1 e2 (by rw [pf, if_neg cc])
            · have cc : (plF c l s k).1 = 0 ∧ (plF c l s k).2 < c k + 1 := ⟨h94, Int32.not_le.mp h111⟩
              refine wp_aload_n hX (dk DX11_plays_1 8 rfl) rfl ?_
              refine w_getr hX flX11_109 (dk DX11_plays_1 9 rfl) rfl rfl ?_
              refine wp_iload_n hX (dk DX11_plays_1 10 rfl) rfl ?_
              refine wp_aload_n hX (dk DX11_plays_1 11 rfl) rfl ?_
              refine w_getr hX flX11_109 (dk DX11_plays_1 12 rfl) rfl rfl ?_
              refine wp_iload_n hX (dk DX11_plays_1 13 rfl) rfl ?_
              refine w_iald (j := _) hX (dk DX11_plays_1 14 rfl) rfl rfl (show _ < 11 by omega) ?_
              refine wp_iconst (v := 1) hX (dk DX11_plays_1 15 rfl) (by decide) ?_
              refine wp_iadd hX (dk DX11_plays_1 16 rfl) ?_
              refine w_iast (j := _) hX (dk DX11_plays_1 17 rfl) rfl rfl (show _ < 11 by omega) ?_
              refine wp_iload_n hX (dk DX11_plays_1 18 rfl) rfl ?_
              refine wp_if_eq (tgt := 139) hX (dk DX11_plays_1 19 rfl) (by decide) (fun _ => ?_) (fun h_ => absurd (rfl) h_)
              refine wp_iinc hX (dk DX11_plays_1 25 rfl) rfl (nI_inc _) rfl hN ?_
              show WP _ _ _ 142 [_, _, _, _] [] _
              refine wp_goto (tgt := 16) hX (dk DX11_plays_1 26 rfl) (by decide) ?_
              first | exact next _ _ _ _ (s2 _) (t2 _) (by rw [u2_ne _ _ _ (show (113 : Nat) ≠ 114 by decide), e1]) (by rw [u2_at, k4]) (by rw [pf, if_pos cc]) | exact next _ _ _ _ (fun _ _ _ => rfl) (fun _ _ => ⟨rfl, rfl⟩) e1 e2 (by rw [pf, if_neg cc])
  refine wp_aload_n hX (dk DX11_plays 0 rfl) rfl ?_
  refine w_getr hX flX11_106 (dk DX11_plays 1 rfl) rfl rfl ?_
  refine wp_iload_n hX (dk DX11_plays 2 rfl) rfl ?_
  refine wp_iconst (v := 0) hX (dk DX11_plays 3 rfl) (by decide) ?_
  refine w_iast (j := _) hX (dk DX11_plays 4 rfl) rfl rfl (show _ < 11 by omega) ?_
  refine wp_aload_n hX (dk DX11_plays 5 rfl) rfl ?_
  refine w_getr hX flX11_109 (dk DX11_plays 6 rfl) rfl rfl ?_
  refine wp_iload_n hX (dk DX11_plays 7 rfl) rfl ?_
  refine wp_iconst (v := 0) hX (dk DX11_plays 8 rfl) (by decide) ?_
  refine w_iast (j := _) hX (dk DX11_plays 9 rfl) rfl rfl (show _ < 11 by omega) ?_
  refine wp_iconst (v := 0) hX (dk DX11_plays 10 rfl) (by decide) ?_
  refine wp_istore_n hX (dk DX11_plays 11 rfl) rfl rfl hN (Nat.le_of_ble_eq_true rfl) ?_
  show WP _ _ _ 16 [_, _, _, _] [] _
  exact lo n 0 _ _ (by omega) (fun b h1 h2 => by rw [u2_ne _ _ _ h2, u2_ne _ _ _ h1]) (fun j hj => ⟨by rw [u2_ne _ _ _ (show (113 : Nat) ≠ 114 by decide), u2_off _ _ _ hj], by rw [u2_off _ _ _ hj, u2_ne _ _ _ (show (114 : Nat) ≠ 113 by decide)]⟩) (by rw [u2_ne _ _ _ (show (113 : Nat) ≠ 114 by decide), u2_at]; rfl) (by rw [u2_at]; rfl)
