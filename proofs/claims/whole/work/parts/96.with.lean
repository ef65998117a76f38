/-! WITH: the longest row over two figures, both ways of reckoning -/
def mxN (R : Nat → Nat) (s : Int32) : Nat → Nat
  | 0 => 0
  | k + 1 => if bt s k = true then max (mxN R s k) (R k) else mxN R s k
theorem imx_nI {a b : Nat} (ha : a < 2 ^ 31) (hb : b < 2 ^ 31) : imx (nI a) (nI b) = nI (max a b) := by
  unfold imx
  by_cases c : a < b
  · rw [if_pos ((nI_ltI ha hb).mpr c)]
    exact congrArg nI (by omega)
  · rw [if_neg (fun q => c ((nI_ltI ha hb).mp q))]
    exact congrArg nI (by omega)
theorem jmx_N {r : Nat → Int32} {R : Nat → Nat} {s : Int32} : ∀ n, n ≤ 32 → (∀ j, j < n → R j ≤ 1000 ∧ r j = nI (R j)) → jmx r s n = nI (mxN R s n) ∧ mxN R s n ≤ 1000
  | 0, _, _ => ⟨nI_0.symm, Nat.zero_le _⟩
  | n + 1, hn, h => by
    obtain ⟨e1, e2⟩ := jmx_N (s := s) n (by omega) (fun j hj => h j (by omega))
    obtain ⟨a1, a2⟩ := h n (by omega)
    rw [jmx, mxN]
    by_cases c : bt s n = true
    · rw [if_pos c, if_neg ((jb_ne s (by omega)).mpr c), e1, a2, imx_nI (by omega) (by omega)]
      exact ⟨rfl, by omega⟩
    · rw [if_neg c, if_pos ((jb_eq s (by omega)).mpr ((Bool.not_eq_true _).mp c))]
      exact ⟨e1, e2⟩
theorem le_mxN {R : Nat → Nat} {s : Int32} {j : Nat} : ∀ n, j < n → bt s j = true → R j ≤ mxN R s n
  | 0, h, _ => absurd h (Nat.not_lt_zero _)
  | n + 1, h, hb => by
    rw [mxN]
    by_cases c : j = n
    · rw [← c, if_pos hb]; omega
    · have := le_mxN (R := R) n (by omega) hb
      by_cases c2 : bt s n = true
      · rw [if_pos c2]; omega
      · rw [if_neg c2]; exact this
section CHN
variable {B : Nat → Int32} {n t base : Nat} {ρ R : Nat → Nat} {D : Nat → Prop}
theorem chf {s : Int32} {v : Nat → Int32} (hn : n ≤ 10) (hts : bt s t = true) (H1 : R t = base + 1) (hb : base < 1000) (hq : ∀ m, m < n → ¬ m = t → bt s m = true → bt (B m) t = true → ∃ w, v m = nI w ∧ 1 ≤ w ∧ w ≤ 1000 ∧ R m = 1 + (w + base)) (hno : ∀ m, m < n → ¬ m = t → bt s m = true → bt (B m) t = false → R m ≤ base) (ht : t < n) : ∀ m, m ≤ n → ∃ w, bwl v (fun m => decide (¬ m = t ∧ ¬ jb s m = 0 ∧ ¬ jb (B m) t = 0)) m = nI w ∧ 1 ≤ w ∧ w ≤ 1001 ∧ (mxN R s m = w + base ∨ (w = 1 ∧ mxN R s m ≤ base + 1 ∧ m ≤ t))
  | 0, _ => ⟨1, rfl, by omega, by omega, Or.inr ⟨rfl, by rw [mxN]; omega, Nat.zero_le _⟩⟩
  | m + 1, hm => by
    obtain ⟨w, e, w1, w2, hw⟩ := chf hn hts H1 hb hq hno ht m (by omega)
    rw [bwl, mxN, e]
    by_cases c1 : m = t
    · rw [if_neg (by rw [decide_eq_false (fun q => q.1 c1)]; decide), c1, if_pos hts, H1]
      rw [c1] at hw
      exact ⟨w, rfl, w1, w2, Or.inl (by omega)⟩
    · by_cases c2 : bt s m = true
      · rw [if_pos c2]
        by_cases c3 : bt (B m) t = true
        · obtain ⟨w3, e3, a1, a2, a3⟩ := hq m (by omega) c1 c2 c3
          rw [if_pos (decide_eq_true ⟨c1, (jb_ne s (by omega)).mpr c2, (jb_ne (B m) (by omega)).mpr c3⟩), e3, show (1 : Int32) + nI w3 = nI (1 + w3) from nI_add 1 w3, imx_nI (by omega) (by omega)]
          exact ⟨_, rfl, by omega, by omega, Or.inl (by omega)⟩
        · have := hno m (by omega) c1 c2 ((Bool.not_eq_true _).mp c3)
          rw [if_neg (by rw [decide_eq_false (fun q => c3 ((jb_ne (B m) (by omega)).mp q.2.2))]; decide)]
          exact ⟨w, rfl, w1, w2, by omega⟩
      · rw [if_neg c2, if_neg (by rw [decide_eq_false (fun q => c2 ((jb_ne s (by omega)).mp q.2.1))]; decide)]
        exact ⟨w, rfl, w1, w2, by omega⟩
theorem chn (hn : n ≤ 10) (hp : pOk B n ρ) (hR : ∀ s, mxN R s n ≤ 1000) (ht : t < n) (hD : ∀ i j, i < n → j < n → D i → bt (B i) j = true → D j) (H1 : R t = base + 1) (hb : base < 1000) (H2 : ∀ j, j < n → D j → ¬ j = t → bt (B j) t = true → R j = 1 + mxN R (B j) n) (H3 : ∀ j, j < n → D j → ¬ j = t → bt (B j) t = false → R j ≤ base) : ∀ (k : Nat) (s : Int32), (∀ j, j < n → bt s j = true → D j ∧ ρ j < k) → bt s t = true → ∃ w, BW B n t (k + 1) s = nI w ∧ 1 ≤ w ∧ w ≤ 1000 ∧ mxN R s n = w + base
  | 0, s, h, hts => absurd (h t ht hts).2 (Nat.not_lt_zero _)
  | k + 1, s, h, hts => by
    rw [BW, if_neg ((jb_ne s (by omega)).mpr hts)]
    obtain ⟨w, e, w1, w2, hw⟩ := chf (v := fun m => BW B n t (k + 1) (B m)) (s := s) (B := B) (R := R) hn hts H1 hb (fun m hm c1 c2 c3 => by
      obtain ⟨h1, h2⟩ := h m hm c2
      obtain ⟨w, e, w1, w2, e2⟩ := chn hn hp hR ht hD H1 hb H2 H3 k (B m) (fun j hj hbj => ⟨hD m j hm hj h1 hbj, by have := hp.2 m j hm hj hbj; omega⟩) c3
      exact ⟨w, e, w1, w2, by rw [H2 m hm h1 c1 c3, e2]⟩) (fun m hm c1 c2 c3 => H3 m hm (h m hm c2).1 c1 c3) ht n (Nat.le_refl _)
    have := hR s
    exact ⟨w, e, w1, by omega, by omega⟩
theorem LN_rho {al : Int32} (hn : n ≤ 10) (hp : pOk B n ρ) : ∀ (k q i : Nat), i < n → ρ i < k → ρ i < q → LN B n al k i = LN B n al q i
  | 0, _, _, _, h, _ => absurd h (Nat.not_lt_zero _)
  | _, 0, _, _, _, h => absurd h (Nat.not_lt_zero _)
  | k + 1, q + 1, i, hi, h1, h2 => by
    rw [LN, LN, jmx_cong n (by omega) (fun j hj hb => by
      have := hp.2 i j hi hj hb
      exact LN_rho hn hp k q j hj (by omega) (by omega))]
theorem LN_MNP {al s : Int32} {P : Nat → Prop} (hn : n ≤ 10) (hp : pOk B n ρ) (hs : ∀ i, i < n → B i &&& s = B i) (hP : ∀ i, i < n → P i → bt al i = true ∧ ∀ j, j < n → bt (B i) j = true → P j) : ∀ (k q i : Nat), i < n → ρ i < k → ρ i < q → P i → LN B n al k i = MN B n s q i + 1
  | 0, _, _, _, h, _, _ => absurd h (Nat.not_lt_zero _)
  | _, 0, _, _, _, h, _ => absurd h (Nat.not_lt_zero _)
  | k + 1, q + 1, i, hi, h1, h2, hPi => by
    obtain ⟨p1, p2⟩ := hP i hi hPi
    rw [LN, if_neg ((jb_ne al (by omega)).mpr p1), MN, hs i hi, Int32.add_comm]
    congr 1
    refine jmx_cong n (by omega) (fun j hj hb => ?_)
    have := hp.2 i j hi hj hb
    exact LN_MNP hn hp hs hP k q j hj (by omega) (by omega) (p2 j hj hb)
end CHN
theorem bt_jou {B : Nat → Int32} {n i j : Nat} (hn : n ≤ 10) (hi : i < n) (hj : j < n) : bt (jou B n i) j = true ↔ (bt (B j) i = true ∨ bt (B i) j = true) := by
  unfold jou
  rw [b_or, Bool.or_eq_true, bt_jbs _ n j (by omega) (by omega)]
  refine or_congr ⟨fun h => (jb_ne (B j) (by omega)).mp (of_decide_eq_true h).2, fun h => decide_eq_true ⟨hj, (jb_ne (B j) (by omega)).mpr h⟩⟩ Iff.rfl
/-- the figures that a row with both may have -/
def alw (B : Nat → Int32) (n a b : Nat) : Int32 := jou B n a &&& jou B n b ||| ((1 : Int32) <<< (nI a &&& 31) ||| (1 : Int32) <<< (nI b &&& 31))
theorem bt_alw {B : Nat → Int32} {n a b c : Nat} (hn : n ≤ 10) (ha : a < n) (hb : b < n) (hc : c < n) : bt (alw B n a b) c = true ↔ (((bt (B c) a = true ∨ bt (B a) c = true) ∧ (bt (B c) b = true ∨ bt (B b) c = true)) ∨ c = a ∨ c = b) := by
  unfold alw
  rw [b_or, b_and, b_or, Bool.or_eq_true, Bool.and_eq_true, Bool.or_eq_true, bt_jou hn ha hc, bt_jou hn hb hc, bt_bit (by omega) (by omega), bt_bit (by omega) (by omega), decide_eq_true_iff, decide_eq_true_iff]
theorem alw_sym (B : Nat → Int32) (n a b : Nat) : alw B n a b = alw B n b a := by
  unfold alw
  refine b_ext (fun i _ => ?_)
  rw [b_or, b_or, b_or, b_or, b_and, b_and, Bool.and_comm, Bool.or_comm (bt ((1 : Int32) <<< (nI a &&& 31)) i)]
theorem LG_TH {sh : Nat → Int32} {n a b : Nat} {y : Int32} {ρ : Nat → Nat} (hn : n ≤ 10) (hp : pOk (BB sh n) n ρ) (hsh : ∀ i, i < n → shp (sh i)) (ha : a < n) (hb : b < n) (hxa : bt (jfo sh n y) a = true) (hab : bt (BB sh n a) b = true) : TH sh n (jfo sh n y) (MN (BB sh n) n 33554431 26) a b = LG (BB sh n) n (alw (BB sh n) n a b) (jfo sh n y) ∧ ¬ TH sh n (jfo sh n y) (MN (BB sh n) n 33554431 26) a b < 0 := by
  obtain ⟨B, hB⟩ : ∃ B, B = BB sh n := ⟨_, rfl⟩
  obtain ⟨x, hx⟩ : ∃ x, x = jfo sh n y := ⟨_, rfl⟩
  have trB : ∀ i j k, i < n → j < n → k < n → bt (B i) j = true → bt (B j) k = true → bt (B i) k = true := fun i j k hi hj hk h1 h2 => by
    rw [hB] at h1 h2 ⊢
    exact jfo_tr hn hsh hj hk h1 h2
  have trx : ∀ j k, j < n → k < n → bt x j = true → bt (B j) k = true → bt x k = true := fun j k hj hk h1 h2 => by
    rw [hB] at h2
    rw [hx] at h1 ⊢
    exact jfo_tr hn hsh hj hk h1 h2
  have hsq : ∀ i, i < n → B i &&& 33554431 = B i := fun i _ => by rw [hB]; exact jfo_sq hn
  rw [TH, ← hB, ← hx]
  rw [← hB] at hp hab
  rw [← hx] at hxa
  obtain ⟨al, hal⟩ : ∃ al, al = alw B n a b := ⟨_, rfl⟩
  have inA : ∀ c, c < n → (bt al c = true ↔ (((bt (B c) a = true ∨ bt (B a) c = true) ∧ (bt (B c) b = true ∨ bt (B b) c = true)) ∨ c = a ∨ c = b)) := fun c hc => by rw [hal]; exact bt_alw hn ha hb hc
  rw [← hal]
  have asy : ∀ i j, i < n → j < n → bt (B i) j = true → ¬ bt (B j) i = true := fun i j hi hj h1 h2 => by
    have := hp.2 i j hi hj h1
    have := hp.2 j i hj hi h2
    omega
  have irr : ∀ i, i < n → ¬ bt (B i) i = true := fun i hi h => Nat.lt_irrefl _ (hp.2 i i hi hi h)
  obtain ⟨R, hR⟩ : ∃ R : Nat → Nat, ∀ j, R j ≤ 10 ∧ LN B n al 10 j = nI (R j) := ⟨fun j => (LN_nI (B := B) (al := al) (show n ≤ 32 by omega) 10 j (by decide)).choose, fun j => (LN_nI (B := B) (al := al) (show n ≤ 32 by omega) 10 j (by decide)).choose_spec⟩
  have hM : ∀ s, jmx (LN B n al 10) s n = nI (mxN R s n) ∧ mxN R s n ≤ 1000 := fun s => jmx_N n (by omega) (fun j _ => ⟨by have := (hR j).1; omega, (hR j).2⟩)
  have R0 : ∀ j, j < n → ¬ bt al j = true → R j = 0 := fun j hj h => by
    have e := (hR j).2
    rw [LN, if_pos ((jb_eq al (by omega)).mpr ((Bool.not_eq_true _).mp h))] at e
    exact ((nI_eq (b := 0) (by have := (hR j).1; omega) (by decide)).mp e.symm)
  have R1 : ∀ j, j < n → bt al j = true → R j = 1 + mxN R (B j) n := fun j hj h => by
    have e := (hR j).2
    have := hp.1 j hj
    rw [LN, if_neg ((jb_ne al (by omega)).mpr h), jmx_cong (q := LN B n al 10) n (by omega) (fun i hi hbi => by
      have := hp.2 j i hj hi hbi
      exact LN_rho hn hp 9 10 i hi (by omega) (by omega)), (hM (B j)).1, show (1 : Int32) + nI (mxN R (B j) n) = nI (1 + mxN R (B j) n) from nI_add 1 _] at e
    have h2 := (hM (B j)).2
    exact ((nI_eq (by omega) (by have := (hR j).1; omega)).mp e).symm
  -- under b
  have mb : MN B n 33554431 26 b = nI (mxN R (B b) n) := by
    have hb10 := hp.1 b hb
    rw [MN_rho hn hp 26 27 b hb (by omega) (by omega), MN, hsq b hb, ← (hM (B b)).1]
    refine jmx_cong n (by omega) (fun j hj hbj => ?_)
    have := hp.2 b j hb hj hbj
    exact (LN_MNP (P := fun i => bt (B b) i = true) hn hp hsq (fun i hi hPi => ⟨(inA i hi).mpr (Or.inl ⟨Or.inr (trB a b i ha hb hi hab hPi), Or.inr hPi⟩), fun j hj hbj => trB b i j hb hi hj hPi hbj⟩) 10 26 j hj (by omega) (by omega) hbj).symm
  have Rb := R1 b hb ((inA b hb).mpr (Or.inr (Or.inr rfl)))
  have Ra := R1 a ha ((inA a ha).mpr (Or.inr (Or.inl rfl)))
  have lRb := (hR b).1
  have lRa := (hR a).1
  have low : ∀ k, k < n → ρ k < 26 := fun k hk => by have := hp.1 k hk; omega
  obtain ⟨w1, e1, p1, q1, m1⟩ := chn (R := R) (base := mxN R (B b) n) (t := b) (D := fun j => bt (B a) j = true) hn hp (fun s => (hM s).2) hb (fun i j hi hj h1 h2 => trB a i j ha hi hj h1 h2) (by omega) (by omega) (fun j hj hD _ hbt => R1 j hj ((inA j hj).mpr (Or.inl ⟨Or.inr hD, Or.inl hbt⟩))) (fun j hj hD hne hbt => by
    by_cases c : bt al j = true
    · rcases (inA j hj).mp c with ⟨_, c2 | c2⟩ | c2 | c2
      · rw [hbt] at c2; cases c2
      · exact le_mxN n hj c2
      · rw [c2] at hD; exact absurd hD (irr a ha)
      · exact absurd c2 hne
    · rw [R0 j hj c]; exact Nat.zero_le _) 26 (B a) (fun j hj h => ⟨h, low j hj⟩) hab
  obtain ⟨w2, e2, p2, q2, m2⟩ := chn (R := R) (base := mxN R (B a) n) (t := a) (D := fun j => bt x j = true) hn hp (fun s => (hM s).2) ha (fun i j hi hj h1 h2 => trx i j hi hj h1 h2) (by omega) (by omega) (fun j hj hD _ hbt => R1 j hj ((inA j hj).mpr (Or.inl ⟨Or.inl hbt, Or.inl (trB j a b hj ha hb hbt hab)⟩))) (fun j hj hD hne hbt => by
    by_cases c : bt al j = true
    · rcases (inA j hj).mp c with ⟨c2 | c2, _⟩ | c2 | c2
      · rw [hbt] at c2; cases c2
      · exact le_mxN n hj c2
      · exact absurd c2 hne
      · rw [c2]; exact le_mxN n hb hab
    · rw [R0 j hj c]; exact Nat.zero_le _) 26 x (fun j hj h => ⟨h, low j hj⟩) hxa
  have hm2 := (hM x).2
  have n2 : ∀ w, w ≤ 1000 → ¬ nI w = -2 := fun w hw q => rE_ne w (by omega) q
  rw [e1, e2, mb, if_neg (fun q => q.elim (n2 w2 q2) (n2 w1 q1)), nI_add, nI_add]
  refine ⟨?_, nI_pos (by omega)⟩
  unfold LG
  rw [(hM x).1]
  exact congrArg nI (by omega)
theorem TH_no {sh : Nat → Int32} {n a b : Nat} {x : Int32} {mo : Nat → Int32} (ha : a < 32) (hb : b < 32) (h : ¬ (bt x a = true ∧ bt (BB sh n a) b = true)) : TH sh n x mo a b = -2 := by
  rw [TH, if_pos]
  by_cases c : bt x a = true
  · right
    rw [BW, if_pos ((jb_eq _ hb).mpr ((Bool.not_eq_true _).mp (fun q => h ⟨c, q⟩)))]
  · left
    rw [BW, if_pos ((jb_eq _ ha).mpr ((Bool.not_eq_true _).mp c))]
theorem jwi_TH {sh : Nat → Int32} {n a b : Nat} {y : Int32} {ρ : Nat → Nat} (hn : n ≤ 10) (hp : pOk (BB sh n) n ρ) (hsh : ∀ i, i < n → shp (sh i)) (ha : a < n) (hb : b < n) : jwi (BB sh n) n (jfo sh n y) a b = imx (TH sh n (jfo sh n y) (MN (BB sh n) n 33554431 26) a b) (TH sh n (jfo sh n y) (MN (BB sh n) n 33554431 26) b a) := by
  have asy : ∀ i j, i < n → j < n → bt (BB sh n i) j = true → ¬ bt (BB sh n j) i = true := fun i j hi hj h1 h2 => by
    have := hp.2 i j hi hj h1
    have := hp.2 j i hj hi h2
    omega
  have i1 : ∀ v : Int32, ¬ v < 0 → imx v (-2) = v ∧ imx (-2) v = v := fun v hv => by
    have h0 : (0 : Int32).toInt = 0 := by decide
    have h2 : (-2 : Int32).toInt = -2 := by decide
    rw [Int32.lt_iff_toInt_lt, h0] at hv
    unfold imx
    rw [if_neg (fun q => by rw [Int32.lt_iff_toInt_lt, h2] at q; omega), if_pos (by rw [Int32.lt_iff_toInt_lt, h2]; omega)]
    exact ⟨rfl, rfl⟩
  unfold jwi
  have key : (¬ jb (jfo sh n y) a = 0 ∧ ¬ jb (jfo sh n y) b = 0 ∧ ¬ jb (jou (BB sh n) n a) b = 0) ↔ (bt (jfo sh n y) a = true ∧ bt (jfo sh n y) b = true ∧ (bt (BB sh n b) a = true ∨ bt (BB sh n a) b = true)) := by
    rw [jb_ne _ (show a < 32 by omega), jb_ne _ (show b < 32 by omega), jb_ne _ (show b < 32 by omega), bt_jou hn ha hb]
  by_cases c1 : bt (jfo sh n y) a = true ∧ bt (BB sh n a) b = true
  · have hxb := jfo_tr hn hsh ha hb c1.1 c1.2
    obtain ⟨e1, e2⟩ := LG_TH hn hp hsh ha hb c1.1 c1.2
    rw [if_pos (key.mpr ⟨c1.1, hxb, Or.inr c1.2⟩), TH_no (by omega) (by omega) (fun q => asy _ _ ha hb c1.2 q.2), (i1 _ e2).1, e1]
    rfl
  · rw [TH_no (a := a) (b := b) (by omega) (by omega) c1]
    by_cases c2 : bt (jfo sh n y) b = true ∧ bt (BB sh n b) a = true
    · have hxa := jfo_tr hn hsh hb ha c2.1 c2.2
      obtain ⟨e1, e2⟩ := LG_TH hn hp hsh hb ha c2.1 c2.2
      rw [if_pos (key.mpr ⟨hxa, c2.1, Or.inl c2.2⟩), (i1 _ e2).2, e1, alw_sym]
      rfl
    · rw [TH_no (a := b) (b := a) (by omega) (by omega) c2, if_neg (fun q => (key.mp q).2.2.elim (fun z => c2 ⟨(key.mp q).2.1, z⟩) (fun z => c1 ⟨(key.mp q).1, z⟩))]
      decide
theorem s_with (x y : Int32) : stepOK iX10_with iX11_with [.int x, .int y] := rd_step (fun d sw f g n sh L m c h => by
  have hn := h.n10
  by_cases c1 : (∃ b, b < m ∧ x = nI b) ∧ two n y
  · obtain ⟨⟨q, hq, rfl⟩, a, b, ha, hb, hab, _, _, rfl⟩ := c1
    obtain ⟨ρ, hp⟩ := h.pos
    refine ⟨_, t_with1 d sw f g n m q a b sh h.stk h.m61 h.m6 hq ha hb hab, fun sw1 f1 q1 h1 => ?_⟩
    rw [jwi_cg h.B4 (by omega) ha hb, ← e86 h q1, jwi_TH hn hp (fun i hi => (h.mf.2.2 i hi).2) ha hb]
    exact u_with1 d sw1 f1 g n m q a b sh h1.mf h1.m81 h1.m6 hq ha hb hab
  · exact ⟨_, t_with0 d sw f g n m x y h.n1 h.n10 h.m61 h.m6 c1, fun sw1 f1 _ h1 => u_with0 d sw1 f1 g n m x y h1.n81 h1.n10 h1.m81 h1.m6 c1⟩)
