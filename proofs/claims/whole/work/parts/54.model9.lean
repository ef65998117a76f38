/-! REFERENCE: a line of the law -/
/-- the codes of some lines, one behind the other -/
def lcd : List (List Nat × List Nat) → List Nat
  | [] => []
  | l :: r => l.1 ++ l.2 ++ lcd r
theorem lcd_app : ∀ L M, lcd (L ++ M) = lcd L ++ lcd M
  | [], M => rfl
  | l :: r, M => by rw [List.cons_append, lcd, lcd, lcd_app r M]; simp
/-- where a line's codes begin -/
def lof (L : List (List Nat × List Nat)) (i : Nat) : Nat := (lcd (L.take i)).length
theorem lof_app {L M : List (List Nat × List Nat)} {i : Nat} (h : i ≤ L.length) : lof (L ++ M) i = lof L i := by
  unfold lof
  rw [List.take_append_of_le_length h]
theorem lof_all (L M : List (List Nat × List Nat)) : lof (L ++ M) L.length = (lcd L).length := by
  rw [lof_app (Nat.le_refl _)]
  unfold lof
  rw [List.take_length]
/-- the lines read: how many, where each has its parts (rows x, y, z) -/
def lnR (f : Nat → Nat → Int32) (x y z : Nat) (L : List (List Nat × List Nat)) : Prop := ∀ (i : Nat) (l : List Nat × List Nat), L[i]? = some l → f x i = nI (lof L i) ∧ f y i = nI (lof L i + l.1.length) ∧ f z i = nI (lof L i + l.1.length + l.2.length)
def lnO (f : Nat → Nat → Int32) (L : List (List Nat × List Nat)) : Prop := f 81 20 = nI L.length ∧ lnR f 93 94 95 L
/-- all but the reading, the codes and the lines is as it was -/
def mlS (f f2 : Nat → Nat → Int32) : Prop := (∀ b, b ≠ 81 → b ≠ 93 → b ≠ 94 → b ≠ 95 → b ≠ 96 → f2 b = f b) ∧ ∀ i, i ≠ 17 → i ≠ 18 → i ≠ 19 → i ≠ 20 → f2 81 i = f 81 i
theorem mlS.rf {f : Nat → Nat → Int32} : mlS f f := ⟨fun _ _ _ _ _ _ => rfl, fun _ _ _ _ _ => rfl⟩
theorem mlS.trans {f f2 f3 : Nat → Nat → Int32} (h : mlS f f2) (h2 : mlS f2 f3) : mlS f f3 := ⟨fun b g1 g2 g3 g4 g5 => (h2.1 b g1 g2 g3 g4 g5).trans (h.1 b g1 g2 g3 g4 g5), fun i h3 h4 h5 h6 => (h2.2 i h3 h4 h5 h6).trans (h.2 i h3 h4 h5 h6)⟩
theorem mpS.ml {f f2 : Nat → Nat → Int32} (h : mpS f f2) : mlS f f2 := ⟨fun b g1 _ _ _ g5 => h.1 b g1 g5, fun i h3 h4 h5 _ => h.2 i h3 h4 h5⟩
theorem mlS.r3 (f : Nat → Nat → Int32) (b i : Nat) (v : Int32) (hb : b = 93 ∨ b = 94 ∨ b = 95) : mlS f (u2 f b i v) := ⟨fun b2 _ g2 g3 g4 _ => u2_ne _ _ _ (by omega), fun i _ _ _ _ => by rw [u2_ne _ _ _ (by omega)]⟩
theorem mlS.ln (f : Nat → Nat → Int32) (v : Int32) : mlS f (u2 f 81 20 v) := ⟨fun b2 g1 _ _ _ _ => u2_ne _ _ _ g1, fun i _ _ _ h => u2_off _ _ _ h⟩
theorem mtO.cg {f f2 : Nat → Nat → Int32} {T : Nat → Nat} {n a : Nat} (h : mtO f T n a) (h2 : f2 81 = f 81) (h3 : f2 88 = f 88) : mtO f2 T n a := ⟨by rw [h2]; exact h.1, h.2.1, fun j hj => by rw [h3]; exact h.2.2.1 j hj, by rw [h2]; exact h.2.2.2⟩
theorem mtO.ml {f f2 : Nat → Nat → Int32} {T : Nat → Nat} {n a b : Nat} (h : mtO f T n a) (h2 : mlS f f2) (h3 : f2 81 17 = nI b) : mtO f2 T n b := ⟨(h2.2 9 (by decide) (by decide) (by decide) (by decide)).trans h.1, h.2.1, fun j hj => by rw [h2.1 88 (by decide) (by decide) (by decide) (by decide) (by decide)]; exact h.2.2.1 j hj, h3⟩
theorem cdO.cg {f f2 : Nat → Nat → Int32} {K : List Nat} (h : cdO f K) (h2 : f2 81 19 = f 81 19) (h3 : f2 96 = f 96) : cdO f2 K := ⟨by rw [h2]; exact h.1, fun j q hj => by rw [h3]; exact h.2 j q hj⟩
theorem cdO.cg2 {f f2 : Nat → Nat → Int32} {K K2 : List Nat} (h : cdO f K) (h1 : K2 = K) (h2 : f2 81 19 = f 81 19) (h3 : f2 96 = f 96) : cdO f2 K2 := by rw [h1]; exact h.cg h2 h3
/-- one line more -/
theorem lnO_app {f f2 : Nat → Nat → Int32} {L : List (List Nat × List Nat)} {a b : List Nat} (h : lnO f L) (h0 : f2 81 20 = nI (L.length + 1)) (h1 : ∀ i, i < L.length → f2 93 i = f 93 i ∧ f2 94 i = f 94 i ∧ f2 95 i = f 95 i) (h2 : f2 93 L.length = nI (lcd L).length) (h3 : f2 94 L.length = nI ((lcd L).length + a.length)) (h4 : f2 95 L.length = nI ((lcd L).length + a.length + b.length)) : lnO f2 (L ++ [(a, b)]) := by
  refine ⟨by rw [h0]; simp, fun i l hl => ?_⟩
  by_cases c : i < L.length
  · rw [List.getElem?_append_left c] at hl
    obtain ⟨r1, r2, r3⟩ := h.2 i l hl
    obtain ⟨e1, e2, e3⟩ := h1 i c
    rw [lof_app (Nat.le_of_lt c), e1, e2, e3]
    exact ⟨r1, r2, r3⟩
  · rw [List.getElem?_append_right (by omega)] at hl
    have hz : i - L.length = 0 := by
      have := (List.getElem?_eq_some_iff.mp hl).1
      simp at this
      omega
    rw [hz] at hl
    cases hl
    rw [show i = L.length by omega, lof_all]
    exact ⟨h2, h3, h4⟩
theorem k_mLn (d : Nat) (sw : Bool) (f : Nat → Nat → Int32) (g : Nat → Nat → Int64) (T : Nat → Nat) (n a : Nat) (L : List (List Nat × List Nat)) (h : mtO f T n a) (ha : a ≤ n) (hop : f 81 18 = nI 0) (hk : cdO f (lcd L)) (hl : lnO f L) (hL : (lcd L).length + L.length ≤ a) (hL2 : L.length ≤ 60) : CT (d + 51) 0 0 iX11_isLine [.ref 81] (S sw f g) (QS (fun r sw2 f2 g2 => r = some (.int (if (pLn (pC T n) a).1 then 1 else 0)) ∧ sw2 = sw ∧ g2 = g ∧ mlS f f2 ∧ f2 81 17 = nI (pLn (pC T n) a).2.1 ∧ f2 81 18 = nI 0 ∧ ((pLn (pC T n) a).1 = true → cdO f2 (lcd (L ++ [(pLn (pC T n) a).2.2])) ∧ lnO f2 (L ++ [(pLn (pC T n) a).2.2])))) := by
  obtain ⟨c, hc⟩ : ∃ c, c = pC T n := ⟨_, rfl⟩
  have hend : ∀ a, n ≤ a → c a = 999 := by rw [hc]; exact pC_end T n
  have hn := h.2.1
  obtain ⟨x1, x2, x3⟩ := pJ_ok hend 48 0 0 a (by decide) ha
  have hE := (k_mx 48 d).1
  rw [← hc]
  obtain ⟨f1, hf1⟩ : ∃ f1, f1 = u2 f 93 L.length (nI (lcd L).length) := ⟨_, rfl⟩
  have n1 : f1 81 = f 81 := by rw [hf1]; exact u2_ne _ _ _ (by decide)
  have s1 : mlS f f1 := by rw [hf1]; exact mlS.r3 f _ _ _ (Or.inl rfl)
  have h1 : mtO f1 T n a := h.cg n1 (by rw [hf1]; exact u2_ne _ _ _ (by decide))
  have k1 : cdO f1 (lcd L) := hk.cg (by rw [n1]) (by rw [hf1]; exact u2_ne _ _ _ (by decide))
  refine CT.of rfl (Nat.le_of_ble_eq_true rfl) (fun X hX hR hN _ => ?_)
  have hX : Good X RX11 cX11_isLine (d + 51) 0 0 := hX
  have hN : x_nl X = 1 := hN
  show WP X 0 0 0 [_] [] _
  refine wp_aload_n hX (dk DX11_isLine 0 rfl) rfl ?_
  refine w_getr hX flX11_45 (dk DX11_isLine 1 rfl) rfl rfl ?_
  refine wp_aload_n hX (dk DX11_isLine 2 rfl) rfl ?_
  refine w_geti hX flX11_242 (dk DX11_isLine 3 rfl) (by decide) rfl ?_
  rw [hl.1]
  refine wp_aload_n hX (dk DX11_isLine 4 rfl) rfl ?_
  refine w_geti hX flX11_205 (dk DX11_isLine 5 rfl) (by decide) rfl ?_
  rw [hk.1]
  refine w_iast (j := _) hX (dk DX11_isLine 6 rfl) rfl rfl (show _ < 61 by omega) ?_
  rw [← hf1]
  refine wp_aload_n hX (dk DX11_isLine 7 rfl) rfl ?_
  refine w_callVQ (As := []) lkX11_227 hX (dk DX11_isLine 8 rfl) rfl rfl (by decide) hN (hE sw f1 g T n a 0 (lcd L) h1 ha (by rw [n1]; exact hop) k1 (by omega) (by decide) (by decide)) (fun v_ sw_ f_ g_ hq_ => ?_)
  obtain ⟨rfl, rfl, rfl, e1, e2, e3, e4⟩ := hq_
  rw [← hc] at e2 e4 ⊢
  show WP _ _ _ 17 [_] [_] _
  unfold pLn at hR
  have s2 := s1.trans e1.ml
  have h2 := h1.same e1 e2
  have m1 : f_ 81 20 = nI L.length := by rw [e1.2 20 (by decide) (by decide) (by decide), n1]; exact hl.1
  have m2 : f_ 93 L.length = nI (lcd L).length := by rw [e1.1 93 (by decide) (by decide), hf1, u2_at]
  have m3 : ∀ i, i < L.length → f_ 93 i = f 93 i ∧ f_ 94 i = f 94 i ∧ f_ 95 i = f 95 i := fun i hi => ⟨by rw [e1.1 93 (by decide) (by decide), hf1, u2_off _ _ _ (by omega)], by rw [e1.1 94 (by decide) (by decide), hf1, u2_ne _ _ _ (by decide)], by rw [e1.1 95 (by decide) (by decide), hf1, u2_ne _ _ _ (by decide)]⟩
  by_cases c1 : (pJ c 48 0 0 a).1 = true
  · rw [if_pos c1] at hR ⊢
    have k2 := e4 c1
    obtain ⟨y1, y2, y3⟩ := x3 c1
    obtain ⟨f3, hf3⟩ : ∃ f3, f3 = u2 f_ 94 L.length (nI (lcd L).length) := ⟨_, rfl⟩
    have n3 : f3 81 = f_ 81 := by rw [hf3]; exact u2_ne _ _ _ (by decide)
    have s3 : mlS f f3 := s2.trans (by rw [hf3]; exact mlS.r3 f_ _ _ _ (Or.inr (Or.inl rfl)))
    have h3 : mtO f3 T n (pJ c 48 0 0 a).2.1 := h2.cg n3 (by rw [hf3]; exact u2_ne _ _ _ (by decide))
    have k3 : cdO f3 (lcd L ++ (pJ c 48 0 0 a).2.2) := k2.cg (by rw [n3]) (by rw [hf3]; exact u2_ne _ _ _ (by decide))
    by_cases c2 : c (pJ c 48 0 0 a).2.1 = 63
    · rw [if_pos c2] at hR
      have a2 : (pJ c 48 0 0 a).2.1 + 1 ≤ n := by
        by_cases q : (pJ c 48 0 0 a).2.1 + 1 ≤ n
        · exact q
        · rw [hend _ (by omega)] at c2; omega
      obtain ⟨z1, z2, z3⟩ := pJ_ok hend 48 0 0 _ (by decide) a2
      obtain ⟨f4, hf4⟩ : ∃ f4, f4 = u2 f3 81 17 (nI ((pJ c 48 0 0 a).2.1 + 1)) := ⟨_, rfl⟩
      have s4 : mlS f f4 := s3.trans (by rw [hf4]; exact (mpS.at f3 _).ml)
      have h4 : mtO f4 T n ((pJ c 48 0 0 a).2.1 + 1) := h3.same (by rw [hf4]; exact mpS.at f3 _) (by rw [hf4]; exact u2_at _ _ _ _)
      have k4 : cdO f4 (lcd L ++ (pJ c 48 0 0 a).2.2) := by rw [hf4]; exact k3.at _
      have m4 : f4 81 20 = nI L.length := by rw [hf4, u2_off _ _ _ (by decide), n3]; exact m1
      obtain ⟨f5, hf5⟩ : ∃ f5, f5 = u2 f4 94 L.length (nI (lcd L ++ (pJ c 48 0 0 a).2.2).length) := ⟨_, rfl⟩
      have n5 : f5 81 = f4 81 := by rw [hf5]; exact u2_ne _ _ _ (by decide)
      have s5 : mlS f f5 := s4.trans (by rw [hf5]; exact mlS.r3 f4 _ _ _ (Or.inr (Or.inl rfl)))
      have h5 : mtO f5 T n ((pJ c 48 0 0 a).2.1 + 1) := h4.cg n5 (by rw [hf5]; exact u2_ne _ _ _ (by decide))
      have k5 : cdO f5 (lcd L ++ (pJ c 48 0 0 a).2.2) := k4.cg (by rw [n5]) (by rw [hf5]; exact u2_ne _ _ _ (by decide))
      have o5 : f5 81 18 = nI 0 := by rw [n5, hf4, u2_off _ _ _ (by decide), n3]; exact e3
      by_cases c3 : (pJ c 48 0 0 ((pJ c 48 0 0 a).2.1 + 1)).1 = true
      · rw [show (pJ c 48 0 0 ((pJ c 48 0 0 a).2.1 + 1)).1 = true from c3] at hR
        refine wp_if_ne (tgt := 22) hX (dk DX11_isLine 9 rfl) (by decide) (fun _ => ?_) (fun h_ => absurd h_ (by decide))
        refine wp_aload_n hX (dk DX11_isLine 12 rfl) rfl ?_
        refine w_getr hX flX11_48 (dk DX11_isLine 13 rfl) rfl rfl ?_
        refine wp_aload_n hX (dk DX11_isLine 14 rfl) rfl ?_
        refine w_geti hX flX11_242 (dk DX11_isLine 15 rfl) (by decide) rfl ?_
        rw [m1]
        refine wp_aload_n hX (dk DX11_isLine 16 rfl) rfl ?_
        refine w_getr hX flX11_45 (dk DX11_isLine 17 rfl) rfl rfl ?_
        refine wp_aload_n hX (dk DX11_isLine 18 rfl) rfl ?_
        refine w_geti hX flX11_242 (dk DX11_isLine 19 rfl) (by decide) rfl ?_
        rw [m1]
        refine w_iald (j := _) hX (dk DX11_isLine 20 rfl) rfl rfl (show _ < 61 by omega) ?_
        rw [m2]
        refine w_iast (j := _) hX (dk DX11_isLine 21 rfl) rfl rfl (show _ < 61 by omega) ?_
        rw [← hf3]
        refine wp_aload_n hX (dk DX11_isLine 22 rfl) rfl ?_
        refine wp_bipush (v := 63) hX (dk DX11_isLine 23 rfl) (by decide) ?_
        refine w_callV (As := [_]) lkX11_221 hX (dk DX11_isLine 24 rfl) rfl rfl (by decide) hN (k_is1 (d + 49) _ f3 _ T n _ 63 h3 x2 (by decide) (by rw [← hc]; exact c2)) ?_
        show WP _ _ _ 46 [_] [_] _
        rw [← hf4]
        refine wp_if_eq (tgt := 71) hX (dk DX11_isLine 25 rfl) (by decide) (fun h_ => absurd h_ (by decide)) (fun _ => ?_)
        refine wp_aload_n hX (dk DX11_isLine 26 rfl) rfl ?_
        refine w_getr hX flX11_48 (dk DX11_isLine 27 rfl) rfl rfl ?_
        refine wp_aload_n hX (dk DX11_isLine 28 rfl) rfl ?_
        refine w_geti hX flX11_242 (dk DX11_isLine 29 rfl) (by decide) rfl ?_
        rw [m4]
        refine wp_aload_n hX (dk DX11_isLine 30 rfl) rfl ?_
        refine w_geti hX flX11_205 (dk DX11_isLine 31 rfl) (by decide) rfl ?_
        rw [k4.1]
        refine w_iast (j := _) hX (dk DX11_isLine 32 rfl) rfl rfl (show _ < 61 by omega) ?_
        rw [← hf5]
        refine wp_aload_n hX (dk DX11_isLine 33 rfl) rfl ?_
        refine w_callVQ (As := []) lkX11_227 hX (dk DX11_isLine 34 rfl) rfl rfl (by decide) hN (hE _ f5 _ T n _ 0 _ h5 a2 o5 k5 (by simp only [List.length_append]; omega) (by decide) (by decide)) (fun v_b sw_b f_b g_b hq_b => ?_)
        obtain ⟨rfl, rfl, rfl, d1, d2, d3, d4⟩ := hq_b
        rw [← hc] at d2 d4 ⊢
        rw [if_pos c3]
        show WP _ _ _ 66 [_] [_] _
        refine wp_if_ne (tgt := 71) hX (dk DX11_isLine 35 rfl) (by decide) (fun _ => ?_) (fun h_ => absurd h_ (by decide))
        refine wp_aload_n hX (dk DX11_isLine 38 rfl) rfl ?_
        refine w_getr hX flX11_51 (dk DX11_isLine 39 rfl) rfl rfl ?_
        refine wp_aload_n hX (dk DX11_isLine 40 rfl) rfl ?_
        refine wp_dup hX (dk DX11_isLine 41 rfl) rfl ?_
        refine w_geti hX flX11_242 (dk DX11_isLine 42 rfl) (by decide) rfl ?_
        rw [show f_b 81 20 = nI L.length by rw [d1.2 20 (by decide) (by decide) (by decide), n5]; exact m4]
        refine wp_dup_x1 hX (dk DX11_isLine 43 rfl) rfl rfl ?_
        refine wp_iconst (v := 1) hX (dk DX11_isLine 44 rfl) (by decide) ?_
        refine wp_iadd hX (dk DX11_isLine 45 rfl) ?_
        rw [nI_1]
        refine w_puti hX fpX11_242 (dk DX11_isLine 46 rfl) rfl ?_
        refine wp_aload_n hX (dk DX11_isLine 47 rfl) rfl ?_
        refine w_geti hX flX11_205 (dk DX11_isLine 48 rfl) (by decide) rfl ?_
        rw [u2_off _ _ _ (by decide), (d4 c3).1]
        refine w_iast (j := _) hX (dk DX11_isLine 49 rfl) rfl rfl (show _ < 61 by omega) ?_
        skip
        refine wp_iconst (v := 1) hX (dk DX11_isLine 50 rfl) (by decide) ?_
        refine wp_ireturn hX hR (dk DX11_isLine 51 rfl) rfl (Nat.le_refl _) (Nat.le_refl _) ⟨_, _, _, rfl, rfl, rfl, rfl, ((s5.trans d1.ml).trans (mlS.ln f_b _)).trans (mlS.r3 _ _ _ _ (Or.inr (Or.inr rfl))), by rw [u2_ne _ _ _ (by decide), u2_off _ _ _ (by decide)]; exact d2, by rw [u2_ne _ _ _ (by decide), u2_off _ _ _ (by decide)]; exact d3, fun _ => ⟨?_, ?_⟩⟩
        · rw [lcd_app]
          refine (d4 c3).cg2 ?_ ?_ ?_
          · simp [lcd]
          · rw [u2_ne _ _ _ (by decide), u2_off _ _ _ (by decide)]
          · rw [u2_ne _ _ _ (by decide), u2_ne _ _ _ (by decide)]
        · refine lnO_app hl ?_ (fun i hi => ?_) ?_ ?_ ?_
          · rw [u2_ne _ _ _ (by decide), u2_at]
          · obtain ⟨q1, q2, q3⟩ := m3 i hi
            refine ⟨?_, ?_, ?_⟩
            · rw [u2_ne _ _ _ (by decide), u2_ne _ _ _ (by decide), d1.1 93 (by decide) (by decide), hf5, u2_ne _ _ _ (by decide), hf4, u2_ne _ _ _ (by decide), hf3, u2_ne _ _ _ (by decide)]; exact q1
            · rw [u2_ne _ _ _ (by decide), u2_ne _ _ _ (by decide), d1.1 94 (by decide) (by decide), hf5, u2_off _ _ _ (by omega), hf4, u2_ne _ _ _ (by decide), hf3, u2_off _ _ _ (by omega)]; exact q2
            · rw [u2_off _ _ _ (by omega), u2_ne _ _ _ (by decide), d1.1 95 (by decide) (by decide), hf5, u2_ne _ _ _ (by decide), hf4, u2_ne _ _ _ (by decide), hf3, u2_ne _ _ _ (by decide)]; exact q3
          · rw [u2_ne _ _ _ (by decide), u2_ne _ _ _ (by decide), d1.1 93 (by decide) (by decide), hf5, u2_ne _ _ _ (by decide), hf4, u2_ne _ _ _ (by decide), hf3, u2_ne _ _ _ (by decide)]; exact m2
          · rw [u2_ne _ _ _ (by decide), u2_ne _ _ _ (by decide), d1.1 94 (by decide) (by decide), hf5, u2_at]; simp
          · rw [u2_at]; simp [Nat.add_assoc]
      · rw [Bool.eq_false_iff.mpr c3] at hR
        refine wp_if_ne (tgt := 22) hX (dk DX11_isLine 9 rfl) (by decide) (fun _ => ?_) (fun h_ => absurd h_ (by decide))
        refine wp_aload_n hX (dk DX11_isLine 12 rfl) rfl ?_
        refine w_getr hX flX11_48 (dk DX11_isLine 13 rfl) rfl rfl ?_
        refine wp_aload_n hX (dk DX11_isLine 14 rfl) rfl ?_
        refine w_geti hX flX11_242 (dk DX11_isLine 15 rfl) (by decide) rfl ?_
        rw [m1]
        refine wp_aload_n hX (dk DX11_isLine 16 rfl) rfl ?_
        refine w_getr hX flX11_45 (dk DX11_isLine 17 rfl) rfl rfl ?_
        refine wp_aload_n hX (dk DX11_isLine 18 rfl) rfl ?_
        refine w_geti hX flX11_242 (dk DX11_isLine 19 rfl) (by decide) rfl ?_
        rw [m1]
        refine w_iald (j := _) hX (dk DX11_isLine 20 rfl) rfl rfl (show _ < 61 by omega) ?_
        rw [m2]
        refine w_iast (j := _) hX (dk DX11_isLine 21 rfl) rfl rfl (show _ < 61 by omega) ?_
        rw [← hf3]
        refine wp_aload_n hX (dk DX11_isLine 22 rfl) rfl ?_
        refine wp_bipush (v := 63) hX (dk DX11_isLine 23 rfl) (by decide) ?_
        refine w_callV (As := [_]) lkX11_221 hX (dk DX11_isLine 24 rfl) rfl rfl (by decide) hN (k_is1 (d + 49) _ f3 _ T n _ 63 h3 x2 (by decide) (by rw [← hc]; exact c2)) ?_
        show WP _ _ _ 46 [_] [_] _
        rw [← hf4]
        refine wp_if_eq (tgt := 71) hX (dk DX11_isLine 25 rfl) (by decide) (fun h_ => absurd h_ (by decide)) (fun _ => ?_)
        refine wp_aload_n hX (dk DX11_isLine 26 rfl) rfl ?_
        refine w_getr hX flX11_48 (dk DX11_isLine 27 rfl) rfl rfl ?_
        refine wp_aload_n hX (dk DX11_isLine 28 rfl) rfl ?_
        refine w_geti hX flX11_242 (dk DX11_isLine 29 rfl) (by decide) rfl ?_
        rw [m4]
        refine wp_aload_n hX (dk DX11_isLine 30 rfl) rfl ?_
        refine w_geti hX flX11_205 (dk DX11_isLine 31 rfl) (by decide) rfl ?_
        rw [k4.1]
        refine w_iast (j := _) hX (dk DX11_isLine 32 rfl) rfl rfl (show _ < 61 by omega) ?_
        rw [← hf5]
        refine wp_aload_n hX (dk DX11_isLine 33 rfl) rfl ?_
        refine w_callVQ (As := []) lkX11_227 hX (dk DX11_isLine 34 rfl) rfl rfl (by decide) hN (hE _ f5 _ T n _ 0 _ h5 a2 o5 k5 (by simp only [List.length_append]; omega) (by decide) (by decide)) (fun v_b sw_b f_b g_b hq_b => ?_)
        obtain ⟨rfl, rfl, rfl, d1, d2, d3, d4⟩ := hq_b
        rw [← hc] at d2 d4 ⊢
        rw [if_neg c3]
        show WP _ _ _ 66 [_] [_] _
        refine wp_if_ne (tgt := 71) hX (dk DX11_isLine 35 rfl) (by decide) (fun h_ => absurd (rfl) h_) (fun _ => ?_)
        refine wp_iconst (v := 0) hX (dk DX11_isLine 36 rfl) (by decide) ?_
        exact wp_ireturn hX hR (dk DX11_isLine 37 rfl) rfl (Nat.le_refl _) (Nat.le_refl _) (⟨_, _, _, rfl, rfl, rfl, rfl, s5.trans d1.ml, d2, d3, fun q => Bool.noConfusion q⟩)
    · rw [if_neg c2] at hR
      refine wp_if_ne (tgt := 22) hX (dk DX11_isLine 9 rfl) (by decide) (fun _ => ?_) (fun h_ => absurd h_ (by decide))
      refine wp_aload_n hX (dk DX11_isLine 12 rfl) rfl ?_
      refine w_getr hX flX11_48 (dk DX11_isLine 13 rfl) rfl rfl ?_
      refine wp_aload_n hX (dk DX11_isLine 14 rfl) rfl ?_
      refine w_geti hX flX11_242 (dk DX11_isLine 15 rfl) (by decide) rfl ?_
      rw [m1]
      refine wp_aload_n hX (dk DX11_isLine 16 rfl) rfl ?_
      refine w_getr hX flX11_45 (dk DX11_isLine 17 rfl) rfl rfl ?_
      refine wp_aload_n hX (dk DX11_isLine 18 rfl) rfl ?_
      refine w_geti hX flX11_242 (dk DX11_isLine 19 rfl) (by decide) rfl ?_
      rw [m1]
      refine w_iald (j := _) hX (dk DX11_isLine 20 rfl) rfl rfl (show _ < 61 by omega) ?_
      rw [m2]
      refine w_iast (j := _) hX (dk DX11_isLine 21 rfl) rfl rfl (show _ < 61 by omega) ?_
      rw [← hf3]
      refine wp_aload_n hX (dk DX11_isLine 22 rfl) rfl ?_
      refine wp_bipush (v := 63) hX (dk DX11_isLine 23 rfl) (by decide) ?_
      refine w_callV (As := [_]) lkX11_221 hX (dk DX11_isLine 24 rfl) rfl rfl (by decide) hN (k_is0 (d + 49) _ f3 _ T n _ 63 h3 x2 (by decide) (by rw [← hc]; exact c2)) ?_
      show WP _ _ _ 46 [_] [_] _
      refine wp_if_eq (tgt := 71) hX (dk DX11_isLine 25 rfl) (by decide) (fun _ => ?_) (fun h_ => absurd (rfl) h_)
      refine wp_aload_n hX (dk DX11_isLine 38 rfl) rfl ?_
      refine w_getr hX flX11_51 (dk DX11_isLine 39 rfl) rfl rfl ?_
      refine wp_aload_n hX (dk DX11_isLine 40 rfl) rfl ?_
      refine wp_dup hX (dk DX11_isLine 41 rfl) rfl ?_
      refine w_geti hX flX11_242 (dk DX11_isLine 42 rfl) (by decide) rfl ?_
      rw [show f3 81 20 = nI L.length by rw [n3]; exact m1]
      refine wp_dup_x1 hX (dk DX11_isLine 43 rfl) rfl rfl ?_
      refine wp_iconst (v := 1) hX (dk DX11_isLine 44 rfl) (by decide) ?_
      refine wp_iadd hX (dk DX11_isLine 45 rfl) ?_
      rw [nI_1]
      refine w_puti hX fpX11_242 (dk DX11_isLine 46 rfl) rfl ?_
      refine wp_aload_n hX (dk DX11_isLine 47 rfl) rfl ?_
      refine w_geti hX flX11_205 (dk DX11_isLine 48 rfl) (by decide) rfl ?_
      rw [u2_off _ _ _ (by decide), k3.1]
      refine w_iast (j := _) hX (dk DX11_isLine 49 rfl) rfl rfl (show _ < 61 by omega) ?_
      skip
      refine wp_iconst (v := 1) hX (dk DX11_isLine 50 rfl) (by decide) ?_
      refine wp_ireturn hX hR (dk DX11_isLine 51 rfl) rfl (Nat.le_refl _) (Nat.le_refl _) ⟨_, _, _, rfl, rfl, rfl, rfl, (s3.trans (mlS.ln f3 _)).trans (mlS.r3 _ _ _ _ (Or.inr (Or.inr rfl))), by rw [u2_ne _ _ _ (by decide), u2_off _ _ _ (by decide), n3]; exact e2, by rw [u2_ne _ _ _ (by decide), u2_off _ _ _ (by decide), n3]; exact e3, fun _ => ⟨?_, ?_⟩⟩
      · rw [lcd_app]
        refine k3.cg2 ?_ ?_ ?_
        · simp [lcd]
        · rw [u2_ne _ _ _ (by decide), u2_off _ _ _ (by decide)]
        · rw [u2_ne _ _ _ (by decide), u2_ne _ _ _ (by decide)]
      · refine lnO_app hl ?_ (fun i hi => ?_) ?_ ?_ ?_
        · rw [u2_ne _ _ _ (by decide), u2_at]
        · obtain ⟨q1, q2, q3⟩ := m3 i hi
          refine ⟨?_, ?_, ?_⟩
          · rw [u2_ne _ _ _ (by decide), u2_ne _ _ _ (by decide), hf3, u2_ne _ _ _ (by decide)]; exact q1
          · rw [u2_ne _ _ _ (by decide), u2_ne _ _ _ (by decide), hf3, u2_off _ _ _ (by omega)]; exact q2
          · rw [u2_off _ _ _ (by omega), u2_ne _ _ _ (by decide), hf3, u2_ne _ _ _ (by decide)]; exact q3
        · rw [u2_ne _ _ _ (by decide), u2_ne _ _ _ (by decide), hf3, u2_ne _ _ _ (by decide)]; exact m2
        · rw [u2_ne _ _ _ (by decide), u2_ne _ _ _ (by decide), hf3, u2_at]; simp
        · rw [u2_at]; simp
  · rw [if_neg c1] at hR ⊢
    refine wp_if_ne (tgt := 22) hX (dk DX11_isLine 9 rfl) (by decide) (fun h_ => absurd (rfl) h_) (fun _ => ?_)
    refine wp_iconst (v := 0) hX (dk DX11_isLine 10 rfl) (by decide) ?_
    exact wp_ireturn hX hR (dk DX11_isLine 11 rfl) rfl (Nat.le_refl _) (Nat.le_refl _) (⟨_, _, _, rfl, rfl, rfl, rfl, s2, e2, e3, fun q => Bool.noConfusion q⟩)
