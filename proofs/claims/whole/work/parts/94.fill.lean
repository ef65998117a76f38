/-! FILLED: forward and backward come to the same -/
def sm (r : Nat → Nat) : Nat → Nat
  | 0 => 0
  | k + 1 => sm r k + r k
theorem sm_cong {r r2 : Nat → Nat} : ∀ n, (∀ k, k < n → r k = r2 k) → sm r n = sm r2 n
  | 0, _ => rfl
  | n + 1, h => by rw [sm, sm, sm_cong n (fun k hk => h k (by omega)), h n (by omega)]
theorem sm_0 : ∀ n, sm (fun _ => 0) n = 0
  | 0 => rfl
  | n + 1 => by rw [sm, sm_0 n]
theorem sm_add (r r2 : Nat → Nat) : ∀ n, sm (fun k => r k + r2 k) n = sm r n + sm r2 n
  | 0 => rfl
  | n + 1 => by rw [sm, sm, sm, sm_add r r2 n]; omega
theorem sm_mul (r : Nat → Nat) (c : Nat) : ∀ n, sm (fun k => c * r k) n = c * sm r n
  | 0 => rfl
  | n + 1 => by rw [sm, sm, sm_mul r c n, Nat.mul_add]
theorem sm_mulr (r : Nat → Nat) (c : Nat) : ∀ n, sm r n * c = sm (fun k => r k * c) n
  | 0 => Nat.zero_mul c
  | n + 1 => by rw [sm, sm, Nat.add_mul, sm_mulr r c n]
theorem sm_swap (r : Nat → Nat → Nat) (n : Nat) : ∀ m, sm (fun j => sm (fun a => r j a) n) m = sm (fun a => sm (fun j => r j a) m) n
  | 0 => (sm_0 n).symm
  | m + 1 => by
    rw [sm, sm_swap r n m, ← sm_add]
    rfl
theorem sm_out {r : Nat → Nat} {n : Nat} : ∀ k, (∀ j, n ≤ j → j < n + k → r j = 0) → sm r (n + k) = sm r n
  | 0, _ => rfl
  | k + 1, h => by
    rw [← Nat.add_assoc, sm, sm_out k (fun j h1 h2 => h j h1 (by omega)), h (n + k) (by omega) (by omega)]
    rfl
theorem sm_ne {r : Nat → Nat} : ∀ n, sm r n ≠ 0 ↔ ∃ k, k < n ∧ r k ≠ 0
  | 0 => ⟨fun h => absurd rfl h, fun ⟨k, h, _⟩ => absurd h (by omega)⟩
  | n + 1 => by
    rw [sm]
    constructor
    · intro h
      by_cases c : r n = 0
      · obtain ⟨k, h1, h2⟩ := (sm_ne (r := r) n).mp (by omega)
        exact ⟨k, by omega, h2⟩
      · exact ⟨n, by omega, c⟩
    · rintro ⟨k, h1, h2⟩
      by_cases c : k = n
      · rw [c] at h2; omega
      · have := (sm_ne (r := r) n).mpr ⟨k, by omega, h2⟩
        omega
/-- no more than 9999 -/
def sv (a : Nat) : Int32 := nI (min a 9999)
theorem sv_add (a b : Nat) : imn 9999 (sv a + sv b) = sv (a + b) := by
  unfold sv imn
  rw [nI_add, show (9999 : Int32) = nI 9999 from rfl]
  by_cases c : min a 9999 + min b 9999 < 9999
  · rw [if_pos ((nI_ltI (by omega) (by omega)).mpr c)]
    exact congrArg nI (by omega)
  · rw [if_neg (fun q => c ((nI_ltI (by omega) (by omega)).mp q))]
    exact congrArg nI (by omega)
theorem sv_0 {a : Nat} : sv a = 0 ↔ a = 0 := by
  unfold sv
  refine (nI_eq (b := 0) (by omega) (by omega)).trans ?_
  omega
theorem jme_in {n : Nat} (hn : n ≤ 10) (v : Int64) : (v = -1 ∧ jme n v = jall (nI n)) ∨ (v ≠ -1 ∧ ∃ q, q < n ∧ v = lN q ∧ jme n v = (1 : Int32) <<< (nI q &&& 31)) ∨ (v ≠ -1 ∧ jme n v = 0) := by
  unfold jme
  by_cases c : v = -1
  · exact Or.inl ⟨c, if_pos c⟩
  · rw [if_neg c]
    by_cases c2 : ¬ v < 0 ∧ v < lN n
    · rw [if_pos c2]
      obtain ⟨h1, h2⟩ := c2
      rw [Int64.lt_iff_toInt_lt] at h1 h2
      rw [lN_toInt (by omega)] at h2
      have h0 : (0 : Int64).toInt = 0 := by decide
      rw [h0] at h1
      have e : v = lN v.toInt.toNat := Int64.toInt_inj.mp (by rw [lN_toInt (by omega)]; omega)
      exact Or.inr (Or.inl ⟨c, v.toInt.toNat, by omega, e, by rw [e, lN_i, ← e]⟩)
    · rw [if_neg c2]
      exact Or.inr (Or.inr ⟨c, rfl⟩)
theorem jme_hi {n : Nat} (hn : n ≤ 10) (v : Int64) {j : Nat} (h1 : n ≤ j) (h2 : j < 32) : bt (jme n v) j = false := by
  rcases jme_in hn v with ⟨_, e⟩ | ⟨_, q, hq, _, e⟩ | ⟨_, e⟩
  · rw [e, bt_all (by omega) h2]; exact decide_eq_false (by omega)
  · rw [e, bt_bit (by omega) h2]; exact decide_eq_false (by omega)
  · rw [e, b_0]
theorem jme_one {n : Nat} (hn : n ≤ 10) {v : Int64} (h : v ≠ -1) {a b : Nat} (ha : a < n) (hb : b < n) (h1 : bt (jme n v) a = true) (h2 : bt (jme n v) b = true) : a = b := by
  rcases jme_in hn v with ⟨e, _⟩ | ⟨_, q, hq, _, e⟩ | ⟨_, e⟩
  · exact absurd e h
  · rw [e, bt_bit (by omega) (by omega)] at h1 h2
    have := of_decide_eq_true h1
    have := of_decide_eq_true h2
    omega
  · rw [e, b_0] at h1; cases h1
theorem jme_nI {n v : Nat} (hn : n ≤ 10) (hv : v < n) {j : Nat} (hj : j < 32) : bt (jme n (nI v).toInt64) j = decide (j = v) := by
  have e : (nI v).toInt64 = lN v := nI_l (by omega)
  have h0 : (0 : Int64).toInt = 0 := by decide
  have h1 : (-1 : Int64).toInt = -1 := by decide
  rw [e]
  unfold jme
  rw [if_neg (fun q => by have := congrArg Int64.toInt q; rw [lN_toInt (by omega), h1] at this; omega), if_pos ⟨fun q => by rw [Int64.lt_iff_toInt_lt, h0, lN_toInt (by omega)] at q; omega, by rw [lN_lt (by omega) (by omega)]; exact hv⟩, lN_i, bt_bit (by omega) hj]
section FILL
variable {B : Nat → Int32} {n : Nat} {E : Nat → Int64}
def nT (B : Nat → Int32) (n : Nat) (E : Nat → Int64) : Nat → Nat → Int32 → Nat
  | 0, _, _ => 1
  | m + 1, i, s => sm (fun q => if bt (s &&& jme n (E i)) q then nT B n E m (i + 1) (B q) else 0) n
theorem wsm_sv (R : Nat → Nat) (s : Int32) : ∀ k, k ≤ 32 → wsm (fun q => sv (R q)) s k = sv (sm (fun q => if bt s q then R q else 0) k)
  | 0, _ => rfl
  | k + 1, hk => by
    rw [wsm, sm, wsm_sv R s k (by omega)]
    cases e : bt s k with
    | false =>
      rw [if_pos ((jb_eq s (by omega)).mpr e)]
      rfl
    | true =>
      rw [if_neg ((jb_ne s (by omega)).mpr e)]
      exact sv_add _ _
theorem wO_sv (hn : n ≤ 10) : ∀ (m i : Nat) (s : Int32), wO B n E m i s = sv (nT B n E m i s)
  | 0, _, _ => rfl
  | m + 1, i, s => by
    rw [wO, nT, show (fun g => wO B n E m (i + 1) (B g)) = fun g => sv (nT B n E m (i + 1) (B g)) from funext (fun g => wO_sv hn m (i + 1) (B g))]
    exact wsm_sv _ _ n (by omega)
theorem gA_sv (F : Nat → Nat) {j : Nat} (hj : j < 32) : ∀ k, gA B (fun a => sv (F a)) j k = sv (sm (fun a => if bt (B a) j then F a else 0) k)
  | 0 => rfl
  | k + 1 => by
    rw [gA, sm, gA_sv F hj k]
    cases e : bt (B k) j with
    | false =>
      rw [if_pos ((jb_eq (B k) hj).mpr e)]
      rfl
    | true =>
      rw [if_neg ((jb_ne (B k) hj).mpr e)]
      exact sv_add _ _
def hS (B : Nat → Int32) (n : Nat) (al : Int32) (F : Nat → Nat) (j : Nat) : Nat := if bt al j then sm (fun a => if bt (B a) j then F a else 0) n else 0
def hN (B : Nat → Int32) (n : Nat) (E : Nat → Int64) : Nat → Nat → (Nat → Nat) → Nat → Nat
  | 0, _, F => F
  | m + 1, i, F => hN B n E m (i + 1) (hS B n (jme n (E i)) F)
theorem gO_sv (F : Nat → Nat) (al : Int32) {j : Nat} (hj : j < 32) : gO B (fun a => sv (F a)) n al j = sv (hS B n al F j) := by
  unfold gO hS
  cases e : bt al j with
  | false =>
    rw [if_pos ((jb_eq al hj).mpr e)]
    rfl
  | true =>
    rw [if_neg ((jb_ne al hj).mpr e)]
    exact gA_sv F hj n
theorem gN_sv (hn : n ≤ 10) : ∀ (m i : Nat) (F : Nat → Nat) (j : Nat), j < 10 → gN B n E m i (fun a => sv (F a)) j = sv (hN B n E m i F j)
  | 0, _, _, _, _ => rfl
  | m + 1, i, F, j, hj => by
    rw [gN, hN, gN_cong hn m (i + 1) _ (fun a => sv (hS B n (jme n (E i)) F a)) (fun a ha => gO_sv F _ (by omega)) j hj]
    exact gN_sv hn m (i + 1) _ j hj
theorem hN_sm : ∀ (m i : Nat) (F : Nat → Nat), sm (hN B n E m i F) n = sm (fun a => F a * nT B n E m i (B a)) n
  | 0, _, F => sm_cong n (fun k _ => (Nat.mul_one _).symm)
  | m + 1, i, F => by
    rw [hN, hN_sm m (i + 1), show (fun a => F a * nT B n E (m + 1) i (B a)) = fun a => sm (fun j => if bt (B a &&& jme n (E i)) j then F a * nT B n E m (i + 1) (B j) else 0) n from funext (fun a => by
      rw [nT, ← sm_mul]
      exact sm_cong n (fun k _ => by
        by_cases c : bt (B a &&& jme n (E i)) k = true
        · rw [if_pos c, if_pos c]
        · rw [if_neg c, if_neg c, Nat.mul_zero])), ← sm_swap]
    refine sm_cong n (fun j _ => ?_)
    unfold hS
    by_cases c : bt (jme n (E i)) j = true
    · rw [if_pos c, sm_mulr]
      refine sm_cong n (fun a _ => ?_)
      rw [b_and, c, Bool.and_true]
      by_cases c2 : bt (B a) j = true
      · rw [if_pos c2, if_pos c2]
      · rw [if_neg c2, if_neg c2, Nat.zero_mul]
    · rw [if_neg c, Nat.zero_mul]
      refine ((sm_0 n).symm.trans (sm_cong n (fun a _ => ?_)))
      rw [b_and, (Bool.not_eq_true _).mp c, Bool.and_false]
      rfl
theorem hN_hi (hn : n ≤ 10) : ∀ (m i : Nat) (F : Nat → Nat), (∀ j, n ≤ j → j < 32 → F j = 0) → ∀ j, n ≤ j → j < 32 → hN B n E m i F j = 0
  | 0, _, _, h => h
  | m + 1, i, F, _ => hN_hi hn m (i + 1) _ (fun j h1 h2 => by
    unfold hS
    rw [jme_hi hn _ h1 h2]
    rfl)
theorem gS_sv (F : Nat → Nat) : ∀ k, gS (fun a => sv (F a)) k = sv (sm F k)
  | 0 => rfl
  | k + 1 => by
    rw [gS, sm, gS_sv F k]
    exact sv_add _ _
theorem gC_wO (hn : n ≤ 10) (z : Nat) (s : Int32) : gC B n z E s = wO B n E z 0 s := by
  unfold gC
  rw [wO_sv hn]
  cases z with
  | zero => rw [if_pos rfl]; rfl
  | succ z =>
    have eF : (fun j => if jb (s &&& jme n (E 0)) j = 0 then (0 : Int32) else 1) = fun j => if jb (s &&& jme n (E 0)) j = 0 then sv 0 else sv 1 := rfl
    have e2 : gS (gN B n E z 1 (fun j => if jb (s &&& jme n (E 0)) j = 0 then (0 : Int32) else 1)) 10 = gS (fun j => sv (hN B n E z 1 (fun j => if bt (s &&& jme n (E 0)) j then 1 else 0) j)) 10 := gS_cong 10 (fun a ha => by
      rw [← gN_sv hn z 1 _ a ha]
      refine gN_cong hn z 1 _ _ (fun a ha => ?_) a ha
      cases e : bt (s &&& jme n (E 0)) a with
      | false => rw [if_pos ((jb_eq _ (by omega)).mpr e)]; rfl
      | true => rw [if_neg ((jb_ne _ (by omega)).mpr e)]; rfl)
    have e3 := sm_out (r := hN B n E z 1 (fun j => if bt (s &&& jme n (E 0)) j then 1 else 0)) (n := n) (10 - n) (fun j h1 h2 => hN_hi hn z 1 _ (fun j h1 h2 => by rw [b_and, jme_hi hn _ h1 h2, Bool.and_false]; rfl) j h1 (by omega))
    rw [show n + (10 - n) = 10 by omega] at e3
    rw [if_neg (by omega), show z + 1 - 1 = z from rfl, e2, gS_sv, e3, hN_sm]
    refine congrArg sv ?_
    rw [nT]
    refine sm_cong n (fun q _ => ?_)
    by_cases c : bt (s &&& jme n (E 0)) q = true
    · rw [if_pos c, if_pos c, Nat.one_mul]
    · rw [if_neg c, if_neg c, Nat.zero_mul]
theorem nT_ne (m i : Nat) (s : Int32) : nT B n E (m + 1) i s ≠ 0 ↔ ∃ q, q < n ∧ bt s q = true ∧ bt (jme n (E i)) q = true ∧ nT B n E m (i + 1) (B q) ≠ 0 := by
  rw [nT, sm_ne]
  constructor
  · rintro ⟨q, h1, h2⟩
    by_cases c : bt (s &&& jme n (E i)) q = true
    · rw [if_pos c] at h2
      rw [b_and, Bool.and_eq_true] at c
      exact ⟨q, h1, c.1, c.2, h2⟩
    · rw [if_neg c] at h2
      exact absurd rfl h2
  · rintro ⟨q, h1, h2, h3, h4⟩
    exact ⟨q, h1, by rw [b_and, h2, h3]; exact h4⟩
theorem nT_cong {E2 : Nat → Int64} : ∀ (m i : Nat) (s : Int32), (∀ k, i ≤ k → k < i + m → E k = E2 k) → nT B n E m i s = nT B n E2 m i s
  | 0, _, _, _ => rfl
  | m + 1, i, s, h => by
    rw [nT, nT, h i (Nat.le_refl _) (by omega)]
    refine sm_cong n (fun q _ => ?_)
    rw [nT_cong m (i + 1) (B q) (fun k h1 h2 => h k (by omega) (by omega))]
theorem nT_any (hn : n ≤ 10) {y : Int32} (hy : ∃ q, q < n ∧ bt y q = true) : ∀ (m i : Nat), nT B n E m i (jany B y n) ≠ 0 ↔ ∃ q, q < n ∧ bt y q = true ∧ nT B n E m i (B q) ≠ 0
  | 0, _ => ⟨fun _ => by obtain ⟨q, h1, h2⟩ := hy; exact ⟨q, h1, h2, Nat.one_ne_zero⟩, fun _ => Nat.one_ne_zero⟩
  | m + 1, i => by
    rw [nT_ne]
    constructor
    · rintro ⟨p, h1, h2, h3, h4⟩
      obtain ⟨q, a1, a2, a3⟩ := (bt_any B y n p (by omega)).mp h2
      exact ⟨q, a1, a2, (nT_ne m i (B q)).mpr ⟨p, h1, a3, h3, h4⟩⟩
    · rintro ⟨q, a1, a2, a3⟩
      obtain ⟨p, h1, h2, h3, h4⟩ := (nT_ne m i (B q)).mp a3
      exact ⟨p, h1, (bt_any B y n p (by omega)).mpr ⟨q, a1, a2, h2⟩, h3, h4⟩
theorem tN_ok (hn : n ≤ 10) : ∀ (m i : Nat) (nx lr : Int32), i + m < 100 → ((tN B n E m i nx lr).1 = -2 ↔ nT B n E m i nx ≠ 0)
  | 0, _, _, _, _ => ⟨fun _ => Nat.one_ne_zero, fun _ => rfl⟩
  | m + 1, i, nx, lr, h => by
    rw [tN, nT_ne]
    by_cases c : nx &&& jme n (E i) = 0
    · rw [if_pos c]
      refine ⟨fun q => absurd q (rE_ne i (by omega)), ?_⟩
      rintro ⟨q, h1, h2, h3, _⟩
      have : bt (nx &&& jme n (E i)) q = true := by rw [b_and, h2, h3]; rfl
      rw [c, b_0] at this
      cases this
    · rw [if_neg c, tN_ok hn m (i + 1) _ _ (by omega)]
      have hy : ∃ q, q < n ∧ bt (nx &&& jme n (E i)) q = true := by
        refine Classical.byContradiction (fun hno => c (b_ext (fun j hj => ?_)))
        rw [b_0]
        by_cases q : j < n
        · exact Bool.not_eq_true _ ▸ (fun e => hno ⟨j, q, e⟩)
        · rw [b_and, jme_hi hn _ (by omega) hj, Bool.and_false]
      rw [nT_any hn hy]
      constructor
      · rintro ⟨q, h1, h2, h3⟩
        rw [b_and, Bool.and_eq_true] at h2
        exact ⟨q, h1, h2.1, h2.2, h3⟩
      · rintro ⟨q, h1, h2, h3, h4⟩
        exact ⟨q, h1, by rw [b_and, h2, h3]; rfl, h4⟩
theorem jun_in : ∀ (m i : Nat), jun E m i = -2 ∨ ∃ k, i ≤ k ∧ k < i + m ∧ jun E m i = nI k
  | 0, _ => Or.inl rfl
  | m + 1, i => by
    rw [jun]
    by_cases c : E i = -1
    · rw [if_pos c]
      exact Or.inr ⟨i, Nat.le_refl _, by omega, rfl⟩
    · rw [if_neg c]
      rcases jun_in m (i + 1) with e | ⟨k, h1, h2, e⟩
      · exact Or.inl e
      · exact Or.inr ⟨k, by omega, by omega, e⟩
theorem mU_none : ∀ (m i : Nat) (s : Int32), i + m < 100 → jun E m i = -2 → mU B n E m i s = -2
  | 0, _, _, _, _ => rfl
  | m + 1, i, s, h, e => by
    rw [jun] at e
    rw [mU]
    by_cases c : E i = -1
    · rw [if_pos c] at e
      exact absurd e (rE_ne i (by omega))
    · rw [if_neg c] at e
      rw [if_neg c]
      exact mU_none m (i + 1) _ (by omega) e
theorem mfx_T (hn : n ≤ 10) {m i : Nat} {s : Int32} (h : nT B n E (m + 1) i s ≠ 0) : ∃ q, mfx (fun q => wO B n E m (i + 1) (B q)) (s &&& jme n (E i)) n 0 = q ∧ q < n ∧ bt s q = true ∧ bt (jme n (E i)) q = true ∧ nT B n E m (i + 1) (B q) ≠ 0 ∧ ∀ v, v < q → ¬ (bt s v = true ∧ bt (jme n (E i)) v = true ∧ nT B n E m (i + 1) (B v) ≠ 0) := by
  obtain ⟨q0, h1, h2, h3, h4⟩ := (nT_ne m i s).mp h
  have key : ∀ v, v < n → ((¬ jb (s &&& jme n (E i)) v = 0 ∧ ¬ wO B n E m (i + 1) (B v) = 0) ↔ (bt s v = true ∧ bt (jme n (E i)) v = true ∧ nT B n E m (i + 1) (B v) ≠ 0)) := fun v hv => by
    rw [jb_ne _ (by omega), b_and, Bool.and_eq_true, wO_sv hn, sv_0, and_assoc]
  obtain ⟨a1, a2, a3, a4, a5⟩ := mfx_in (r := fun q => wO B n E m (i + 1) (B q)) (s := s &&& jme n (E i)) n 0 ⟨q0, by omega, by omega, (key q0 h1).mpr ⟨h2, h3, h4⟩⟩
  obtain ⟨b1, b2, b3⟩ := (key _ (by omega)).mp ⟨a3, a4⟩
  exact ⟨_, rfl, by omega, b1, b2, b3, fun v hv q => a5 v (by omega) hv ((key v (by omega)).mpr q)⟩
theorem mU_jov (hn : n ≤ 10) : ∀ (m i : Nat) (s : Int32), i + m ≤ 60 → ¬ jun E m i = -2 → (nT B n E m i s ≠ 0 → ∃ q, q < n ∧ mU B n E m i s = nI q ∧ nT B n (jov E (jun E m i) (nI q)) m i s ≠ 0 ∧ ∀ v, v < q → nT B n (jov E (jun E m i) (nI v)) m i s = 0) ∧ (nT B n E m i s = 0 → ∀ v, v < n → nT B n (jov E (jun E m i) (nI v)) m i s = 0)
  | 0, _, _, _, h => absurd rfl h
  | m + 1, i, s, hi, h => by
    rw [jun] at h ⊢
    by_cases c : E i = -1
    · rw [if_pos c] at h ⊢
      have tl : ∀ (v : Nat) (y : Int32), nT B n (jov E (nI i) (nI v)) m (i + 1) y = nT B n E m (i + 1) y := fun v y => nT_cong m (i + 1) y (fun k h1 h2 => by
        unfold jov
        rw [if_neg (fun q => by have := (nI_eq (by omega) (by omega)).mp q; omega)])
      have hd : ∀ v, jov E (nI i) (nI v) i = (nI v).toInt64 := fun v => by unfold jov; rw [if_pos rfl]
      have key : ∀ v, v < n → (nT B n (jov E (nI i) (nI v)) (m + 1) i s ≠ 0 ↔ bt s v = true ∧ nT B n E m (i + 1) (B v) ≠ 0) := fun v hv => by
        rw [nT_ne, hd]
        constructor
        · rintro ⟨q, h1, h2, h3, h4⟩
          rw [jme_nI hn hv (by omega)] at h3
          obtain rfl := of_decide_eq_true h3
          rw [tl] at h4
          exact ⟨h2, h4⟩
        · rintro ⟨h2, h4⟩
          exact ⟨v, hv, h2, by rw [jme_nI hn hv (by omega)]; exact decide_eq_true rfl, by rw [tl]; exact h4⟩
      have hA : ∀ v, v < n → bt (jme n (E i)) v = true := fun v hv => by
        unfold jme
        rw [if_pos c, bt_all (by omega) (by omega)]
        exact decide_eq_true hv
      constructor
      · intro ht
        obtain ⟨q, e, h1, h2, h3, h4, h5⟩ := mfx_T hn ht
        refine ⟨q, h1, by rw [mU, if_pos c, e], (key q h1).mpr ⟨h2, h4⟩, fun v hv => Classical.byContradiction (fun hne => ?_)⟩
        have := (key v (by omega)).mp hne
        exact h5 v hv ⟨this.1, hA v (by omega), this.2⟩
      · intro ht v hv
        refine Classical.byContradiction (fun hne => ?_)
        have := (key v hv).mp hne
        exact (nT_ne m i s).mpr ⟨v, hv, this.1, hA v hv, this.2⟩ ht
    · rw [if_neg c] at h ⊢
      obtain ⟨k, k1, k2, ek⟩ : ∃ k, i + 1 ≤ k ∧ k < i + 1 + m ∧ jun E m (i + 1) = nI k := by
        rcases jun_in (E := E) m (i + 1) with e | e
        · exact absurd e h
        · exact e
      have hd : ∀ v, jov E (jun E m (i + 1)) (nI v) i = E i := fun v => by
        unfold jov
        rw [ek, if_neg (fun q => by have := (nI_eq (by omega) (by omega)).mp q; omega)]
      constructor
      · intro ht
        obtain ⟨e, e0, h1, h2, h3, h4, _⟩ := mfx_T hn ht
        obtain ⟨q, a1, a2, a3, a4⟩ := (mU_jov hn m (i + 1) (B e) (by omega) h).1 h4
        refine ⟨q, a1, by rw [mU, if_neg c, e0, a2], (nT_ne m i s).mpr ⟨e, h1, h2, by rw [hd]; exact h3, a3⟩, fun v hv => Classical.byContradiction (fun hne => ?_)⟩
        obtain ⟨q2, b1, b2, b3, b4⟩ := (nT_ne m i s).mp hne
        rw [hd] at b3
        obtain rfl := jme_one hn c b1 h1 b3 h3
        exact b4 (a4 v hv)
      · intro ht v hv
        refine Classical.byContradiction (fun hne => ?_)
        obtain ⟨q2, b1, b2, b3, b4⟩ := (nT_ne m i s).mp hne
        rw [hd] at b3
        refine (nT_ne m i s).mpr ⟨q2, b1, b2, b3, fun e => ?_⟩ ht
        exact b4 ((mU_jov hn m (i + 1) (B q2) (by omega) h).2 e v hv)
theorem jff_none {z : Nat} {s p : Int32} : ∀ (m i : Nat), (∀ v, i ≤ v → v < i + m → ¬ (tN B n (jov E p (nI v)) z 0 s 0).1 = -2) → jff B n z E s p m i = -2
  | 0, _, _ => rfl
  | m + 1, i, h => by
    rw [jff, if_neg (h i (Nat.le_refl _) (by omega))]
    exact jff_none m (i + 1) (fun v h1 h2 => h v (by omega) (by omega))
theorem jff_is {z q : Nat} {s p : Int32} (hq : (tN B n (jov E p (nI q)) z 0 s 0).1 = -2) : ∀ (m i : Nat), i ≤ q → q < i + m → (∀ v, i ≤ v → v < q → ¬ (tN B n (jov E p (nI v)) z 0 s 0).1 = -2) → jff B n z E s p m i = nI q
  | 0, i, h1, h2, _ => absurd h2 (by omega)
  | m + 1, i, h1, h2, h => by
    rw [jff]
    by_cases c : i = q
    · rw [c, if_pos hq]
    · rw [if_neg (h i (Nat.le_refl _) (by omega))]
      exact jff_is hq m (i + 1) (by omega) (by omega) (fun v a1 a2 => h v (by omega) a2)
theorem jff_mU (hn : n ≤ 10) {z : Nat} (hz : z ≤ 60) (s : Int32) : (if jun E z 0 = -2 then -2 else jff B n z E s (jun E z 0) n 0) = if wO B n E z 0 s = 0 then -2 else mU B n E z 0 s := by
  rw [wO_sv hn]
  by_cases c : jun E z 0 = -2
  · rw [if_pos c, mU_none z 0 s (by omega) c]
    by_cases c2 : sv (nT B n E z 0 s) = 0
    · rw [if_pos c2]
    · rw [if_neg c2]
  · rw [if_neg c]
    have key := mU_jov hn z 0 s (by omega) c (B := B)
    by_cases c2 : nT B n E z 0 s = 0
    · rw [if_pos (sv_0.mpr c2)]
      exact jff_none n 0 (fun v _ h2 q => (tN_ok hn z 0 s 0 (by omega)).mp q (key.2 c2 v (by omega)))
    · rw [if_neg (fun q => c2 (sv_0.mp q))]
      obtain ⟨q, h1, h2, h3, h4⟩ := key.1 c2
      rw [h2]
      exact jff_is ((tN_ok hn z 0 s 0 (by omega)).mpr h3) n 0 (by omega) (by omega) (fun v _ hv e => (tN_ok hn z 0 s 0 (by omega)).mp e (h4 v hv))
end FILL
theorem s_filled (x y w : Int32) : stepOK iX10_filled iX11_filled [.int x, .int y, .int w] := rd_step (fun d sw f g n sh L m c h => by
  have hn := h.n10
  by_cases c1 : (∃ c, c < 6 ∧ x = nI c) ∧ (∃ b, b < m ∧ y = nI b) ∧ ∃ q, q < 2 ∧ w = nI q
  · obtain ⟨⟨b, hb, rfl⟩, ⟨q, hq, rfl⟩, w, hw, rfl⟩ := c1
    by_cases c2 : jrf (f 74 b) = 0
    · obtain ⟨z, z1, z2, z3, z4⟩ := h.byt hb c2
      refine ⟨_, t_filled1 d sw f g n m b q z w sh h.st h.m61 h.m6 hb hq hw (jrf_0 c2) z2 z1, fun sw1 f1 q1 h1 => ?_⟩
      rw [gC_cg h.B4, jff_cg h.B4, h.g76, ← e86 h q1, gC_wO hn, jff_mU hn z1]
      exact u_filled1 d sw1 f1 g n m b q z w sh h1.mf h1.m81 h1.m6 hb hq hw (by rw [← h1.jrfE hb, q1.c (b := 74) (by decide) (by decide) (by decide)]; exact c2) (by rw [q1.c (b := 107) (by decide) (by decide) (by decide)]; exact z3) z1 z4
    · refine ⟨_, t_filledR d sw f g m b q w h.m61 h.m6 hb hq hw c2, fun sw1 f1 q1 h1 => ?_⟩
      have e : jrf (f 74 b) = jrf (f1 106 b) := by rw [h.jrfE hb, q1.c (b := 106) (by decide) (by decide) (by decide)]
      rw [e] at c2 ⊢
      exact u_filledR d sw1 f1 g m b q w h1.m81 h1.m6 hb hq hw c2
  · exact ⟨_, t_filled0 d sw f g m x y w h.m61 h.m6 c1, fun sw1 f1 _ h1 => u_filled0 d sw1 f1 g m x y w h1.m81 h1.m6 c1⟩)
