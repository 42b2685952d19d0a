/-! trains, and what the writing calls answer and leave -/
abbrev Q2 (T : Int → Int) (p q a b : Int) : Prop := a ≠ b ∧ T a * q = T b * p
abbrev Q4 (T : Int → Int) (p q a b c d : Int) : Prop := (a ≠ b ∧ a ≠ c ∧ a ≠ d ∧ b ≠ c ∧ b ≠ d ∧ c ≠ d) ∧ T a * T c * q = T b * T d * p
def No2 (gc : Int) (T : Int → Int) (p q : Int) : Prop := ∀ a b, 0 ≤ a → a < gc → 0 ≤ b → b < gc → ¬ Q2 T p q a b
def No4 (gc : Int) (T : Int → Int) (p q : Int) : Prop := ∀ a b c d, 0 ≤ a → a < gc → 0 ≤ b → b < gc → 0 ≤ c → c < gc → 0 ≤ d → d < gc → ¬ Q4 T p q a b c d
def Two (gc : Int) (T : Int → Int) (p q a b : Int) : Prop := (0 ≤ a ∧ a < gc) ∧ (0 ≤ b ∧ b < gc) ∧ Q2 T p q a b ∧ ∀ a' b', 0 ≤ a' → a' < gc → 0 ≤ b' → b' < gc → 10 * a' + b' < 10 * a + b → ¬ Q2 T p q a' b'
def Sec (gc : Int) (T : Int → Int) (p q a b c d : Int) : Prop := (0 ≤ c ∧ c < gc) ∧ (0 ≤ d ∧ d < gc) ∧ Q4 T p q a b c d ∧ ∀ c' d', 0 ≤ c' → c' < gc → 0 ≤ d' → d' < gc → 10 * c' + d' < 10 * c + d → ¬ Q4 T p q a b c' d'
def Four (gc : Int) (T : Int → Int) (p q a b c d : Int) : Prop := (0 ≤ a ∧ a < gc) ∧ (0 ≤ b ∧ b < gc) ∧ (0 ≤ c ∧ c < gc) ∧ (0 ≤ d ∧ d < gc) ∧ Q4 T p q a b c d ∧ ∀ a' b' c' d', 0 ≤ a' → a' < gc → 0 ≤ b' → b' < gc → 0 ≤ c' → c' < gc → 0 ≤ d' → d' < gc → 1000 * a' + 100 * b' + 10 * c' + d' < 1000 * a + 100 * b + 10 * c + d → ¬ Q4 T p q a' b' c' d'
def Tr (gc : Int) (T : Int → Int) (p q a b c d : Int) : Prop := (Two gc T p q a b ∧ c = -6 ∧ d = -6) ∨ (No2 gc T p q ∧ Four gc T p q a b c d)
def NoTr (gc : Int) (T : Int → Int) (p q : Int) : Prop := No2 gc T p q ∧ No4 gc T p q
def GW (gc : Int) (T : Int → Int) (t ta tb tc r : Int) : Prop := (r = -6 ∧ ∀ g, 0 ≤ g → g < gc → ¬ (T g = t ∧ g ≠ ta ∧ g ≠ tb ∧ g ≠ tc)) ∨ ((0 ≤ r ∧ r < gc) ∧ (T r = t ∧ r ≠ ta ∧ r ≠ tb ∧ r ≠ tc) ∧ ∀ g, 0 ≤ g → g < r → ¬ (T g = t ∧ g ≠ ta ∧ g ≠ tb ∧ g ≠ tc))
theorem GW_iv {gc t ta tb tc r : Int} {T : Int → Int} (hgc : 0 ≤ gc ∧ gc ≤ 10) (h : GW gc T t ta tb tc r) : -6 ≤ r ∧ r ≤ 9 := by
  rcases h with h | h <;> omega
theorem Tr_no {gc p q a b c d : Int} {T : Int → Int} (h : Tr gc T p q a b c d) : ¬ NoTr gc T p q := by
  intro hn
  rcases h with h | h
  · exact hn.1 a b h.1.1.1 h.1.1.2 h.1.2.1.1 h.1.2.1.2 h.1.2.2.1
  · obtain ⟨-, h1, h2, h3, h4, h5, -⟩ := h
    exact hn.2 a b c d h1.1 h1.2 h2.1 h2.2 h3.1 h3.2 h4.1 h4.2 h5
theorem Tr_det {gc p q a b c d a' b' c' d' : Int} {T : Int → Int} (hgc : gc ≤ 10) (h : Tr gc T p q a b c d) (h' : Tr gc T p q a' b' c' d') : a = a' ∧ b = b' ∧ c = c' ∧ d = d' := by
  rcases h with ⟨⟨h1, h2, h3, h4⟩, h5, h6⟩ | ⟨h0, h1, h2, h3, h4, h5, h6⟩ <;> rcases h' with ⟨⟨g1, g2, g3, g4⟩, g5, g6⟩ | ⟨g0, g1, g2, g3, g4, g5, g6⟩
  · have e1 : ¬ (10 * a' + b' < 10 * a + b) := fun q => h4 a' b' g1.1 g1.2 g2.1 g2.2 q g3
    have e2 : ¬ (10 * a + b < 10 * a' + b') := fun q => g4 a b h1.1 h1.2 h2.1 h2.2 q h3
    omega
  · exact absurd h3 (g0 a b h1.1 h1.2 h2.1 h2.2)
  · exact absurd g3 (h0 a' b' g1.1 g1.2 g2.1 g2.2)
  · have e1 : ¬ (1000 * a' + 100 * b' + 10 * c' + d' < 1000 * a + 100 * b + 10 * c + d) := fun q => h6 a' b' c' d' g1.1 g1.2 g2.1 g2.2 g3.1 g3.2 g4.1 g4.2 q g5
    have e2 : ¬ (1000 * a + 100 * b + 10 * c + d < 1000 * a' + 100 * b' + 10 * c' + d') := fun q => g6 a b c d h1.1 h1.2 h2.1 h2.2 h3.1 h3.2 h4.1 h4.2 q h5
    omega
theorem sp_eq_t {up low t : Int} (hl : 1 ≤ low) (ht : t ≠ 0) : t = sp_eq up low ↔ up = t * low := by
  constructor
  · intro e
    by_cases h : up.tmod low = 0
    · rw [sp_eq_1 hl h] at e
      have := Int.tmod_def up low
      rw [h, ← e, Int.mul_comm low] at this
      omega
    · rw [sp_eq_0 (Or.inr h)] at e
      exact absurd e ht
  · intro e
    have h : up.tmod low = 0 := by
      rw [e]
      exact Int.mul_tmod_left ..
    rw [sp_eq_1 hl h, e, Int.mul_tdiv_cancel _ (by omega)]
theorem two_eq {T : Int → Int} {gc p q k b : Int} (hp : 1 ≤ p) (hT : ∀ j, 0 ≤ j → j < gc → 12 ≤ T j ∧ T j ≤ 120) (hb : 0 ≤ b ∧ b < gc) : Q2 T p q k b ↔ (T b = sp_eq (T k * q) p ∧ b ≠ k ∧ b ≠ k ∧ b ≠ k) := by
  have h1 := hT b hb.1 hb.2
  have h2 := @sp_eq_t (T k * q) p (T b) hp (by omega)
  constructor
  · intro h
    exact ⟨h2.mpr h.2, fun e => h.1 e.symm, fun e => h.1 e.symm, fun e => h.1 e.symm⟩
  · intro h
    exact ⟨fun e => h.2.1 e.symm, h2.mp h.1⟩
theorem two_found {T : Int → Int} {gc p q k r : Int} (hp : 1 ≤ p) (hgc : gc ≤ 10) (hT : ∀ j, 0 ≤ j → j < gc → 12 ≤ T j ∧ T j ≤ 120) (hk : 0 ≤ k ∧ k < gc) (hz : ∀ a b, 0 ≤ a → a < k → 0 ≤ b → b < gc → ¬ Q2 T p q a b) (hG : GW gc T (sp_eq (T k * q) p) k k k r) (hr : ¬ r = -6) : Two gc T p q k r := by
  rcases hG with hG | ⟨h1, h2, h3⟩
  · exact absurd hG.1 hr
  · refine ⟨hk, h1, (two_eq hp hT h1).mpr h2, fun a' b' a1 a2 b1 b2 hlt hq => ?_⟩
    by_cases e : a' < k
    · exact hz a' b' a1 e b1 b2 hq
    · have e2 : a' = k := by omega
      rw [e2] at hq
      exact h3 b' b1 (by omega) ((two_eq hp hT ⟨b1, b2⟩).mp hq)
theorem two_step {T : Int → Int} {gc p q k r : Int} (hp : 1 ≤ p) (hT : ∀ j, 0 ≤ j → j < gc → 12 ≤ T j ∧ T j ≤ 120) (hk : 0 ≤ k ∧ k < gc) (hz : ∀ a b, 0 ≤ a → a < k → 0 ≤ b → b < gc → ¬ Q2 T p q a b) (hG : GW gc T (sp_eq (T k * q) p) k k k r) (hr : r = -6) : ∀ a b, 0 ≤ a → a < k + 1 → 0 ≤ b → b < gc → ¬ Q2 T p q a b := by
  intro a b a1 a2 b1 b2 hq
  by_cases e : a < k
  · exact hz a b a1 e b1 b2 hq
  · have e2 : a = k := by omega
    rw [e2] at hq
    rcases hG with hG | ⟨h1, -, -⟩
    · exact hG.2 b b1 b2 ((two_eq hp hT ⟨b1, b2⟩).mp hq)
    · omega
theorem sec_eq {T : Int → Int} {gc p q g1 g2 k b : Int} (hp : 1 ≤ p) (hT : ∀ j, 0 ≤ j → j < gc → 12 ≤ T j ∧ T j ≤ 120) (hg2 : 0 ≤ g2 ∧ g2 < gc) (hne : g1 ≠ g2) (k1 : k ≠ g1) (k2 : k ≠ g2) (hb : 0 ≤ b ∧ b < gc) : Q4 T p q g1 g2 k b ↔ (T b = sp_eq (T g1 * T k * q) (T g2 * p) ∧ b ≠ g1 ∧ b ≠ g2 ∧ b ≠ k) := by
  have h1 := hT b hb.1 hb.2
  have h0 := hT g2 hg2.1 hg2.2
  have hl : 1 ≤ T g2 * p := by
    have := Int.mul_pos (show 0 < T g2 by omega) (show 0 < p by omega)
    omega
  have h2 := @sp_eq_t (T g1 * T k * q) (T g2 * p) (T b) hl (by omega)
  have h3 : T g2 * T b * p = T b * (T g2 * p) := by rw [Int.mul_comm (T g2), Int.mul_assoc]
  constructor
  · intro h
    exact ⟨h2.mpr (by rw [← h3]; exact h.2), fun e => h.1.2.2.1 e.symm, fun e => h.1.2.2.2.2.1 e.symm, fun e => h.1.2.2.2.2.2 e.symm⟩
  · intro h
    refine ⟨⟨hne, fun e => k1 e.symm, fun e => h.2.1 e.symm, fun e => k2 e.symm, fun e => h.2.2.1 e.symm, fun e => h.2.2.2 e.symm⟩, ?_⟩
    rw [h3]
    exact h2.mp h.1
theorem sec_found {T : Int → Int} {gc p q g1 g2 k r : Int} (hp : 1 ≤ p) (hgc : gc ≤ 10) (hT : ∀ j, 0 ≤ j → j < gc → 12 ≤ T j ∧ T j ≤ 120) (hg2 : 0 ≤ g2 ∧ g2 < gc) (hne : g1 ≠ g2) (k1 : k ≠ g1) (k2 : k ≠ g2) (hk : 0 ≤ k ∧ k < gc) (hz : ∀ c d, 0 ≤ c → c < k → 0 ≤ d → d < gc → ¬ Q4 T p q g1 g2 c d) (hG : GW gc T (sp_eq (T g1 * T k * q) (T g2 * p)) g1 g2 k r) (hr : ¬ r = -6) : Sec gc T p q g1 g2 k r := by
  rcases hG with hG | ⟨h1, h2, h3⟩
  · exact absurd hG.1 hr
  · refine ⟨hk, h1, (sec_eq hp hT hg2 hne k1 k2 h1).mpr h2, fun a' b' a1 a2 b1 b2 hlt hq => ?_⟩
    by_cases e : a' < k
    · exact hz a' b' a1 e b1 b2 hq
    · have e2 : a' = k := by omega
      rw [e2] at hq
      exact h3 b' b1 (by omega) ((sec_eq hp hT hg2 hne k1 k2 ⟨b1, b2⟩).mp hq)
theorem sec_step {T : Int → Int} {gc p q g1 g2 k r : Int} (hp : 1 ≤ p) (hT : ∀ j, 0 ≤ j → j < gc → 12 ≤ T j ∧ T j ≤ 120) (hg2 : 0 ≤ g2 ∧ g2 < gc) (hne : g1 ≠ g2) (k1 : k ≠ g1) (k2 : k ≠ g2) (hz : ∀ c d, 0 ≤ c → c < k → 0 ≤ d → d < gc → ¬ Q4 T p q g1 g2 c d) (hG : GW gc T (sp_eq (T g1 * T k * q) (T g2 * p)) g1 g2 k r) (hr : r = -6) : ∀ c d, 0 ≤ c → c < k + 1 → 0 ≤ d → d < gc → ¬ Q4 T p q g1 g2 c d := by
  intro a b a1 a2 b1 b2 hq
  by_cases e : a < k
  · exact hz a b a1 e b1 b2 hq
  · have e2 : a = k := by omega
    rw [e2] at hq
    rcases hG with hG | ⟨h1, -, -⟩
    · exact hG.2 b b1 b2 ((sec_eq hp hT hg2 hne k1 k2 ⟨b1, b2⟩).mp hq)
    · omega
theorem sec_skip {T : Int → Int} {gc p q g1 g2 k : Int} (hk : k = g1 ∨ k = g2) (hz : ∀ c d, 0 ≤ c → c < k → 0 ≤ d → d < gc → ¬ Q4 T p q g1 g2 c d) : ∀ c d, 0 ≤ c → c < k + 1 → 0 ≤ d → d < gc → ¬ Q4 T p q g1 g2 c d := by
  intro a b a1 a2 b1 b2 hq
  by_cases e : a < k
  · exact hz a b a1 e b1 b2 hq
  · have := hq.1
    omega
theorem four_found {T : Int → Int} {gc p q x1 x2 c d : Int} (hgc : gc ≤ 10) (h1 : 0 ≤ x1 ∧ x1 < gc) (h2 : 0 ≤ x2 ∧ x2 < gc) (hz : ∀ a b c d, 0 ≤ a → a < x1 → 0 ≤ b → b < gc → 0 ≤ c → c < gc → 0 ≤ d → d < gc → ¬ Q4 T p q a b c d) (hz2 : ∀ b c d, 0 ≤ b → b < x2 → 0 ≤ c → c < gc → 0 ≤ d → d < gc → ¬ Q4 T p q x1 b c d) (hs : Sec gc T p q x1 x2 c d) : Four gc T p q x1 x2 c d := by
  obtain ⟨s1, s2, s3, s4⟩ := hs
  refine ⟨h1, h2, s1, s2, s3, fun a' b' c' d' a1 a2 b1 b2 c1 c2 d1 d2 hlt hq => ?_⟩
  by_cases e : a' < x1
  · exact hz a' b' c' d' a1 e b1 b2 c1 c2 d1 d2 hq
  · have ea : a' = x1 := by omega
    rw [ea] at hq
    by_cases e2 : b' < x2
    · exact hz2 b' c' d' b1 e2 c1 c2 d1 d2 hq
    · have eb : b' = x2 := by omega
      rw [eb] at hq
      exact s4 c' d' c1 c2 d1 d2 (by omega) hq
def sel (a b c d k : Int) : Int := if k = 0 then a else if k = 1 then b else if k = 2 then c else d
theorem sel_eq {u : Int → Int} {k : Int} (h : 0 ≤ k ∧ k ≤ 3) : u k = sel (u 0) (u 1) (u 2) (u 3) k := by
  unfold sel
  have h4 : k = 0 ∨ k = 1 ∨ k = 2 ∨ k = 3 := by omega
  rcases h4 with rfl | rfl | rfl | rfl <;> rfl
def P_train (gc : Int) (T : Int → Int) (p q what i : Int) : Prop :=
  ((((p < 1 ∨ 1000000 < p) ∨ (q < 1 ∨ 1000000 < q)) ∨ (what < 0 ∨ 3 < what)) ∧ i = -2) ∨
  (¬ (((p < 1 ∨ 1000000 < p) ∨ (q < 1 ∨ 1000000 < q)) ∨ (what < 0 ∨ 3 < what)) ∧ NoTr gc T p q ∧ i = -6) ∨
  (¬ (((p < 1 ∨ 1000000 < p) ∨ (q < 1 ∨ 1000000 < q)) ∨ (what < 0 ∨ 3 < what)) ∧ ∃ a b c d, Tr gc T p q a b c d ∧ i = sel a b c d what)
theorem P_train_det {gc p q what i j : Int} {T : Int → Int} (hgc : gc ≤ 10) (hi : P_train gc T p q what i) (hj : P_train gc T p q what j) : i = j := by
  rcases hi with ⟨h1, h2⟩ | ⟨h1, h2, h3⟩ | ⟨h1, a, b, c, d, h2, h3⟩ <;> rcases hj with ⟨g1, g2⟩ | ⟨g1, g2, g3⟩ | ⟨g1, a', b', c', d', g2, g3⟩
  · omega
  · exact absurd h1 g1
  · exact absurd h1 g1
  · exact absurd g1 h1
  · omega
  · exact absurd h2 (Tr_no g2)
  · exact absurd g1 h1
  · exact absurd g2 (Tr_no h2)
  · obtain ⟨rfl, rfl, rfl, rfl⟩ := Tr_det hgc h2 g2
    rw [h3, g3]
def mk (n j : Int) : Int := if j % 2 = 0 then n - j / 2 else n + j / 2
theorem mk_e {n k : Int} : mk n (2 * k) = n - k := by
  unfold mk
  rw [if_pos (by omega)]
  omega
theorem mk_o {n k : Int} : mk n (2 * k + 1) = n + k := by
  unfold mk
  rw [if_neg (by omega)]
  omega
def Gd (w cc : Int) (H : Int → Int) (gc : Int) (T : Int → Int) (n j : Int) : Prop := (2 ≤ mk n j ∧ mk n j ≤ 1000) ∧ sp_pl w H (mk n j) cc ≠ -6 ∧ ¬ NoTr gc T (j / 2 * w) (mk n j)
def dsel (w cc : Int) (H : Int → Int) (n what j a b c d : Int) : Int := if what = 0 then mk n j else if what = 1 then sp_pl w H (mk n j) cc else if what = 6 then (if n < mk n j then 1 else 0) else sel a b c d (what - 2)
def P_diff (w cc : Int) (H : Int → Int) (gc : Int) (T : Int → Int) (n what i : Int) : Prop :=
  (((n < 2 ∨ 1000 < n) ∨ (what < 0 ∨ 6 < what)) ∧ i = -2) ∨
  (¬ ((n < 2 ∨ 1000 < n) ∨ (what < 0 ∨ 6 < what)) ∧ (∀ j, 2 ≤ j → j < 22 → ¬ Gd w cc H gc T n j) ∧ i = -6) ∨
  (¬ ((n < 2 ∨ 1000 < n) ∨ (what < 0 ∨ 6 < what)) ∧ ∃ j a b c d, (2 ≤ j ∧ j < 22) ∧ Gd w cc H gc T n j ∧ (∀ j', 2 ≤ j' → j' < j → ¬ Gd w cc H gc T n j') ∧ Tr gc T (j / 2 * w) (mk n j) a b c d ∧ i = dsel w cc H n what j a b c d)
theorem P_diff_det {w cc gc n what i j : Int} {H T : Int → Int} (hgc : gc ≤ 10) (hi : P_diff w cc H gc T n what i) (hj : P_diff w cc H gc T n what j) : i = j := by
  rcases hi with ⟨h1, h2⟩ | ⟨h1, h2, h3⟩ | ⟨h1, k, a, b, c, d, h2, h3, h4, h5, h6⟩ <;> rcases hj with ⟨g1, g2⟩ | ⟨g1, g2, g3⟩ | ⟨g1, k', a', b', c', d', g2, g3, g4, g5, g6⟩
  · omega
  · exact absurd h1 g1
  · exact absurd h1 g1
  · exact absurd g1 h1
  · omega
  · exact absurd g3 (h2 k' g2.1 g2.2)
  · exact absurd g1 h1
  · exact absurd h3 (g2 k h2.1 h2.2)
  · have e1 : ¬ k' < k := fun q => h4 k' g2.1 q g3
    have e2 : ¬ k < k' := fun q => g4 k h2.1 q h3
    have e3 : k = k' := by omega
    subst e3
    obtain ⟨rfl, rfl, rfl, rfl⟩ := Tr_det hgc h5 g5
    rw [h6, g6]
/-- what standsIn answers, m being n less or and k -/
def SI (w cc : Int) (H : Int → Int) (gc : Int) (T : Int → Int) (x n i : Int) (u : Int → Int) : Prop := (i = 1 ∧ ((2 ≤ x ∧ x ≤ 1000) ∧ sp_pl w H x cc ≠ -6) ∧ Tr gc T (((Int.natAbs (x - n) : Nat) : Int) * w) x (u 0) (u 1) (u 2) (u 3)) ∨ (i = 0 ∧ ¬ (((2 ≤ x ∧ x ≤ 1000) ∧ sp_pl w H x cc ≠ -6) ∧ ¬ NoTr gc T (((Int.natAbs (x - n) : Nat) : Int) * w) x))
def PB (w cc : Int) (H : Int → Int) (gc : Int) (T : Int → Int) (n i : Int) (u : Int → Int) : Prop := (∃ j, (2 ≤ j ∧ j < 22) ∧ Gd w cc H gc T n j ∧ (∀ j', 2 ≤ j' → j' < j → ¬ Gd w cc H gc T n j') ∧ Tr gc T (j / 2 * w) (mk n j) (u 0) (u 1) (u 2) (u 3) ∧ i = mk n j) ∨ ((∀ j, 2 ≤ j → j < 22 → ¬ Gd w cc H gc T n j) ∧ i = -6)
theorem SI_key {w cc gc n j x k i : Int} {H T u : Int → Int} (hk : 0 ≤ k) (hj : j / 2 = k) (hm : mk n j = x) (hx : x = n - k ∨ x = n + k) (h : SI w cc H gc T x n i u) : (i = 1 ∧ Gd w cc H gc T n j ∧ Tr gc T (j / 2 * w) (mk n j) (u 0) (u 1) (u 2) (u 3)) ∨ (i = 0 ∧ ¬ Gd w cc H gc T n j) := by
  have e : ((Int.natAbs (x - n) : Nat) : Int) = k := by omega
  unfold SI at h
  unfold Gd
  rw [e] at h
  rw [hm, hj]
  rcases h with ⟨h1, h2, h3⟩ | ⟨h1, h2⟩
  · exact Or.inl ⟨h1, ⟨h2.1, h2.2, Tr_no h3⟩, h3⟩
  · exact Or.inr ⟨h1, fun q => h2 ⟨⟨q.1, q.2.1⟩, q.2.2⟩⟩
theorem PB_e {w cc gc n k i : Int} {H T u : Int → Int} (hk : 1 ≤ k ∧ k ≤ 10) (hz : ∀ j, 2 ≤ j → j < 2 * k → ¬ Gd w cc H gc T n j) (h : SI w cc H gc T (n - k) n i u) (hi : ¬ i = 0) : PB w cc H gc T n (n - k) u := by
  rcases SI_key (j := 2 * k) (k := k) (by omega) (by omega) mk_e (Or.inl rfl) h with ⟨h1, h2, h3⟩ | ⟨h1, -⟩
  · exact Or.inl ⟨2 * k, by omega, h2, hz, h3, mk_e.symm⟩
  · exact absurd h1 hi
theorem PB_o {w cc gc n k i i2 : Int} {H T u u2 : Int → Int} (hk : 1 ≤ k ∧ k ≤ 10) (hz : ∀ j, 2 ≤ j → j < 2 * k → ¬ Gd w cc H gc T n j) (h : SI w cc H gc T (n - k) n i u) (hi : i = 0) (h2 : SI w cc H gc T (n + k) n i2 u2) (hi2 : ¬ i2 = 0) : PB w cc H gc T n (n + k) u2 := by
  rcases SI_key (j := 2 * k) (k := k) (by omega) (by omega) mk_e (Or.inl rfl) h with ⟨h1, -⟩ | ⟨-, g⟩
  · omega
  rcases SI_key (j := 2 * k + 1) (k := k) (by omega) (by omega) mk_o (Or.inr rfl) h2 with ⟨h1, h2, h3⟩ | ⟨h1, -⟩
  · exact Or.inl ⟨2 * k + 1, by omega, h2, fun j a b => if e : j = 2 * k then (by rw [e]; exact g) else hz j a (by omega), h3, mk_o.symm⟩
  · exact absurd h1 hi2
theorem PB_s {w cc gc n k i i2 : Int} {H T u u2 : Int → Int} (hk : 1 ≤ k ∧ k ≤ 10) (hz : ∀ j, 2 ≤ j → j < 2 * k → ¬ Gd w cc H gc T n j) (h : SI w cc H gc T (n - k) n i u) (hi : i = 0) (h2 : SI w cc H gc T (n + k) n i2 u2) (hi2 : i2 = 0) : ∀ j, 2 ≤ j → j < 2 * (k + 1) → ¬ Gd w cc H gc T n j := by
  rcases SI_key (j := 2 * k) (k := k) (by omega) (by omega) mk_e (Or.inl rfl) h with ⟨h1, -⟩ | ⟨-, g⟩
  · omega
  rcases SI_key (j := 2 * k + 1) (k := k) (by omega) (by omega) mk_o (Or.inr rfl) h2 with ⟨h1, -⟩ | ⟨-, g2⟩
  · omega
  · intro j a b
    by_cases e : j = 2 * k
    · rw [e]
      exact g
    · by_cases e2 : j = 2 * k + 1
      · rw [e2]
        exact g2
      · exact hz j a (by omega)
theorem m4_step {gc p q k x6 x7 x8 x9 : Int} {T : Int → Int} (hgc : gc ≤ 10) (hd : k = 1000 * x6 + 100 * x7 + 10 * x8 + x9) (h6 : 0 ≤ x6 ∧ x6 ≤ 9) (h7 : 0 ≤ x7 ∧ x7 ≤ 9) (h8 : 0 ≤ x8 ∧ x8 ≤ 9) (h9 : 0 ≤ x9 ∧ x9 ≤ 9) (hz : ∀ a b c d, 0 ≤ a → a < gc → 0 ≤ b → b < gc → 0 ≤ c → c < gc → 0 ≤ d → d < gc → 1000 * a + 100 * b + 10 * c + d < k → ¬ Q4 T p q a b c d) (hno : ¬ ((x6 < gc ∧ x7 < gc ∧ x8 < gc ∧ x9 < gc) ∧ Q4 T p q x6 x7 x8 x9)) : ∀ a b c d, 0 ≤ a → a < gc → 0 ≤ b → b < gc → 0 ≤ c → c < gc → 0 ≤ d → d < gc → 1000 * a + 100 * b + 10 * c + d < k + 1 → ¬ Q4 T p q a b c d := by
  intro a b c d a1 a2 b1 b2 c1 c2 d1 d2 hlt hq
  by_cases e : 1000 * a + 100 * b + 10 * c + d < k
  · exact hz a b c d a1 a2 b1 b2 c1 c2 d1 d2 e hq
  · have e1 : a = x6 := by omega
    have e2 : b = x7 := by omega
    have e3 : c = x8 := by omega
    have e4 : d = x9 := by omega
    rw [e1, e2, e3, e4] at hq
    exact hno ⟨⟨by omega, by omega, by omega, by omega⟩, hq⟩
/-- the calls that write -/
def R_wheel (w x i w' : Int) : Prop := ((10 ≤ x ∧ x ≤ 200) ∧ i = w ∧ w' = x) ∨ (¬ (10 ≤ x ∧ x ≤ 200) ∧ i = -2 ∧ w' = w)
def R_circle (H : Int → Int) (cc x i cc' : Int) (H' : Int → Int) : Prop :=
  (¬ (5 ≤ x ∧ x ≤ 120) ∧ i = -2 ∧ cc' = cc ∧ H' = H) ∨ ((5 ≤ x ∧ x ≤ 120) ∧ 8 ≤ cc ∧ i = -4 ∧ cc' = cc ∧ H' = H) ∨ ((5 ≤ x ∧ x ≤ 120) ∧ cc < 8 ∧ (∃ j, 0 ≤ j ∧ j < cc ∧ H j = x) ∧ i = -5 ∧ cc' = cc ∧ H' = H) ∨ ((5 ≤ x ∧ x ≤ 120) ∧ cc < 8 ∧ (¬ ∃ j, 0 ≤ j ∧ j < cc ∧ H j = x) ∧ i = cc ∧ cc' = cc + 1 ∧ H' = jU H cc x)
def R_gear (T : Int → Int) (gc x i gc' : Int) (T' : Int → Int) : Prop :=
  (¬ (12 ≤ x ∧ x ≤ 120) ∧ i = -2 ∧ gc' = gc ∧ T' = T) ∨ ((12 ≤ x ∧ x ≤ 120) ∧ 10 ≤ gc ∧ i = -4 ∧ gc' = gc ∧ T' = T) ∨ ((12 ≤ x ∧ x ≤ 120) ∧ gc < 10 ∧ i = gc ∧ gc' = gc + 1 ∧ T' = jU T gc x)
def R_error (E : Int → Int) (k x i : Int) (E' : Int → Int) : Prop :=
  (¬ (0 ≤ k ∧ k ≤ 7) ∧ i = -1001 ∧ E' = E) ∨ ((0 ≤ k ∧ k ≤ 7) ∧ ¬ (-100 ≤ x ∧ x ≤ 100) ∧ i = -1002 ∧ E' = E) ∨ ((0 ≤ k ∧ k ≤ 7) ∧ (-100 ≤ x ∧ x ≤ 100) ∧ i = E k ∧ E' = jU E k x)
def R_vernier (d v x y i d' v' : Int) : Prop := (((2 ≤ x ∧ x ≤ 720) ∧ (2 ≤ y ∧ y ≤ 60)) ∧ i = 1 ∧ d' = x ∧ v' = y) ∨ (¬ ((2 ≤ x ∧ x ≤ 720) ∧ (2 ≤ y ∧ y ≤ 60)) ∧ i = -2 ∧ d' = d ∧ v' = v)
