/-! the mathematical values that both sides answer -/
theorem iv_n (n : Int) : n ≤ n ∧ n ≤ n := ⟨Int.le_refl n, Int.le_refl n⟩
theorem bI_01 {P : Prop} : bI P = 0 ∨ bI P = 1 := by
  rcases @bI_c P with h | h
  · exact Or.inr h.1
  · exact Or.inl h.1
def sp_holesAt (cc : Int) (H : Int → Int) (x : Int) : Int := if 0 ≤ x ∧ x < cc then H x else 0
def sp_holes (cc : Int) (H : Int → Int) (x : Int) : Int := if 0 ≤ x ∧ x < cc then H x else -1
theorem sp_holesAt_in {cc x : Int} {H : Int → Int} (h : 0 ≤ x ∧ x < cc) : sp_holesAt cc H x = H x := if_pos h
theorem sp_holesAt_out {cc x : Int} {H : Int → Int} (h : ¬ (0 ≤ x ∧ x < cc)) : sp_holesAt cc H x = 0 := if_neg h
/-- upper by lower, if whole; else 0 -/
def sp_eq (up low : Int) : Int := if low < 1 ∨ up.tmod low ≠ 0 then 0 else up.tdiv low
theorem sp_eq_0 {up low : Int} (h : low < 1 ∨ up.tmod low ≠ 0) : sp_eq up low = 0 := if_pos h
theorem sp_eq_1 {up low : Int} (h1 : 1 ≤ low) (h2 : up.tmod low = 0) : sp_eq up low = up.tdiv low := if_neg (by omega)
/-- nearest, of two the lesser; the greater -/
def sp_nol (up low : Int) : Int := (2 * up + low - 1) / (2 * low)
def sp_nog (up low : Int) : Int := (2 * up + low) / (2 * low)
/-- PLAIN -/
def plr (w : Int) (H : Int → Int) (n : Int) : Nat → Int
  | 0 => -6
  | k + 1 => if (w * H k).tmod n = 0 ∧ (plr w H n k = -6 ∨ H k < H (plr w H n k)) then (k : Int) else plr w H n k
def sp_pl (w : Int) (H : Int → Int) (n c : Int) : Int := plr w H n c.toNat
theorem sp_pl_0 {w n : Int} {H : Int → Int} : sp_pl w H n 0 = -6 := rfl
theorem sp_pl_s {w n c : Int} {H : Int → Int} (hc : 0 ≤ c) : sp_pl w H n (c + 1) = if (w * H c).tmod n = 0 ∧ (sp_pl w H n c = -6 ∨ H c < H (sp_pl w H n c)) then c else sp_pl w H n c := by
  have h1 : (c + 1).toNat = c.toNat + 1 := by omega
  have h2 : ((c.toNat : Nat) : Int) = c := by omega
  unfold sp_pl
  rw [h1, plr, h2]
theorem plr_rng (w : Int) (H : Int → Int) (n : Int) : ∀ k : Nat, plr w H n k = -6 ∨ (0 ≤ plr w H n k ∧ plr w H n k < (k : Int)) := by
  intro k
  induction k with
  | zero => exact Or.inl rfl
  | succ k ih =>
    rw [plr]
    split
    · right
      omega
    · omega
theorem sp_pl_rng {w n c : Int} {H : Int → Int} (hc : 0 ≤ c) : sp_pl w H n c = -6 ∨ (0 ≤ sp_pl w H n c ∧ sp_pl w H n c < c) := by
  have h := plr_rng w H n c.toNat
  unfold sp_pl
  omega
theorem sp_pl_iv {w n c : Int} {H : Int → Int} (hc : 0 ≤ c ∧ c ≤ 8) : -6 ≤ sp_pl w H n c ∧ sp_pl w H n c ≤ 7 := by
  have h := @sp_pl_rng w n c H hc.1
  omega
def sp_plain (w cc : Int) (H : Int → Int) (n what : Int) : Int := if (n < 2 ∨ 1000 < n) ∨ (what < 0 ∨ 2 < what) then -2 else if sp_pl w H n cc = -6 then -6 else if what = 0 then sp_pl w H n cc else if what = 1 then w / n else w % n * H (sp_pl w H n cc) / n
/-- COMPOUND -/
def sp_fs (w hh hk n b : Int) : Int := sp_eq (hh * (w * hk - b * n)) (n * hk)
def ssr (f : Int → Int) : Nat → Int → Int
  | 0, _ => 0
  | k + 1, s => if f s ≠ 0 then s else if f (-s) ≠ 0 then -s else ssr f k (s + 1)
def sp_ss (w hh hk n s : Int) : Int := ssr (sp_fs w hh hk n) (hk + 1 - s).toNat s
theorem sp_ss_end {w hh hk n s : Int} (h : hk < s) : sp_ss w hh hk n s = 0 := by
  unfold sp_ss
  rw [show (hk + 1 - s).toNat = 0 by omega]
  rfl
theorem sp_ss_s {w hh hk n s : Int} (h : s ≤ hk) : sp_ss w hh hk n s = if sp_fs w hh hk n s ≠ 0 then s else if sp_fs w hh hk n (-s) ≠ 0 then -s else sp_ss w hh hk n (s + 1) := by
  unfold sp_ss
  rw [show (hk + 1 - s).toNat = (hk + 1 - (s + 1)).toNat + 1 by omega, ssr]
theorem ssr_rng (f : Int → Int) : ∀ (k : Nat) (s B : Int), 1 ≤ s → s + k ≤ B + 1 → -B ≤ ssr f k s ∧ ssr f k s ≤ B := by
  intro k
  induction k with
  | zero =>
    intro s B h1 h2
    show -B ≤ (0 : Int) ∧ (0 : Int) ≤ B
    omega
  | succ k ih =>
    intro s B h1 h2
    have h3 := ih (s + 1) B (by omega) (by omega)
    rw [ssr]
    split
    · omega
    · split <;> omega
theorem sp_ss_iv {w hh hk n : Int} (h : 5 ≤ hk ∧ hk ≤ 120) : -120 ≤ sp_ss w hh hk n 1 ∧ sp_ss w hh hk n 1 ≤ 120 := by
  have := ssr_rng (sp_fs w hh hk n) (hk + 1 - 1).toNat 1 120 (by omega) (by omega)
  exact this
def sp_sec (w : Int) (H : Int → Int) (n h k : Int) : Int := sp_ss w (H h) (H k) n 1
def sp_ct (w : Int) (H : Int → Int) (n h k b what : Int) : Int := if what = 0 then h else if what = 1 then sp_fs w (H h) (H k) n b else if what = 2 then k else b
/-- the answer of compound -/
def P_compound (w cc : Int) (H : Int → Int) (n what i : Int) : Prop :=
  (((n < 2 ∨ 1000 < n) ∨ (what < 0 ∨ 3 < what)) ∧ i = -1000000002) ∨
  (¬ ((n < 2 ∨ 1000 < n) ∨ (what < 0 ∨ 3 < what)) ∧ (∀ h k, 0 ≤ h → h < k → k < cc → sp_sec w H n h k = 0) ∧ i = -1000000005) ∨
  (¬ ((n < 2 ∨ 1000 < n) ∨ (what < 0 ∨ 3 < what)) ∧ ∃ h k, (0 ≤ h ∧ h < k ∧ k < cc) ∧ sp_sec w H n h k ≠ 0 ∧ (∀ h' k', 0 ≤ h' → h' < k' → k' < cc → (h' < h ∨ (h' = h ∧ k' < k)) → sp_sec w H n h' k' = 0) ∧ i = sp_ct w H n h k (sp_sec w H n h k) what)
theorem P_compound_det {w cc n what i j : Int} {H : Int → Int} (hi : P_compound w cc H n what i) (hj : P_compound w cc H n what j) : i = j := by
  rcases hi with ⟨a1, a2⟩ | ⟨a0, a1, a2⟩ | ⟨a0, h, k, a1, a2, a3, a4⟩ <;> rcases hj with ⟨b1, b2⟩ | ⟨b0, b1, b2⟩ | ⟨b0, h', k', b1, b2, b3, b4⟩
  · omega
  · exact absurd a1 b0
  · exact absurd a1 b0
  · exact absurd b1 a0
  · omega
  · exact absurd (a1 h' k' b1.1 b1.2.1 b1.2.2) b2
  · exact absurd b1 a0
  · exact absurd (b1 h k a1.1 a1.2.1 a1.2.2) a2
  · have e1 : ¬ (h' < h ∨ (h' = h ∧ k' < k)) := fun q => b2 (a3 h' k' b1.1 b1.2.1 b1.2.2 q)
    have e2 : ¬ (h < h' ∨ (h = h' ∧ k < k')) := fun q => a2 (b3 h k a1.1 a1.2.1 a1.2.2 q)
    have e3 : h = h' := by omega
    have e4 : k = k' := by omega
    subst e3
    subst e4
    rw [a4, b4]
/-- cuts -/
def sp_hn (w hc n i : Int) : Int := sp_nog (i * w * hc) n
def sp_ms (w hc n i : Int) : Int := sp_hn w hc n i * n - i * w * hc
def wfr (w hc n : Int) : Nat → Int
  | 0 => 0
  | k + 1 => max (wfr w hc n k) ((Int.natAbs (sp_ms w hc n k) : Nat) : Int)
def sp_wf (w hc n i : Int) : Int := wfr w hc n i.toNat
theorem sp_wf_0 {w hc n : Int} : sp_wf w hc n 0 = 0 := rfl
theorem sp_wf_s {w hc n i : Int} (hi : 0 ≤ i) : sp_wf w hc n (i + 1) = max (sp_wf w hc n i) ((Int.natAbs (sp_ms w hc n i) : Nat) : Int) := by
  unfold sp_wf
  rw [show (i + 1).toNat = i.toNat + 1 by omega, wfr, show ((i.toNat : Nat) : Int) = i by omega]
def sp_wu (w hc n : Int) : Int := sp_wf w hc n (n + 1)
def xfr (w hc n : Int) : Nat → Int
  | 0 => 0
  | k + 1 => if sp_ms w hc n k = 0 then xfr w hc n k + 1 else xfr w hc n k
def sp_xf (w hc n i : Int) : Int := xfr w hc n i.toNat
theorem sp_xf_0 {w hc n : Int} : sp_xf w hc n 0 = 0 := rfl
theorem sp_xf_s {w hc n i : Int} (hi : 0 ≤ i) : sp_xf w hc n (i + 1) = if sp_ms w hc n i = 0 then sp_xf w hc n i + 1 else sp_xf w hc n i := by
  unfold sp_xf
  rw [show (i + 1).toNat = i.toNat + 1 by omega, xfr, show ((i.toNat : Nat) : Int) = i by omega]
theorem nog_bd {x n : Int} (hn : 0 < n) : -n ≤ 2 * (sp_nog x n * n - x) ∧ 2 * (sp_nog x n * n - x) ≤ n := by
  unfold sp_nog
  have h1 := Int.emod_add_mul_ediv (2 * x + n) (2 * n)
  have h2 := Int.emod_nonneg (2 * x + n) (b := 2 * n) (by omega)
  have h3 := Int.emod_lt_of_pos (2 * x + n) (b := 2 * n) (by omega)
  rw [Int.mul_assoc, Int.mul_comm n] at h1
  omega
theorem sp_ms_iv {w hc n i : Int} (hn : 2 ≤ n ∧ n ≤ 1000) : -500 ≤ sp_ms w hc n i ∧ sp_ms w hc n i ≤ 500 := by
  have := @nog_bd (i * w * hc) n (by omega)
  unfold sp_ms sp_hn
  omega
theorem wfr_iv {w hc n : Int} (hn : 2 ≤ n ∧ n ≤ 1000) : ∀ k : Nat, 0 ≤ wfr w hc n k ∧ wfr w hc n k ≤ 500 := by
  intro k
  induction k with
  | zero => exact (show (0 : Int) ≤ 0 ∧ (0 : Int) ≤ 500 from by decide)
  | succ k ih =>
    have := @sp_ms_iv w hc n k hn
    rw [wfr]
    omega
theorem sp_wf_iv {w hc n i : Int} (hn : 2 ≤ n ∧ n ≤ 1000) : 0 ≤ sp_wf w hc n i ∧ sp_wf w hc n i ≤ 500 := wfr_iv hn _
theorem sp_wu_iv {w hc n : Int} (hn : 2 ≤ n ∧ n ≤ 1000) : 0 ≤ sp_wu w hc n ∧ sp_wu w hc n ≤ 500 := wfr_iv hn _
theorem sp_hn_iv {w hc n i : Int} (hw : 10 ≤ w ∧ w ≤ 200) (hc' : 5 ≤ hc ∧ hc ≤ 120) (hi : 0 ≤ i ∧ i ≤ 1000) (hn : 2 ≤ n ∧ n ≤ 1000) : 0 ≤ sp_hn w hc n i ∧ sp_hn w hc n i ≤ 48001000 := by
  have h1 : 0 ≤ i * w * hc ∧ i * w * hc ≤ 24000000 := iv_mulp (iv_mulp (lo := 0) (hi := 200000) hi hw (by decide)) hc' (by decide)
  unfold sp_hn sp_nog
  have h2 : 0 ≤ (2 * (i * w * hc) + n) / (2 * n) := Int.ediv_nonneg (by omega) (by omega)
  have h3 : (2 * (i * w * hc) + n) / (2 * n) ≤ (2 * (i * w * hc) + n) := Int.ediv_le_self _ (by omega)
  omega
/-- fractions -/
def sp_lt (up low what : Int) : Int := if what = 0 then up.tdiv (Int.gcd up low : Nat) else low.tdiv (Int.gcd up low : Nat)
def sp_hole (w cc : Int) (H : Int → Int) (c n i : Int) : Int := if ¬ (0 ≤ c ∧ c < cc) then -1 else if (n < 2 ∨ 1000 < n) ∨ (i < 0 ∨ n < i) then -2 else sp_hn w (H c) n i
def sp_miss (w cc : Int) (H : Int → Int) (c n i what : Int) : Int := if ¬ (0 ≤ c ∧ c < cc) then -1000000001 else if (n < 2 ∨ 1000 < n) ∨ (i < 0 ∨ n < i) ∨ (what < 0 ∨ 1 < what) then -1000000002 else sp_lt (sp_ms w (H c) n i) n what
def sp_worst (w cc : Int) (H : Int → Int) (c n what : Int) : Int := if ¬ (0 ≤ c ∧ c < cc) then -1 else if (n < 2 ∨ 1000 < n) ∨ (what < 0 ∨ 2 < what) then -2 else if what = 2 then sp_xf w (H c) n n else sp_lt (sp_wu w (H c) n) n what
def bsr (w : Int) (H : Int → Int) (n : Int) : Nat → Int
  | 0 => 0
  | k + 1 => if sp_wu w (H ((k : Int) + 1)) n * H (bsr w H n k) < sp_wu w (H (bsr w H n k)) n * H ((k : Int) + 1) then (k : Int) + 1 else bsr w H n k
/-- the best of circles 0 to c - 1 -/
def sp_bs (w : Int) (H : Int → Int) (n c : Int) : Int := bsr w H n (c - 1).toNat
theorem sp_bs_1 {w n : Int} {H : Int → Int} : sp_bs w H n 1 = 0 := rfl
theorem sp_bs_s {w n c : Int} {H : Int → Int} (hc : 1 ≤ c) : sp_bs w H n (c + 1) = if sp_wu w (H c) n * H (sp_bs w H n c) < sp_wu w (H (sp_bs w H n c)) n * H c then c else sp_bs w H n c := by
  unfold sp_bs
  rw [show (c + 1 - 1).toNat = (c - 1).toNat + 1 by omega, bsr, show (((c - 1).toNat : Nat) : Int) + 1 = c by omega]
theorem bsr_rng {w n : Int} {H : Int → Int} : ∀ k : Nat, 0 ≤ bsr w H n k ∧ bsr w H n k ≤ (k : Int) := by
  intro k
  induction k with
  | zero => exact (show (0 : Int) ≤ 0 ∧ (0 : Int) ≤ ((0 : Nat) : Int) from by decide)
  | succ k ih =>
    rw [bsr]
    split <;> omega
theorem sp_bs_rng {w n c : Int} {H : Int → Int} (hc : 1 ≤ c) : 0 ≤ sp_bs w H n c ∧ sp_bs w H n c < c := by
  have h := @bsr_rng w n H (c - 1).toNat
  unfold sp_bs
  omega
def sp_best (w cc : Int) (H : Int → Int) (n : Int) : Int := if n < 2 ∨ 1000 < n then -2 else if cc = 0 then -3 else sp_bs w H n cc
/-- the worm -/
def sp_er (E : Int → Int) (hc s i : Int) : Int := E ((i * s) % hc * 8 / hc % 8) * (hc - (i * s) % hc * 8 % hc) + E (((i * s) % hc * 8 / hc + 1) % 8) * ((i * s) % hc * 8 % hc)
theorem sp_er_iv {E : Int → Int} {hc s i : Int} (hE : ∀ j, 0 ≤ j → j < 8 → -100 ≤ E j ∧ E j ≤ 100) (h : 5 ≤ hc ∧ hc ≤ 120) : -24000 ≤ sp_er E hc s i ∧ sp_er E hc s i ≤ 24000 := by
  have hm := fun x : Int => And.intro (Int.emod_nonneg x (b := 8) (by omega)) (Int.emod_lt_of_pos x (b := 8) (by omega))
  have hb := And.intro (Int.emod_nonneg ((i * s) % hc * 8) (b := hc) (by omega)) (Int.emod_lt_of_pos ((i * s) % hc * 8) (b := hc) (by omega))
  have e1 := hE _ (hm ((i * s) % hc * 8 / hc)).1 (hm ((i * s) % hc * 8 / hc)).2
  have e2 := hE _ (hm ((i * s) % hc * 8 / hc + 1)).1 (hm ((i * s) % hc * 8 / hc + 1)).2
  unfold sp_er
  generalize E ((i * s) % hc * 8 / hc % 8) = x at e1 ⊢
  generalize E (((i * s) % hc * 8 / hc + 1) % 8) = y at e2 ⊢
  generalize (i * s) % hc * 8 % hc = z at hb ⊢
  have h1 : -12000 ≤ x * (hc - z) ∧ x * (hc - z) ≤ 12000 := iv_mul (la := -100) (ua := 100) (lb := 0) (ub := 120) 100 120 e1 (by omega) (by decide)
  have h2 : -12000 ≤ y * z ∧ y * z ≤ 12000 := iv_mul (la := -100) (ua := 100) (lb := 0) (ub := 120) 100 120 e2 (by omega) (by decide)
  omega
def sp_spoilt (cc : Int) (H E : Int → Int) (c s i what : Int) : Int := if ¬ (0 ≤ c ∧ c < cc) then -1000000001 else if (s < 1 ∨ 100000 < s) ∨ (i < 0 ∨ 10000 < i) ∨ (what < 0 ∨ 1 < what) then -1000000002 else sp_lt (sp_er E (H c) s i) (H c) what
def exr (E : Int → Int) (hc s what : Int) : Nat → Int
  | 0 => 0
  | k + 1 => if (what = 0 ∧ sp_er E hc s (exr E hc s what k) < sp_er E hc s ((k : Int) + 1)) ∨ (what ≠ 0 ∧ sp_er E hc s ((k : Int) + 1) < sp_er E hc s (exr E hc s what k)) then (k : Int) + 1 else exr E hc s what k
/-- the first of cuts 0 to i - 1 -/
def sp_ex (E : Int → Int) (hc s what i : Int) : Int := exr E hc s what (i - 1).toNat
theorem sp_ex_1 {E : Int → Int} {hc s what : Int} : sp_ex E hc s what 1 = 0 := rfl
theorem sp_ex_s {E : Int → Int} {hc s what i : Int} (hi : 1 ≤ i) : sp_ex E hc s what (i + 1) = if (what = 0 ∧ sp_er E hc s (sp_ex E hc s what i) < sp_er E hc s i) ∨ (what ≠ 0 ∧ sp_er E hc s i < sp_er E hc s (sp_ex E hc s what i)) then i else sp_ex E hc s what i := by
  unfold sp_ex
  rw [show (i + 1 - 1).toNat = (i - 1).toNat + 1 by omega, exr, show (((i - 1).toNat : Nat) : Int) + 1 = i by omega]
theorem exr_rng {E : Int → Int} {hc s what : Int} : ∀ k : Nat, 0 ≤ exr E hc s what k ∧ exr E hc s what k ≤ (k : Int) := by
  intro k
  induction k with
  | zero => exact (show (0 : Int) ≤ 0 ∧ (0 : Int) ≤ ((0 : Nat) : Int) from by decide)
  | succ k ih =>
    rw [exr]
    split <;> omega
theorem sp_ex_rng {E : Int → Int} {hc s what i : Int} (hi : 1 ≤ i) : 0 ≤ sp_ex E hc s what i ∧ sp_ex E hc s what i < i := by
  have h := @exr_rng E hc s what (i - 1).toNat
  unfold sp_ex
  omega
def sp_extreme (cc : Int) (H E : Int → Int) (c s n what : Int) : Int := if ¬ (0 ≤ c ∧ c < cc) then -1 else if (s < 1 ∨ 100000 < s) ∨ (n < 0 ∨ 1000 < n) ∨ (what < 0 ∨ 1 < what) then -2 else sp_ex E (H c) s what (n + 1)
/-- shares -/
def sp_gap (p q low : Int) : Int := ((Int.natAbs (sp_nol (p * low) q * q - p * low) : Nat) : Int)
def nrr (p q : Int) : Nat → Int
  | 0 => 1
  | k + 1 => if sp_gap p q ((k : Int) + 2) * nrr p q k < sp_gap p q (nrr p q k) * ((k : Int) + 2) then (k : Int) + 2 else nrr p q k
/-- the best of the lower numbers 1 to low -/
def sp_nr (p q low : Int) : Int := nrr p q (low - 1).toNat
theorem sp_nr_1 {p q : Int} : sp_nr p q 1 = 1 := rfl
theorem sp_nr_s {p q k : Int} (hk : 2 ≤ k) : sp_nr p q k = if sp_gap p q k * sp_nr p q (k - 1) < sp_gap p q (sp_nr p q (k - 1)) * k then k else sp_nr p q (k - 1) := by
  unfold sp_nr
  rw [show (k - 1).toNat = (k - 1 - 1).toNat + 1 by omega, nrr, show (((k - 1 - 1).toNat : Nat) : Int) + 2 = k by omega]
theorem nrr_rng {p q : Int} : ∀ k : Nat, 1 ≤ nrr p q k ∧ nrr p q k ≤ (k : Int) + 1 := by
  intro k
  induction k with
  | zero => exact (show (1 : Int) ≤ 1 ∧ (1 : Int) ≤ ((0 : Nat) : Int) + 1 from by decide)
  | succ k ih =>
    rw [nrr]
    split <;> omega
theorem sp_nr_rng {p q low : Int} (h : 1 ≤ low) : 1 ≤ sp_nr p q low ∧ sp_nr p q low ≤ low := by
  have h := @nrr_rng p q (low - 1).toNat
  unfold sp_nr
  omega
theorem nrr_stop {p q : Int} {k : Nat} (h : sp_gap p q (nrr p q k) = 0) : ∀ j : Nat, nrr p q (k + j) = nrr p q k := by
  intro j
  induction j with
  | zero => rfl
  | succ j ih =>
    rw [show k + (j + 1) = (k + j) + 1 from rfl, nrr, ih, h, Int.zero_mul, if_neg]
    have h1 := (@nrr_rng p q k).1
    have h2 : 0 ≤ sp_gap p q (((k + j : Nat) : Int) + 2) := by
      unfold sp_gap
      omega
    have := Int.mul_nonneg h2 (show 0 ≤ nrr p q k by omega)
    omega
theorem sp_nr_stop {p q a b : Int} (ha : 1 ≤ a) (hab : a ≤ b) (h : sp_gap p q (sp_nr p q a) ≤ 0) : sp_nr p q b = sp_nr p q a := by
  have h0 : sp_gap p q (sp_nr p q a) = 0 := by
    unfold sp_gap at h ⊢
    omega
  have := nrr_stop h0 ((b - a).toNat)
  unfold sp_nr
  rw [← this]
  congr 1
  omega
theorem nol_bd {x n : Int} (hn : 0 < n) : -n ≤ 2 * (sp_nol x n * n - x) ∧ 2 * (sp_nol x n * n - x) ≤ n := by
  unfold sp_nol
  have h1 := Int.emod_add_mul_ediv (2 * x + n - 1) (2 * n)
  have h2 := Int.emod_nonneg (2 * x + n - 1) (b := 2 * n) (by omega)
  have h3 := Int.emod_lt_of_pos (2 * x + n - 1) (b := 2 * n) (by omega)
  rw [Int.mul_assoc, Int.mul_comm n] at h1
  omega
theorem sp_gap_iv {p q low : Int} (hq : 1 ≤ q ∧ q ≤ 1000000) : 0 ≤ sp_gap p q low ∧ sp_gap p q low ≤ 500000 := by
  have := @nol_bd (p * low) q (by omega)
  unfold sp_gap
  omega
def sp_near (p q limit what : Int) : Int := if ((p < 1 ∨ 1000000 < p) ∨ (q < 1 ∨ 1000000 < q)) ∨ (limit < 1 ∨ 10000 < limit) ∨ (what < 0 ∨ 1 < what) then -2 else if what = 1 then sp_nr p q limit else sp_nol (p * sp_nr p q limit) q
/-- verniers -/
def sp_mm (d p q : Int) : Int := p * d / q
def sp_ln (d v p q : Int) : Int := sp_nol ((p * d - sp_mm d p q * q) * v) q
def sp_rd (d v p q : Int) : Int := sp_mm d p q * v + sp_ln d v p q
def sp_read (d v p q what : Int) : Int := if ((q < 1 ∨ 1000000 < q) ∨ (p < 0 ∨ q - 1 < p)) ∨ (what < 0 ∨ 2 < what) then -2 else if what = 0 then sp_mm d p q else if what = 1 then sp_ln d v p q else sp_rd d v p q
def sp_r1 (d v p q e : Int) : Int := sp_rd d v ((p * 1000000 + e * q) % (q * 1000000)) (q * 1000000)
def sp_r2 (d v p q e : Int) : Int := sp_rd d v ((p * 1000000 + q * 500000 - e * q) % (q * 1000000)) (q * 1000000)
def sp_two (d v p q e what : Int) : Int := if ((q < 1 ∨ 1000000 < q) ∨ (p < 0 ∨ q - 1 < p)) ∨ (e < -1000 ∨ 1000 < e) ∨ (what < 0 ∨ 1 < what) then -1000000002 else sp_lt (if sp_r2 d v p q e < sp_r1 d v p q e then 2 * (sp_r1 d v p q e + sp_r2 d v p q e) + d * v else 2 * (sp_r1 d v p q e + sp_r2 d v p q e) - d * v) 4 what
def sp_told (w cc gc d v what : Int) : Int := if what = 0 then w else if what = 1 then cc else if what = 2 then gc else if what = 3 then d else if what = 4 then v else -2
