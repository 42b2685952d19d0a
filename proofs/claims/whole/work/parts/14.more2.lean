theorem plain_eq {w h n : Int} (hw : 0 ≤ w) (hh : 0 < h) (hn : 0 < n) : w * h / n % h = w % n * h / n := by
  have e1 : w * h = w % n * h + n * (w / n * h) := by
    have := Int.emod_add_mul_ediv w n
    calc w * h = (w % n + n * (w / n)) * h := by rw [this]
      _ = w % n * h + n * (w / n * h) := by rw [Int.add_mul, Int.mul_assoc]
  rw [e1, Int.add_mul_ediv_left _ _ (by omega), Int.add_mul_emod_self_right]
  have h1 := Int.emod_nonneg w (b := n) (by omega)
  have h2 := Int.emod_lt_of_pos w (b := n) hn
  have h3 : 0 ≤ w % n * h := Int.mul_nonneg h1 (by omega)
  refine Int.emod_eq_of_lt (Int.ediv_nonneg h3 (by omega)) ?_
  refine Int.ediv_lt_of_lt_mul hn ?_
  rw [Int.mul_comm h n]
  exact Int.mul_lt_mul_of_pos_right h2 hh
theorem hn_eq {w hc n i : Int} : (2 * i * w * hc + n) / (2 * n) = sp_hn w hc n i := by
  unfold sp_hn sp_nog
  rw [Int.mul_assoc 2 i w, Int.mul_assoc 2 (i * w) hc]
theorem er_k {t h : Int} (hh : 5 ≤ h ∧ h ≤ 120) : 0 ≤ 8 * (t % h) / h ∧ 8 * (t % h) / h ≤ 7 := by
  have h1 := Int.emod_nonneg t (b := h) (by omega)
  have h2 := Int.emod_lt_of_pos t (b := h) (by omega)
  have h3 : 0 ≤ 8 * (t % h) / h := Int.ediv_nonneg (by omega) (by omega)
  have h4 : 8 * (t % h) / h < 8 := Int.ediv_lt_of_lt_mul (by omega) (by omega)
  omega
theorem er_eq {E : Int → Int} {h s i : Int} (hh : 5 ≤ h ∧ h ≤ 120) : E (8 * (i * s % h) / h) * h + (E ((8 * (i * s % h) / h + 1) % 8) - E (8 * (i * s % h) / h)) * (8 * (i * s % h) % h) = sp_er E h s i := by
  have hk := @er_k (i * s) h hh
  unfold sp_er
  rw [Int.mul_comm (i * s % h) 8, Int.emod_eq_of_lt (a := 8 * (i * s % h) / h) (b := 8) hk.1 (by omega), Int.mul_sub, Int.sub_mul]
  omega
theorem sp_left {d p q : Int} : p * d - sp_mm d p q * q = p * d % q := by
  unfold sp_mm
  have h := Int.emod_def (p * d) q
  rw [Int.mul_comm q] at h
  exact h.symm
theorem ln_eq {d v p q : Int} : (2 * (p * d % q) * v + q - 1) / (2 * q) = sp_ln d v p q := by
  unfold sp_ln sp_nol
  rw [sp_left, Int.mul_assoc 2]
theorem sp_mm_iv2 {d p q : Int} (hd : 2 ≤ d ∧ d ≤ 720) (hp : 0 ≤ p) (hq : 1 ≤ q) (h : p < q) : 0 ≤ sp_mm d p q ∧ sp_mm d p q ≤ 720 := by
  unfold sp_mm
  have h1 : 0 ≤ p * d := Int.mul_nonneg hp (by omega)
  have h2 : 0 ≤ p * d / q := Int.ediv_nonneg h1 (by omega)
  have h3 : p * d ≤ q * d := Int.mul_le_mul_of_nonneg_right (by omega) (by omega)
  have h4 : p * d / q ≤ d := Int.ediv_le_of_le_mul (by omega) (by rw [Int.mul_comm d]; exact h3)
  omega
theorem sp_ln_iv2 {d v p q : Int} (hv : 2 ≤ v ∧ v ≤ 60) (hq : 1 ≤ q) : 0 ≤ sp_ln d v p q ∧ sp_ln d v p q ≤ 60 := by
  unfold sp_ln sp_nol
  rw [sp_left]
  have h1 : 0 ≤ p * d % q := Int.emod_nonneg _ (by omega)
  have h0 : p * d % q < q := Int.emod_lt_of_pos _ (by omega)
  generalize p * d % q = x at h1 h0 ⊢
  have h2 : 0 ≤ x * v := Int.mul_nonneg h1 (by omega)
  have h3 : x * v ≤ q * v := Int.mul_le_mul_of_nonneg_right (by omega) (by omega)
  have h4 : 0 ≤ (2 * (x * v) + q - 1) / (2 * q) := Int.ediv_nonneg (by omega) (by omega)
  have h5 : (2 * (x * v) + q - 1) / (2 * q) < v + 1 := Int.ediv_lt_of_lt_mul (by omega) (by
    have h6 : v * (2 * q) = 2 * (q * v) := by rw [Int.mul_left_comm, Int.mul_comm v]
    rw [Int.add_mul, h6]
    omega)
  omega
theorem sp_rd_iv2 {d v p q : Int} (hd : 2 ≤ d ∧ d ≤ 720) (hv : 2 ≤ v ∧ v ≤ 60) (hp : 0 ≤ p) (hq : 1 ≤ q) (h : p < q) : 0 ≤ sp_rd d v p q ∧ sp_rd d v p q ≤ 43260 := by
  have h1 := sp_mm_iv2 hd hp hq h
  have h2 := sp_ln_iv2 (d := d) (p := p) hv hq
  have h3 : 0 ≤ sp_mm d p q * v ∧ sp_mm d p q * v ≤ 43200 := iv_mulp h1 hv (by decide)
  unfold sp_rd
  omega
theorem mm_two {d a c : Int} (hc : 0 < c) : sp_mm d (2 * a) (2 * c) = sp_mm d a c := by
  unfold sp_mm
  rw [Int.mul_assoc, Int.mul_ediv_mul_of_pos _ _ (by decide)]
theorem ln_two {d v a c : Int} (hc : 0 < c) : sp_ln d v (2 * a) (2 * c) = sp_ln d v a c := by
  unfold sp_ln sp_nol
  rw [sp_left, sp_left, Int.mul_assoc 2 a d, Int.mul_emod_mul_of_pos _ _ (by decide), Int.mul_assoc 2]
  generalize a * d % c * v = x
  have h1 : (2 * (2 * x) + 2 * c - 1) / (2 * (2 * c)) = (2 * (2 * x) + 2 * c - 1) / 2 / (2 * c) := by
    rw [Int.ediv_ediv_of_nonneg (by decide)]
  rw [h1]
  congr 1
  omega
theorem rd_two {d v a c : Int} (hc : 0 < c) : sp_rd d v (2 * a) (2 * c) = sp_rd d v a c := by
  unfold sp_rd
  rw [mm_two hc, ln_two hc]
theorem two_a {p q e : Int} (hq : 0 < q) : (2000000 * p + 2 * e * q + 2000000 * q) % (2000000 * q) = 2 * ((p * 1000000 + e * q) % (q * 1000000)) := by
  rw [← Int.mul_emod_mul_of_pos _ _ (show (0 : Int) < 2 by decide), show 2 * (q * 1000000) = 2000000 * q by omega, Int.add_emod_right, Int.mul_assoc 2 e q]
  congr 1
  omega
theorem two_b {p q e : Int} (hq : 0 < q) : (2000000 * p + 1000000 * q - 2 * e * q + 2000000 * q) % (2000000 * q) = 2 * ((p * 1000000 + q * 500000 - e * q) % (q * 1000000)) := by
  rw [← Int.mul_emod_mul_of_pos _ _ (show (0 : Int) < 2 by decide), show 2 * (q * 1000000) = 2000000 * q by omega, Int.add_emod_right, Int.mul_assoc 2 e q]
  congr 1
  omega
theorem two_r1 {d v p q e : Int} (hq : 0 < q) : sp_rd d v ((2000000 * p + 2 * e * q + 2000000 * q) % (2000000 * q)) (2000000 * q) = sp_r1 d v p q e := by
  unfold sp_r1
  rw [two_a hq, show 2000000 * q = 2 * (q * 1000000) by omega, rd_two (by omega)]
theorem two_r2 {d v p q e : Int} (hq : 0 < q) : sp_rd d v ((2000000 * p + 1000000 * q - 2 * e * q + 2000000 * q) % (2000000 * q)) (2000000 * q) = sp_r2 d v p q e := by
  unfold sp_r2
  rw [two_b hq, show 2000000 * q = 2 * (q * 1000000) by omega, rd_two (by omega)]
theorem sp_r1_iv {d v p q e : Int} (hd : 2 ≤ d ∧ d ≤ 720) (hv : 2 ≤ v ∧ v ≤ 60) (hq : 0 < q) : 0 ≤ sp_r1 d v p q e ∧ sp_r1 d v p q e ≤ 43260 := sp_rd_iv2 hd hv (Int.emod_nonneg _ (by omega)) (by omega) (Int.emod_lt_of_pos _ (by omega))
theorem sp_r2_iv {d v p q e : Int} (hd : 2 ≤ d ∧ d ≤ 720) (hv : 2 ≤ v ∧ v ≤ 60) (hq : 0 < q) : 0 ≤ sp_r2 d v p q e ∧ sp_r2 d v p q e ≤ 43260 := sp_rd_iv2 hd hv (Int.emod_nonneg _ (by omega)) (by omega) (Int.emod_lt_of_pos _ (by omega))
theorem eq_bd {p q e : Int} (hq : 1 ≤ q) (he : -1000 ≤ e ∧ e ≤ 1000) : -(2000 * q) ≤ 2 * e * q ∧ 2 * e * q ≤ 2000 * q := by
  have h1 : -1000 * q ≤ e * q := Int.mul_le_mul_of_nonneg_right he.1 (by omega)
  have h2 : e * q ≤ 1000 * q := Int.mul_le_mul_of_nonneg_right he.2 (by omega)
  rw [Int.mul_assoc 2 e q]
  omega
/-- near -/
abbrev NearInv (p q k U B O : Int) : Prop := (k = 1 ∧ B = 1 ∧ U = 0 ∧ O = p) ∨ (2 ≤ k ∧ B = sp_nr p q (k - 1) ∧ U = sp_nol (p * B) q ∧ O = sp_gap p q B)
theorem near_d {x q : Int} (hq : 1 ≤ q) : 0 ≤ x - x / q * q ∧ x - x / q * q < q := by
  have h := Int.emod_def x q
  rw [Int.mul_comm q] at h
  rw [← h]
  exact ⟨Int.emod_nonneg _ (by omega), Int.emod_lt_of_pos _ (by omega)⟩
theorem near_1 {x t q : Int} (hq : 1 ≤ q) : x - (t + 1) * q = (x - t * q) - q := by
  rw [Int.add_mul, Int.one_mul]
  omega
theorem nol_lo {x q t : Int} (hq : 1 ≤ q) (ht : t = x / q) (h : x - t * q ≤ q - (x - t * q)) : sp_nol x q = t := by
  have h0 := @near_d x q hq
  rw [← ht] at h0
  unfold sp_nol
  refine Int.le_antisymm (Int.le_of_lt_add_one (Int.ediv_lt_of_lt_mul (by omega) ?_)) ((Int.le_ediv_iff_mul_le (by omega)).mpr ?_)
  · rw [Int.add_mul, Int.mul_left_comm t]
    omega
  · rw [Int.mul_left_comm t]
    omega
theorem nol_hi {x q t : Int} (hq : 1 ≤ q) (ht : t = x / q) (h : q - (x - t * q) < x - t * q) : sp_nol x q = t + 1 := by
  have h0 := @near_d x q hq
  rw [← ht] at h0
  unfold sp_nol
  refine Int.le_antisymm (Int.le_of_lt_add_one (Int.ediv_lt_of_lt_mul (by omega) ?_)) ((Int.le_ediv_iff_mul_le (by omega)).mpr ?_)
  · rw [Int.add_mul, Int.add_mul, Int.mul_left_comm t]
    omega
  · rw [Int.add_mul, Int.mul_left_comm t]
    omega
theorem gap_lo {p k q t : Int} (hq : 1 ≤ q) (ht : t = p * k / q) (h : p * k - t * q ≤ q - (p * k - t * q)) : sp_gap p q k = p * k - t * q := by
  have h0 := @near_d (p * k) q hq
  rw [← ht] at h0
  unfold sp_gap
  rw [nol_lo hq ht h]
  omega
theorem gap_hi {p k q t : Int} (hq : 1 ≤ q) (ht : t = p * k / q) (h : q - (p * k - t * q) < p * k - t * q) : sp_gap p q k = q - (p * k - t * q) := by
  have h0 := @near_d (p * k) q hq
  rw [← ht] at h0
  unfold sp_gap
  rw [nol_hi hq ht h, Int.add_mul, Int.one_mul]
  omega
theorem near_new {p q k U B O : Int} (hk : 1 ≤ k) (hI : NearInv p q k U B O) (hc : sp_gap p q k * B < O * k) : k = sp_nr p q k := by
  rcases hI with ⟨h1, -⟩ | ⟨h1, h2, -, h4⟩
  · subst h1
    exact sp_nr_1.symm
  · rw [sp_nr_s h1, ← h2, ← h4, if_pos hc]
theorem near_new1 {p q k U B O : Int} (hk : 1 ≤ k) (hI : NearInv p q k U B O) (hc : sp_gap p q k * B < O * k) : NearInv p q (k + 1) (sp_nol (p * k) q) k (sp_gap p q k) := by
  refine Or.inr ⟨by omega, ?_, rfl, rfl⟩
  rw [show k + 1 - 1 = k by omega]
  exact near_new hk hI hc
theorem lt_of_mk {a b k : Int} (hk : 0 < k) (h : a * k < b * k) : a < b := Int.lt_of_mul_lt_mul_right h (by omega)
theorem le_of_mk {a b k : Int} (hk : 0 < k) (h : a * k ≤ b * k) : a ≤ b := Int.le_of_mul_le_mul_right h hk
theorem near_1a {p q k U B O t o2 : Int} (hk : 1 ≤ k) (hq : 1 ≤ q) (hB : 1 ≤ B) (hI : NearInv p q k U B O) (ht : t = p * k / q) (ho : o2 = q - (p * k - t * q)) (c1 : (p * k - t * q) * B < O * k) (c2 : o2 * k < (p * k - t * q) * k) : NearInv p q (k + 1) (t + 1) k o2 := by
  have h1 : o2 < p * k - t * q := lt_of_mk (by omega) c2
  subst ho
  rw [← gap_hi hq ht h1, ← nol_hi hq ht h1]
  refine near_new1 hk hI ?_
  rw [gap_hi hq ht h1]
  have := Int.mul_le_mul_of_nonneg_right (Int.le_of_lt h1) (show 0 ≤ B by omega)
  omega
theorem near_1b {p q k U B O t o2 : Int} (hk : 1 ≤ k) (hq : 1 ≤ q) (hI : NearInv p q k U B O) (ht : t = p * k / q) (ho : o2 = q - (p * k - t * q)) (c1 : (p * k - t * q) * B < O * k) (c2 : (p * k - t * q) * k ≤ o2 * k) : NearInv p q (k + 1) t k (p * k - t * q) := by
  have h1 : p * k - t * q ≤ o2 := le_of_mk (by omega) c2
  subst ho
  have e1 := gap_lo hq ht h1
  have e2 := nol_lo hq ht h1
  have h3 := near_new1 hk hI (by rw [e1]; exact c1)
  rw [e1, e2] at h3
  exact h3
theorem near_2a {p q k U B O t o2 : Int} (hk : 1 ≤ k) (hq : 1 ≤ q) (hB : 1 ≤ B) (hI : NearInv p q k U B O) (ht : t = p * k / q) (ho : o2 = q - (p * k - t * q)) (c1 : O * k ≤ (p * k - t * q) * B) (c2 : o2 * B < O * k) : NearInv p q (k + 1) (t + 1) k o2 := by
  have h1 : o2 < p * k - t * q := lt_of_mk (show 0 < B by omega) (by omega)
  subst ho
  have e1 := gap_hi hq ht h1
  have e2 := nol_hi hq ht h1
  have h3 := near_new1 hk hI (by rw [e1]; exact c2)
  rw [e1, e2] at h3
  exact h3
theorem near_2b {p q k U B O t o2 : Int} (hp : 1 ≤ p) (hk : 1 ≤ k) (hq : 1 ≤ q) (hI : NearInv p q k U B O) (ht : t = p * k / q) (ho : o2 = q - (p * k - t * q)) (c1 : O * k ≤ (p * k - t * q) * B) (c2 : O * k ≤ o2 * B) : NearInv p q (k + 1) U B O := by
  have h0 := @near_d (p * k) q hq
  rw [← ht] at h0
  rcases hI with ⟨h1, h2, h3, h4⟩ | ⟨h1, h2, h3, h4⟩
  · subst h1
    subst h2
    subst h3
    subst h4
    rw [Int.mul_one] at ht h0 c1 c2 ho
    rw [Int.mul_one] at c1 c2
    have ht0 : 0 ≤ t := by
      rw [ht]
      exact Int.ediv_nonneg (by omega) (by omega)
    have h5 : t = 0 := by
      rcases Int.lt_or_le t 1 with h | h
      · omega
      · have := Int.mul_le_mul_of_nonneg_right h (show 0 ≤ q by omega)
        omega
    subst h5
    have e0 : (0 : Int) = O * 1 / q := by
      rw [Int.mul_one]
      exact ht
    have e1 := gap_lo (p := O) (k := 1) hq e0 (by omega)
    have e2 := nol_lo (x := O * 1) hq e0 (by omega)
    refine Or.inr ⟨by omega, sp_nr_1.symm, e2.symm, ?_⟩
    rw [e1]
    omega
  · refine Or.inr ⟨by omega, ?_, h3, h4⟩
    rw [show k + 1 - 1 = k by omega, sp_nr_s h1, ← h2, ← h4, if_neg]
    · rcases Int.lt_or_le o2 (p * k - t * q) with h | h
      · rw [gap_hi hq ht (by omega), ← ho]
        omega
      · rw [gap_lo hq ht (by omega)]
        omega
