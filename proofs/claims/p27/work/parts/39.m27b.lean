section XM27B
theorem nth_in {P : Nat → Bool} {j n : Nat} (h : j < cb P n) : nthB P j n < n ∧ P (nthB P j n) = true ∧ cb P (nthB P j n) = j := by
  obtain ⟨t, h1, h2, h3⟩ := cb_at h
  rw [nthB_eq h1 h2 h3]
  exact ⟨h1, h2, h3⟩
theorem nth_lt {P : Nat → Bool} {i j n : Nat} (h : i < j) (hj : j < cb P n) : nthB P i n < nthB P j n := by
  have h1 := nth_in (P := P) (n := n) (j := i) (by omega)
  have h2 := nth_in hj
  exact cb_lt_rev (P := P) (by omega)
/-- what came last before place i -/
def LSq (P : Nat → Bool) (n i : Nat) (x : Int32) : Prop := (i = 0 ∧ x = -1) ∨ (0 < i ∧ x = nI (nthB P (i - 1) n))
theorem LSq.start {P : Nat → Bool} {n : Nat} : LSq P n 0 (-1) := Or.inl ⟨rfl, rfl⟩
theorem LSq.next {P : Nat → Bool} {n i : Nat} : LSq P n (i + 1) (nI (nthB P i n)) := Or.inr ⟨by omega, rfl⟩
theorem LSq.lt {P : Nat → Bool} {n i : Nat} {x : Int32} (hn : n < 2 ^ 31) (h : LSq P n i x) (hi : i < cb P n) : ¬ nI (nthB P i n) ≤ x := by
  have h1 := (nth_in hi).1
  rcases h with ⟨_, rfl⟩ | ⟨h0, rfl⟩
  · exact fun q => absurd (neg1lt (nI_pos' (n := nthB P i n) (by omega))) (Int32.not_lt.mpr q)
  · have h2 := nth_lt (P := P) (n := n) (i := i - 1) (j := i) (by omega) hi
    exact fun q => by
      have := (nI_leI (by omega) (by omega)).mp q
      omega
theorem sub_toInt {a b : Nat} (ha : a < 2 ^ 30) (hb : b < 2 ^ 30) : (nI a - nI b).toInt = (a : Int) - b := by
  rw [Int32.toInt_sub, nI_toInt (by omega), nI_toInt (by omega)]
  exact Int.bmod_eq_of_le_mul_two (by omega) (by omega)
theorem sub2 {a t : Nat} (h : t ≤ a + 2) (ha : a < 2 ^ 30) (ht : t < 2 ^ 30) : ¬ nI a < nI t - nI 2 := by
  rw [Int32.lt_iff_toInt_lt, sub_toInt ht (by omega), nI_toInt (by omega)]
  omega
theorem Tm_recent {M : Nat → Int32} {now : Nat} (hM : MV M) (hn : now < 100000) (x : Nat) : Tm M (nI now - nI 100000) x = Sm M x := by
  unfold Tm
  cases hs : Sm M x with
  | false => rfl
  | true =>
    rcases hM x with q | q
    · exact absurd q (Sm_t.mp hs)
    · have h1 : nI now - nI 100000 < M x := by
        rw [Int32.lt_iff_toInt_lt, sub_toInt (by omega) (by omega)]
        rw [Int32.le_iff_toInt_le] at q
        have e2 : (0 : Int32).toInt = 0 := by decide
        omega
      simp [h1]
theorem rec_all {M : Nat → Int32} {now : Nat} (hM : MV M) (hn : now < 100000) : regE (fun r => mxr (Tm M (nI now - nI 100000)) r 100000) = regE (fun r => mxr (Sm M) r 100000) :=
  regE_congr (fun r _ => mxr_congr (fun x _ => Tm_recent hM hn x))
theorem est_k {k : Nat} {Hs : Nat → Bool} (hk2 : 2 ≤ k) (hc : k ≤ cb Hs 16777213) : 0 < nthB Hs (k - 1) 16777213 ∧ nthB Hs (k - 1) 16777213 < 16777213 ∧ estV k Hs = (k - 1) * 16777213 / nthB Hs (k - 1) 16777213 := by
  have h1 := nth_lt (P := Hs) (n := 16777213) (i := 0) (j := k - 1) (by omega) (by omega)
  have h2 := nth_in (P := Hs) (n := 16777213) (j := k - 1) (by omega)
  refine ⟨by omega, h2.1, ?_⟩
  unfold estV
  rw [if_neg (by omega)]
/-! one basket: its numbers -/
def bC (M : Nat → Int32) : Nat := cb (hsM M) 16777213
def bN (M : Nat → Int32) : Nat := cb (Sm M) 100000
def bE (M : Nat → Int32) (j : Nat) : Nat := cb (empR (mxA (Sm M) 100000)) j
def bZ (M : Nat → Int32) : Nat := cb (SL (Sm M) (lvl (Sm M))) 100000
theorem bN_le {M : Nat → Int32} : bN M ≤ 100000 := cb_le
theorem bC_le {M : Nat → Int32} : bC M ≤ bN M := hs_cnt (Sm M) 16777213 100000
theorem bE_le {M : Nat → Int32} {j : Nat} : bE M j ≤ j := cb_le
theorem bE_t {M : Nat → Int32} {j : Nat} (h : mxr (Sm M) j 100000 = 0) : bE M (j + 1) = bE M j + 1 := cb_t (decide_eq_true h)
theorem bE_f {M : Nat → Int32} {j : Nat} (h : ¬ mxr (Sm M) j 100000 = 0) : bE M (j + 1) = bE M j := cb_f (decide_eq_false h)
theorem bE_16 {M : Nat → Int32} : bE M 16 = 16 ↔ bN M = 0 := emp_16
theorem bE_n {M : Nat → Int32} : 16 ≤ bE M 16 + bN M := emp_le
theorem bReg0 {M : Nat → Int32} (h : bN M = 0) : regE (fun r => mxr (Sm M) r 100000) = 0 := reg_0 h
theorem bC_0 {M : Nat → Int32} {k : Nat} (hk : 2 ≤ k) : bN M = 0 ↔ min k (bC M) = 0 := kp_zero hk
theorem bZ_le {M : Nat → Int32} : bZ M ≤ 16 := lvl_cnt
theorem bZ_0 {M : Nat → Int32} (h : lvl (Sm M) = 0) : bZ M = bN M := lvl_0 h
theorem bIt {M : Nat → Int32} {j : Nat} (hM : MV M) (h : j < bZ M) : nthB (SL (Sm M) (lvl (Sm M))) j 100000 < 100000 ∧ hsh (nthB (SL (Sm M) (lvl (Sm M))) j 100000) % (1 * 2 ^ lvl (Sm M)) = 0 ∧ ¬ M (nthB (SL (Sm M) (lvl (Sm M))) j 100000) < 0 := by
  have h1 := nth_in h
  have h2 : (Sm M (nthB (SL (Sm M) (lvl (Sm M))) j 100000) && decide (lvl (Sm M) ≤ zr (nthB (SL (Sm M) (lvl (Sm M))) j 100000))) = true := h1.2.1
  rw [Bool.and_eq_true] at h2
  refine ⟨h1.1, by rw [Nat.one_mul]; exact zr_dvd (of_decide_eq_true h2.2), ?_⟩
  rcases hM (nthB (SL (Sm M) (lvl (Sm M))) j 100000) with q | q
  · exact absurd q (Sm_t.mp h2.1)
  · exact Int32.not_lt.mpr q
/-! two baskets -/
def pT (k : Nat) (A B : Nat → Int32) : Nat := estV k (uH k (hsM A) (hsM B))
def pC (k : Nat) (A B : Nat → Int32) : Nat := partV k (uH k (hsM A) (hsM B)) (cntV k (uH k (hsM A) (hsM B)) (inT k (hsM A) (hsM B)))
def pW (k : Nat) (A B : Nat → Int32) : Nat := partV k (uH k (hsM A) (hsM B)) (cntV k (uH k (hsM A) (hsM B)) (noT k (hsM B)))
def pP (A B : Nat → Int32) : Nat := cb (fun x => Sm A x && Sm B x) 100000
theorem pT_lt {k : Nat} {A B : Nat → Int32} (hk : k ≤ 32) : pT k A B < 2 ^ 29 := by
  unfold pT estV
  split
  · omega
  · refine Nat.lt_of_le_of_lt (Nat.div_le_self _ _) ?_
    have : (k - 1) * 16777213 ≤ 31 * 16777213 := Nat.mul_le_mul (by omega) (Nat.le_refl _)
    omega
theorem pT_comm {k : Nat} {A B : Nat → Int32} : pT k B A = pT k A B := by unfold pT; rw [uH_comm]
theorem pC_comm {k : Nat} {A B : Nat → Int32} : pC k B A = pC k A B := by unfold pC; rw [uH_comm k (hsM B), inT_comm k (hsM B)]
theorem pP_comm {A B : Nat → Int32} : pP B A = pP A B := cb_congr (fun x _ => Bool.and_comm _ _)
theorem pP_le {A B : Nat → Int32} : pP A B ≤ bN A := cb_sub (fun x _ h => by
  have h : (Sm A x && Sm B x) = true := h
  rw [Bool.and_eq_true] at h
  exact h.1)
theorem pP_self {A : Nat → Int32} : pP A A = bN A := cb_congr (fun x _ => Bool.and_self _)
theorem pT_self {k : Nat} {A : Nat → Int32} (hk2 : 2 ≤ k) : pT k A A = estV k (hsM A) := by unfold pT; rw [uH_self, estV_kS hk2]
theorem pC_self {k : Nat} {A : Nat → Int32} (hk2 : 2 ≤ k) : pC k A A = estV k (hsM A) := part_self hk2
theorem pW_self {k : Nat} {A : Nat → Int32} : pW k A A = 0 := part_none
theorem pC_le {k : Nat} {A B : Nat → Int32} : pC k A B ≤ pT k A B := part_le cntV_le
theorem pW_le {k : Nat} {A B : Nat → Int32} : pW k A B ≤ pT k A B := part_le cntV_le
theorem p_three {k : Nat} {A B : Nat → Int32} (hk2 : 2 ≤ k) : pC k A B + pW k A B + pW k B A ≤ pT k A B ∧ pT k A B ≤ pC k A B + pW k A B + pW k B A + 2 := by
  have h := part_three (k := k) (H1 := hsM A) (H2 := hsM B) hk2
  have e : pW k B A = partV k (uH k (hsM A) (hsM B)) (cntV k (uH k (hsM A) (hsM B)) (noT k (hsM A))) := by unfold pW; rw [uH_comm]
  rw [e]
  exact h
theorem lgc (v : Int64) : lg_cmp v v = 0 := by
  unfold lg_cmp
  by_cases h : v > v
  · exact absurd h (fun q => by
      have h2 : v < v := q
      rw [Int64.lt_iff_toInt_lt] at h2
      omega)
  · rw [if_neg h, if_pos rfl]
end XM27B
