section XP27
/-! counts of hashes, registers, samples and parts: what the property of its own says of them -/
theorem cb_insS_le {Hs : Nat → Bool} {h a : Nat} : cb (insS Hs h) a ≤ cb Hs a + 1 := by
  cases hb : Hs h with
  | true => rw [cb_congr (fun x _ => insS_in hb x)]; omega
  | false =>
    rcases Nat.lt_or_ge h a with q | q
    · rw [insS_hi hb q]; omega
    · rw [insS_lo q]; omega
theorem hs_cnt (P : Nat → Bool) (N : Nat) : ∀ n, cb (hs P n) N ≤ cb P n
  | 0 => by rw [cb_zero (P := hs P 0) (fun x _ => rfl)]; exact Nat.zero_le _
  | n + 1 => by
    have ih := hs_cnt P N n
    cases hp : P n with
    | false =>
      have e : cb (hs P (n + 1)) N = cb (hs P n) N := cb_congr (fun x _ => hs_none (Nat.le_succ n) (fun y h1 h2 => by rw [show y = n by omega]; exact hp) x)
      rw [cb_f hp, e]
      exact ih
    | true =>
      have e : cb (hs P (n + 1)) N = cb (insS (hs P n) (hsh n)) N := cb_congr (fun x _ => hs_step (Nat.le_refl _) (fun y h1 h2 => by omega) hp x)
      have h1 : cb (insS (hs P n) (hsh n)) N ≤ cb (hs P n) N + 1 := cb_insS_le
      rw [cb_t hp, e]
      omega
theorem hs_pos {P : Nat → Bool} {n x : Nat} (h1 : x < n) (h2 : P x = true) : 0 < cb (hs P n) 16777213 := by
  have h3 : hs P n (hsh x) = true := hs_iff.mpr ⟨x, h1, h2, rfl⟩
  have := cb_lt (hsh_lt x) h3
  omega
theorem cb_ex {P : Nat → Bool} {n : Nat} (h : 0 < cb P n) : ∃ x, x < n ∧ P x = true := by
  obtain ⟨x, h1, h2, _⟩ := cb_at h
  exact ⟨x, h1, h2⟩
theorem cb_not (P : Nat → Bool) (n : Nat) : cb P n + cb (fun x => !P x) n = n := by
  induction n with
  | zero => rfl
  | succ n ih =>
    simp only [cb]
    rcases Bool.eq_false_or_eq_true (P n) with hp | hp <;> simp [hp] <;> omega
/-- plain is 0 just where nothing is kept -/
theorem kp_zero {M : Nat → Int32} {k : Nat} (hk : 2 ≤ k) : cb (Sm M) 100000 = 0 ↔ min k (cb (hs (Sm M) 100000) 16777213) = 0 := by
  have h1 := hs_cnt (Sm M) 16777213 100000
  constructor
  · intro h; omega
  · intro h
    rcases Nat.eq_zero_or_pos (cb (Sm M) 100000) with q | q
    · exact q
    · obtain ⟨x, h2, h3⟩ := cb_ex q
      have := hs_pos h2 h3
      omega
theorem mxr_pos {T : Nat → Bool} {n x : Nat} (h1 : x < n) (h2 : T x = true) : 0 < mxr T (hsh x % 16) n := by
  induction n with
  | zero => omega
  | succ n ih =>
    simp only [mxr]
    rcases Nat.lt_or_ge x n with q | q
    · have := ih q
      split <;> omega
    · have e : x = n := by omega
      subst e
      rw [if_pos ⟨h2, rfl⟩]
      have : 0 < rnk (hsh x) := by unfold rnk; omega
      omega
theorem mxr_0 {T : Nat → Bool} {r n : Nat} (h : cb T n = 0) : mxr T r n = 0 :=
  (mxr_none (Nat.zero_le n) (cb_nomore (a := 0) (by rw [h]; exact Nat.zero_le _))).trans rfl
/-- the registers of T below n -/
def mxA (T : Nat → Bool) (n : Nat) : Nat → Nat := fun r => mxr T r n
theorem emp_cnt (T : Nat → Bool) : ∀ n, cb (fun r => !empR (mxA T n) r) 16 ≤ cb T n
  | 0 => by rw [cb_zero (P := fun r => !empR (mxA T 0) r) (fun x _ => rfl)]; exact Nat.zero_le _
  | n + 1 => by
    have ih := emp_cnt T n
    cases hp : T n with
    | false =>
      have e : cb (fun r => !empR (mxA T (n + 1)) r) 16 = cb (fun r => !empR (mxA T n) r) 16 := cb_congr (fun r _ => by
        have : mxA T (n + 1) r = mxA T n r := mxr_none (Nat.le_succ n) (fun y h1 h2 => by rw [show y = n by omega]; exact hp)
        unfold empR
        rw [this])
      rw [cb_f hp, e]
      exact ih
    | true =>
      have e : cb (fun r => !empR (mxA T (n + 1)) r) 16 ≤ cb (insS (fun r => !empR (mxA T n) r) (hsh n % 16)) 16 := cb_sub (fun r _ h => by
        by_cases q : hsh n % 16 = r
        · subst q; simp [insS]
        · have : mxA T (n + 1) r = mxA T n r := by
            show mxr T r (n + 1) = mxr T r n
            simp only [mxr]
            rw [if_neg (fun z => q z.2)]
          unfold empR at h
          rw [this] at h
          simp only [insS, empR, h, Bool.true_or])
      have h1 : cb (insS (fun r => !empR (mxA T n) r) (hsh n % 16)) 16 ≤ cb (fun r => !empR (mxA T n) r) 16 + 1 := cb_insS_le
      rw [cb_t hp]
      omega
theorem emp_le {T : Nat → Bool} {n : Nat} : 16 ≤ cb (empR (mxA T n)) 16 + cb T n := by
  have h1 := cb_not (empR (mxA T n)) 16
  have h2 := emp_cnt T n
  omega
theorem emp_16 {T : Nat → Bool} {n : Nat} : cb (empR (mxA T n)) 16 = 16 ↔ cb T n = 0 := by
  have h1 := cb_not (empR (mxA T n)) 16
  have h2 := emp_cnt T n
  constructor
  · intro h
    rcases Nat.eq_zero_or_pos (cb T n) with q | q
    · exact q
    · obtain ⟨x, h3, h4⟩ := cb_ex q
      have h5 := mxr_pos h3 h4
      have h6 : (fun r => !empR (mxA T n) r) (hsh x % 16) = true := by
        have h7 : ¬ mxA T n (hsh x % 16) = 0 := fun z => by
          have : mxr T (hsh x % 16) n = 0 := z
          omega
        simp [empR, h7]
      have h8 := cb_lt (P := fun r => !empR (mxA T n) r) (show hsh x % 16 < 16 from Nat.mod_lt _ (by omega)) h6
      omega
  · intro h
    omega
theorem reg_0 {T : Nat → Bool} {n : Nat} (h : cb T n = 0) : regE (mxA T n) = 0 := by
  have e : regE (mxA T n) = regE (fun _ => 0) := regE_congr (fun r _ => mxr_0 h)
  rw [e]
  decide +kernel
/-! zeros at the low end -/
theorem lz_dvd (v : Nat) : ∀ f z, v % 2 ^ z = 0 → v % 2 ^ (lz v f z) = 0
  | 0, z, h => h
  | f + 1, z, h => by
    unfold lz
    split
    · exact h
    · rename_i q
      refine lz_dvd v f (z + 1) ?_
      rw [Nat.pow_succ, Nat.mod_mul, h, show v / 2 ^ z % 2 = 0 by omega]
      simp
theorem zr_dvd {x l : Nat} (h : l ≤ zr x) : hsh x % 2 ^ l = 0 := by
  have h1 : hsh x % 2 ^ (zr x) = 0 := lz_dvd (hsh x) 24 0 (Nat.mod_one _)
  exact Nat.mod_eq_zero_of_dvd (Nat.dvd_trans (Nat.pow_dvd_pow 2 h) (Nat.dvd_of_mod_eq_zero h1))
def hzB (b : Nat) : Nat → Bool
  | 0 => true
  | n + 1 => (hsh (b + n) != 0) && hzB b n
theorem hzB_at {b : Nat} : ∀ n, hzB b n = true → ∀ j, j < n → hsh (b + j) ≠ 0
  | 0, _, j, h => absurd h (Nat.not_lt_zero _)
  | n + 1, h, j, hj => by
    have h0 : ((hsh (b + n) != 0) && hzB b n) = true := h
    rw [Bool.and_eq_true] at h0
    rcases Nat.lt_or_ge j n with q | q
    · exact hzB_at n h0.2 j q
    · rw [show j = n by omega]; simpa using h0.1
set_option maxRecDepth 100000 in
theorem hz_all : ∀ c, c < 200 → hzB (500 * c) 500 = true := by decide +kernel
theorem hsh_ne {x : Nat} (h : x < 100000) : hsh x ≠ 0 := by
  have h1 := hzB_at 500 (hz_all (x / 500) (by omega)) (x % 500) (Nat.mod_lt _ (by omega))
  rw [show 500 * (x / 500) + x % 500 = x by omega] at h1
  exact h1
theorem zr_lt {x : Nat} (h : x < 100000) : zr x < 24 := by
  rcases Nat.lt_or_ge (zr x) 24 with q | q
  · exact q
  · have h1 := zr_dvd q
    have h2 := hsh_lt x
    have h3 := hsh_ne h
    rw [Nat.mod_eq_of_lt (by omega)] at h1
    exact absurd h1 h3
theorem SL_24 {S : Nat → Bool} : cb (SL S 24) 100000 = 0 := cb_zero (fun x hx => by
  have h1 := zr_lt hx
  unfold SL
  rw [show decide (24 ≤ zr x) = false from decide_eq_false (by omega), Bool.and_false])
theorem lvF_cnt {S : Nat → Bool} : ∀ f l, l + f = 24 → cb (SL S (lvF S f l)) 100000 ≤ 16
  | 0, l, h => by
    have e : l = 24 := by omega
    subst e
    show cb (SL S 24) 100000 ≤ 16
    rw [SL_24]; omega
  | f + 1, l, h => by
    unfold lvF
    split
    · exact lvF_cnt f (l + 1) (by omega)
    · omega
theorem lvl_cnt {S : Nat → Bool} : cb (SL S (lvl S)) 100000 ≤ 16 := lvF_cnt 24 0 rfl
theorem lvl_0 {S : Nat → Bool} (h : lvl S = 0) : cb (SL S (lvl S)) 100000 = cb S 100000 := by
  rw [h]
  exact cb_congr (fun x _ => SL_0 x)
/-! pairs -/
theorem uH_comm (k : Nat) (H1 H2 : Nat → Bool) : uH k H1 H2 = uH k H2 H1 := funext fun x => by
  unfold uH orS
  simp [Bool.or_comm]
theorem inT_comm (k : Nat) (H1 H2 : Nat → Bool) : inT k H1 H2 = inT k H2 H1 := funext fun x => by
  unfold inT
  rw [Bool.and_comm]
theorem uH_self (k : Nat) (H : Nat → Bool) : uH k H H = kS k H := funext fun x => by
  unfold uH orS
  simp
theorem kS_cbN (k : Nat) (Hs : Nat → Bool) : ∀ n, cb (kS k Hs) n = min k (cb Hs n)
  | 0 => by simp [cb]
  | n + 1 => by
    have ih := kS_cbN k Hs n
    cases hb : Hs n with
    | false =>
      have h1 : kS k Hs n = false := by simp [kS, hb]
      rw [cb_f hb, cb_f h1, ih]
    | true =>
      rcases Nat.lt_or_ge (cb Hs n) k with q | q
      · have h1 : kS k Hs n = true := kS_t.mpr ⟨hb, q⟩
        rw [cb_t hb, cb_t h1, ih]; omega
      · have h1 : kS k Hs n = false := by
          cases hc : kS k Hs n with
          | false => rfl
          | true => have := (kS_t.mp hc).2; omega
        rw [cb_t hb, cb_f h1, ih]; omega
theorem estV_kS {k : Nat} {Hs : Nat → Bool} (hk : 2 ≤ k) : estV k (kS k Hs) = estV k Hs := by
  have e := kS_cbN k Hs 16777213
  rcases Nat.lt_or_ge (cb Hs 16777213) k with q | q
  · rw [estV_lo q, estV_lo (by omega)]; omega
  · obtain ⟨t, h1, h2, h3⟩ := cb_at (P := Hs) (n := 16777213) (j := k - 1) (by omega)
    have h4 : kS k Hs t = true := kS_t.mpr ⟨h2, by omega⟩
    have h5 : cb (kS k Hs) t = k - 1 := by rw [kS_cbN, h3]; omega
    rw [estV_hi (by omega) h1 h2 h3, estV_hi (by omega) h1 h4 h5]
theorem cntV_self {k : Nat} {H : Nat → Bool} : cntV k (uH k H H) (inT k H H) = min k (cb (uH k H H) 16777213) := by
  unfold cntV
  rw [← kS_cbN]
  refine cb_congr (fun x _ => ?_)
  rw [uH_self]
  unfold inT
  cases h : kS k (kS k H) x with
  | false => rfl
  | true =>
    have h1 : kS k H x = true := kS_sub h
    rw [h1]; rfl
theorem cntV_none {k : Nat} {H : Nat → Bool} : cntV k (uH k H H) (noT k H) = 0 := by
  unfold cntV
  refine cb_zero (fun x _ => ?_)
  rw [uH_self]
  unfold noT
  cases h : kS k (kS k H) x with
  | false => rfl
  | true =>
    have h1 : kS k H x = true := kS_sub h
    rw [h1]; rfl
/-- common of a basket and itself -/
theorem part_self {k : Nat} {H : Nat → Bool} (hk : 2 ≤ k) : partV k (uH k H H) (cntV k (uH k H H) (inT k H H)) = estV k H := by
  unfold partV
  rw [cntV_self, uH_self, estV_kS hk]
  rcases Nat.eq_zero_or_pos (min k (cb (kS k H) 16777213)) with q | q
  · have h1 := kS_cbN k H 16777213
    have h2 : cb H 16777213 = 0 := by omega
    rw [q, Nat.mul_zero, Nat.zero_div, estV_lo (by omega), h2]
  · exact Nat.mul_div_cancel _ q
theorem part_none {k : Nat} {H : Nat → Bool} : partV k (uH k H H) (cntV k (uH k H H) (noT k H)) = 0 := by
  unfold partV
  rw [cntV_none, Nat.mul_zero, Nat.zero_div]
theorem cb3 {A B C E : Nat → Bool} (h : ∀ x, (if A x = true then 1 else 0) + (if B x = true then 1 else 0) + (if C x = true then 1 else 0) = if E x = true then 1 else 0) (n : Nat) : cb A n + cb B n + cb C n = cb E n := by
  induction n with
  | zero => rfl
  | succ n ih =>
    have h1 := h n
    simp only [cb]
    omega
theorem cnt_three (k : Nat) (H1 H2 : Nat → Bool) : cntV k (uH k H1 H2) (inT k H1 H2) + cntV k (uH k H1 H2) (noT k H2) + cntV k (uH k H1 H2) (noT k H1) = min k (cb (uH k H1 H2) 16777213) := by
  rw [← kS_cbN]
  unfold cntV
  refine cb3 (fun n => ?_) 16777213
  rcases Bool.eq_false_or_eq_true (kS k (uH k H1 H2) n) with hu | hu
  · have h1 : (kS k H1 n || kS k H2 n) = true := by
      have h2 := kS_sub hu
      unfold uH orS at h2
      simpa using h2
    unfold inT noT
    rcases Bool.eq_false_or_eq_true (kS k H1 n) with a | a <;> rcases Bool.eq_false_or_eq_true (kS k H2 n) with b | b <;> simp [hu, a, b] at h1 ⊢
  · simp [hu]
theorem div3 {e a b c m : Nat} (h : a + b + c = m) : e * a / m + e * b / m + e * c / m ≤ e ∧ e ≤ e * a / m + e * b / m + e * c / m + 2 ∨ m = 0 := by
  rcases Nat.eq_zero_or_pos m with q | q
  · exact Or.inr q
  · left
    have h0 : e * a + e * b + e * c = m * e := by rw [← Nat.mul_add, ← Nat.mul_add, h, Nat.mul_comm]
    have ha := Nat.div_add_mod (e * a) m
    have hb := Nat.div_add_mod (e * b) m
    have hc := Nat.div_add_mod (e * c) m
    have la := Nat.mod_lt (e * a) q
    have lb := Nat.mod_lt (e * b) q
    have lc := Nat.mod_lt (e * c) q
    generalize e * a / m = x at *
    generalize e * b / m = y at *
    generalize e * c / m = z at *
    have h1 : m * (x + y + z) = m * x + m * y + m * z := by rw [Nat.mul_add, Nat.mul_add]
    constructor
    · refine Nat.le_of_mul_le_mul_left (c := m) ?_ q
      omega
    · have h2 : m * e < m * (x + y + z + 3) := by
        rw [Nat.mul_add, h1]
        omega
      have h3 := Nat.lt_of_mul_lt_mul_left h2
      omega
/-- what two baskets have in common, and each without the other, make up what they have together: two at most are lost -/
theorem part_three {k : Nat} {H1 H2 : Nat → Bool} (hk : 2 ≤ k) : partV k (uH k H1 H2) (cntV k (uH k H1 H2) (inT k H1 H2)) + partV k (uH k H1 H2) (cntV k (uH k H1 H2) (noT k H2)) + partV k (uH k H1 H2) (cntV k (uH k H1 H2) (noT k H1)) ≤ estV k (uH k H1 H2) ∧ estV k (uH k H1 H2) ≤ partV k (uH k H1 H2) (cntV k (uH k H1 H2) (inT k H1 H2)) + partV k (uH k H1 H2) (cntV k (uH k H1 H2) (noT k H2)) + partV k (uH k H1 H2) (cntV k (uH k H1 H2) (noT k H1)) + 2 := by
  have h := cnt_three k H1 H2
  unfold partV
  rcases div3 (e := estV k (uH k H1 H2)) h with q | q
  · exact q
  · have h2 : cb (uH k H1 H2) 16777213 = 0 := by omega
    rw [q, estV_lo (by omega), h2]
    simp
theorem part_le {k c : Nat} {Hs : Nat → Bool} (h : c ≤ min k (cb Hs 16777213)) : partV k Hs c ≤ estV k Hs := by
  unfold partV
  rcases Nat.eq_zero_or_pos (min k (cb Hs 16777213)) with q | q
  · rw [q, Nat.div_zero]; exact Nat.zero_le _
  · refine Nat.div_le_of_le_mul ?_
    rw [Nat.mul_comm]
    exact Nat.mul_le_mul h (Nat.le_refl _)
theorem cntV_le {k : Nat} {Hs T : Nat → Bool} : cntV k Hs T ≤ min k (cb Hs 16777213) := by
  unfold cntV
  rw [← kS_cbN]
  exact cb_sub (fun x _ h => by rw [Bool.and_eq_true] at h; exact h.1)
end XP27
