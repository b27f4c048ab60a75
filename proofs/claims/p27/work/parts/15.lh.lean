section XLH
/-! least hashes: the least k of a set of hashes, rising -/
def insS (Hs : Nat → Bool) (h : Nat) : Nat → Bool := fun x => Hs x || decide (x = h)
def kS (k : Nat) (Hs : Nat → Bool) : Nat → Bool := fun x => Hs x && decide (cb Hs x < k)
def orS (A B : Nat → Bool) : Nat → Bool := fun x => A x || B x
def LH (k : Nat) (Hs : Nat → Bool) (z : Nat) (g : Nat → Int32) : Prop := z = min k (cb Hs 16777213) ∧ ∀ h, h < 16777213 → Hs h = true → cb Hs h < k → g (cb Hs h) = nI h
theorem LH.at {k z : Nat} {Hs : Nat → Bool} {g : Nat → Int32} (h : LH k Hs z g) {j : Nat} (hj : j < z) : ∃ t, t < 16777213 ∧ Hs t = true ∧ cb Hs t = j ∧ g j = nI t := by
  have h1 := h.1
  obtain ⟨t, a, b, c⟩ := cb_at (P := Hs) (n := 16777213) (j := j) (by omega)
  exact ⟨t, a, b, c, by rw [← c]; exact h.2 t a b (by omega)⟩
theorem LH.congr {k z : Nat} {Hs Hs' : Nat → Bool} {g : Nat → Int32} (h : LH k Hs z g) (e : ∀ x, Hs' x = Hs x) : LH k Hs' z g := by
  have : Hs' = Hs := funext e
  rw [this]; exact h
theorem insS_in {Hs : Nat → Bool} {h : Nat} (hh : Hs h = true) (x : Nat) : insS Hs h x = Hs x := by
  unfold insS
  by_cases e : x = h
  · subst e; simp [hh]
  · simp [e]
theorem insS_ne {Hs : Nat → Bool} {h x : Nat} (hx : x ≠ h) : insS Hs h x = Hs x := by simp [insS, hx]
theorem insS_lo {Hs : Nat → Bool} {h a : Nat} (ha : a ≤ h) : cb (insS Hs h) a = cb Hs a := cb_congr (fun x hx => insS_ne (by omega))
theorem insS_hi {Hs : Nat → Bool} {h a : Nat} (hh : Hs h = false) (ha : h < a) : cb (insS Hs h) a = cb Hs a + 1 := cb_ins (a := h) ha hh (by simp [insS]) (fun x hx => by simp [insS, hx])
theorem LH0 {k : Nat} {g : Nat → Int32} {Hs : Nat → Bool} (h : ∀ x, Hs x = false) : LH k Hs 0 g := ⟨by rw [cb_zero (fun x _ => h x)]; omega, fun x _ h1 _ => by rw [h x] at h1; cases h1⟩
theorem LH.skip {k z h t : Nat} {Hs : Nat → Bool} {g : Nat → Int32} (hl : LH k Hs z g) (hz : k ≤ z) (ht : t < 16777213) (hh : h < 16777213) (ht2 : Hs t = true) (ht3 : cb Hs t + 1 = z) (hth : t ≤ h) : LH k (insS Hs h) z g := by
  have h1 := hl.1
  cases hb : Hs h with
  | true => exact hl.congr (insS_in hb)
  | false =>
    have hlt : t < h := by
      rcases Nat.lt_or_ge t h with q | q
      · exact q
      · have : t = h := by omega
        rw [this, hb] at ht2; cases ht2
    have e1 := insS_hi (a := 16777213) hb hh
    refine ⟨by omega, fun x hx hx2 hx3 => ?_⟩
    have hxt : x ≤ t := by
      rcases Nat.lt_or_ge t x with q | q
      · have e2 : cb (insS Hs h) (t + 1) = cb Hs (t + 1) := insS_lo (by omega)
        have e3 : cb (insS Hs h) (t + 1) ≤ cb (insS Hs h) x := cb_mono (by omega)
        rw [e2, cb_t ht2] at e3
        omega
      · exact q
    have e4 : cb (insS Hs h) x = cb Hs x := insS_lo (by omega)
    have e5 : Hs x = true := by
      have : x ≠ h := by omega
      simpa [insS, this] using hx2
    rw [e4] at hx3 ⊢
    exact hl.2 x hx e5 hx3
theorem LH.ins {k z h z' : Nat} {Hs : Nat → Bool} {g g' : Nat → Int32} (hl : LH k Hs z g) (hh : h < 16777213) (hb : Hs h = false) (hz : z' = min k (z + 1)) (h1 : ∀ j, j < cb Hs h → g' j = g j) (h2 : g' (cb Hs h) = nI h) (h3 : ∀ j, cb Hs h < j → j < z' → g' j = g (j - 1)) : LH k (insS Hs h) z' g' := by
  have e0 := hl.1
  have e1 := insS_hi (a := 16777213) hb hh
  refine ⟨by omega, fun x hx hx2 hx3 => ?_⟩
  rcases Nat.lt_trichotomy x h with q | q | q
  · have e4 : cb (insS Hs h) x = cb Hs x := insS_lo (by omega)
    have e5 : Hs x = true := by
      have : x ≠ h := by omega
      simpa [insS, this] using hx2
    rw [e4] at hx3 ⊢
    rw [h1 _ (cb_lt q e5)]
    exact hl.2 x hx e5 hx3
  · subst q
    rw [insS_lo (Nat.le_refl _)]
    exact h2
  · have e4 : cb (insS Hs h) x = cb Hs x + 1 := insS_hi hb q
    have e5 : Hs x = true := by
      have : x ≠ h := by omega
      simpa [insS, this] using hx2
    have e6 : cb Hs h ≤ cb Hs x := cb_mono (by omega)
    have e7 := cb_lt hx e5
    rw [e4] at hx3 ⊢
    rw [h3 _ (by omega) (by omega), Nat.add_sub_cancel]
    exact hl.2 x hx e5 (by omega)
/-- the hashes of those with P below n -/
def hs (P : Nat → Bool) : Nat → Nat → Bool
  | 0, _ => false
  | n + 1, h => hs P n h || (P n && decide (h = hsh n))
theorem hs_none {P : Nat → Bool} {a b : Nat} (h : a ≤ b) (hn : ∀ y, a ≤ y → y < b → P y = false) (x : Nat) : hs P b x = hs P a x := by
  induction b with
  | zero => rw [Nat.le_zero.mp h]
  | succ b ih =>
    rcases Nat.lt_or_ge a (b + 1) with q | q
    · simp only [hs]
      rw [ih (by omega) (fun y h1 h2 => hn y h1 (by omega)), hn b (by omega) (by omega)]
      simp
    · rw [show a = b + 1 by omega]
theorem hs_step {P : Nat → Bool} {a x : Nat} (h : a ≤ x) (hn : ∀ y, a ≤ y → y < x → P y = false) (hx : P x = true) (y : Nat) : hs P (x + 1) y = insS (hs P a) (hsh x) y := by
  simp only [hs, insS]
  rw [hs_none h hn, hx, Bool.true_and]
theorem hs_iff {P : Nat → Bool} {n h : Nat} : hs P n h = true ↔ ∃ x, x < n ∧ P x = true ∧ hsh x = h := by
  induction n with
  | zero => simp [hs]
  | succ n ih =>
    simp only [hs, Bool.or_eq_true, Bool.and_eq_true, decide_eq_true_eq, ih]
    constructor
    · rintro (⟨x, h1, h2, h3⟩ | ⟨h1, h2⟩)
      · exact ⟨x, by omega, h2, h3⟩
      · exact ⟨n, by omega, h1, h2.symm⟩
    · rintro ⟨x, h1, h2, h3⟩
      rcases Nat.lt_or_ge x n with q | q
      · exact Or.inl ⟨x, q, h2, h3⟩
      · have : x = n := by omega
        subst this
        exact Or.inr ⟨h2, h3.symm⟩
/-- the one at place j -/
def nthB (P : Nat → Bool) (j : Nat) : Nat → Nat
  | 0 => 0
  | n + 1 => if P n = true ∧ cb P n = j then n else nthB P j n
theorem nthB_eq {P : Nat → Bool} {j n t : Nat} (h1 : t < n) (h2 : P t = true) (h3 : cb P t = j) : nthB P j n = t := by
  induction n with
  | zero => omega
  | succ n ih =>
    simp only [nthB]
    split
    · rename_i q
      exact cb_inj q.1 h2 (q.2.trans h3.symm)
    · rename_i q
      rcases Nat.lt_or_ge t n with r | r
      · exact ih r
      · exact absurd ⟨by rw [show n = t by omega]; exact h2, by rw [show n = t by omega]; exact h3⟩ q
/-- the estimate from the least k -/
def estV (k : Nat) (Hs : Nat → Bool) : Nat := if cb Hs 16777213 < k then cb Hs 16777213 else (k - 1) * 16777213 / nthB Hs (k - 1) 16777213
theorem estV_lo {k : Nat} {Hs : Nat → Bool} (h : cb Hs 16777213 < k) : estV k Hs = cb Hs 16777213 := if_pos h
theorem estV_hi {k t : Nat} {Hs : Nat → Bool} (h : ¬ cb Hs 16777213 < k) (h1 : t < 16777213) (h2 : Hs t = true) (h3 : cb Hs t = k - 1) : estV k Hs = (k - 1) * 16777213 / t := by
  unfold estV
  rw [if_neg h, nthB_eq h1 h2 h3]
theorem estV_le {k : Nat} {Hs : Nat → Bool} (hk : k ≤ 32) : estV k Hs < 2 ^ 30 := by
  unfold estV
  split
  · omega
  · refine Nat.lt_of_le_of_lt (Nat.div_le_self _ _) ?_
    have : (k - 1) * 16777213 ≤ 31 * 16777213 := Nat.mul_le_mul (by omega) (Nat.le_refl _)
    omega
/-- a part of the estimate -/
def partV (k : Nat) (Hs : Nat → Bool) (c : Nat) : Nat := estV k Hs * c / min k (cb Hs 16777213)
/-- how many of the least k of Hs have T -/
def cntV (k : Nat) (Hs T : Nat → Bool) : Nat := cb (fun h => kS k Hs h && T h) 16777213
theorem kS_sub {k : Nat} {Hs : Nat → Bool} {x : Nat} (h : kS k Hs x = true) : Hs x = true := by simp [kS] at h; exact h.1
theorem kS_t {k : Nat} {Hs : Nat → Bool} {x : Nat} : kS k Hs x = true ↔ Hs x = true ∧ cb Hs x < k := by simp [kS]
/-- how many of the first j have T -/
theorem dec1 {p : Nat} (h : 0 < p) : nI p + (-1) = nI (p - 1) := by
  obtain ⟨q, rfl⟩ : ∃ q, p = q + 1 := ⟨p - 1, by omega⟩
  rw [pk_m1, Nat.add_sub_cancel]
theorem kS_cb {k : Nat} {Hs : Nat → Bool} {a : Nat} (h : cb Hs a ≤ k) : cb (kS k Hs) a = cb Hs a := by
  refine cb_congr (fun x hx => ?_)
  cases hb : Hs x with
  | false => simp [kS, hb]
  | true =>
    have := cb_lt hx hb
    have h2 : cb Hs x < k := by omega
    simp [kS, hb, h2]
end XLH
section XLH2
theorem sh_step {g g2 : Nat → Int32} {i sz : Nat} (hi : 0 < i) (hg2 : ∀ j, i < j → j < sz → g2 j = g (j - 1)) : ∀ j, i - 1 < j → j < sz → upd g2 i (g (i - 1)) j = g (j - 1) := fun j h1 h2 => by
  rcases Nat.lt_or_ge i j with q | q
  · rw [upd_n (by omega)]; exact hg2 j q h2
  · have e : j = i := by omega
    subst e
    exact upd_s
theorem cb_nomore {P : Nat → Bool} {a N : Nat} (h : cb P N ≤ cb P a) : ∀ y, a ≤ y → y < N → P y = false := fun y h1 h2 => by
  cases hp : P y with
  | false => rfl
  | true =>
    have h3 := cb_lt h2 hp
    have h4 := cb_mono (P := P) h1
    omega
/-- the least hashes of the first j kept ones, beside a set -/
def upS (Hs K : Nat → Bool) (lo : Nat) : Nat → Bool := fun x => Hs x || (K x && decide (x < lo))
theorem upS_0 {Hs K : Nat → Bool} (x : Nat) : upS Hs K 0 x = Hs x := by simp [upS]
theorem upS_end {Hs K : Nat → Bool} {lo : Nat} (h : ∀ y, lo ≤ y → y < 16777213 → K y = false) (hK : ∀ y, 16777213 ≤ y → K y = false) (x : Nat) : orS Hs K x = upS Hs K lo x := by
  unfold orS upS
  by_cases hx : x < lo
  · simp [hx]
  · have : K x = false := by
      rcases Nat.lt_or_ge x 16777213 with q | q
      · exact h x (by omega) q
      · exact hK x q
    simp [this]
theorem upS_step {Hs K : Nat → Bool} {lo t : Nat} (h1 : lo ≤ t) (hn : ∀ y, lo ≤ y → y < t → K y = false) (ht : K t = true) (x : Nat) : upS Hs K (t + 1) x = insS (upS Hs K lo) t x := by
  unfold upS insS
  rcases Nat.lt_trichotomy x t with q | q | q
  · have h3 : x < t + 1 := by omega
    have h4 : x ≠ t := by omega
    rcases Nat.lt_or_ge x lo with r | r
    · simp [h3, h4, r]
    · simp [hn x r q, h4]
  · subst q
    simp [ht]
  · have h3 : ¬ x < t + 1 := by omega
    have h4 : x ≠ t := by omega
    have h5 : ¬ x < lo := by omega
    simp [h3, h4, h5]
theorem LH.next {k z : Nat} {Hs : Nat → Bool} {g : Nat → Int32} (h : LH k Hs z g) {a : Nat} (ha : a ≤ 16777213) (hj : cb (kS k Hs) a < z) : ∃ t, a ≤ t ∧ t < 16777213 ∧ kS k Hs t = true ∧ cb (kS k Hs) t = cb (kS k Hs) a ∧ (∀ y, a ≤ y → y < t → kS k Hs y = false) ∧ g (cb (kS k Hs) a) = nI t := by
  have h0 := h.1
  have hz : cb (kS k Hs) 16777213 = z := by
    rcases Nat.lt_or_ge (cb Hs 16777213) k with q | q
    · rw [kS_cb (by omega)]; omega
    · -- the place of the k-th
      rw [h0]
      obtain ⟨t, t1, t2, t3⟩ : ∃ t, t ≤ 16777213 ∧ cb Hs t = k ∧ ∀ y, t ≤ y → Hs y = true → k ≤ cb Hs y := by
        rcases Nat.eq_or_lt_of_le q with e | e
        · exact ⟨16777213, Nat.le_refl _, e.symm, fun y h1 _ => by rw [e]; exact cb_mono h1⟩
        · obtain ⟨t, a1, a2, a3⟩ := cb_at e
          exact ⟨t, by omega, a3, fun y h1 _ => by rw [← a3]; exact cb_mono h1⟩
      have e1 : cb (kS k Hs) 16777213 = cb (kS k Hs) t := by
        refine cb_none t1 (fun y h1 h2 => ?_)
        cases hb : kS k Hs y with
        | false => rfl
        | true =>
          have h3 := kS_t.mp hb
          have := t3 y h1 h3.1
          omega
      rw [e1, kS_cb (by omega), t2]
      omega
  obtain ⟨t, t1, t2, t3, t4, t5⟩ := cb_next ha (P := kS k Hs) (by rw [hz]; exact hj)
  have t6 := kS_t.mp t3
  have e2 : cb (kS k Hs) t = cb Hs t := kS_cb (by omega)
  exact ⟨t, t1, t2, t3, t4, t5, by rw [← t4, e2]; exact h.2 t t2 t6.1 t6.2⟩
theorem LH.cnt {k z : Nat} {Hs : Nat → Bool} {g : Nat → Int32} (h : LH k Hs z g) {a : Nat} (hj : z ≤ cb (kS k Hs) a) (ha : a ≤ 16777213) : ∀ y, a ≤ y → y < 16777213 → kS k Hs y = false := fun y h1 h2 => by
  cases hb : kS k Hs y with
  | false => rfl
  | true =>
    have h3 := kS_t.mp hb
    have h0 := h.1
    have e1 : cb (kS k Hs) y = cb Hs y := kS_cb (by omega)
    have e2 := cb_mono (P := kS k Hs) h1
    have e3 := cb_lt h2 h3.1
    omega
end XLH2
theorem lN_0 : lN 0 = 0 := rfl
