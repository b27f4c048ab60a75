section XMOD2
/-- the hashes of the first j listed ones that have P -/
def hlS (lst : Nat → Nat) (P : Nat → Bool) : Nat → Nat → Bool
  | 0, _ => false
  | j + 1, h => hlS lst P j h || (P (lst j) && decide (h = hsh (lst j)))
theorem hlS_iff {lst : Nat → Nat} {P : Nat → Bool} {n h : Nat} : hlS lst P n h = true ↔ ∃ j, j < n ∧ P (lst j) = true ∧ hsh (lst j) = h := by
  induction n with
  | zero => simp [hlS]
  | succ n ih =>
    simp only [hlS, Bool.or_eq_true, Bool.and_eq_true, decide_eq_true_eq, ih]
    constructor
    · rintro (⟨x, h1, h2, h3⟩ | ⟨h1, h2⟩)
      · exact ⟨x, by omega, h2, h3⟩
      · exact ⟨n, by omega, h1, h2.symm⟩
    · rintro ⟨x, h1, h2, h3⟩
      rcases Nat.lt_or_ge x n with q | q
      · exact Or.inl ⟨x, q, h2, h3⟩
      · have : x = n := by omega
        subst this
        exact Or.inr ⟨h2, h3.symm⟩
theorem hlS_all {lst : Nat → Nat} {P : Nat → Bool} {nl : Nat} {It Zt : Nat → Int32} (hM : ML lst nl It Zt) (hC : ∀ x, x < 100000 → P x = true → memb lst nl x = true) (h : Nat) : hlS lst P nl h = hs P 100000 h := by
  have e : hlS lst P nl h = true ↔ hs P 100000 h = true := by
    rw [hlS_iff, hs_iff]
    constructor
    · rintro ⟨j, h1, h2, h3⟩; exact ⟨lst j, (hM.1 j h1).1, h2, h3⟩
    · rintro ⟨x, h1, h2, h3⟩
      obtain ⟨j, h4, h5⟩ := memb_iff.mp (hC x h1 h2)
      exact ⟨j, h4, by rw [h5]; exact h2, by rw [h5]; exact h3⟩
  cases ha : hlS lst P nl h <;> cases hb : hs P 100000 h
  · rfl
  · rw [ha, hb] at e; exact absurd (e.mpr rfl) (by simp)
  · rw [ha, hb] at e; exact absurd (e.mp rfl) (by simp)
  · rfl
/-- the least one from lo on, -1 for none -/
def FD (f : Int32) (lo : Nat) (Hs : Nat → Bool) : Prop := (f = -1 ∧ ∀ y, lo ≤ y → Hs y = false) ∨ ∃ t, f = nI t ∧ t < 16777213 ∧ lo ≤ t ∧ Hs t = true ∧ ∀ y, lo ≤ y → y < t → Hs y = false
theorem FD.congr {f : Int32} {lo : Nat} {Hs Hs' : Nat → Bool} (h : FD f lo Hs) (e : ∀ y, Hs' y = Hs y) : FD f lo Hs' := by rw [show Hs' = Hs from funext e]; exact h
theorem FD.skip {f : Int32} {lo j : Nat} {lst : Nat → Nat} {P : Nat → Bool} (h : FD f lo (hlS lst P j)) (hn : P (lst j) = false ∨ hsh (lst j) < lo) : FD f lo (hlS lst P (j + 1)) := by
  have e : ∀ y, lo ≤ y → hlS lst P (j + 1) y = hlS lst P j y := fun y hy => by
    simp only [hlS]
    rcases hn with q | q
    · rw [q]; simp
    · have : ¬ y = hsh (lst j) := by omega
      simp [this]
  rcases h with ⟨h1, h2⟩ | ⟨t, h1, h2, h3, h4, h5⟩
  · exact Or.inl ⟨h1, fun y hy => by rw [e y hy]; exact h2 y hy⟩
  · exact Or.inr ⟨t, h1, h2, h3, by rw [e t h3]; exact h4, fun y hy h6 => by rw [e y hy]; exact h5 y hy h6⟩
theorem FD.keep {lo j t : Nat} {lst : Nat → Nat} {P : Nat → Bool} (h2 : t < 16777213) (h3 : lo ≤ t) (h4 : hlS lst P j t = true) (h5 : ∀ y, lo ≤ y → y < t → hlS lst P j y = false) (ht : t ≤ hsh (lst j)) : FD (nI t) lo (hlS lst P (j + 1)) := by
  refine Or.inr ⟨t, rfl, h2, h3, by simp only [hlS]; rw [h4]; rfl, fun y hy h6 => ?_⟩
  simp only [hlS]
  have : ¬ y = hsh (lst j) := by omega
  rw [h5 y hy h6]
  simp [this]
theorem FD.take {lo j : Nat} {lst : Nat → Nat} {P : Nat → Bool} (hP : P (lst j) = true) (hlo : lo ≤ hsh (lst j)) (hn : ∀ y, lo ≤ y → y < hsh (lst j) → hlS lst P j y = false) : FD (nI (hsh (lst j))) lo (hlS lst P (j + 1)) := by
  refine Or.inr ⟨hsh (lst j), rfl, hsh_lt _, hlo, by simp only [hlS]; rw [hP]; simp, fun y hy h6 => ?_⟩
  simp only [hlS]
  have : ¬ y = hsh (lst j) := by omega
  rw [hn y hy h6]
  simp [this]
theorem FD0 {lo : Nat} {lst : Nat → Nat} {P : Nat → Bool} : FD (-1) lo (hlS lst P 0) := Or.inl ⟨rfl, fun _ _ => rfl⟩
/-- what layKept has laid below lo -/
def LK (Hs : Nat → Bool) (lo : Nat) (g : Nat → Int32) : Prop := ∀ h, h < lo → Hs h = true → g (cb Hs h) = nI h
theorem LK.step {Hs : Nat → Bool} {lo t : Nat} {g : Nat → Int32} (h : LK Hs lo g) (h1 : lo ≤ t) (h2 : Hs t = true) (h3 : ∀ y, lo ≤ y → y < t → Hs y = false) : LK Hs (t + 1) (upd g (cb Hs lo) (nI t)) := fun x hx hs => by
  have e : cb Hs t = cb Hs lo := cb_none h1 h3
  rcases Nat.lt_trichotomy x t with q | q | q
  · have q2 : x < lo := by
      rcases Nat.lt_or_ge x lo with r | r
      · exact r
      · have := h3 x r q; rw [hs] at this; cases this
    have := cb_lt q2 hs
    rw [upd_n (by omega)]
    exact h x q2 hs
  · subst q
    rw [e, upd_s]
  · omega
theorem LK.done1 {k : Nat} {Hs : Nat → Bool} {lo : Nat} {g : Nat → Int32} (h : LK Hs lo g) (hk : cb Hs lo ≤ k) (hlo : lo ≤ 16777213) (hn : ∀ y, lo ≤ y → Hs y = false) : LH k Hs (cb Hs lo) g := by
  have e : cb Hs 16777213 = cb Hs lo := cb_none hlo (fun y h1 _ => hn y h1)
  refine ⟨by omega, fun x hx hs _ => ?_⟩
  rcases Nat.lt_or_ge x lo with q | q
  · exact h x q hs
  · rw [hn x q] at hs; cases hs
theorem LK.done2 {k : Nat} {Hs : Nat → Bool} {lo : Nat} {g : Nat → Int32} (h : LK Hs lo g) (hk : cb Hs lo = k) (hlo : lo ≤ 16777213) : LH k Hs (cb Hs lo) g := by
  have e : cb Hs lo ≤ cb Hs 16777213 := cb_mono hlo
  refine ⟨by omega, fun x hx hs hc => ?_⟩
  rcases Nat.lt_or_ge x lo with q | q
  · exact h x q hs
  · have := cb_mono (P := Hs) q; omega
/-- the next one of a kept row, or the bound -/
theorem LH.nxt {k z : Nat} {Hs : Nat → Bool} {g : Nat → Int32} (h : LH k Hs z g) {lo : Nat} (hlo : lo ≤ 16777213) : ∃ v, lo ≤ v ∧ v ≤ 16777213 ∧ (∀ y, lo ≤ y → y < v → kS k Hs y = false) ∧ (cb (kS k Hs) lo < z → v < 16777213 ∧ kS k Hs v = true ∧ g (cb (kS k Hs) lo) = nI v) ∧ (z ≤ cb (kS k Hs) lo → v = 16777213) := by
  rcases Nat.lt_or_ge (cb (kS k Hs) lo) z with q | q
  · obtain ⟨t, h1, h2, h3, h4, h5, h6⟩ := h.next hlo q
    exact ⟨t, h1, by omega, h5, fun _ => ⟨h2, h3, h6⟩, fun r => by omega⟩
  · exact ⟨16777213, hlo, Nat.le_refl _, h.cnt q hlo, fun r => by omega, fun _ => rfl⟩
theorem uH_eq {k : Nat} {H1 H2 : Nat → Bool} (y : Nat) : uH k H1 H2 y = (kS k H1 y || kS k H2 y) := by simp [uH, orS]
theorem uH_none {k : Nat} {H1 H2 : Nat → Bool} {y : Nat} (h1 : kS k H1 y = false) (h2 : kS k H2 y = false) : uH k H1 H2 y = false := by rw [uH_eq, h1, h2]; rfl
/-- estimate of the reference -/
theorem est_eq {k z t : Nat} {Hs : Nat → Bool} {g : Nat → Int32} (h : LH k Hs z g) (hz : 0 < z) (h1 : t < 16777213) (h2 : Hs t = true) (h3 : cb Hs t = z - 1) : (if z < k then z else (k - 1) * 16777213 / t) = estV k Hs := by
  have h0 := h.1
  by_cases q : z < k
  · rw [if_pos q, estV_lo (by omega)]; omega
  · rw [if_neg q, estV_hi (by omega) h1 h2 (by omega)]
end XMOD2
theorem isk_old {K : Nat → Bool} {h lo t : Nat} (c : (K h && decide (h < lo)) = true) (ht : lo ≤ t) : xb (K h && decide (h < t + 1)) = nI 1 := by
  simp at c
  have : h < t + 1 := by omega
  simp [c.1, this]; rfl
theorem isk_hit {K : Nat → Bool} {h t : Nat} (ht : K t = true) (e : t = h) : xb (K h && decide (h < t + 1)) = nI 1 := by
  subst e
  simp [ht]; rfl
theorem isk_no {K : Nat → Bool} {h lo t : Nat} (c : (K h && decide (h < lo)) = false) (e : t ≠ h) (hn : ∀ y, lo ≤ y → y < t → K y = false) : xb (K h && decide (h < t + 1)) = nI 0 := by
  have : (K h && decide (h < t + 1)) = false := by
    cases hk : K h with
    | false => rfl
    | true =>
      rw [hk] at c
      simp at c
      have h1 : ¬ h < t + 1 := fun q => by
        have := hn h c (by omega)
        rw [hk] at this; cases this
      simp; omega
  rw [this]; rfl
theorem isk_end {K : Nat → Bool} {h lo : Nat} (hn : ∀ y, lo ≤ y → y < 16777213 → K y = false) (hh : h < 16777213) : (K h && decide (h < lo)) = K h := by
  cases hk : K h with
  | false => rfl
  | true =>
    rcases Nat.lt_or_ge h lo with q | q
    · simp [q]
    · rw [hn h q hh] at hk; cases hk
theorem isk_0 {K : Nat → Bool} {h : Nat} : nI 0 = xb (K h && decide (h < 0)) := by
  have : (K h && decide (h < 0)) = false := by simp
  rw [this]; rfl
