section XRANK
/-! counts: cb P n is how many below n have P; it is also the place of n among them -/
def cb (P : Nat → Bool) : Nat → Nat
  | 0 => 0
  | n + 1 => cb P n + (if P n then 1 else 0)
theorem cb_t {P : Nat → Bool} {n : Nat} (h : P n = true) : cb P (n + 1) = cb P n + 1 := by simp [cb, h]
theorem cb_f {P : Nat → Bool} {n : Nat} (h : P n = false) : cb P (n + 1) = cb P n := by simp [cb, h]
theorem cb_mono {P : Nat → Bool} {a b : Nat} (h : a ≤ b) : cb P a ≤ cb P b := by
  induction b with
  | zero => rw [Nat.le_zero.mp h]; exact Nat.le_refl _
  | succ b ih =>
    rcases Nat.lt_or_ge a (b + 1) with q | q
    · exact Nat.le_trans (ih (by omega)) (Nat.le_add_right _ _)
    · rw [show a = b + 1 by omega]; exact Nat.le_refl _
theorem cb_le {P : Nat → Bool} {n : Nat} : cb P n ≤ n := by
  induction n with
  | zero => exact Nat.le_refl _
  | succ n ih => simp only [cb]; split <;> omega
theorem cb_lt {P : Nat → Bool} {a b : Nat} (h : a < b) (hP : P a = true) : cb P a < cb P b := by
  have h1 : cb P (a + 1) ≤ cb P b := cb_mono h
  rw [cb_t hP] at h1
  omega
theorem cb_inj {P : Nat → Bool} {a b : Nat} (ha : P a = true) (hb : P b = true) (h : cb P a = cb P b) : a = b := by
  rcases Nat.lt_trichotomy a b with q | q | q
  · have := cb_lt q ha; omega
  · exact q
  · have := cb_lt q hb; omega
theorem cb_lt_rev {P : Nat → Bool} {a b : Nat} (h : cb P a < cb P b) : a < b := by
  rcases Nat.lt_or_ge a b with q | q
  · exact q
  · have := cb_mono (P := P) q; omega
theorem cb_none {P : Nat → Bool} {a b : Nat} (h : a ≤ b) (hn : ∀ x, a ≤ x → x < b → P x = false) : cb P b = cb P a := by
  induction b with
  | zero => rw [Nat.le_zero.mp h]
  | succ b ih =>
    rcases Nat.lt_or_ge a (b + 1) with q | q
    · rw [cb_f (hn b (by omega) (by omega))]; exact ih (by omega) (fun x h1 h2 => hn x h1 (by omega))
    · rw [show a = b + 1 by omega]
/-- the one at a place -/
theorem cb_at {P : Nat → Bool} {n j : Nat} (h : j < cb P n) : ∃ x, x < n ∧ P x = true ∧ cb P x = j := by
  induction n with
  | zero => simp [cb] at h
  | succ n ih =>
    by_cases hP : P n = true
    · rw [cb_t hP] at h
      rcases Nat.lt_or_ge j (cb P n) with q | q
      · obtain ⟨x, h1, h2, h3⟩ := ih q; exact ⟨x, by omega, h2, h3⟩
      · exact ⟨n, by omega, hP, by omega⟩
    · have hP : P n = false := by simpa using hP
      rw [cb_f hP] at h
      obtain ⟨x, h1, h2, h3⟩ := ih h; exact ⟨x, by omega, h2, h3⟩
/-- the greatest below a bound -/
theorem cb_top {P : Nat → Bool} {n : Nat} (h : 0 < cb P n) : ∃ x, x < n ∧ P x = true ∧ cb P x + 1 = cb P n ∧ ∀ y, x < y → y < n → P y = false := by
  obtain ⟨x, h1, h2, h3⟩ := cb_at (P := P) (n := n) (j := cb P n - 1) (by omega)
  refine ⟨x, h1, h2, by omega, fun y h4 h5 => ?_⟩
  cases hy : P y with
  | false => rfl
  | true =>
    have := cb_lt h4 h2
    have := cb_lt h5 hy
    omega
/-- the next one from a bound on -/
theorem cb_next {P : Nat → Bool} {a n : Nat} (ha : a ≤ n) (h : cb P a < cb P n) : ∃ x, a ≤ x ∧ x < n ∧ P x = true ∧ cb P x = cb P a ∧ ∀ y, a ≤ y → y < x → P y = false := by
  obtain ⟨x, h1, h2, h3⟩ := cb_at (P := P) (n := n) (j := cb P a) h
  have hx : a ≤ x := by
    rcases Nat.lt_or_ge x a with q | q
    · have := cb_lt q h2; omega
    · exact q
  refine ⟨x, hx, h1, h2, h3, fun y h4 h5 => ?_⟩
  cases hy : P y with
  | false => rfl
  | true =>
    have := cb_lt h5 hy
    have := cb_mono (P := P) h4
    omega
theorem cb_congr {P R : Nat → Bool} {n : Nat} (h : ∀ x, x < n → P x = R x) : cb P n = cb R n := by
  induction n with
  | zero => rfl
  | succ n ih => simp only [cb]; rw [ih (fun x q => h x (by omega)), h n (by omega)]
theorem cb_sub {P R : Nat → Bool} {n : Nat} (h : ∀ x, x < n → P x = true → R x = true) : cb P n ≤ cb R n := by
  induction n with
  | zero => exact Nat.le_refl _
  | succ n ih =>
    have h1 := ih (fun x q => h x (by omega))
    cases hp : P n with
    | false => rw [cb_f hp]; exact Nat.le_trans h1 (cb_mono (by omega))
    | true => rw [cb_t hp, cb_t (h n (by omega) hp)]; omega
theorem cb_uni (P R : Nat → Bool) (n : Nat) : cb (fun x => P x || R x) n + cb (fun x => P x && R x) n = cb P n + cb R n := by
  induction n with
  | zero => rfl
  | succ n ih =>
    simp only [cb]
    rcases Bool.eq_false_or_eq_true (P n) with hp | hp <;> rcases Bool.eq_false_or_eq_true (R n) with hr | hr <;> simp [hp, hr] <;> omega
theorem cb_diff (P R : Nat → Bool) (n : Nat) : cb (fun x => P x && !R x) n + cb (fun x => P x && R x) n = cb P n := by
  induction n with
  | zero => rfl
  | succ n ih =>
    simp only [cb]
    rcases Bool.eq_false_or_eq_true (P n) with hp | hp <;> rcases Bool.eq_false_or_eq_true (R n) with hr | hr <;> simp [hp, hr] <;> omega
theorem cb_zero {P : Nat → Bool} {n : Nat} (h : ∀ x, x < n → P x = false) : cb P n = 0 := by
  induction n with
  | zero => rfl
  | succ n ih => rw [cb_f (h n (by omega)), ih (fun x q => h x (by omega))]
/-- one more -/
theorem cb_ins {P R : Nat → Bool} {a n : Nat} (ha : a < n) (hP : P a = false) (hR : R a = true) (h : ∀ x, x ≠ a → R x = P x) : cb R n = cb P n + 1 := by
  induction n with
  | zero => omega
  | succ n ih =>
    rcases Nat.lt_or_ge a n with q | q
    · simp only [cb]; rw [ih q, h n (by omega)]; omega
    · have e : a = n := by omega
      subst e
      rw [cb_t hR, cb_f hP, cb_congr (fun x hx => h x (by omega))]
theorem cb_ins_lo {P R : Nat → Bool} {a n : Nat} (ha : n ≤ a) (h : ∀ x, x ≠ a → R x = P x) : cb R n = cb P n := cb_congr (fun x hx => h x (by omega))
/-- a list without doubles -/
def memb (f : Nat → Nat) : Nat → Nat → Bool
  | 0, _ => false
  | n + 1, x => (f n == x) || memb f n x
theorem memb_iff {f : Nat → Nat} {n x : Nat} : memb f n x = true ↔ ∃ j, j < n ∧ f j = x := by
  induction n with
  | zero => simp [memb]
  | succ n ih =>
    simp only [memb, Bool.or_eq_true, beq_iff_eq, ih]
    constructor
    · rintro (h | ⟨j, h1, h2⟩)
      · exact ⟨n, by omega, h⟩
      · exact ⟨j, by omega, h2⟩
    · rintro ⟨j, h1, h2⟩
      rcases Nat.lt_or_ge j n with q | q
      · exact Or.inr ⟨j, q, h2⟩
      · exact Or.inl (by rw [← h2]; congr 1; omega)
theorem memb_congr {f g : Nat → Nat} {n x : Nat} (h : ∀ j, j < n → f j = g j) : memb f n x = memb g n x := by
  induction n with
  | zero => rfl
  | succ n ih => simp only [memb]; rw [ih (fun j q => h j (by omega)), h n (by omega)]
/-- a sum over a list is a sum over what it lists -/
theorem cb_list {f : Nat → Nat} {P : Nat → Bool} {N : Nat} : ∀ n : Nat, (∀ j, j < n → f j < N) → (∀ i j, i < n → j < n → f i = f j → i = j) → cb (fun j => P (f j)) n = cb (fun x => P x && memb f n x) N := by
  intro n
  induction n with
  | zero =>
    intro _ _
    exact (cb_zero (fun x _ => by simp [memb])).symm
  | succ n ih =>
    intro h1 h2
    have e := ih (fun j q => h1 j (by omega)) (fun i j q r z => h2 i j (by omega) (by omega) z)
    have hno : memb f n (f n) = false := by
      cases hm : memb f n (f n) with
      | false => rfl
      | true =>
        obtain ⟨j, q, r⟩ := memb_iff.mp hm
        have := h2 j n (by omega) (by omega) r
        omega
    cases hp : P (f n) with
    | false =>
      rw [cb_f (P := fun j => P (f j)) hp, e]
      refine cb_congr (fun x _ => ?_)
      simp only [memb]
      by_cases hx : f n = x
      · subst hx; simp [hp]
      · have hq : (f n == x) = false := by simp; exact hx
        rw [hq, Bool.false_or]
    | true =>
      rw [cb_t (P := fun j => P (f j)) hp, e]
      refine (cb_ins (a := f n) (h1 n (by omega)) (by simp [hno]) (by simp [memb, hp]) (fun x hx => ?_)).symm
      simp only [memb]
      have : (f n == x) = false := by simp; exact fun q => hx q.symm
      rw [this, Bool.false_or]
end XRANK
