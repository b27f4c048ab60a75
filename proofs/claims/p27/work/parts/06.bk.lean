section XBK
theorem cb_stop {P R : Nat → Bool} {a N : Nat} (ha : a ≤ N) (h : cb P N ≤ cb P a) (hs : ∀ x, R x = true → P x = true) : cb R N = cb R a := by
  refine cb_none ha (fun x h1 h2 => ?_)
  cases hr : R x with
  | false => rfl
  | true =>
    have h3 := cb_lt h2 (hs x hr)
    have h4 := cb_mono (P := P) h1
    omega
theorem cb_to {P R : Nat → Bool} {a x : Nat} (ha : a ≤ x) (hn : ∀ y, a ≤ y → y < x → P y = false) (hs : ∀ x, R x = true → P x = true) : cb R x = cb R a := by
  refine cb_none ha (fun y h1 h2 => ?_)
  cases hr : R y with
  | false => rfl
  | true => have := hn y h1 h2; rw [hs y hr] at this; cases this
/-- a row that lists those with P, rising -/
def RW (P : Nat → Bool) (N n : Nat) (f : Nat → Int32) : Prop := n = cb P N ∧ ∀ x, x < N → P x = true → f (cb P x) = nI x
theorem RW.at {P : Nat → Bool} {N n : Nat} {f : Nat → Int32} (h : RW P N n f) {j : Nat} (hj : j < n) : ∃ x, x < N ∧ P x = true ∧ cb P x = j ∧ f j = nI x := by
  obtain ⟨x, h1, h2, h3⟩ := cb_at (P := P) (n := N) (j := j) (by rw [← h.1]; exact hj)
  exact ⟨x, h1, h2, h3, by rw [← h3]; exact h.2 x h1 h2⟩
theorem RW.next {P : Nat → Bool} {N n : Nat} {f : Nat → Int32} (h : RW P N n f) {a : Nat} (ha : a ≤ N) (hj : cb P a < n) : ∃ x, a ≤ x ∧ x < N ∧ P x = true ∧ cb P x = cb P a ∧ (∀ y, a ≤ y → y < x → P y = false) ∧ f (cb P a) = nI x := by
  obtain ⟨x, h1, h2, h3, h4, h5⟩ := cb_next ha (by rw [← h.1]; exact hj)
  exact ⟨x, h1, h2, h3, h4, h5, by rw [← h4]; exact h.2 x h2 h3⟩
end XBK
section XBK2
theorem bs_step {s e b r : Nat} (hs : s = 2 ^ e) (he : e ≤ 16) (h1 : b ≤ r) (h2 : r < b + s) : (s / 2 = 0 ∧ r = b) ∨ ∃ e', e' ≤ 16 ∧ s / 2 = 2 ^ e' ∧ b ≤ r ∧ r < b + 2 * 2 ^ e' := by
  cases e with
  | zero => left; simp at hs; subst hs; exact ⟨rfl, by omega⟩
  | succ e =>
    right
    have h3 : s = 2 * 2 ^ e := by rw [hs, Nat.pow_succ]; omega
    exact ⟨e, by omega, by omega, h1, by omega⟩
/-- the items of a map of dates: -1 for none -/
def Sm (M : Nat → Int32) : Nat → Bool := fun x => decide (M x ≠ -1)
theorem Sm_t {M : Nat → Int32} {x : Nat} : Sm M x = true ↔ M x ≠ -1 := by simp [Sm]
theorem Sm_f {M : Nat → Int32} {x : Nat} : Sm M x = false ↔ M x = -1 := by simp [Sm]
def mrgI (a b : Int32) : Int32 := if a < b then b else a
def mrg (M1 M2 : Nat → Int32) : Nat → Int32 := fun x => mrgI (M1 x) (M2 x)
def MV (M : Nat → Int32) : Prop := ∀ x, M x = -1 ∨ 0 ≤ M x
theorem neg1lt {a : Int32} (h : 0 ≤ a) : (-1 : Int32) < a := by
  rw [Int32.lt_iff_toInt_lt]
  rw [Int32.le_iff_toInt_le] at h
  have e1 : (-1 : Int32).toInt = -1 := by decide
  have e2 : (0 : Int32).toInt = 0 := by decide
  omega
theorem nneg1 {a : Int32} (h : 0 ≤ a) : a ≠ -1 := by
  intro q
  subst q
  exact absurd h (by decide)
theorem mrgI_l {a : Int32} (h : a = -1 ∨ 0 ≤ a) : mrgI a (-1) = a := by
  unfold mrgI
  rcases h with rfl | h
  · rfl
  · rw [if_neg (fun q => ?_)]
    have := neg1lt h
    rw [Int32.lt_iff_toInt_lt] at this q
    omega
theorem mrgI_r {a : Int32} (h : a = -1 ∨ 0 ≤ a) : mrgI (-1) a = a := by
  unfold mrgI
  rcases h with rfl | h
  · rfl
  · rw [if_pos (neg1lt h)]
theorem mrgI_self {a : Int32} : mrgI a a = a := by unfold mrgI; split <;> rfl
theorem mrgI_v {a b : Int32} (ha : a = -1 ∨ 0 ≤ a) (hb : b = -1 ∨ 0 ≤ b) : mrgI a b = -1 ∨ 0 ≤ mrgI a b := by unfold mrgI; split; exact hb; exact ha
theorem mrg_MV {M1 M2 : Nat → Int32} (h1 : MV M1) (h2 : MV M2) : MV (mrg M1 M2) := fun x => mrgI_v (h1 x) (h2 x)
theorem Sm_mrg {M1 M2 : Nat → Int32} (h1 : MV M1) (h2 : MV M2) (x : Nat) : Sm (mrg M1 M2) x = (Sm M1 x || Sm M2 x) := by
  have h3 := h1 x
  have h4 := h2 x
  unfold mrg Sm
  simp only
  rcases h3 with e1 | e1
  · simp [e1, mrgI_r h4]
  · have n1 := nneg1 e1
    rcases h4 with e2 | e2
    · simp [e2, mrgI_l (Or.inr e1)]
    · have n2 := nneg1 e2
      have n3 : mrgI (M1 x) (M2 x) ≠ -1 := by unfold mrgI; split; exact n2; exact n1
      simp [n1, n2, n3]
/-- a basket: n items of the map M in rows of cap places -/
def BR (M : Nat → Int32) (n cap : Nat) (fi fd : Nat → Int32) : Prop := RW (Sm M) 100000 n fi ∧ (∀ x, x < 100000 → Sm M x = true → fd (cb (Sm M) x) = M x) ∧ n ≤ cap ∧ cap ≤ 100000
def capR (w cap : Nat) : Nat := if w ≤ cap then cap else min 100000 (max w (2 * cap))
def mcR (w cap : Nat) : Nat := if w ≤ cap then 0 else 2
def msR (w cap : Nat) : Nat := if w ≤ cap then 0 else 2 * capR w cap
theorem capR_no {w cap : Nat} (h : w ≤ cap) : capR w cap = cap := if_pos h
theorem capR_yes {w cap : Nat} (h : cap < w) : capR w cap = min 100000 (max w (2 * cap)) := if_neg (by omega)
theorem mcR_yes {w cap : Nat} (h : cap < w) : mcR w cap = 2 := if_neg (by omega)
theorem msR_yes {w cap : Nat} (h : cap < w) : msR w cap = 2 * capR w cap := if_neg (by omega)
theorem capR_le {w cap : Nat} (hw : w ≤ 100000) (hc : cap ≤ 100000) : w ≤ capR w cap ∧ cap ≤ capR w cap ∧ capR w cap ≤ 100000 := by
  unfold capR; split <;> omega
theorem cpy_lt {f g : Nat → Int32} {n j : Nat} (h : j < n) : va_cpy f g 0 0 n j = f j := by rw [pk_cpy_in (Nat.zero_le _) (by omega)]; congr 1; omega
/-- the merging of two rows, from the top down to hi -/
def TI (U S1 : Nat → Bool) (g1 G : Nat → Int32) (hi : Nat) (f : Nat → Int32) : Prop := (∀ j, j < cb S1 hi → f j = g1 j) ∧ ∀ x, hi ≤ x → x < 100000 → U x = true → f (cb U x) = G x
theorem TI.step {U S1 : Nat → Bool} {g1 G f : Nat → Int32} {hi z : Nat} (h : TI U S1 g1 G hi f) (hz : z < hi) (hU : U z = true) (hn : ∀ y, z < y → y < hi → U y = false) (hs : ∀ x, S1 x = true → U x = true) {v : Int32} (hv : v = G z) : TI U S1 g1 G z (upd f (cb U z) v) := by
  have h0 : cb S1 z ≤ cb U z := cb_sub (fun x _ hx => hs x hx)
  refine ⟨fun j hj => ?_, fun x h1 h2 h3 => ?_⟩
  · rw [upd_n (by omega)]
    exact h.1 j (Nat.lt_of_lt_of_le hj (cb_mono (by omega)))
  · rcases Nat.lt_or_ge z x with q | q
    · have h4 : hi ≤ x := by
        rcases Nat.lt_or_ge x hi with r | r
        · have := hn x q r; rw [h3] at this; cases this
        · exact r
      have h5 : cb U z < cb U hi := cb_lt hz hU
      have h6 : cb U hi ≤ cb U x := cb_mono h4
      rw [upd_n (by omega)]
      exact h.2 x h4 h2 h3
    · have e : x = z := by omega
      subst e
      rw [upd_s]; exact hv
theorem TI.done {U S1 S2 : Nat → Bool} {g1 G f : Nat → Int32} {hi : Nat} (h : TI U S1 g1 G hi f) (hU : ∀ x, U x = (S1 x || S2 x)) (h2 : cb S2 hi = 0) (hG : ∀ x, x < 100000 → S1 x = true → S2 x = false → g1 (cb S1 x) = G x) : ∀ x, x < 100000 → U x = true → f (cb U x) = G x := by
  intro x hx hu
  rcases Nat.lt_or_ge x hi with q | q
  · have hno : ∀ y, y < hi → S2 y = false := fun y hy => by
      cases hs : S2 y with
      | false => rfl
      | true => have := cb_lt hy hs; omega
    have e1 : cb U x = cb S1 x := cb_congr (fun y hy => by rw [hU y, hno y (by omega), Bool.or_false])
    have e2 : S1 x = true := by rw [hU x, hno x q, Bool.or_false] at hu; exact hu
    rw [e1, h.1 _ (cb_lt q e2)]
    exact hG x hx e2 (hno x q)
  · exact h.2 x q hx hu
theorem m1lt {p : Nat} (hp : p < 2 ^ 31) : (nI p - nI 1 < 0) ↔ p = 0 := by
  constructor
  · intro h
    rcases Nat.eq_zero_or_pos p with q | q
    · exact q
    · rw [pk_sub q] at h
      exact absurd h (nI_pos (by omega))
  · rintro rfl
    decide
theorem m1_sub (p : Nat) (hp : 0 < p) : nI p - nI 1 = nI (p - 1) := pk_sub hp
theorem m1_inc {p q : Nat} (h : q + 1 = p) : nI p - nI 1 + (-1) = nI q - nI 1 := by
  subst h
  rw [pk_sub (by omega), Nat.add_sub_cancel]
  have e : (-1 : Int32) = -(nI 1) := by decide
  rw [e, ← Int32.sub_eq_add_neg]
theorem m1_s0 {x : Int32} : x - nI 0 = x := by show x - 0 = x; simp
theorem m1_s1 {p q : Nat} (h : q + 1 = p) : nI p - nI 1 - nI 1 = nI q - nI 1 := by
  subst h
  rw [pk_sub (by omega), Nat.add_sub_cancel]
theorem ifneg1 {y : Nat} (hy : y < 2 ^ 31) : (if (-1 : Int32) < nI y then nI y else (-1)) = nI y := if_pos (neg1lt (nI_pos' hy))
end XBK2
