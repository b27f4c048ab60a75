section XX4M
abbrev hsM (M : Nat → Int32) : Nat → Bool := hs (Sm M) 100000
def uH (k : Nat) (H1 H2 : Nat → Bool) : Nat → Bool := orS (orS (fun _ => false) (kS k H1)) (kS k H2)
theorem hs_hi {P : Nat → Bool} {n y : Nat} (h : 16777213 ≤ y) : hs P n y = false := by
  cases hb : hs P n y with
  | false => rfl
  | true =>
    obtain ⟨x, -, -, h3⟩ := hs_iff.mp hb
    have := hsh_lt x
    omega
theorem kS_hi {k : Nat} {P : Nat → Bool} {n : Nat} : ∀ y, 16777213 ≤ y → kS k (hs P n) y = false := fun y h => by
  cases hb : kS k (hs P n) y with
  | false => rfl
  | true => have := (kS_t.mp hb).1; rw [hs_hi h] at this; cases this
def inT (k : Nat) (H1 H2 : Nat → Bool) : Nat → Bool := fun h => kS k H1 h && kS k H2 h
def noT (k : Nat) (H2 : Nat → Bool) : Nat → Bool := fun h => !kS k H2 h
def cT (k : Nat) (Hs T : Nat → Bool) : Nat → Bool := fun h => kS k Hs h && T h
theorem cT_sub {k : Nat} {Hs T : Nat → Bool} (x : Nat) (h : cT k Hs T x = true) : kS k Hs x = true := by unfold cT at h; simp at h; exact h.1
/-- a line of items, now -/
def lnF (first step : Nat) : Nat → Nat := fun i => first + i * step
def lnM (first step many now : Nat) : Nat → Int32 := fun x => if memb (lnF first step) many x = true then nI now else -1
theorem lnM_MV {first step many now : Nat} (h : now < 2 ^ 31) : MV (lnM first step many now) := fun x => by
  unfold lnM
  split
  · exact Or.inr (nI_pos' h)
  · exact Or.inl rfl
theorem lnM_Sm {first step many now : Nat} (h : now < 2 ^ 31) (x : Nat) : Sm (lnM first step many now) x = memb (lnF first step) many x := by
  unfold Sm lnM
  cases hm : memb (lnF first step) many x with
  | false => simp
  | true => simp; exact nneg1 (nI_pos' h)
theorem cb_ltn {i n : Nat} (h : i ≤ n) : cb (fun j => decide (j < i)) n = i := by
  induction n with
  | zero => simp [cb]; omega
  | succ n ih =>
    rcases Nat.lt_or_ge n i with q | q
    · have e : i = n + 1 := by omega
      subst e
      rw [cb_t (by simp)]
      have : cb (fun j => decide (j < n + 1)) n = cb (fun j => decide (j < n)) n := cb_congr (fun x hx => by simp; omega)
      rw [this]
      have h2 : ∀ m, m ≤ n → cb (fun j => decide (j < n)) m = m := by
        intro m
        induction m with
        | zero => intro _; rfl
        | succ m ihm => intro hm; rw [cb_t (by simp; omega), ihm (by omega)]
      rw [h2 n (Nat.le_refl _)]
    · rw [cb_f (by simp; omega), ih q]
theorem memb_cb {f : Nat → Nat} {n N : Nat} (hf : ∀ j, j < n → f j < N) (hi : ∀ i j, i < j → j < n → f i < f j) : cb (memb f n) N = n ∧ ∀ i, i < n → cb (memb f n) (f i) = i := by
  have hinj : ∀ i j, i < n → j < n → f i = f j → i = j := fun i j h1 h2 h3 => by
    rcases Nat.lt_trichotomy i j with q | q | q
    · have := hi i j q h2; omega
    · exact q
    · have := hi j i q h1; omega
  constructor
  · have h := cb_list (f := f) (P := fun _ => true) (N := N) n hf hinj
    have h2 : cb (fun _ => true) n = n := by
      clear h hinj hi hf
      induction n with
      | zero => rfl
      | succ n ih => rw [cb_t rfl, ih]
    rw [h2] at h
    exact (h.trans (cb_congr (fun x _ => Bool.true_and _))).symm
  · intro i hin
    have h := cb_list (f := f) (P := fun y => decide (y < f i)) (N := N) n hf hinj
    have h2 : cb (fun j => decide (f j < f i)) n = i := by
      refine (cb_congr (R := fun j => decide (j < i)) (fun x hx => ?_)).trans (cb_ltn (by omega))
      rcases Nat.lt_trichotomy x i with q | q | q
      · have := hi x i q hin; simp [q, this]
      · subst q; simp
      · have h3 := hi i x q hx
        have h4 : ¬ f x < f i := by omega
        have h5 : ¬ x < i := by omega
        simp [h4, h5]
    rw [h2] at h
    have h6 := hf i hin
    have h7 : cb (fun x => decide (x < f i) && memb f n x) N = cb (fun x => decide (x < f i) && memb f n x) (f i) := by
      refine cb_none (by omega) (fun y h1 _ => ?_)
      have h8 : ¬ y < f i := by omega
      simp [h8]
    rw [h7] at h
    exact (cb_congr (fun x hx => by simp [hx])).trans h.symm
theorem ln_RW {first step many now : Nat} {g : Nat → Int32} (hs : 1 ≤ step) (hm : 1 ≤ many) (hl : first + step * (many - 1) < 100000) (hn : now < 2 ^ 31) (hg : ∀ i, i < many → g i = nI (first + i * step)) : RW (Sm (lnM first step many now)) 100000 many g := by
  have e : Sm (lnM first step many now) = memb (lnF first step) many := funext (lnM_Sm hn)
  have hf : ∀ j, j < many → lnF first step j < 100000 := fun j hj => by
    unfold lnF
    have : j * step ≤ step * (many - 1) := by rw [Nat.mul_comm]; exact Nat.mul_le_mul (Nat.le_refl _) (by omega)
    omega
  have hi : ∀ i j, i < j → j < many → lnF first step i < lnF first step j := fun i j h1 _ => by
    unfold lnF
    have : (i + 1) * step ≤ j * step := Nat.mul_le_mul h1 (Nat.le_refl _)
    rw [Nat.add_mul] at this
    omega
  obtain ⟨h1, h2⟩ := memb_cb hf hi
  rw [e]
  refine ⟨h1.symm, fun x hx hP => ?_⟩
  obtain ⟨j, hj, hjx⟩ := memb_iff.mp hP
  rw [← hjx, h2 j hj, hg j hj]
  rfl
theorem ln_dt {first step many now : Nat} {d : Nat → Int32} (hs : 1 ≤ step) (hm : 1 ≤ many) (hl : first + step * (many - 1) < 100000) (hn : now < 2 ^ 31) (hd : ∀ i, i < many → d i = nI now) : ∀ x, x < 100000 → Sm (lnM first step many now) x = true → d (cb (Sm (lnM first step many now)) x) = lnM first step many now x := fun x hx hP => by
  have hR := ln_RW (g := fun i => nI (first + i * step)) hs hm hl hn (fun i _ => rfl)
  have h1 := cb_lt hx hP
  rw [← hR.1] at h1
  rw [hd _ h1]
  rw [lnM_Sm hn] at hP
  unfold lnM
  rw [if_pos hP]
theorem nwK_one {M : Nat → Int32} {x now : Nat} (hx : x < 100000) (hn : now < 2 ^ 31) : nwK M (lnM x 1 1 now) = if Sm M x = true then 0 else 1 := by
  have e : ∀ y, Sm (lnM x 1 1 now) y = decide (y = x) := fun y => by
    rw [lnM_Sm hn]
    simp only [memb, lnF, Nat.zero_mul, Nat.add_zero, Bool.or_false]
    by_cases h : x = y
    · subst h; simp
    · have h2 : ¬ y = x := fun q => h q.symm
      simp [h, h2]
  unfold nwK
  cases hs : Sm M x with
  | true =>
    rw [if_pos rfl]
    refine cb_zero (fun y _ => ?_)
    rw [e]
    by_cases h : y = x
    · subst h; simp [hs]
    · simp [h]
  | false =>
    rw [if_neg (by simp)]
    rw [cb_ins (P := fun _ => false) (a := x) hx rfl (by rw [e]; simp [hs]) (fun y hy => by rw [e]; simp [hy])]
    rw [cb_zero (fun _ _ => rfl)]
/-- arguments of a line -/
def lineOK (a b c : Int32) : Bool := isIt a && (decide (¬ b < 1) && (decide (¬ 999 < b) && (decide (¬ c < 1) && (decide (¬ 60 < c) && isIt (a + b * (c - 1))))))
end XX4M
theorem cb_mono_of {P : Nat → Bool} {a N : Nat} (h : ∀ y, a ≤ y → y < N → P y = false) (ha : a ≤ N) : cb P N ≤ cb P a := Nat.le_of_eq (cb_none ha h)
theorem LH.bnd {k z : Nat} {Hs : Nat → Bool} {g : Nat → Int32} (h : LH k Hs z g) {a : Nat} (ha : a ≤ 16777213) : cb (kS k Hs) a ≤ z := by
  rcases Nat.lt_or_ge z (cb (kS k Hs) a) with q | q
  · obtain ⟨t, t1, t2, t3⟩ := cb_at q
    have h1 := kS_t.mp t2
    have h0 := h.1
    have h3 : cb (kS k Hs) t = cb Hs t := kS_cb (by omega)
    have h4 := cb_lt (Nat.lt_of_lt_of_le t1 ha) h1.1
    omega
  · exact q
theorem ln_up {j : Nat} {f : Nat → Int32} {v : Nat → Int32} {x : Int32} (h : ∀ i, i < j → f i = v i) (hx : x = v j) : ∀ i, i < j + 1 → upd f j x i = v i := fun i hi => by
  rcases Nat.lt_or_ge i j with q | q
  · rw [upd_n (by omega)]; exact h i q
  · have e : i = j := by omega
    rw [e, upd_s]; exact hx
theorem line_last {a b c : Int32} (h : lineOK a b c = false) (h1 : isIt a = true) (h2 : ¬ b < nI 1) (h3 : ¬ nI 999 < b) (h4 : ¬ c < nI 1) (h5 : ¬ nI 60 < c) : isIt (a + b * (c - nI 1)) = false := by
  have e1 : decide (¬ b < 1) = true := decide_eq_true h2
  have e2 : decide (¬ 999 < b) = true := decide_eq_true h3
  have e3 : decide (¬ c < 1) = true := decide_eq_true h4
  have e4 : decide (¬ 60 < c) = true := decide_eq_true h5
  unfold lineOK at h
  rw [h1, e1, e2, e3, e4] at h
  simp only [Bool.true_and] at h
  exact h
