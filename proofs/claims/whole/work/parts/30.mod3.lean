section XMOD3
theorem lz_dvd {v : Nat} : ∀ f z l, z ≤ l → l ≤ z + f → v % 2 ^ z = 0 → (v % 2 ^ l = 0 ↔ l ≤ lz v f z)
  | 0, z, l, h1, h2, h3 => by
    have : l = z := by omega
    subst this
    exact ⟨fun _ => Nat.le_refl _, fun _ => h3⟩
  | f + 1, z, l, h1, h2, h3 => by
    unfold lz
    have hb : v % 2 ^ (z + 1) = 0 ↔ ¬ v / 2 ^ z % 2 = 1 := by
      have e := Nat.mod_pow_succ (b := 2) (x := v) (k := z)
      rw [e, h3]
      have hp := Nat.two_pow_pos z
      constructor
      · intro q r
        rw [r] at q
        omega
      · intro q
        have : v / 2 ^ z % 2 = 0 := by omega
        rw [this]; simp
    split
    · rename_i q
      constructor
      · intro r
        rcases Nat.lt_or_ge z l with s | s
        · have h4 : v % 2 ^ (z + 1) = 0 := by
            have h5 : 2 ^ (z + 1) ∣ 2 ^ l := Nat.pow_dvd_pow 2 s
            exact Nat.mod_eq_zero_of_dvd (Nat.dvd_trans h5 (Nat.dvd_of_mod_eq_zero r))
          exact absurd q (hb.mp h4)
        · exact s
      · intro r
        have : l = z := by omega
        subst this
        exact h3
    · rename_i q
      rcases Nat.lt_or_ge z l with s | s
      · exact lz_dvd f (z + 1) l s (by omega) (hb.mpr q)
      · have : l = z := by omega
        subst this
        have h6 : l + 1 ≤ lz v f (l + 1) := by
          rcases Nat.eq_zero_or_pos f with r | r
          · subst r; exact Nat.le_refl _
          · exact (lz_dvd f (l + 1) (l + 1) (Nat.le_refl _) (by omega) (hb.mpr q)).mp (hb.mpr q)
        exact ⟨fun _ => by omega, fun _ => h3⟩
theorem zr_dvd {x l : Nat} (hl : l ≤ 24) : hsh x % 2 ^ l = 0 ↔ l ≤ zr x := lz_dvd 24 0 l (Nat.zero_le _) (by omega) (by simp [Nat.mod_one])
/-- greatest rank of the first j listed -/
def mxl (lst : Nat → Nat) (T : Nat → Bool) (r : Nat) : Nat → Nat
  | 0 => 0
  | j + 1 => if T (lst j) = true ∧ hsh (lst j) % 16 = r then max (mxl lst T r j) (rnk (hsh (lst j))) else mxl lst T r j
theorem mxl_le {lst : Nat → Nat} {T : Nat → Bool} {r : Nat} : ∀ n, mxl lst T r n ≤ 21
  | 0 => by simp [mxl]
  | n + 1 => by
    have h1 := mxl_le (lst := lst) (T := T) (r := r) n
    have h2 := rnk_le (hsh (lst n))
    simp only [mxl]
    split <;> omega
theorem mxl_iff {lst : Nat → Nat} {T : Nat → Bool} {r m n : Nat} : mxl lst T r n ≤ m ↔ ∀ j, j < n → T (lst j) = true → hsh (lst j) % 16 = r → rnk (hsh (lst j)) ≤ m := by
  induction n with
  | zero => simp [mxl]
  | succ n ih =>
    simp only [mxl]
    split
    · rename_i q
      rw [Nat.max_le, ih]
      constructor
      · rintro ⟨h1, h2⟩ j hj
        rcases Nat.lt_or_ge j n with s | s
        · exact h1 j s
        · have : j = n := by omega
          subst this
          exact fun _ _ => h2
      · intro h
        exact ⟨fun j hj => h j (by omega), h n (by omega) q.1 q.2⟩
    · rename_i q
      rw [ih]
      constructor
      · intro h1 j hj
        rcases Nat.lt_or_ge j n with s | s
        · exact h1 j s
        · have : j = n := by omega
          subst this
          exact fun a b => absurd ⟨a, b⟩ q
      · intro h j hj
        exact h j (by omega)
theorem mxr_iff {T : Nat → Bool} {r m n : Nat} : mxr T r n ≤ m ↔ ∀ x, x < n → T x = true → hsh x % 16 = r → rnk (hsh x) ≤ m := by
  induction n with
  | zero => simp [mxr]
  | succ n ih =>
    simp only [mxr]
    split
    · rename_i q
      rw [Nat.max_le, ih]
      constructor
      · rintro ⟨h1, h2⟩ j hj
        rcases Nat.lt_or_ge j n with s | s
        · exact h1 j s
        · have : j = n := by omega
          subst this
          exact fun _ _ => h2
      · intro h
        exact ⟨fun j hj => h j (by omega), h n (by omega) q.1 q.2⟩
    · rename_i q
      rw [ih]
      constructor
      · intro h1 j hj
        rcases Nat.lt_or_ge j n with s | s
        · exact h1 j s
        · have : j = n := by omega
          subst this
          exact fun a b => absurd ⟨a, b⟩ q
      · intro h j hj
        exact h j (by omega)
theorem mxl_all {lst : Nat → Nat} {nl : Nat} {It Zt : Nat → Int32} {T : Nat → Bool} (h : ML lst nl It Zt) (hC : ∀ x, x < 100000 → T x = true → memb lst nl x = true) (r : Nat) : mxl lst T r nl = mxr T r 100000 := by
  apply Nat.le_antisymm
  · rw [mxl_iff]
    intro j hj h1 h2
    exact (mxr_iff (m := mxr T r 100000)).mp (Nat.le_refl _) (lst j) (h.1 j hj).1 h1 h2
  · rw [mxr_iff]
    intro x hx h1 h2
    obtain ⟨j, hj, e⟩ := memb_iff.mp (hC x hx h1)
    subst e
    exact (mxl_iff (m := mxl lst T r nl)).mp (Nat.le_refl _) j hj h1 h2
def RLs (lst : Nat → Nat) (T : Nat → Bool) (n : Nat) (f : Nat → Int32) : Prop := ∀ r, r < 16 → f r = nI (mxl lst T r n)
theorem RLs.step {lst : Nat → Nat} {T : Nat → Bool} {j rk : Nat} {f : Nat → Int32} (h : RLs lst T j f) (hr : rk = if T (lst j) = true then rnk (hsh (lst j)) else 0) : RLs lst T (j + 1) (upd f (hsh (lst j) % 16) (nI (max (mxl lst T (hsh (lst j) % 16) j) rk))) := fun r hr16 => by
  simp only [mxl]
  by_cases e : r = hsh (lst j) % 16
  · rw [e, upd_s, hr]
    split
    · rename_i q; rw [if_pos ⟨q, rfl⟩]
    · rename_i q; rw [if_neg (fun s => q s.1), Nat.max_eq_left (Nat.zero_le _)]
  · rw [upd_n e, if_neg (fun s => e s.2.symm)]
    exact h r hr16
theorem Tm_gt {M : Nat → Int32} {bd : Int32} {x : Nat} (hb : (-1 : Int32) ≤ bd) : Tm M bd x = true ↔ bd < M x := by
  unfold Tm
  constructor
  · intro h; simp at h; exact h.2
  · intro h
    have : Sm M x = true := Sm_t.mpr (fun q => by rw [q] at h; exact Int32.lt_irrefl (Int32.lt_of_lt_of_le h hb))
    simp [this, h]
theorem rk0 {h : Nat} (hv : h / 16 = 0) : 21 = rnk h := by unfold rnk; rw [hv]; rfl
theorem rk_hit {v0 rest z h : Nat} (hv : v0 = h / 16) (hr : v0 = rest * 2 ^ z) (hz : z < 20) (he : lz v0 20 0 = lz v0 (20 - z) z) (h2 : rest % 2 ≠ 0) : 1 + z = rnk h := by
  unfold rnk
  rw [← hv, he]
  have h3 : v0 / 2 ^ z = rest := by rw [hr]; exact Nat.mul_div_cancel _ (Nat.two_pow_pos z)
  rw [lz_hit hz (by rw [h3]; omega)]
theorem rk_step {v0 rest z : Nat} (hr : v0 = rest * 2 ^ z) (hz : z < 20) (h2 : rest % 2 = 0) : v0 = rest / 2 * 2 ^ (z + 1) ∧ lz v0 (20 - z) z = lz v0 (20 - (z + 1)) (z + 1) := by
  have h3 : v0 / 2 ^ z = rest := by rw [hr]; exact Nat.mul_div_cancel _ (Nat.two_pow_pos z)
  refine ⟨?_, lz_step hz (by rw [h3]; omega)⟩
  rw [Nat.pow_succ, Nat.mul_comm (2 ^ z) 2, ← Nat.mul_assoc, Nat.div_mul_cancel (Nat.dvd_of_mod_eq_zero h2)]
  exact hr
theorem rk_z {v0 rest z : Nat} (hr : v0 = rest * 2 ^ z) (h0 : 0 < rest) (hv : v0 < 2 ^ 20) : z < 20 := by
  rcases Nat.lt_or_ge z 20 with q | q
  · exact q
  · have h1 : 2 ^ 20 ≤ 2 ^ z := Nat.pow_le_pow_right (by omega) q
    have h2 : 1 * 2 ^ z ≤ rest * 2 ^ z := Nat.mul_le_mul h0 (Nat.le_refl _)
    omega
end XMOD3
section XMOD4
theorem LH.copy {k z : Nat} {Hs : Nat → Bool} {g f : Nat → Int32} (h : LH k Hs z g) (e : ∀ i, i < z → f i = g i) : LH k Hs z f := by
  refine ⟨h.1, fun x hx hs hc => ?_⟩
  have h0 := h.1
  have h1 := cb_lt hx hs
  rw [e _ (by omega)]
  exact h.2 x hx hs hc
theorem cb_1 {P : Nat → Bool} {a v : Nat} (h : a ≤ v) (hn : ∀ y, a ≤ y → y < v → P y = false) (hv : P v = true) : cb P a + 1 = cb P (v + 1) := by rw [cb_t hv, cb_none h hn]
theorem cb_00 {P : Nat → Bool} {a v w : Nat} (h : a ≤ v) (hvw : v < w) (hn : ∀ y, a ≤ y → y < w → P y = false) : cb P a + 0 = cb P (v + 1) := (cb_none (by omega) (fun y h1 h2 => hn y h1 (by omega))).symm
theorem uH_hi {k : Nat} {P Q : Nat → Bool} {n m : Nat} : ∀ y, 16777213 ≤ y → uH k (hs P n) (hs Q m) y = false := fun y h => uH_none (kS_hi y h) (kS_hi y h)
theorem estV_z {k z : Nat} {Hs : Nat → Bool} {g : Nat → Int32} (h : LH k Hs z g) (hk : 0 < k) (hz : z = 0) : estV k Hs = 0 := by
  have h0 := h.1
  rw [estV_lo (by omega)]; omega
theorem partV_z {k z c : Nat} {Hs : Nat → Bool} {g : Nat → Int32} (h : LH k Hs z g) (hz : z = 0) : partV k Hs c = 0 := by
  have h0 := h.1
  unfold partV
  rw [← h0, hz, Nat.div_zero]
end XMOD4
