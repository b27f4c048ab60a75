section XREG
section XLC
variable {p : Program} {l : Launch} {e : Env} {R : Room} {s : State} {m : MethodId} {args : Array Value} {below : List Frame} {meth : Method} {c : Code} {H : Heap} {locs : List Loc} {cells slots : Nat} {Q : State → Prop}
variable {cc : ByteArray} {pc : Nat} {ls : Array Slot} {rest : List Value}
theorem xlg_lt {a b : Nat} (ha : a < 2 ^ 63) (hb : b < 2 ^ 63) (h : a < b) : lg_cmp (lN a) (lN b) = -1 := by
  have h1 : lN a < lN b := (pk_lLT ha hb).mpr h
  have h2 : ¬ lN b < lN a := fun q => by have := (pk_lLT hb ha).mp q; omega
  have h3 : ¬ lN a = lN b := fun q => by have := (pk_lEQ ha hb).mp q; omega
  simp [lg_cmp, h2, h3]
theorem xlg_gt {a b : Nat} (ha : a < 2 ^ 63) (hb : b < 2 ^ 63) (h : b < a) : lg_cmp (lN a) (lN b) = 1 := by
  have h1 : lN b < lN a := (pk_lLT hb ha).mpr h
  simp [lg_cmp, h1]
theorem xlg_eq {x : Int64} : lg_cmp x x = 0 := by simp [lg_cmp]
theorem xlc_le {a b : Nat} {off : Int} {tgt : Nat} (ha : a < 2 ^ 63) (hb2 : b < 2 ^ 63) (hexec : p.tables.exec = Jvm.exec) (hb : c.code = cc) (hdg : decode cc pc = .ok (.ifCond .le off, 3)) (ht : (pc : Int) + off = (tgt : Int)) (kt : a ≤ b → W p l e R s m args below meth c H locs cells slots Q (F0 m tgt ls rest)) (kf : b < a → W p l e R s m args below meth c H locs cells slots Q (F0 m (pc + 3) ls rest)) : W p l e R s m args below meth c H locs cells slots Q (F0 m pc ls (.int (lg_cmp (lN a) (lN b)) :: rest)) := by
  refine lv_if_le hexec hb hdg ht (fun h => kt ?_) (fun h => kf ?_)
  · rcases Nat.lt_or_ge b a with q | q
    · rw [xlg_gt ha hb2 q] at h; exact absurd h (by decide)
    · exact q
  · rcases Nat.lt_trichotomy a b with q | q | q
    · rw [xlg_lt ha hb2 q] at h; exact absurd (by decide) h
    · subst q; rw [xlg_eq] at h; exact absurd (by decide) h
    · exact q
theorem xlc_gt {a b : Nat} {off : Int} {tgt : Nat} (ha : a < 2 ^ 63) (hb2 : b < 2 ^ 63) (hexec : p.tables.exec = Jvm.exec) (hb : c.code = cc) (hdg : decode cc pc = .ok (.ifCond .gt off, 3)) (ht : (pc : Int) + off = (tgt : Int)) (kt : b < a → W p l e R s m args below meth c H locs cells slots Q (F0 m tgt ls rest)) (kf : a ≤ b → W p l e R s m args below meth c H locs cells slots Q (F0 m (pc + 3) ls rest)) : W p l e R s m args below meth c H locs cells slots Q (F0 m pc ls (.int (lg_cmp (lN a) (lN b)) :: rest)) := by
  refine lv_if_gt hexec hb hdg ht (fun h => kt ?_) (fun h => kf ?_)
  · rcases Nat.lt_trichotomy a b with q | q | q
    · rw [xlg_lt ha hb2 q] at h; exact absurd h (by decide)
    · subst q; rw [xlg_eq] at h; exact absurd h (by decide)
    · exact q
  · rcases Nat.lt_or_ge b a with q | q
    · rw [xlg_gt ha hb2 q] at h; exact absurd (by decide) h
    · exact q
end XLC
theorem lz_le (v : Nat) : ∀ f z, lz v f z ≤ z + f
  | 0, z => Nat.le_refl _
  | f + 1, z => by
    unfold lz
    split
    · omega
    · have := lz_le v f (z + 1); omega
def rnk (h : Nat) : Nat := 1 + lz (h / 16) 20 0
theorem rnk_le (h : Nat) : rnk h ≤ 21 := by have := lz_le (h / 16) 20 0; unfold rnk; omega
/-- the items of M with a date above b -/
def Tm (M : Nat → Int32) (b : Int32) : Nat → Bool := fun x => Sm M x && decide (b < M x)
theorem Tm_all {M : Nat → Int32} (h : MV M) (x : Nat) : Tm M (-1) x = Sm M x := by
  unfold Tm
  cases hs : Sm M x with
  | false => rfl
  | true =>
    rcases h x with q | q
    · exact absurd q (Sm_t.mp hs)
    · simp [neg1lt q]
/-- the greatest rank of those with T below n, whose register is r -/
def mxr (T : Nat → Bool) (r : Nat) : Nat → Nat
  | 0 => 0
  | n + 1 => if T n = true ∧ hsh n % 16 = r then max (mxr T r n) (rnk (hsh n)) else mxr T r n
theorem mxr_le {T : Nat → Bool} {r : Nat} : ∀ n, mxr T r n ≤ 21
  | 0 => by simp [mxr]
  | n + 1 => by
    have h1 := mxr_le (T := T) (r := r) n
    have h2 := rnk_le (hsh n)
    simp only [mxr]
    split <;> omega
theorem mxr_none {T : Nat → Bool} {r a b : Nat} (h : a ≤ b) (hn : ∀ y, a ≤ y → y < b → T y = false) : mxr T r b = mxr T r a := by
  induction b with
  | zero => rw [Nat.le_zero.mp h]
  | succ b ih =>
    rcases Nat.lt_or_ge a (b + 1) with q | q
    · simp only [mxr]
      rw [if_neg (by rw [hn b (by omega) (by omega)]; simp)]
      exact ih (by omega) (fun y h1 h2 => hn y h1 (by omega))
    · rw [show a = b + 1 by omega]
theorem mxr_congr {T T' : Nat → Bool} {r n : Nat} (h : ∀ x, x < n → T x = T' x) : mxr T r n = mxr T' r n := by
  induction n with
  | zero => rfl
  | succ n ih => simp only [mxr]; rw [ih (fun x q => h x (by omega)), h n (by omega)]
def RG (T : Nat → Bool) (n : Nat) (f : Nat → Int32) : Prop := ∀ r, r < 16 → f r = nI (mxr T r n)
theorem RG.skip {T : Nat → Bool} {a b : Nat} {f : Nat → Int32} (h : RG T a f) (hab : a ≤ b) (hn : ∀ y, a ≤ y → y < b → T y = false) : RG T b f := fun r hr => by rw [mxr_none hab hn]; exact h r hr
theorem RG.step {T : Nat → Bool} {x : Nat} {f f' : Nat → Int32} (hT : T x = true) (hf : ∀ r, r < 16 → f' r = nI (if r = hsh x % 16 then max (mxr T r x) (rnk (hsh x)) else mxr T r x)) : RG T (x + 1) f' := fun r hr => by
  rw [hf r hr]
  simp only [mxr, hT, true_and]
  by_cases e : r = hsh x % 16
  · rw [if_pos e, if_pos e.symm]
  · rw [if_neg e, if_neg (fun q => e q.symm)]
/-- the estimate from registers -/
def sumR (m : Nat → Nat) : Nat → Nat
  | 0 => 0
  | n + 1 => sumR m n + 16777216 / 2 ^ (m n)
theorem sumR_le {m : Nat → Nat} : ∀ n, sumR m n ≤ n * 16777216
  | 0 => Nat.le_refl _
  | n + 1 => by
    have h1 := sumR_le (m := m) n
    have h2 : 16777216 / 2 ^ (m n) ≤ 16777216 := Nat.div_le_self _ _
    simp only [sumR]
    omega
theorem sumR_pos {m : Nat → Nat} {n : Nat} (h : m n ≤ 21) : 0 < sumR m (n + 1) := by
  have h1 : 0 < 16777216 / 2 ^ (m n) := Nat.div_pos (Nat.le_trans (Nat.pow_le_pow_right (by omega) h) (by decide)) (Nat.two_pow_pos _)
  simp only [sumR]
  omega
theorem sumR_congr {m m' : Nat → Nat} : ∀ n, (∀ r, r < n → m r = m' r) → sumR m n = sumR m' n
  | 0, _ => rfl
  | n + 1, h => by simp only [sumR]; rw [sumR_congr n (fun r q => h r (by omega)), h n (by omega)]
def empR (m : Nat → Nat) : Nat → Bool := fun r => decide (m r = 0)
def tabN : List Nat := [0, 44361, 33271, 26784, 22181, 18610, 15693, 13227, 11090, 9206, 7520, 5995, 4603, 3322, 2137, 1033, 0]
theorem tab_eq : ∀ z, z < 17 → xTab.getD z 0 = nI (tabN.getD z 0) ∧ tabN.getD z 0 < 50000 := by decide +kernel
def regE (m : Nat → Nat) : Nat := if 2890512990208 / sumR m 16 ≤ 40000 ∧ 0 < cb (empR m) 16 then tabN.getD (cb (empR m) 16) 0 else 2890512990208 / sumR m 16
theorem regE_congr {m m' : Nat → Nat} (h : ∀ r, r < 16 → m r = m' r) : regE m = regE m' := by
  unfold regE
  have e : cb (empR m) 16 = cb (empR m') 16 := cb_congr (fun x hx => by unfold empR; rw [h x hx])
  rw [sumR_congr 16 h, e]
/-! the thinned sample -/
def zr (x : Nat) : Nat := lz (hsh x) 24 0
theorem zr_le (x : Nat) : zr x ≤ 24 := by have := lz_le (hsh x) 24 0; unfold zr; omega
def SL (S : Nat → Bool) (l : Nat) : Nat → Bool := fun x => S x && decide (l ≤ zr x)
def SZq (S : Nat → Bool) (l : Nat) : Nat → Bool := fun x => S x && decide (zr x = l)
theorem SL_0 {S : Nat → Bool} (x : Nat) : SL S 0 x = S x := by simp [SL]
theorem SL_step (S : Nat → Bool) (l n : Nat) : cb (SL S (l + 1)) n + cb (SZq S l) n = cb (SL S l) n := by
  induction n with
  | zero => rfl
  | succ n ih =>
    simp only [cb]
    have h : (if SL S (l + 1) n = true then 1 else 0) + (if SZq S l n = true then 1 else 0) = if SL S l n = true then 1 else 0 := by
      unfold SL SZq
      cases S n with
      | false => simp
      | true =>
        simp only [Bool.true_and, decide_eq_true_eq]
        rcases Nat.lt_trichotomy (zr n) l with q | q | q
        · rw [if_neg (by omega), if_neg (by omega), if_neg (by omega)]
        · rw [if_neg (by omega), if_pos (by omega), if_pos (by omega)]
        · rw [if_pos (by omega), if_neg (by omega), if_pos (by omega)]
    omega
def lvF (S : Nat → Bool) : Nat → Nat → Nat
  | 0, l => l
  | f + 1, l => if 16 < cb (SL S l) 100000 then lvF S f (l + 1) else l
def lvl (S : Nat → Bool) : Nat := lvF S 24 0
theorem lvF_le (S : Nat → Bool) : ∀ f l, lvF S f l ≤ l + f
  | 0, l => Nat.le_refl _
  | f + 1, l => by
    unfold lvF
    split
    · have := lvF_le S f (l + 1); omega
    · omega
theorem lvl_le (S : Nat → Bool) : lvl S ≤ 24 := by have := lvF_le S 24 0; unfold lvl; omega
theorem lv_step {S : Nat → Bool} {l : Nat} (h : l < 24) (hc : 16 < cb (SL S l) 100000) : lvF S (24 - l) l = lvF S (24 - (l + 1)) (l + 1) := by
  rw [show 24 - l = (24 - (l + 1)) + 1 by omega]
  exact if_pos hc
theorem lv_stop {S : Nat → Bool} {l : Nat} (h : l < 24) (hc : ¬ 16 < cb (SL S l) 100000) : lvF S (24 - l) l = l := by
  rw [show 24 - l = (24 - (l + 1)) + 1 by omega]
  exact if_neg hc
theorem lv_end {S : Nat → Bool} {l : Nat} (h : 24 = l) : lvF S (24 - l) l = l := by
  subst h
  rfl
/-- counts by zeros -/
def ZC (S : Nat → Bool) (n : Nat) (f : Nat → Int32) : Prop := ∀ z, z < 25 → f z = nI (cb (SZq S z) n)
theorem ZC.skip {S : Nat → Bool} {a b : Nat} {f : Nat → Int32} (h : ZC S a f) (hab : a ≤ b) (hn : ∀ y, a ≤ y → y < b → S y = false) : ZC S b f := fun z hz => by
  rw [cb_none hab (fun y h1 h2 => by unfold SZq; rw [hn y h1 h2]; rfl)]; exact h z hz
theorem ZC.step {S : Nat → Bool} {x : Nat} {f : Nat → Int32} (h : ZC S x f) (hS : S x = true) : ZC S (x + 1) (upd f (zr x) (nI (cb (SZq S (zr x)) x + 1))) := fun z hz => by
  by_cases e : z = zr x
  · subst e
    rw [upd_s, cb_t (by unfold SZq; simp [hS])]
  · rw [upd_n e, cb_f (by unfold SZq; simp [hS]; exact fun q => e q.symm)]
    exact h z hz
end XREG
theorem rk_no {m9 : Nat → Nat} {f : Nat → Int32} {h : Nat} (hf : ∀ r, r < 16 → f r = nI (m9 r)) (c : rnk h ≤ m9 (h % 16)) : ∀ r, r < 16 → f r = nI (if r = h % 16 then max (m9 r) (rnk h) else m9 r) := fun r hr => by
  by_cases e9 : r = h % 16
  · rw [if_pos e9, hf r hr, e9, Nat.max_eq_left c]
  · rw [if_neg e9]; exact hf r hr
theorem rk_yes {m9 : Nat → Nat} {f : Nat → Int32} {h : Nat} (hf : ∀ r, r < 16 → f r = nI (m9 r)) (c : m9 (h % 16) < rnk h) : ∀ r, r < 16 → upd f (h % 16) (nI (rnk h)) r = nI (if r = h % 16 then max (m9 r) (rnk h) else m9 r) := fun r hr => by
  by_cases e9 : r = h % 16
  · rw [if_pos e9, e9, upd_s, Nat.max_eq_right (Nat.le_of_lt c)]
  · rw [if_neg e9, upd_n e9]; exact hf r hr
