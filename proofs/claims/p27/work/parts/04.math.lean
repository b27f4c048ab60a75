section XMATH
def xat (f : Nat → Int32) (n : Nat) (i : Int32) : Int32 := if i < 0 ∨ n ≤ i.toNatClampNeg then -1 else f i.toNatClampNeg
def xput (f : Nat → Int32) (n : Nat) (i : Int32) (x : Int32) : Nat → Int32 := if i < 0 ∨ n ≤ i.toNatClampNeg then f else upd f i.toNatClampNeg x
theorem xat_neg {f : Nat → Int32} {n : Nat} {i : Int32} (h : i < 0) : xat f n i = -1 := if_pos (Or.inl h)
theorem xat_m1 {f : Nat → Int32} {n : Nat} : xat f n (-1) = -1 := xat_neg (by decide)
theorem xat_in {f : Nat → Int32} {n j : Nat} (h : j < n) (hn : n < 2 ^ 31) : xat f n (nI j) = f j := by
  unfold xat
  rw [if_neg (nI_in h hn), nI_clamp (by omega)]
theorem xat_out {f : Nat → Int32} {n j : Nat} (h : n ≤ j) (hj : j < 2 ^ 31) : xat f n (nI j) = -1 := by
  unfold xat
  rw [if_pos (Or.inr (by rw [nI_clamp hj]; exact h))]
theorem xput_in {f : Nat → Int32} {n j : Nat} {x : Int32} (h : j < n) (hn : n < 2 ^ 31) : xput f n (nI j) x = upd f j x := by
  unfold xput
  rw [if_neg (nI_in h hn), nI_clamp (by omega)]
theorem xput_neg {f : Nat → Int32} {n : Nat} {i x : Int32} (h : i < 0) : xput f n i x = f := if_pos (Or.inl h)
theorem xput_out {f : Nat → Int32} {n j : Nat} {x : Int32} (h : n ≤ j) (hj : j < 2 ^ 31) : xput f n (nI j) x = f := by
  unfold xput
  rw [if_pos (Or.inr (by rw [nI_clamp hj]; exact h))]
theorem upd_s {f : Nat → Int32} {k : Nat} {x : Int32} : upd f k x k = x := pk_us
theorem upd_n {f : Nat → Int32} {k j : Nat} {x : Int32} (h : j ≠ k) : upd f k x j = f j := pk_un h
/-- the hash of an item -/
def hsh (i : Nat) : Nat := (69 * i * i + 48271 * i + 101) % 16777213
theorem hsh_lt (i : Nat) : hsh i < 16777213 := Nat.mod_lt _ (Nat.le_of_ble_eq_true rfl)
theorem hsh_sq {i : Nat} (h : i < 100000) : 69 * i * i + 48271 * i + 101 < 2 ^ 62 := by
  have h1 : i * i ≤ 100000 * 100000 := Nat.mul_le_mul (Nat.le_of_lt h) (Nat.le_of_lt h)
  rw [Nat.mul_assoc]
  omega
/-- zeros at the low end -/
def lz (v : Nat) : Nat → Nat → Nat
  | 0, z => z
  | f + 1, z => if v / 2 ^ z % 2 = 1 then z else lz v f (z + 1)
theorem sh31 : ∀ z, z < 32 → ((nI z &&& 31).toBitVec.smod 32).toNat = z := by decide +kernel
theorem shrz {v z : Nat} (hv : v < 2 ^ 31) (hz : z < 32) : nI v >>> (nI z &&& 31) = nI (v / 2 ^ z) := pk_shrN hv _ z (sh31 z hz)
theorem shlz {v z : Nat} (hz : z < 32) (hv : v * 2 ^ z < 2 ^ 32) : nI v <<< (nI z &&& 31) = nI (v * 2 ^ z) := pk_shlN _ z (sh31 z hz) hv
theorem and1 {v : Nat} (hv : v < 2 ^ 32) : nI v &&& nI 1 = nI (v % 2) := pk_andN hv 1 (by decide)
/-- an int in a range is a number -/
theorem xrng {x : Int32} {n : Nat} (hn : n < 2 ^ 31) (h0 : ¬ x < 0) (h1 : ¬ nI n ≤ x) : ∃ j, j < n ∧ x = nI j := by
  obtain ⟨j, hj, rfl⟩ := nI_of h0
  exact ⟨j, Nat.lt_of_not_le (fun q => h1 ((nI_leI hn hj).mpr q)), rfl⟩
def isIt (x : Int32) : Bool := decide (¬ x < 0 ∧ x < 100000)
theorem isIt_neg {x : Int32} (h : x < 0) : isIt x = false := decide_eq_false (fun q => q.1 h)
theorem isIt_ge {j : Nat} (h : 100000 ≤ j) (hj : j < 2 ^ 31) : isIt (nI j) = false := decide_eq_false (fun q => absurd ((nI_ltI (b := 100000) hj (Nat.le_of_ble_eq_true rfl)).mp q.2) (by omega))
theorem isIt_lt {j : Nat} (h : j < 100000) : isIt (nI j) = true := decide_eq_true ⟨nI_pos (by omega), (nI_ltI (b := 100000) (by omega) (Nat.le_of_ble_eq_true rfl)).mpr h⟩
theorem lz_step {v k z : Nat} (h : z < k) (hb : ¬ v / 2 ^ z % 2 = 1) : lz v (k - z) z = lz v (k - (z + 1)) (z + 1) := by
  rw [show k - z = (k - (z + 1)) + 1 by omega]
  exact if_neg hb
theorem lz_hit {v k z : Nat} (h : z < k) (hb : v / 2 ^ z % 2 = 1) : lz v (k - z) z = z := by
  rw [show k - z = (k - (z + 1)) + 1 by omega]
  exact if_pos hb
theorem lz_end {v k z : Nat} (h : k = z) : lz v (k - z) z = k := by
  subst h
  rw [Nat.sub_self]
  rfl
end XMATH
