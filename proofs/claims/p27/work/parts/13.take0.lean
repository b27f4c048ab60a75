section XTK
def uS (M1 M2 : Nat → Int32) : Nat → Bool := fun x => Sm M1 x || Sm M2 x
def nwK (M1 M2 : Nat → Int32) : Nat := cb (fun x => Sm M2 x && !Sm M1 x) 100000
theorem cb_last {P : Nat → Bool} {z hi : Nat} (hz : P z = true) (h : z < hi) (hn : ∀ w, z < w → w < hi → P w = false) : cb P z + 1 = cb P hi := by
  rw [← cb_t hz]
  exact (cb_none (by omega) (fun x h1 h2 => hn x (by omega) h2)).symm
theorem tk_cnt {M1 M2 : Nat → Int32} : nwK M1 M2 + cb (fun x => Sm M1 x && Sm M2 x) 100000 = cb (Sm M2) 100000 ∧ cb (Sm M1) 100000 + nwK M1 M2 = cb (uS M1 M2) 100000 := by
  have h1 := cb_diff (Sm M2) (Sm M1) 100000
  have h2 := cb_uni (Sm M1) (Sm M2) 100000
  have h3 : cb (fun x => Sm M2 x && Sm M1 x) 100000 = cb (fun x => Sm M1 x && Sm M2 x) 100000 := cb_congr (fun x _ => Bool.and_comm _ _)
  rw [h3] at h1
  have h4 : nwK M1 M2 = cb (fun x => Sm M2 x && !Sm M1 x) 100000 := rfl
  have h5 : cb (uS M1 M2) 100000 = cb (fun x => Sm M1 x || Sm M2 x) 100000 := rfl
  omega
theorem uS_none {M1 M2 : Nat → Int32} {w : Nat} (h1 : Sm M1 w = false) (h2 : Sm M2 w = false) : uS M1 M2 w = false := by simp [uS, h1, h2]
theorem tk_y {M1 M2 : Nat → Int32} {hi y : Nat} (hy1 : y < hi) (hy2 : Sm M2 y = true) (hy4 : ∀ w, y < w → w < hi → Sm M2 w = false) (hn : ∀ w, y ≤ w → w < hi → Sm M1 w = false) :
    uS M1 M2 y = true ∧ (∀ w, y < w → w < hi → uS M1 M2 w = false) ∧ cb (Sm M1) y = cb (Sm M1) hi ∧ cb (Sm M2) y + 1 = cb (Sm M2) hi ∧ cb (uS M1 M2) y + 1 = cb (uS M1 M2) hi ∧ M1 y = -1 := by
  have hu : uS M1 M2 y = true := by simp [uS, hy2]
  have hn2 : ∀ w, y < w → w < hi → uS M1 M2 w = false := fun w h1 h2 => uS_none (hn w (by omega) h2) (hy4 w h1 h2)
  exact ⟨hu, hn2, (cb_none (by omega) hn).symm, cb_last hy2 hy1 hy4, cb_last hu hy1 hn2, Sm_f.mp (hn y (Nat.le_refl _) hy1)⟩
theorem tk_x {M1 M2 : Nat → Int32} {hi x : Nat} (hx1 : x < hi) (hx2 : Sm M1 x = true) (hx4 : ∀ w, x < w → w < hi → Sm M1 w = false) (hn : ∀ w, x ≤ w → w < hi → Sm M2 w = false) :
    uS M1 M2 x = true ∧ (∀ w, x < w → w < hi → uS M1 M2 w = false) ∧ cb (Sm M1) x + 1 = cb (Sm M1) hi ∧ cb (Sm M2) x = cb (Sm M2) hi ∧ cb (uS M1 M2) x + 1 = cb (uS M1 M2) hi ∧ M2 x = -1 := by
  have hu : uS M1 M2 x = true := by simp [uS, hx2]
  have hn2 : ∀ w, x < w → w < hi → uS M1 M2 w = false := fun w h1 h2 => uS_none (hx4 w h1 h2) (hn w (by omega) h2)
  exact ⟨hu, hn2, cb_last hx2 hx1 hx4, (cb_none (by omega) hn).symm, cb_last hu hx1 hn2, Sm_f.mp (hn x (Nat.le_refl _) hx1)⟩
theorem tk_e {M1 M2 : Nat → Int32} {hi y : Nat} (hy1 : y < hi) (hx2 : Sm M1 y = true) (hx4 : ∀ w, y < w → w < hi → Sm M1 w = false) (hy2 : Sm M2 y = true) (hy4 : ∀ w, y < w → w < hi → Sm M2 w = false) :
    uS M1 M2 y = true ∧ (∀ w, y < w → w < hi → uS M1 M2 w = false) ∧ cb (Sm M1) y + 1 = cb (Sm M1) hi ∧ cb (Sm M2) y + 1 = cb (Sm M2) hi ∧ cb (uS M1 M2) y + 1 = cb (uS M1 M2) hi := by
  have hu : uS M1 M2 y = true := by simp [uS, hy2]
  have hn2 : ∀ w, y < w → w < hi → uS M1 M2 w = false := fun w h1 h2 => uS_none (hx4 w h1 h2) (hy4 w h1 h2)
  exact ⟨hu, hn2, cb_last hx2 hy1 hx4, cb_last hy2 hy1 hy4, cb_last hu hy1 hn2⟩
theorem cb0_none {P : Nat → Bool} {hi : Nat} (h : cb P hi = 0) (y : Nat) : ∀ w, y ≤ w → w < hi → P w = false := fun w _ h2 => by
  cases hs : P w with
  | false => rfl
  | true => have := cb_lt h2 hs; omega
theorem xat_mm0 {f : Nat → Int32} {n m : Nat} (h : m = 0) : xat f n (nI m - nI 1) = -1 := by subst h; exact xat_neg (by decide)
theorem xat_mm {f : Nat → Int32} {n m j : Nat} (h : j + 1 = m) (hm : m ≤ n) (hn : n < 2 ^ 31) : xat f n (nI m - nI 1) = f j := by
  rw [m1_sub m (by omega), xat_in (by omega) hn]
  congr 1; omega
theorem xput_mm {f : Nat → Int32} {n m j : Nat} {v : Int32} (h : j + 1 = m) (hm : m ≤ n) (hn : n < 2 ^ 31) : xput f n (nI m - nI 1) v = upd f j v := by
  rw [m1_sub m (by omega), xput_in (by omega) hn]
  congr 1; omega
theorem nlt_neg1 {y : Nat} (hy : y < 2 ^ 31) : ¬ nI y < (-1 : Int32) := fun q => by
  have h := neg1lt (nI_pos' hy)
  rw [Int32.lt_iff_toInt_lt] at h q
  omega
theorem TI0 {U S1 : Nat → Bool} {g1 G : Nat → Int32} : TI U S1 g1 G 100000 g1 := ⟨fun _ _ => rfl, fun x h1 h2 _ => absurd h2 (by omega)⟩
theorem BR_mrg {M1 M2 : Nat → Int32} {f d fi fd : Nat → Int32} {n cap hi : Nat} (h1 : MV M1) (h2 : MV M2) (hn : n = cb (Sm M1) 100000) (hfi : ∀ x, x < 100000 → Sm M1 x = true → fi (cb (Sm M1) x) = nI x) (hfd : ∀ x, x < 100000 → Sm M1 x = true → fd (cb (Sm M1) x) = M1 x) (hc : n + nwK M1 M2 ≤ cap) (hcap : cap ≤ 100000) (ht : cb (Sm M2) hi = 0)
    (t1 : TI (uS M1 M2) (Sm M1) fi (fun x => nI x) hi f) (t2 : TI (uS M1 M2) (Sm M1) fd (mrg M1 M2) hi d) : BR (mrg M1 M2) (n + nwK M1 M2) cap f d := by
  have eU : ∀ x, Sm (mrg M1 M2) x = uS M1 M2 x := fun x => Sm_mrg h1 h2 x
  have eF : Sm (mrg M1 M2) = uS M1 M2 := funext eU
  have e1 := (tk_cnt (M1 := M1) (M2 := M2)).2
  refine ⟨⟨by rw [eF, ← e1, hn], ?_⟩, ?_, hc, hcap⟩
  · rw [eF]
    exact t1.done (fun x => rfl) ht (fun x hx h3 _ => hfi x hx h3)
  · rw [eF]
    refine t2.done (fun x => rfl) ht (fun x hx h3 h4 => ?_)
    rw [hfd x hx h3]
    unfold mrg
    rw [Sm_f.mp h4, mrgI_l (h1 x)]
end XTK
