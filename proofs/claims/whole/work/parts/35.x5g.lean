section XX5G
theorem GU.trans {G G2 G3 : Nat → Int32} {b : Nat} {M2 M3 : Nat → Int32} (h : GU G G2 b M2) (h2 : GU G2 G3 b M3) : GU G G3 b M3 := ⟨h2.1, fun i hi => (h2.2 i hi).trans (h.2 i hi)⟩
theorem ln0 {M : Nat → Int32} {f s nw : Nat} (h : MV M) : mrg M (lnM f s 0 nw) = M := funext fun x => by
  show mrgI (M x) (-1) = M x
  exact mrgI_l (h x)
theorem memb_s {f : Nat → Nat} {n x : Nat} : memb f (n + 1) x = (decide (f n = x) || memb f n x) := rfl
theorem ln_new {f s j nw : Nat} (hs : 1 ≤ s) : lnM f s j nw (f + j * s) = -1 := by
  unfold lnM
  refine if_neg (fun q => ?_)
  obtain ⟨i, h1, h2⟩ := memb_iff.mp q
  have h3 : f + i * s = f + j * s := h2
  have h4 : i = j := Nat.eq_of_mul_eq_mul_right (by omega) (by omega : i * s = j * s)
  omega
theorem ln_hi {f s j many nw x : Nat} (h : ∀ i, i < many → f + i * s < 100000) (hx : 100000 ≤ x) (hj : j ≤ many) {M : Nat → Int32} {b : Nat} : mrg (mb M b) (lnM f s j nw) x = -1 := by
  have h1 : lnM f s j nw x = -1 := by
    unfold lnM
    refine if_neg (fun q => ?_)
    obtain ⟨i, h1, h2⟩ := memb_iff.mp q
    have h3 : f + i * s = x := h2
    have := h i (by omega)
    omega
  unfold mrg mb
  rw [h1, if_neg (by omega)]
  exact mrgI_l (Or.inl rfl)
theorem ln_s {f s j nw y : Nat} : lnM f s (j + 1) nw y = if f + j * s = y then nI nw else lnM f s j nw y := by
  unfold lnM
  rw [memb_s]
  by_cases q : f + j * s = y
  · rw [if_pos q, if_pos (by rw [show decide (lnF f s j = y) = true from decide_eq_true q]; rfl)]
  · rw [if_neg q, show decide (lnF f s j = y) = false from decide_eq_false q, Bool.false_or]
theorem ln_step {M : Nat → Int32} {f s j nw : Nat} (h : MV M) (hs : 1 ≤ s) (hn : nw < 2 ^ 31) : upM (mrg M (lnM f s j nw)) (f + j * s) (nI nw) = mrg M (lnM f s (j + 1) nw) := funext fun y => by
  unfold upM
  by_cases q : y = f + j * s
  · subst q
    rw [if_pos rfl]
    unfold mrg
    rw [ln_new hs, mrgI_l (h _), ln_s, if_pos rfl]
  · rw [if_neg q]
    unfold mrg
    rw [ln_s, if_neg (fun r => q r.symm)]
theorem ln_add {M : Nat → Int32} {x nw : Nat} (h : MV M) (hn : nw < 2 ^ 31) : upM M x (nI nw) = mrg M (lnM x 1 1 nw) := by
  have e := ln_step (f := x) (s := 1) (j := 0) h (Nat.le_refl _) hn
  rw [ln0 h] at e
  exact e
theorem ln_Sm {M : Nat → Int32} {f s j nw : Nat} (h : MV M) (hs : 1 ≤ s) : Sm (mrg M (lnM f s j nw)) (f + j * s) = Sm M (f + j * s) := by
  unfold Sm mrg
  rw [ln_new hs, mrgI_l (h _)]
theorem nw_step {M : Nat → Int32} {f s j nw : Nat} (hs : 1 ≤ s) (hn : nw < 2 ^ 31) (hx : f + j * s < 100000) : nwK M (lnM f s (j + 1) nw) = nwK M (lnM f s j nw) + if (!Sm M (f + j * s)) = true then 1 else 0 := by
  have h0 : ∀ y, y ≠ f + j * s → Sm (lnM f s (j + 1) nw) y = Sm (lnM f s j nw) y := fun y hy => by unfold Sm; rw [ln_s, if_neg (fun r => hy r.symm)]
  have h1 : Sm (lnM f s j nw) (f + j * s) = false := Sm_f.mpr (ln_new hs)
  have h2 : Sm (lnM f s (j + 1) nw) (f + j * s) = true := Sm_t.mpr (by rw [ln_s, if_pos rfl]; exact nneg1 (nI_pos' hn))
  unfold nwK
  cases hm : Sm M (f + j * s) with
  | false =>
    rw [cb_ins (P := fun x => Sm (lnM f s j nw) x && !Sm M x) (R := fun x => Sm (lnM f s (j + 1) nw) x && !Sm M x) hx (by simp [h1]) (by simp [h2, hm]) (fun y hy => by simp [h0 y hy]), if_pos (show (!false) = true from rfl)]
  | true =>
    rw [cb_congr (P := fun x => Sm (lnM f s (j + 1) nw) x && !Sm M x) (R := fun x => Sm (lnM f s j nw) x && !Sm M x) (fun y _ => by
      by_cases q : y = f + j * s
      · subst q; simp [hm]
      · simp [h0 y q]), if_neg (by decide), Nat.add_zero]
theorem ln_nw0 {M : Nat → Int32} {f s nw : Nat} : nwK M (lnM f s 0 nw) = 0 := by
  unfold nwK
  rw [cb_none (Nat.zero_le _) (fun y _ _ => by rw [show Sm (lnM f s 0 nw) y = false from Sm_f.mpr rfl]; rfl)]
  rfl
/-- a basket's dates with the first j listed items taken out -/
def emM (lst : Nat → Nat) (j : Nat) (M : Nat → Int32) : Nat → Int32 := fun x => if memb lst j x = true then -1 else M x
theorem em_s {M : Nat → Int32} {lst : Nat → Nat} {j y : Nat} : emM lst (j + 1) M y = if lst j = y then -1 else emM lst j M y := by
  unfold emM
  rw [memb_s]
  by_cases q : lst j = y
  · rw [if_pos q, decide_eq_true q]; rfl
  · rw [if_neg q, decide_eq_false q, Bool.false_or]
theorem em_step {G G2 : Nat → Int32} {b j : Nat} {lst : Nat → Nat} (hx : lst j < 100000) (h : GU G G2 b (emM lst j (mb G b))) : GU G (upd G2 (100000 * b + lst j) (-1)) b (emM lst (j + 1) (mb G b)) := by
  refine ⟨fun x hx2 => ?_, fun i hi => by rw [upd_n (by omega)]; exact h.2 i hi⟩
  rw [em_s]
  by_cases q : lst j = x
  · subst q; rw [upd_s, if_pos rfl]
  · rw [upd_n (by omega), h.1 x hx2, if_neg q]
theorem em_end {G G2 : Nat → Int32} {b nl : Nat} {lst : Nat → Nat} (h : GU G G2 b (emM lst nl (mb G b))) (hC : ∀ x, x < 100000 → Sm (mb G b) x = true → memb lst nl x = true) : GU G G2 b (fun _ => -1) := by
  refine ⟨fun x hx => ?_, h.2⟩
  rw [h.1 x hx]
  unfold emM
  cases hm : memb lst nl x with
  | true => rfl
  | false =>
    cases hs : Sm (mb G b) x with
    | true => rw [hC x hx hs] at hm; cases hm
    | false => exact Sm_f.mp hs
/-- a basket's dates of the first j listed items -/
def rsM (lst : Nat → Nat) (j : Nat) (M : Nat → Int32) : Nat → Int32 := fun x => if memb lst j x = true then M x else -1
theorem rs0 {M M2 : Nat → Int32} {lst : Nat → Nat} (h : MV M2) : mrg M2 (rsM lst 0 M) = M2 := funext fun x => by
  show mrgI (M2 x) (-1) = M2 x
  exact mrgI_l (h x)
theorem rs_nw0 {M M2 : Nat → Int32} {lst : Nat → Nat} : nwK M2 (rsM lst 0 M) = 0 := by
  unfold nwK
  rw [cb_none (Nat.zero_le _) (fun y _ _ => by rw [show Sm (rsM lst 0 M) y = false from Sm_f.mpr rfl]; rfl)]
  rfl
theorem rs_s {M : Nat → Int32} {lst : Nat → Nat} {j y : Nat} : rsM lst (j + 1) M y = if lst j = y then M y else rsM lst j M y := by
  unfold rsM
  rw [memb_s]
  by_cases q : lst j = y
  · rw [if_pos q, decide_eq_true q]; rfl
  · rw [if_neg q, decide_eq_false q, Bool.false_or]
theorem rs_skip {M : Nat → Int32} {lst : Nat → Nat} {j : Nat} (h : Sm M (lst j) = false) : rsM lst (j + 1) M = rsM lst j M := funext fun y => by
  rw [rs_s]
  by_cases q : lst j = y
  · rw [if_pos q]
    subst q
    unfold rsM
    split
    · rfl
    · exact Sm_f.mp h
  · rw [if_neg q]
theorem rs_nj {M : Nat → Int32} {lst : Nat → Nat} {j : Nat} (hd : memb lst j (lst j) = false) : rsM lst j M (lst j) = -1 := if_neg (by rw [hd]; simp)
theorem rs_step {M M2 : Nat → Int32} {lst : Nat → Nat} {j : Nat} (h : Sm M (lst j) = true) (hd : memb lst j (lst j) = false) (hV : MV M2) : upM (mrg M2 (rsM lst j M)) (lst j) (M (lst j)) = mrg M2 (rsM lst (j + 1) M) := funext fun y => by
  unfold upM
  by_cases q : y = lst j
  · subst q
    rw [if_pos rfl]
    unfold mrg
    rw [rs_nj hd, mrgI_l (hV _), rs_s, if_pos rfl]
  · rw [if_neg q]
    unfold mrg
    rw [rs_s, if_neg (fun r => q r.symm)]
theorem rs_Sm {M M2 : Nat → Int32} {lst : Nat → Nat} {j : Nat} (hV : MV M2) (hd : memb lst j (lst j) = false) : Sm (mrg M2 (rsM lst j M)) (lst j) = Sm M2 (lst j) := by
  unfold Sm mrg
  rw [rs_nj hd, mrgI_l (hV _)]
theorem rs_nw {M M2 : Nat → Int32} {lst : Nat → Nat} {j : Nat} (h : Sm M (lst j) = true) (hd : memb lst j (lst j) = false) (hx : lst j < 100000) : nwK M2 (rsM lst (j + 1) M) = nwK M2 (rsM lst j M) + if (!Sm M2 (lst j)) = true then 1 else 0 := by
  have h0 : ∀ y, y ≠ lst j → Sm (rsM lst (j + 1) M) y = Sm (rsM lst j M) y := fun y hy => by unfold Sm; rw [rs_s, if_neg (fun r => hy r.symm)]
  have h1 : Sm (rsM lst j M) (lst j) = false := Sm_f.mpr (rs_nj hd)
  have h2 : Sm (rsM lst (j + 1) M) (lst j) = true := Sm_t.mpr (by rw [rs_s, if_pos rfl]; exact Sm_t.mp h)
  unfold nwK
  cases hm : Sm M2 (lst j) with
  | false =>
    rw [cb_ins (P := fun x => Sm (rsM lst j M) x && !Sm M2 x) (R := fun x => Sm (rsM lst (j + 1) M) x && !Sm M2 x) hx (by simp [h1]) (by simp [h2, hm]) (fun y hy => by simp [h0 y hy]), if_pos (show (!false) = true from rfl)]
  | true =>
    rw [cb_congr (P := fun x => Sm (rsM lst (j + 1) M) x && !Sm M2 x) (R := fun x => Sm (rsM lst j M) x && !Sm M2 x) (fun y _ => by
      by_cases q : y = lst j
      · subst q; simp [hm]
      · simp [h0 y q]), if_neg (by decide), Nat.add_zero]
theorem mb_hi {G : Nat → Int32} {b x : Nat} (h : 100000 ≤ x) : mb G b x = -1 := by unfold mb; rw [if_neg (by omega)]
theorem rs_hi {G : Nat → Int32} {lst : Nat → Nat} {b b2 j x : Nat} (h : 100000 ≤ x) : mrg (mb G b2) (rsM lst j (mb G b)) x = -1 := by
  unfold mrg rsM
  rw [mb_hi h, mb_hi h]
  split <;> exact mrgI_l (Or.inl rfl)
theorem rs_end {G : Nat → Int32} {lst : Nat → Nat} {b nl : Nat} (hC : ∀ x, x < 100000 → Sm (mb G b) x = true → memb lst nl x = true) : rsM lst nl (mb G b) = mb G b := funext fun x => by
  unfold rsM
  cases hm : memb lst nl x with
  | true => rfl
  | false =>
    rw [if_neg (by simp)]
    rcases Nat.lt_or_ge x 100000 with q | q
    · cases hs : Sm (mb G b) x with
      | true => rw [hC x q hs] at hm; cases hm
      | false => exact (Sm_f.mp hs).symm
    · exact (mb_hi q).symm
theorem rs_same {G G2 : Nat → Int32} {lst : Nat → Nat} {b b2 j : Nat} (h : GU G G2 b2 (mrg (mb G b2) (rsM lst j (mb G b)))) (hV : MV (mb G b2)) : mb G2 b = mb G b := by
  by_cases q : b = b2
  · subst q
    rw [h.self (fun x hx => rs_hi hx)]
    funext x
    unfold mrg rsM
    split
    · exact mrgI_self
    · exact mrgI_l (hV x)
  · exact h.oth q
theorem ML_dj {lst : Nat → Nat} {nl j : Nat} {It Zt : Nat → Int32} (h : ML lst nl It Zt) (hj : j < nl) : memb lst j (lst j) = false := by
  cases hm : memb lst j (lst j) with
  | false => rfl
  | true =>
    obtain ⟨i, h1, h2⟩ := memb_iff.mp hm
    have := h.2.1 i j (by omega) hj h2
    omega
set_option maxHeartbeats 4000000 in
set_option maxRecDepth 100000 in
theorem m_add (l : Launch) (D : va_G) (cy : Nat → ClassId) (t0 : Nat) (a5 mD mI mZ mK mO mB mR mF k nw : Nat) (th kM oM : Int32) (nl : Nat) (b x : Nat) (G It Zt : Nat → Int32) (lst : Nat → Nat) (hML : ML lst nl It Zt) (hCV : CV G lst nl) (hb6 : b < 6) (hMV : MV (mb G b)) (hnow : nw < 2 ^ 31) (hx2 : x < 100000) : xWi (S := (Nat → Int32) × (Nat → Int32) × (Nat → Int32) × (Nat → Nat) × Nat) l yX5_add wsX5_add ({ frames := 2, cells := 0, slots := 0, locals := 46 } : Room) D cy t0 ([.ref a5, .int (nI b), .int (nI x)]) ([(a5, .inr (5, [.int th, .int (nI k), .int (nI nw), .ref mD, .ref mI, .ref mZ, .int (nI nl), .ref mK, .ref mO, .ref mB, .ref mR, .ref mF, .int kM, .int oM])), (mD, xI cy 600000 G), (mI, xI cy 100000 It), (mZ, xZ cy 100000 Zt)]) (fun r u => r = xb (!Sm (mb G b) x) ∧ GU G u.1 b (mrg (mb G b) (lnM x 1 1 nw)) ∧ ML u.2.2.2.1 u.2.2.2.2 u.2.1 u.2.2.1 ∧ CV u.1 u.2.2.2.1 u.2.2.2.2) (fun u => [(a5, .inr (5, [.int (nI 0), .int (nI k), .int (nI nw), .ref mD, .ref mI, .ref mZ, .int (nI u.2.2.2.2), .ref mK, .ref mO, .ref mB, .ref mR, .ref mF, .int kM, .int oM])), (mD, xI cy 600000 u.1), (mI, xI cy 100000 u.2.1), (mZ, xZ cy 100000 u.2.2.1)]) 0 0 := by
  refine xofWi (cc := cX5_add) (maxL := 3) (by decide) rfl (Nat.le_of_ble_eq_true rfl) (fun r u h => by rw [h.1]; exact xb_nar _) ?_
  intro p e s m below meth c Q A ls hx hb hml hts hown hE hA H locs hP hD hl hS kret
  have hl : lv_has ls 3 [(0, .ref a5), (1, .int (nI b)), (2, .int (nI x))] := hl
  refine lv_aload_n hx hb dX5_add_0 rfl (lv_at hl 0 rfl) ?_
  refine lv_iload_n hx hb dX5_add_1 rfl (lv_at hl 1 rfl) ?_
  refine xcRi (va_runS (As := [.int (nI b)]) (rest := [.ref a5]) ⟨hx, hb, hml, hown, hts⟩ (m_isBasket l D cy t0 (nI b)) (va_cwS 1 hts gX5_add_X5_isBasket rfl rfl rfl (by decide +kernel) ⟨Nat.le_of_ble_eq_true rfl, Nat.le_of_ble_eq_true rfl⟩) (xPr.give (wc := []) hE hS hP [] rfl) rfl rfl hl.1 rfl (lv_room (Nat.le_of_ble_eq_true rfl)) dX5_add_2 ⟨(Nat.zero_le _), (Nat.zero_le _)⟩) (fun r_1 hr_2 => ?_)
  obtain rfl : r_1 = nI 1 := by rw [hr_2, isBk_lt hb6]; rfl
  refine xb_if_ne (tgt := 12) (a := 1) (by omega) hx hb dX5_add_5 (by decide) (fun c_3 => ?_) (fun c_3 => ?_)
  · refine lv_iload_n hx hb dX5_add_12 rfl (lv_at hl 2 rfl) ?_
    refine xcRi (va_runS (As := [.int (nI x)]) (rest := [.ref a5]) ⟨hx, hb, hml, hown, hts⟩ (m_isItem l D cy t0 (nI x)) (va_cwS 1 hts gX5_add_X5_isItem rfl rfl rfl (by decide +kernel) ⟨Nat.le_of_ble_eq_true rfl, Nat.le_of_ble_eq_true rfl⟩) (xPr.give (wc := []) hE hS hP [] rfl) rfl rfl hl.1 rfl (lv_room (Nat.le_of_ble_eq_true rfl)) dX5_add_13 ⟨(Nat.zero_le _), (Nat.zero_le _)⟩) (fun r_4 hr_5 => ?_)
    obtain rfl : r_4 = nI 1 := by rw [hr_5, isIt_lt hx2]; rfl
    refine xb_if_eq (tgt := 23) (a := 1) (by omega) hx hb dX5_add_16 (by decide) (fun c_6 => ?_) (fun c_6 => ?_)
    · exact absurd c_6 (by omega)
    · refine lv_iconst (v := nI 0) hx hb dX5_add_19 (by decide) ?_
      refine lv_goto (tgt := 24) hx hb dX5_add_20 (by decide) ?_
      refine xcWi (wr := [(mD, xI cy 600000 G), (mI, xI cy 100000 It), (mZ, xZ cy 100000 Zt)]) (va_runV (As := [.int (nI 0)]) (rest := []) ⟨hx, hb, hml, hown, hts⟩ ((m_goesWell l D cy t0 a5 mD mI mZ mK mO mB mR mF k th (nI nw) (nI nl) kM oM 0 (by omega)) H.size) (cwV 1 hts gX5_add_X5_goesWell rfl rfl rfl (by decide +kernel) ⟨Nat.le_of_ble_eq_true rfl, Nat.le_of_ble_eq_true rfl⟩) (xPw.giveV (wc := [(a5, .inr (5, [.int th, .int (nI k), .int (nI nw), .ref mD, .ref mI, .ref mZ, .int (nI nl), .ref mK, .ref mO, .ref mB, .ref mR, .ref mF, .int kM, .int oM]))]) hE hS hA hP hD [0] (by decide) rfl 0 5 rfl rfl) rfl rfl hl.1 rfl (lv_room (Nat.le_of_ble_eq_true rfl)) dX5_add_24 ⟨(Nat.zero_le _), (Nat.zero_le _)⟩) hP hD hS hA [0] [1, 2, 3] rfl rfl (by decide) (by decide) (fun r_7 u_9 H locs hr_8 hP hD hS => ?_)
      obtain rfl : r_7 = nI 1 := by rw [hr_8]; rfl
      have hP := hP.sub (ws' := [(a5, .inr (5, [.int (nI 0), .int (nI k), .int (nI nw), .ref mD, .ref mI, .ref mZ, .int (nI nl), .ref mK, .ref mO, .ref mB, .ref mR, .ref mF, .int kM, .int oM])), (mD, xI cy 600000 G), (mI, xI cy 100000 It), (mZ, xZ cy 100000 Zt)]) [3, 0, 1, 2] rfl
      have hD := hD.sub (ws' := [(a5, .inr (5, [.int (nI 0), .int (nI k), .int (nI nw), .ref mD, .ref mI, .ref mZ, .int (nI nl), .ref mK, .ref mO, .ref mB, .ref mR, .ref mF, .int kM, .int oM])), (mD, xI cy 600000 G), (mI, xI cy 100000 It), (mZ, xZ cy 100000 Zt)]) [3, 0, 1, 2] (by decide) rfl
      refine xb_if_eq (tgt := 47) (a := 1) (by omega) hx hb dX5_add_27 (by decide) (fun c_10 => ?_) (fun c_10 => ?_)
      · exact absurd c_10 (by omega)
      · refine lv_aload_n hx hb dX5_add_30 rfl (lv_at hl 0 rfl) ?_
        refine lv_iload_n hx hb dX5_add_31 rfl (lv_at hl 1 rfl) ?_
        refine lv_iload_n hx hb dX5_add_32 rfl (lv_at hl 2 rfl) ?_
        refine lv_aload_n hx hb dX5_add_33 rfl (lv_at hl 0 rfl) ?_
        refine va_get (D := D) (ci := 5) (v := .int (nI nw)) (C := RX5) (T := TX5) (N := 14) hx hb hts (by decide +kernel) hown hE.1 hP 0 rfl rfl 2 (by decide) (hts (.fieldLink RX5 71 "DistinctDaleModel" "now" "I") (by decide +kernel)) (fun _ h9 => h9) rfl dX5_add_34 ?_
        refine xcWi (wr := []) (va_runV (As := [.int (nI b), .int (nI x), .int (nI nw)]) (rest := []) ⟨hx, hb, hml, hown, hts⟩ ((m_put l D cy t0 a5 mD mI mZ mK mO mB mR mF k (nI 0) (nI nw) kM oM nl b x (nI nw) G It Zt lst hb6 hx2 hML) H.size) (cwV 3 hts gX5_add_X5_put rfl rfl rfl (by decide +kernel) ⟨Nat.le_of_ble_eq_true rfl, Nat.le_of_ble_eq_true rfl⟩) (xPw.giveV (wc := [(a5, .inr (5, [.int (nI 0), .int (nI k), .int (nI nw), .ref mD, .ref mI, .ref mZ, .int (nI nl), .ref mK, .ref mO, .ref mB, .ref mR, .ref mF, .int kM, .int oM])), (mD, xI cy 600000 G), (mI, xI cy 100000 It), (mZ, xZ cy 100000 Zt)]) hE hS hA hP hD [0, 1, 2, 3] (by decide) rfl 0 5 rfl rfl) rfl rfl hl.1 rfl (lv_room (Nat.le_of_ble_eq_true rfl)) dX5_add_37 ⟨(Nat.zero_le _), (Nat.zero_le _)⟩) hP hD hS hA [0, 1, 2, 3] [] rfl rfl (by decide) (by decide) (fun r_11 u_13 H locs hr_12 hP hD hS => ?_)
        obtain ⟨G3, It3, Zt3, lst3, nl3⟩ := u_13
        refine lv_eqi (z := xb (!Sm (mb G b) x)) hr_12.1 ?_
        have hq1 : GU G G3 b (upM (mb G b) x (nI nw)) := hr_12.2.1
        have hq2 : ML lst3 nl3 It3 Zt3 := hr_12.2.2.1
        have hq3 : ∀ y, memb lst nl y = true → memb lst3 nl3 y = true := hr_12.2.2.2.1
        have hq4 : memb lst3 nl3 x = true := hr_12.2.2.2.2.1
        have hP := hP.sub (ws' := [(a5, .inr (5, [.int (nI 0), .int (nI k), .int (nI nw), .ref mD, .ref mI, .ref mZ, .int (nI nl3), .ref mK, .ref mO, .ref mB, .ref mR, .ref mF, .int kM, .int oM])), (mD, xI cy 600000 G3), (mI, xI cy 100000 It3), (mZ, xZ cy 100000 Zt3)]) [0, 1, 2, 3] rfl
        have hD := hD.sub (ws' := [(a5, .inr (5, [.int (nI 0), .int (nI k), .int (nI nw), .ref mD, .ref mI, .ref mZ, .int (nI nl3), .ref mK, .ref mO, .ref mB, .ref mR, .ref mF, .int kM, .int oM])), (mD, xI cy 600000 G3), (mI, xI cy 100000 It3), (mZ, xZ cy 100000 Zt3)]) [0, 1, 2, 3] (by decide) rfl
        refine xb_beq (tgt := 47) hx hb dX5_add_40 (by decide) (fun c_14 => ?_) (fun c_14 => ?_)
        · refine lv_iconst (v := nI 0) hx hb dX5_add_47 (by decide) ?_
          exact kret _ (G3, It3, Zt3, lst3, nl3) _ _ _ _ _ _ dX5_add_48 ⟨by rw [c_14]; rfl, by rw [← ln_add hMV hnow]; exact hq1, hq2, CV_up hCV hq1 hq3 hq4⟩ hP hD hS (Nat.le_of_ble_eq_true rfl) (Nat.le_of_ble_eq_true rfl)
        · refine lv_iconst (v := nI 1) hx hb dX5_add_43 (by decide) ?_
          refine lv_goto (tgt := 48) hx hb dX5_add_44 (by decide) ?_
          exact kret _ (G3, It3, Zt3, lst3, nl3) _ _ _ _ _ _ dX5_add_48 ⟨by rw [c_14]; rfl, by rw [← ln_add hMV hnow]; exact hq1, hq2, CV_up hCV hq1 hq3 hq4⟩ hP hD hS (Nat.le_of_ble_eq_true rfl) (Nat.le_of_ble_eq_true rfl)
  · exact absurd c_3 (by omega)
set_option maxHeartbeats 4000000 in
set_option maxRecDepth 100000 in
theorem m_addLine (l : Launch) (D : va_G) (cy : Nat → ClassId) (t0 : Nat) (a5 mD mI mZ mK mO mB mR mF k nw : Nat) (th kM oM : Int32) (nl : Nat) (b first step many : Nat) (G It Zt : Nat → Int32) (lst : Nat → Nat) (hML : ML lst nl It Zt) (hCV : CV G lst nl) (hb6 : b < 6) (hMV : MV (mb G b)) (hnow : nw < 2 ^ 31) (hs1 : 1 ≤ step) (hs2 : step ≤ 999) (hm1 : 1 ≤ many) (hm2 : many ≤ 60) (hlast : first + step * (many - 1) < 100000) : xWi (S := (Nat → Int32) × (Nat → Int32) × (Nat → Int32) × (Nat → Nat) × Nat) l yX5_addLine wsX5_addLine ({ frames := 2, cells := 0, slots := 0, locals := 46 } : Room) D cy t0 ([.ref a5, .int (nI b), .int (nI first), .int (nI step), .int (nI many)]) ([(a5, .inr (5, [.int th, .int (nI k), .int (nI nw), .ref mD, .ref mI, .ref mZ, .int (nI nl), .ref mK, .ref mO, .ref mB, .ref mR, .ref mF, .int kM, .int oM])), (mD, xI cy 600000 G), (mI, xI cy 100000 It), (mZ, xZ cy 100000 Zt)]) (fun r u => r = nI (nwK (mb G b) (lnM first step many nw)) ∧ GU G u.1 b (mrg (mb G b) (lnM first step many nw)) ∧ ML u.2.2.2.1 u.2.2.2.2 u.2.1 u.2.2.1 ∧ CV u.1 u.2.2.2.1 u.2.2.2.2) (fun u => [(a5, .inr (5, [.int (nI 0), .int (nI k), .int (nI nw), .ref mD, .ref mI, .ref mZ, .int (nI u.2.2.2.2), .ref mK, .ref mO, .ref mB, .ref mR, .ref mF, .int kM, .int oM])), (mD, xI cy 600000 u.1), (mI, xI cy 100000 u.2.1), (mZ, xZ cy 100000 u.2.2.1)]) 0 0 := by
  refine xofWi (cc := cX5_addLine) (maxL := 8) (by decide) rfl (Nat.le_of_ble_eq_true rfl) (fun _ _ _ => rfl) ?_
  intro p e s m below meth c Q A ls hx hb hml hts hown hE hA H locs hP hD hl hS kret
  have hl : lv_has ls 8 [(0, .ref a5), (1, .int (nI b)), (2, .int (nI first)), (3, .int (nI step)), (4, .int (nI many))] := hl
  have hlast2 : first + (many - 1) * step < 100000 := by rw [Nat.mul_comm]; exact hlast
  have hxa : ∀ i, i < many → first + i * step < 100000 := fun i hi => by have := Nat.mul_le_mul_right step (show i ≤ many - 1 by omega); omega
  have hfs : 0 ≤ (many - 1) * step := Nat.zero_le _
  refine lv_iload_n hx hb dX5_addLine_0 rfl (lv_at hl 2 rfl) ?_
  refine xcRi (va_runS (As := [.int (nI first)]) (rest := []) ⟨hx, hb, hml, hown, hts⟩ (m_isItem l D cy t0 (nI first)) (va_cwS 1 hts gX5_addLine_X5_isItem rfl rfl rfl (by decide +kernel) ⟨Nat.le_of_ble_eq_true rfl, Nat.le_of_ble_eq_true rfl⟩) (xPr.give (wc := []) hE hS hP [] rfl) rfl rfl hl.1 rfl (lv_room (Nat.le_of_ble_eq_true rfl)) dX5_addLine_1 ⟨(Nat.zero_le _), (Nat.zero_le _)⟩) (fun r_1 hr_2 => ?_)
  obtain rfl : r_1 = nI 1 := by rw [hr_2, isIt_lt (by omega)]; rfl
  refine xb_if_eq (tgt := 50) (a := 1) (by omega) hx hb dX5_addLine_4 (by decide) (fun c_3 => ?_) (fun c_3 => ?_)
  · exact absurd c_3 (by omega)
  · refine lv_iload_n hx hb dX5_addLine_7 rfl (lv_at hl 3 rfl) ?_
    refine lv_iconst (v := nI 1) hx hb dX5_addLine_8 (by decide) ?_
    refine xb_icmp_lt (tgt := 50) (a := step) (b := 1) (by omega) (by omega) hx hb dX5_addLine_9 (by decide) (fun c_4 => ?_) (fun c_4 => ?_)
    · exact absurd c_4 (by omega)
    · refine lv_iload_n hx hb dX5_addLine_12 rfl (lv_at hl 3 rfl) ?_
      refine lv_sipush (v := nI 999) hx hb dX5_addLine_13 (by decide) ?_
      refine xb_icmp_gt (tgt := 50) (a := step) (b := 999) (by omega) (by omega) hx hb dX5_addLine_16 (by decide) (fun c_5 => ?_) (fun c_5 => ?_)
      · exact absurd c_5 (by omega)
      · refine lv_iload hx hb dX5_addLine_19 (lv_at hl 4 rfl) ?_
        refine lv_iconst (v := nI 1) hx hb dX5_addLine_21 (by decide) ?_
        refine xb_icmp_lt (tgt := 50) (a := many) (b := 1) (by omega) (by omega) hx hb dX5_addLine_22 (by decide) (fun c_6 => ?_) (fun c_6 => ?_)
        · exact absurd c_6 (by omega)
        · refine lv_iload hx hb dX5_addLine_25 (lv_at hl 4 rfl) ?_
          refine lv_bipush (v := nI 60) hx hb dX5_addLine_27 (by decide) ?_
          refine xb_icmp_gt (tgt := 50) (a := many) (b := 60) (by omega) (by omega) hx hb dX5_addLine_29 (by decide) (fun c_7 => ?_) (fun c_7 => ?_)
          · exact absurd c_7 (by omega)
          · refine lv_iload_n hx hb dX5_addLine_32 rfl (lv_at hl 2 rfl) ?_
            refine lv_iload hx hb dX5_addLine_33 (lv_at hl 4 rfl) ?_
            refine lv_iconst (v := nI 1) hx hb dX5_addLine_35 (by decide) ?_
            refine lv_isub hx hb dX5_addLine_36 ?_
            refine lv_eqi (z := nI (many - 1)) (pk_sub (by omega)) ?_
            refine lv_iload_n hx hb dX5_addLine_37 rfl (lv_at hl 3 rfl) ?_
            refine lv_imul hx hb dX5_addLine_38 ?_
            refine lv_eqi (z := nI ((many - 1) * step)) (pk_mul _ _) ?_
            refine lv_iadd hx hb dX5_addLine_39 ?_
            refine lv_eqi (z := nI (first + ((many - 1) * step))) (nI_add _ _) ?_
            refine xcRi (va_runS (As := [.int (nI (first + ((many - 1) * step)))]) (rest := []) ⟨hx, hb, hml, hown, hts⟩ (m_isItem l D cy t0 (nI (first + ((many - 1) * step)))) (va_cwS 1 hts gX5_addLine_X5_isItem rfl rfl rfl (by decide +kernel) ⟨Nat.le_of_ble_eq_true rfl, Nat.le_of_ble_eq_true rfl⟩) (xPr.give (wc := []) hE hS hP [] rfl) rfl rfl hl.1 rfl (lv_room (Nat.le_of_ble_eq_true rfl)) dX5_addLine_40 ⟨(Nat.zero_le _), (Nat.zero_le _)⟩) (fun r_8 hr_9 => ?_)
            obtain rfl : r_8 = nI 1 := by rw [hr_9, isIt_lt (by omega)]; rfl
            refine xb_if_eq (tgt := 50) (a := 1) (by omega) hx hb dX5_addLine_43 (by decide) (fun c_10 => ?_) (fun c_10 => ?_)
            · exact absurd c_10 (by omega)
            · refine lv_iconst (v := nI 1) hx hb dX5_addLine_46 (by decide) ?_
              refine lv_goto (tgt := 51) hx hb dX5_addLine_47 (by decide) ?_
              refine lv_istore (lv' := [(5, .int (nI 1)), (0, .ref a5), (1, .int (nI b)), (2, .int (nI first)), (3, .int (nI step)), (4, .int (nI many))]) hx hb dX5_addLine_51 hl (by decide) rfl (fun ls hl => ?_)
              refine lv_aload_n hx hb dX5_addLine_53 rfl (lv_at hl 1 rfl) ?_
              refine lv_iload_n hx hb dX5_addLine_54 rfl (lv_at hl 2 rfl) ?_
              refine xcRi (va_runS (As := [.int (nI b)]) (rest := [.ref a5]) ⟨hx, hb, hml, hown, hts⟩ (m_isBasket l D cy t0 (nI b)) (va_cwS 1 hts gX5_addLine_X5_isBasket rfl rfl rfl (by decide +kernel) ⟨Nat.le_of_ble_eq_true rfl, Nat.le_of_ble_eq_true rfl⟩) (xPr.give (wc := []) hE hS hP [] rfl) rfl rfl hl.1 rfl (lv_room (Nat.le_of_ble_eq_true rfl)) dX5_addLine_55 ⟨(Nat.zero_le _), (Nat.zero_le _)⟩) (fun r_11 hr_12 => ?_)
              obtain rfl : r_11 = nI 1 := by rw [hr_12, isBk_lt hb6]; rfl
              refine xb_if_ne (tgt := 65) (a := 1) (by omega) hx hb dX5_addLine_58 (by decide) (fun c_13 => ?_) (fun c_13 => ?_)
              · refine lv_iload hx hb dX5_addLine_65 (lv_at hl 0 rfl) ?_
                refine xb_if_eq (tgt := 74) (a := 1) (by omega) hx hb dX5_addLine_67 (by decide) (fun c_14 => ?_) (fun c_14 => ?_)
                · exact absurd c_14 (by omega)
                · refine lv_iconst (v := nI 0) hx hb dX5_addLine_70 (by decide) ?_
                  refine lv_goto (tgt := 75) hx hb dX5_addLine_71 (by decide) ?_
                  refine xcWi (wr := [(mD, xI cy 600000 G), (mI, xI cy 100000 It), (mZ, xZ cy 100000 Zt)]) (va_runV (As := [.int (nI 0)]) (rest := []) ⟨hx, hb, hml, hown, hts⟩ ((m_goesWell l D cy t0 a5 mD mI mZ mK mO mB mR mF k th (nI nw) (nI nl) kM oM 0 (by omega)) H.size) (cwV 1 hts gX5_addLine_X5_goesWell rfl rfl rfl (by decide +kernel) ⟨Nat.le_of_ble_eq_true rfl, Nat.le_of_ble_eq_true rfl⟩) (xPw.giveV (wc := [(a5, .inr (5, [.int th, .int (nI k), .int (nI nw), .ref mD, .ref mI, .ref mZ, .int (nI nl), .ref mK, .ref mO, .ref mB, .ref mR, .ref mF, .int kM, .int oM]))]) hE hS hA hP hD [0] (by decide) rfl 0 5 rfl rfl) rfl rfl hl.1 rfl (lv_room (Nat.le_of_ble_eq_true rfl)) dX5_addLine_75 ⟨(Nat.zero_le _), (Nat.zero_le _)⟩) hP hD hS hA [0] [1, 2, 3] rfl rfl (by decide) (by decide) (fun r_15 u_17 H locs hr_16 hP hD hS => ?_)
                  obtain rfl : r_15 = nI 1 := by rw [hr_16]; rfl
                  have hP := hP.sub (ws' := [(a5, .inr (5, [.int (nI 0), .int (nI k), .int (nI nw), .ref mD, .ref mI, .ref mZ, .int (nI nl), .ref mK, .ref mO, .ref mB, .ref mR, .ref mF, .int kM, .int oM])), (mD, xI cy 600000 G), (mI, xI cy 100000 It), (mZ, xZ cy 100000 Zt)]) [3, 0, 1, 2] rfl
                  have hD := hD.sub (ws' := [(a5, .inr (5, [.int (nI 0), .int (nI k), .int (nI nw), .ref mD, .ref mI, .ref mZ, .int (nI nl), .ref mK, .ref mO, .ref mB, .ref mR, .ref mF, .int kM, .int oM])), (mD, xI cy 600000 G), (mI, xI cy 100000 It), (mZ, xZ cy 100000 Zt)]) [3, 0, 1, 2] (by decide) rfl
                  refine xb_if_ne (tgt := 83) (a := 1) (by omega) hx hb dX5_addLine_78 (by decide) (fun c_18 => ?_) (fun c_18 => ?_)
                  · refine lv_iconst (v := nI 0) hx hb dX5_addLine_83 (by decide) ?_
                    refine lv_eqi (z := nI (nwK (mb G b) (lnM first step 0 nw))) (congrArg nI ln_nw0.symm) ?_
                    refine lv_istore (lv' := [(6, .int (nI (nwK (mb G b) (lnM first step 0 nw)))), (5, .int (nI 1)), (0, .ref a5), (1, .int (nI b)), (2, .int (nI first)), (3, .int (nI step)), (4, .int (nI many))]) hx hb dX5_addLine_84 hl (by decide) rfl (fun ls hl => ?_)
                    refine lv_iconst (v := nI 0) hx hb dX5_addLine_86 (by decide) ?_
                    refine lv_istore (lv' := [(7, .int (nI 0)), (6, .int (nI (nwK (mb G b) (lnM first step 0 nw)))), (5, .int (nI 1)), (0, .ref a5), (1, .int (nI b)), (2, .int (nI first)), (3, .int (nI step)), (4, .int (nI many))]) hx hb dX5_addLine_87 hl (by decide) rfl (fun ls hl => ?_)
                    have lp : ∀ (n9 : Nat), ∀ (j : Nat) (G2 : Nat → Int32) (It2 : Nat → Int32) (Zt2 : Nat → Int32) (lst2 : Nat → Nat) (nl2 : Nat), (hj : j ≤ many) → (hG : GU G G2 b (mrg (mb G b) (lnM first step j nw))) → (hML2 : ML lst2 nl2 It2 Zt2) → (hCV2 : CV G2 lst2 nl2) → many - j < n9 → ∀ (H : Heap) (locs : List Loc), xP D [(a5, .inr (5, [.int (nI 0), .int (nI k), .int (nI nw), .ref mD, .ref mI, .ref mZ, .int (nI nl2), .ref mK, .ref mO, .ref mB, .ref mR, .ref mF, .int kM, .int oM])), (mD, xI cy 600000 G2), (mI, xI cy 100000 It2), (mZ, xZ cy 100000 Zt2)] H → va_D A [(a5, .inr (5, [.int (nI 0), .int (nI k), .int (nI nw), .ref mD, .ref mI, .ref mZ, .int (nI nl2), .ref mK, .ref mO, .ref mB, .ref mR, .ref mF, .int kM, .int oM])), (mD, xI cy 600000 G2), (mI, xI cy 100000 It2), (mZ, xZ cy 100000 Zt2)] → va_S A s.heap H locs → ∀ (ls : Array Slot), lv_has ls 8 [(0, .ref a5), (1, .int (nI b)), (2, .int (nI first)), (3, .int (nI step)), (4, .int (nI many)), (6, .int (nI (nwK (mb G b) (lnM first step j nw)))), (7, .int (nI j))] → W p l e ({ frames := 2, cells := 0, slots := 0, locals := 46 } : Room) s m [.ref a5, .int (nI b), .int (nI first), .int (nI step), .int (nI many)].toArray below meth c H locs 0 0 Q (F0 m 89 ls []) := by
                      intro n9
                      induction n9 with
                      | zero => intro j G2 It2 Zt2 lst2 nl2 hj hG hML2 hCV2 hm; exact absurd hm (Nat.not_lt_zero _)
                      | succ n9 ih_lp =>
                        intro j G2 It2 Zt2 lst2 nl2 hj hG hML2 hCV2 hm H locs hP hD hS ls hl
                        refine lv_iload hx hb dX5_addLine_89 (lv_at hl 6 rfl) ?_
                        refine lv_iload hx hb dX5_addLine_91 (lv_at hl 4 rfl) ?_
                        refine xb_icmp_ge (tgt := 130) (a := j) (b := many) (by omega) (by omega) hx hb dX5_addLine_93 (by decide) (fun c_19 => ?_) (fun c_19 => ?_)
                        · obtain rfl : j = many := by omega
                          refine lv_iload hx hb dX5_addLine_130 (lv_at hl 5 rfl) ?_
                          exact kret _ (G2, It2, Zt2, lst2, nl2) _ _ _ _ _ _ dX5_addLine_132 ⟨rfl, hG, hML2, hCV2⟩ hP hD hS (Nat.le_of_ble_eq_true rfl) (Nat.le_of_ble_eq_true rfl)
                        · have hxj : first + j * step < 100000 := by have := Nat.mul_le_mul_right step (show j ≤ many - 1 by omega); omega
                          have hG2 : mb G2 b = mrg (mb G b) (lnM first step j nw) := hG.self (fun x hx => ln_hi hxa hx (by omega))
                          have hSx : (!Sm (mb G2 b) (first + j * step)) = (!Sm (mb G b) (first + j * step)) := by rw [hG2, ln_Sm hMV hs1]
                          refine lv_iload hx hb dX5_addLine_96 (lv_at hl 5 rfl) ?_
                          refine lv_aload_n hx hb dX5_addLine_98 rfl (lv_at hl 0 rfl) ?_
                          refine lv_iload_n hx hb dX5_addLine_99 rfl (lv_at hl 1 rfl) ?_
                          refine lv_iload_n hx hb dX5_addLine_100 rfl (lv_at hl 2 rfl) ?_
                          refine lv_iload hx hb dX5_addLine_101 (lv_at hl 6 rfl) ?_
                          refine lv_iload_n hx hb dX5_addLine_103 rfl (lv_at hl 3 rfl) ?_
                          refine lv_imul hx hb dX5_addLine_104 ?_
                          refine lv_eqi (z := nI (j * step)) (pk_mul _ _) ?_
                          refine lv_iadd hx hb dX5_addLine_105 ?_
                          refine lv_eqi (z := nI (first + (j * step))) (nI_add _ _) ?_
                          refine lv_aload_n hx hb dX5_addLine_106 rfl (lv_at hl 0 rfl) ?_
                          refine va_get (D := D) (ci := 5) (v := .int (nI nw)) (C := RX5) (T := TX5) (N := 14) hx hb hts (by decide +kernel) hown hE.1 hP 0 rfl rfl 2 (by decide) (hts (.fieldLink RX5 71 "DistinctDaleModel" "now" "I") (by decide +kernel)) (fun _ h9 => h9) rfl dX5_addLine_107 ?_
                          refine xcWi (wr := []) (va_runV (As := [.int (nI b), .int (nI (first + (j * step))), .int (nI nw)]) (rest := [.int (nI (nwK (mb G b) (lnM first step j nw)))]) ⟨hx, hb, hml, hown, hts⟩ ((m_put l D cy t0 a5 mD mI mZ mK mO mB mR mF k (nI 0) (nI nw) kM oM nl2 b (first + j * step) (nI nw) G2 It2 Zt2 lst2 hb6 hxj hML2) H.size) (cwV 3 hts gX5_addLine_X5_put rfl rfl rfl (by decide +kernel) ⟨Nat.le_of_ble_eq_true rfl, Nat.le_of_ble_eq_true rfl⟩) (xPw.giveV (wc := [(a5, .inr (5, [.int (nI 0), .int (nI k), .int (nI nw), .ref mD, .ref mI, .ref mZ, .int (nI nl2), .ref mK, .ref mO, .ref mB, .ref mR, .ref mF, .int kM, .int oM])), (mD, xI cy 600000 G2), (mI, xI cy 100000 It2), (mZ, xZ cy 100000 Zt2)]) hE hS hA hP hD [0, 1, 2, 3] (by decide) rfl 0 5 rfl rfl) rfl rfl hl.1 rfl (lv_room (Nat.le_of_ble_eq_true rfl)) dX5_addLine_110 ⟨(Nat.zero_le _), (Nat.zero_le _)⟩) hP hD hS hA [0, 1, 2, 3] [] rfl rfl (by decide) (by decide) (fun r_20 u_22 H locs hr_21 hP hD hS => ?_)
                          obtain ⟨G3, It3, Zt3, lst3, nl3⟩ := u_22
                          refine lv_eqi (z := xb (!Sm (mb G2 b) (first + j * step))) hr_21.1 ?_
                          have hq1 : GU G2 G3 b (upM (mb G2 b) (first + j * step) (nI nw)) := hr_21.2.1
                          have hq2 : ML lst3 nl3 It3 Zt3 := hr_21.2.2.1
                          have hq3 : ∀ y, memb lst2 nl2 y = true → memb lst3 nl3 y = true := hr_21.2.2.2.1
                          have hq4 : memb lst3 nl3 (first + j * step) = true := hr_21.2.2.2.2.1
                          have hP := hP.sub (ws' := [(a5, .inr (5, [.int (nI 0), .int (nI k), .int (nI nw), .ref mD, .ref mI, .ref mZ, .int (nI nl3), .ref mK, .ref mO, .ref mB, .ref mR, .ref mF, .int kM, .int oM])), (mD, xI cy 600000 G3), (mI, xI cy 100000 It3), (mZ, xZ cy 100000 Zt3)]) [0, 1, 2, 3] rfl
                          have hD := hD.sub (ws' := [(a5, .inr (5, [.int (nI 0), .int (nI k), .int (nI nw), .ref mD, .ref mI, .ref mZ, .int (nI nl3), .ref mK, .ref mO, .ref mB, .ref mR, .ref mF, .int kM, .int oM])), (mD, xI cy 600000 G3), (mI, xI cy 100000 It3), (mZ, xZ cy 100000 Zt3)]) [0, 1, 2, 3] (by decide) rfl
                          refine xb_beq (tgt := 120) hx hb dX5_addLine_113 (by decide) (fun c_23 => ?_) (fun c_23 => ?_)
                          · refine lv_iconst (v := nI 0) hx hb dX5_addLine_120 (by decide) ?_
                            refine lv_iadd hx hb dX5_addLine_121 ?_
                            refine lv_eqi (z := nI (nwK (mb G b) (lnM first step j nw) + 0)) (nI_add _ _) ?_
                            refine lv_istore (lv' := [(6, .int (nI (nwK (mb G b) (lnM first step j nw) + 0))), (0, .ref a5), (1, .int (nI b)), (2, .int (nI first)), (3, .int (nI step)), (4, .int (nI many)), (7, .int (nI j))]) hx hb dX5_addLine_122 hl (by decide) rfl (fun ls hl => ?_)
                            refine lv_iinc (v := nI (j + 1)) (lv' := [(7, .int (nI (j + 1))), (6, .int (nI (nwK (mb G b) (lnM first step j nw) + 0))), (0, .ref a5), (1, .int (nI b)), (2, .int (nI first)), (3, .int (nI step)), (4, .int (nI many))]) hx hb dX5_addLine_124 hl (k := 6) rfl (nI_add _ 1) (by decide) rfl (fun ls hl => ?_)
                            refine lv_goto (tgt := 89) hx hb dX5_addLine_127 (by decide) ?_
                            have e2 : nwK (mb G b) (lnM first step j nw) + 0 = nwK (mb G b) (lnM first step (j + 1) nw) := by rw [nw_step hs1 hnow hxj, ← hSx, (show (!Sm (mb G2 b) (first + j * step)) = false from c_23)]; rfl
                            rw [e2] at hl
                            exact ih_lp (j + 1) G3 It3 Zt3 lst3 nl3 (by omega) (by rw [← ln_step hMV hs1 hnow]; rw [hG2] at hq1; exact hG.trans hq1) hq2 (CV_up hCV2 hq1 hq3 hq4) (by omega) _ _ hP hD hS _ (lv_sub hl [2, 3, 4, 5, 6, 1, 0] rfl)
                          · refine lv_iconst (v := nI 1) hx hb dX5_addLine_116 (by decide) ?_
                            refine lv_goto (tgt := 121) hx hb dX5_addLine_117 (by decide) ?_
                            refine lv_iadd hx hb dX5_addLine_121 ?_
                            refine lv_eqi (z := nI (nwK (mb G b) (lnM first step j nw) + 1)) (nI_add _ _) ?_
                            refine lv_istore (lv' := [(6, .int (nI (nwK (mb G b) (lnM first step j nw) + 1))), (0, .ref a5), (1, .int (nI b)), (2, .int (nI first)), (3, .int (nI step)), (4, .int (nI many)), (7, .int (nI j))]) hx hb dX5_addLine_122 hl (by decide) rfl (fun ls hl => ?_)
                            refine lv_iinc (v := nI (j + 1)) (lv' := [(7, .int (nI (j + 1))), (6, .int (nI (nwK (mb G b) (lnM first step j nw) + 1))), (0, .ref a5), (1, .int (nI b)), (2, .int (nI first)), (3, .int (nI step)), (4, .int (nI many))]) hx hb dX5_addLine_124 hl (k := 6) rfl (nI_add _ 1) (by decide) rfl (fun ls hl => ?_)
                            refine lv_goto (tgt := 89) hx hb dX5_addLine_127 (by decide) ?_
                            have e2 : nwK (mb G b) (lnM first step j nw) + 1 = nwK (mb G b) (lnM first step (j + 1) nw) := by rw [nw_step hs1 hnow hxj, ← hSx, (show (!Sm (mb G2 b) (first + j * step)) = true from c_23)]; rfl
                            rw [e2] at hl
                            exact ih_lp (j + 1) G3 It3 Zt3 lst3 nl3 (by omega) (by rw [← ln_step hMV hs1 hnow]; rw [hG2] at hq1; exact hG.trans hq1) hq2 (CV_up hCV2 hq1 hq3 hq4) (by omega) _ _ hP hD hS _ (lv_sub hl [2, 3, 4, 5, 6, 1, 0] rfl)
                    exact lp (many + 1) 0 G It Zt lst nl (Nat.zero_le _) (by rw [ln0 hMV]; exact ⟨fun x hx => (mb_lt hx).symm, fun _ _ => rfl⟩) hML hCV (by omega) _ _ hP hD hS _ (lv_sub hl [3, 4, 5, 6, 7, 1, 0] rfl)
                  · exact absurd c_18 (by omega)
              · exact absurd c_13 (by omega)
set_option maxHeartbeats 4000000 in
set_option maxRecDepth 100000 in
theorem m_empty (l : Launch) (D : va_G) (cy : Nat → ClassId) (t0 : Nat) (a5 mD mI mZ mK mO mB mR mF k : Nat) (th now kM oM : Int32) (nl : Nat) (b : Nat) (G It Zt : Nat → Int32) (lst : Nat → Nat) (hML : ML lst nl It Zt) (hCV : CV G lst nl) (hb6 : b < 6) : xWi (S := Nat → Int32) l yX5_empty wsX5_empty ({ frames := 2, cells := 0, slots := 0, locals := 45 } : Room) D cy t0 ([.ref a5, .int (nI b)]) ([(a5, .inr (5, [.int th, .int (nI k), .int now, .ref mD, .ref mI, .ref mZ, .int (nI nl), .ref mK, .ref mO, .ref mB, .ref mR, .ref mF, .int kM, .int oM])), (mD, xI cy 600000 G), (mI, xI cy 100000 It)]) (fun r u => r = nI (cb (Sm (mb G b)) 100000) ∧ GU G u b (fun _ => -1)) (fun u => [(a5, .inr (5, [.int (nI 0), .int (nI k), .int now, .ref mD, .ref mI, .ref mZ, .int (nI nl), .ref mK, .ref mO, .ref mB, .ref mR, .ref mF, .int kM, .int oM])), (mD, xI cy 600000 u), (mI, xI cy 100000 It)]) 0 0 := by
  refine xofWi (cc := cX5_empty) (maxL := 4) (by decide) rfl (Nat.le_of_ble_eq_true rfl) (fun _ _ _ => rfl) ?_
  intro p e s m below meth c Q A ls hx hb hml hts hown hE hA H locs hP hD hl hS kret
  have hl : lv_has ls 4 [(0, .ref a5), (1, .int (nI b))] := hl
  have hnle := hML.le
  refine lv_aload_n hx hb dX5_empty_0 rfl (lv_at hl 0 rfl) ?_
  refine lv_iload_n hx hb dX5_empty_1 rfl (lv_at hl 1 rfl) ?_
  refine xcRi (va_runS (As := [.int (nI b)]) (rest := [.ref a5]) ⟨hx, hb, hml, hown, hts⟩ (m_isBasket l D cy t0 (nI b)) (va_cwS 1 hts gX5_empty_X5_isBasket rfl rfl rfl (by decide +kernel) ⟨Nat.le_of_ble_eq_true rfl, Nat.le_of_ble_eq_true rfl⟩) (xPr.give (wc := []) hE hS hP [] rfl) rfl rfl hl.1 rfl (lv_room (Nat.le_of_ble_eq_true rfl)) dX5_empty_2 ⟨(Nat.zero_le _), (Nat.zero_le _)⟩) (fun r_1 hr_2 => ?_)
  obtain rfl : r_1 = nI 1 := by rw [hr_2, isBk_lt hb6]; rfl
  refine xb_if_eq (tgt := 12) (a := 1) (by omega) hx hb dX5_empty_5 (by decide) (fun c_3 => ?_) (fun c_3 => ?_)
  · exact absurd c_3 (by omega)
  · refine lv_iconst (v := nI 0) hx hb dX5_empty_8 (by decide) ?_
    refine lv_goto (tgt := 13) hx hb dX5_empty_9 (by decide) ?_
    refine xcWi (wr := [(mD, xI cy 600000 G), (mI, xI cy 100000 It)]) (va_runV (As := [.int (nI 0)]) (rest := []) ⟨hx, hb, hml, hown, hts⟩ ((m_goesWell l D cy t0 a5 mD mI mZ mK mO mB mR mF k th now (nI nl) kM oM 0 (by omega)) H.size) (cwV 1 hts gX5_empty_X5_goesWell rfl rfl rfl (by decide +kernel) ⟨Nat.le_of_ble_eq_true rfl, Nat.le_of_ble_eq_true rfl⟩) (xPw.giveV (wc := [(a5, .inr (5, [.int th, .int (nI k), .int now, .ref mD, .ref mI, .ref mZ, .int (nI nl), .ref mK, .ref mO, .ref mB, .ref mR, .ref mF, .int kM, .int oM]))]) hE hS hA hP hD [0] (by decide) rfl 0 5 rfl rfl) rfl rfl hl.1 rfl (lv_room (Nat.le_of_ble_eq_true rfl)) dX5_empty_13 ⟨(Nat.zero_le _), (Nat.zero_le _)⟩) hP hD hS hA [0] [1, 2] rfl rfl (by decide) (by decide) (fun r_4 u_6 H locs hr_5 hP hD hS => ?_)
    obtain rfl : r_4 = nI 1 := by rw [hr_5]; rfl
    have hP := hP.sub (ws' := [(a5, .inr (5, [.int (nI 0), .int (nI k), .int now, .ref mD, .ref mI, .ref mZ, .int (nI nl), .ref mK, .ref mO, .ref mB, .ref mR, .ref mF, .int kM, .int oM])), (mD, xI cy 600000 G), (mI, xI cy 100000 It)]) [2, 0, 1] rfl
    have hD := hD.sub (ws' := [(a5, .inr (5, [.int (nI 0), .int (nI k), .int now, .ref mD, .ref mI, .ref mZ, .int (nI nl), .ref mK, .ref mO, .ref mB, .ref mR, .ref mF, .int kM, .int oM])), (mD, xI cy 600000 G), (mI, xI cy 100000 It)]) [2, 0, 1] (by decide) rfl
    refine xb_if_ne (tgt := 21) (a := 1) (by omega) hx hb dX5_empty_16 (by decide) (fun c_7 => ?_) (fun c_7 => ?_)
    · refine lv_aload_n hx hb dX5_empty_21 rfl (lv_at hl 0 rfl) ?_
      refine lv_iload_n hx hb dX5_empty_22 rfl (lv_at hl 1 rfl) ?_
      refine xcRi (va_runV (As := [.int (nI b)]) (rest := []) ⟨hx, hb, hml, hown, hts⟩ (m_count l D cy t0 a5 mD mI mZ mK mO mB mR mF k (nI 0) now kM oM nl b G It Zt lst hb6 hML hCV) (cwV 1 hts gX5_empty_X5_count rfl rfl rfl (by decide +kernel) ⟨Nat.le_of_ble_eq_true rfl, Nat.le_of_ble_eq_true rfl⟩) (xPr.giveV (wc := [(a5, .inr (5, [.int (nI 0), .int (nI k), .int now, .ref mD, .ref mI, .ref mZ, .int (nI nl), .ref mK, .ref mO, .ref mB, .ref mR, .ref mF, .int kM, .int oM])), (mD, xI cy 600000 G), (mI, xI cy 100000 It)]) hE hS hP [0, 1, 2] rfl 0 5 rfl rfl) rfl rfl hl.1 rfl (lv_room (Nat.le_of_ble_eq_true rfl)) dX5_empty_23 ⟨(Nat.zero_le _), (Nat.zero_le _)⟩) (fun r_8 hr_9 => ?_)
      obtain rfl : r_8 = nI (cb (Sm (mb G b)) 100000) := hr_9
      refine lv_istore_n (lv' := [(2, .int (nI (cb (Sm (mb G b)) 100000))), (0, .ref a5), (1, .int (nI b))]) hx hb dX5_empty_26 rfl hl (by decide) rfl (fun ls hl => ?_)
      refine lv_iconst (v := nI 0) hx hb dX5_empty_27 (by decide) ?_
      refine lv_istore_n (lv' := [(3, .int (nI 0)), (2, .int (nI (cb (Sm (mb G b)) 100000))), (0, .ref a5), (1, .int (nI b))]) hx hb dX5_empty_28 rfl hl (by decide) rfl (fun ls hl => ?_)
      have lp : ∀ (n9 : Nat), ∀ (j : Nat) (G2 : Nat → Int32), (hj : j ≤ nl) → (hG : GU G G2 b (emM lst j (mb G b))) → nl - j < n9 → ∀ (H : Heap) (locs : List Loc), xP D [(a5, .inr (5, [.int (nI 0), .int (nI k), .int now, .ref mD, .ref mI, .ref mZ, .int (nI nl), .ref mK, .ref mO, .ref mB, .ref mR, .ref mF, .int kM, .int oM])), (mD, xI cy 600000 G2), (mI, xI cy 100000 It)] H → va_D A [(a5, .inr (5, [.int (nI 0), .int (nI k), .int now, .ref mD, .ref mI, .ref mZ, .int (nI nl), .ref mK, .ref mO, .ref mB, .ref mR, .ref mF, .int kM, .int oM])), (mD, xI cy 600000 G2), (mI, xI cy 100000 It)] → va_S A s.heap H locs → ∀ (ls : Array Slot), lv_has ls 4 [(0, .ref a5), (1, .int (nI b)), (2, .int (nI (cb (Sm (mb G b)) 100000))), (3, .int (nI j))] → W p l e ({ frames := 2, cells := 0, slots := 0, locals := 45 } : Room) s m [.ref a5, .int (nI b)].toArray below meth c H locs 0 0 Q (F0 m 29 ls []) := by
        intro n9
        induction n9 with
        | zero => intro j G2 hj hG hm; exact absurd hm (Nat.not_lt_zero _)
        | succ n9 ih_lp =>
          intro j G2 hj hG hm H locs hP hD hS ls hl
          refine lv_iload_n hx hb dX5_empty_29 rfl (lv_at hl 3 rfl) ?_
          refine lv_aload_n hx hb dX5_empty_30 rfl (lv_at hl 0 rfl) ?_
          refine va_get (D := D) (ci := 5) (v := .int (nI nl)) (C := RX5) (T := TX5) (N := 14) hx hb hts (by decide +kernel) hown hE.1 hP 0 rfl rfl 6 (by decide) (hts (.fieldLink RX5 58 "DistinctDaleModel" "listed" "I") (by decide +kernel)) (fun _ h9 => h9) rfl dX5_empty_31 ?_
          refine xb_icmp_ge (tgt := 60) (a := j) (b := nl) (by omega) (by omega) hx hb dX5_empty_34 (by decide) (fun c_10 => ?_) (fun c_10 => ?_)
          · obtain rfl : j = nl := by omega
            refine lv_iload_n hx hb dX5_empty_60 rfl (lv_at hl 2 rfl) ?_
            exact kret _ G2 _ _ _ _ _ _ dX5_empty_61 ⟨rfl, em_end hG (fun x hx h => hCV b hb6 x hx h)⟩ hP hD hS (Nat.le_of_ble_eq_true rfl) (Nat.le_of_ble_eq_true rfl)
          · have hlj := (hML.1 j (by omega)).1
            refine lv_aload_n hx hb dX5_empty_37 rfl (lv_at hl 0 rfl) ?_
            refine va_get (D := D) (ci := 5) (v := .ref mD) (C := RX5) (T := TX5) (N := 14) hx hb hts (by decide +kernel) hown hE.1 hP 0 rfl rfl 3 (by decide) (hts (.fieldLink RX5 8 "DistinctDaleModel" "dates" "[I") (by decide +kernel)) (fun _ h9 => h9) rfl dX5_empty_38 ?_
            refine lv_ldc (v := nI 100000) hx hb hown (hts (.constant RX5 14 (100000)) (by decide +kernel)) dX5_empty_41 ?_
            refine lv_iload_n hx hb dX5_empty_43 rfl (lv_at hl 1 rfl) ?_
            refine lv_imul hx hb dX5_empty_44 ?_
            refine lv_eqi (z := nI (100000 * b)) (pk_mul _ _) ?_
            refine lv_aload_n hx hb dX5_empty_45 rfl (lv_at hl 0 rfl) ?_
            refine va_get (D := D) (ci := 5) (v := .ref mI) (C := RX5) (T := TX5) (N := 14) hx hb hts (by decide +kernel) hown hE.1 hP 0 rfl rfl 4 (by decide) (hts (.fieldLink RX5 15 "DistinctDaleModel" "items" "[I") (by decide +kernel)) (fun _ h9 => h9) rfl dX5_empty_46 ?_
            refine lv_iload_n hx hb dX5_empty_49 rfl (lv_at hl 3 rfl) ?_
            refine va_iald (D := D) hx hb hE.1 hP 2 0 rfl rfl (vp_in_nI (by omega) (by omega)) dX5_empty_50 ?_
            refine lv_eqi (z := nI (lst j)) (by rw [nI_clamp (by omega)]; exact (hML.1 j (by omega)).2) ?_
            refine lv_iadd hx hb dX5_empty_51 ?_
            refine lv_eqi (z := nI ((100000 * b) + (lst j))) (nI_add _ _) ?_
            refine lv_iconst (v := (-1)) hx hb dX5_empty_52 (by decide) ?_
            refine va_iast (D := D) hx hb hE.1 hP hD hS 1 0 rfl rfl (vp_in_nI (by omega) (by omega)) dX5_empty_53 (fun H locs hP hD hS => ?_)
            rw [nI_clamp (by omega)] at hP hD
            have hP : xP D [(a5, .inr (5, [.int (nI 0), .int (nI k), .int now, .ref mD, .ref mI, .ref mZ, .int (nI nl), .ref mK, .ref mO, .ref mB, .ref mR, .ref mF, .int kM, .int oM])), (mD, xI cy 600000 (upd G2 ((100000 * b) + (lst j)) (-1))), (mI, xI cy 100000 It)] H := hP
            have hD : va_D A [(a5, .inr (5, [.int (nI 0), .int (nI k), .int now, .ref mD, .ref mI, .ref mZ, .int (nI nl), .ref mK, .ref mO, .ref mB, .ref mR, .ref mF, .int kM, .int oM])), (mD, xI cy 600000 (upd G2 ((100000 * b) + (lst j)) (-1))), (mI, xI cy 100000 It)] := hD
            refine lv_iinc (v := nI (j + 1)) (lv' := [(3, .int (nI (j + 1))), (0, .ref a5), (1, .int (nI b)), (2, .int (nI (cb (Sm (mb G b)) 100000)))]) hx hb dX5_empty_54 hl (k := 3) rfl (nI_add _ 1) (by decide) rfl (fun ls hl => ?_)
            refine lv_goto (tgt := 29) hx hb dX5_empty_57 (by decide) ?_
            exact ih_lp (j + 1) (upd G2 (100000 * b + lst j) (-1)) (by omega) (em_step (hML.1 j (by omega)).1 hG) (by omega) _ _ hP hD hS _ (lv_sub hl [1, 2, 3, 0] rfl)
      exact lp (nl + 1) 0 G (Nat.zero_le _) ⟨fun x hx => (mb_lt hx).symm, fun _ _ => rfl⟩ (by omega) _ _ hP hD hS _ (lv_sub hl [2, 3, 1, 0] rfl)
    · exact absurd c_7 (by omega)
set_option maxHeartbeats 4000000 in
set_option maxRecDepth 100000 in
theorem m_merge (l : Launch) (D : va_G) (cy : Nat → ClassId) (t0 : Nat) (a5 mD mI mZ mK mO mB mR mF k : Nat) (th now kM oM : Int32) (nl : Nat) (b b2 : Nat) (G It Zt : Nat → Int32) (lst : Nat → Nat) (hML : ML lst nl It Zt) (hCV : CV G lst nl) (hb6 : b < 6) (hb62 : b2 < 6) (hMV2 : MV (mb G b2)) : xWi (S := Nat → Int32) l yX5_merge wsX5_merge ({ frames := 2, cells := 0, slots := 0, locals := 46 } : Room) D cy t0 ([.ref a5, .int (nI b), .int (nI b2)]) ([(a5, .inr (5, [.int th, .int (nI k), .int now, .ref mD, .ref mI, .ref mZ, .int (nI nl), .ref mK, .ref mO, .ref mB, .ref mR, .ref mF, .int kM, .int oM])), (mD, xI cy 600000 G), (mI, xI cy 100000 It), (mZ, xZ cy 100000 Zt)]) (fun r u => r = nI (nwK (mb G b2) (mb G b)) ∧ GU G u b2 (mrg (mb G b2) (mb G b)) ∧ CV u lst nl) (fun u => [(a5, .inr (5, [.int (nI 0), .int (nI k), .int now, .ref mD, .ref mI, .ref mZ, .int (nI nl), .ref mK, .ref mO, .ref mB, .ref mR, .ref mF, .int kM, .int oM])), (mD, xI cy 600000 u), (mI, xI cy 100000 It), (mZ, xZ cy 100000 Zt)]) 0 0 := by
  refine xofWi (cc := cX5_merge) (maxL := 6) (by decide) rfl (Nat.le_of_ble_eq_true rfl) (fun _ _ _ => rfl) ?_
  intro p e s m below meth c Q A ls hx hb hml hts hown hE hA H locs hP hD hl hS kret
  have hl : lv_has ls 6 [(0, .ref a5), (1, .int (nI b)), (2, .int (nI b2))] := hl
  have hnle := hML.le
  refine lv_aload_n hx hb dX5_merge_0 rfl (lv_at hl 0 rfl) ?_
  refine lv_iload_n hx hb dX5_merge_1 rfl (lv_at hl 1 rfl) ?_
  refine xcRi (va_runS (As := [.int (nI b)]) (rest := [.ref a5]) ⟨hx, hb, hml, hown, hts⟩ (m_isBasket l D cy t0 (nI b)) (va_cwS 1 hts gX5_merge_X5_isBasket rfl rfl rfl (by decide +kernel) ⟨Nat.le_of_ble_eq_true rfl, Nat.le_of_ble_eq_true rfl⟩) (xPr.give (wc := []) hE hS hP [] rfl) rfl rfl hl.1 rfl (lv_room (Nat.le_of_ble_eq_true rfl)) dX5_merge_2 ⟨(Nat.zero_le _), (Nat.zero_le _)⟩) (fun r_1 hr_2 => ?_)
  obtain rfl : r_1 = nI 1 := by rw [hr_2, isBk_lt hb6]; rfl
  refine xb_if_eq (tgt := 19) (a := 1) (by omega) hx hb dX5_merge_5 (by decide) (fun c_3 => ?_) (fun c_3 => ?_)
  · exact absurd c_3 (by omega)
  · refine lv_iload_n hx hb dX5_merge_8 rfl (lv_at hl 2 rfl) ?_
    refine xcRi (va_runS (As := [.int (nI b2)]) (rest := [.ref a5]) ⟨hx, hb, hml, hown, hts⟩ (m_isBasket l D cy t0 (nI b2)) (va_cwS 1 hts gX5_merge_X5_isBasket rfl rfl rfl (by decide +kernel) ⟨Nat.le_of_ble_eq_true rfl, Nat.le_of_ble_eq_true rfl⟩) (xPr.give (wc := []) hE hS hP [] rfl) rfl rfl hl.1 rfl (lv_room (Nat.le_of_ble_eq_true rfl)) dX5_merge_9 ⟨(Nat.zero_le _), (Nat.zero_le _)⟩) (fun r_4 hr_5 => ?_)
    obtain rfl : r_4 = nI 1 := by rw [hr_5, isBk_lt hb62]; rfl
    refine xb_if_eq (tgt := 19) (a := 1) (by omega) hx hb dX5_merge_12 (by decide) (fun c_6 => ?_) (fun c_6 => ?_)
    · exact absurd c_6 (by omega)
    · refine lv_iconst (v := nI 0) hx hb dX5_merge_15 (by decide) ?_
      refine lv_goto (tgt := 20) hx hb dX5_merge_16 (by decide) ?_
      refine xcWi (wr := [(mD, xI cy 600000 G), (mI, xI cy 100000 It), (mZ, xZ cy 100000 Zt)]) (va_runV (As := [.int (nI 0)]) (rest := []) ⟨hx, hb, hml, hown, hts⟩ ((m_goesWell l D cy t0 a5 mD mI mZ mK mO mB mR mF k th now (nI nl) kM oM 0 (by omega)) H.size) (cwV 1 hts gX5_merge_X5_goesWell rfl rfl rfl (by decide +kernel) ⟨Nat.le_of_ble_eq_true rfl, Nat.le_of_ble_eq_true rfl⟩) (xPw.giveV (wc := [(a5, .inr (5, [.int th, .int (nI k), .int now, .ref mD, .ref mI, .ref mZ, .int (nI nl), .ref mK, .ref mO, .ref mB, .ref mR, .ref mF, .int kM, .int oM]))]) hE hS hA hP hD [0] (by decide) rfl 0 5 rfl rfl) rfl rfl hl.1 rfl (lv_room (Nat.le_of_ble_eq_true rfl)) dX5_merge_20 ⟨(Nat.zero_le _), (Nat.zero_le _)⟩) hP hD hS hA [0] [1, 2, 3] rfl rfl (by decide) (by decide) (fun r_7 u_9 H locs hr_8 hP hD hS => ?_)
      obtain rfl : r_7 = nI 1 := by rw [hr_8]; rfl
      have hP := hP.sub (ws' := [(a5, .inr (5, [.int (nI 0), .int (nI k), .int now, .ref mD, .ref mI, .ref mZ, .int (nI nl), .ref mK, .ref mO, .ref mB, .ref mR, .ref mF, .int kM, .int oM])), (mD, xI cy 600000 G), (mI, xI cy 100000 It), (mZ, xZ cy 100000 Zt)]) [3, 0, 1, 2] rfl
      have hD := hD.sub (ws' := [(a5, .inr (5, [.int (nI 0), .int (nI k), .int now, .ref mD, .ref mI, .ref mZ, .int (nI nl), .ref mK, .ref mO, .ref mB, .ref mR, .ref mF, .int kM, .int oM])), (mD, xI cy 600000 G), (mI, xI cy 100000 It), (mZ, xZ cy 100000 Zt)]) [3, 0, 1, 2] (by decide) rfl
      refine xb_if_ne (tgt := 28) (a := 1) (by omega) hx hb dX5_merge_23 (by decide) (fun c_10 => ?_) (fun c_10 => ?_)
      · refine lv_iconst (v := nI 0) hx hb dX5_merge_28 (by decide) ?_
        refine lv_eqi (z := nI (nwK (mb G b2) (rsM lst 0 (mb G b)))) (congrArg nI rs_nw0.symm) ?_
        refine lv_istore_n (lv' := [(3, .int (nI (nwK (mb G b2) (rsM lst 0 (mb G b))))), (0, .ref a5), (1, .int (nI b)), (2, .int (nI b2))]) hx hb dX5_merge_29 rfl hl (by decide) rfl (fun ls hl => ?_)
        refine lv_iconst (v := nI 0) hx hb dX5_merge_30 (by decide) ?_
        refine lv_istore (lv' := [(4, .int (nI 0)), (3, .int (nI (nwK (mb G b2) (rsM lst 0 (mb G b))))), (0, .ref a5), (1, .int (nI b)), (2, .int (nI b2))]) hx hb dX5_merge_31 hl (by decide) rfl (fun ls hl => ?_)
        have lp : ∀ (n9 : Nat), ∀ (j : Nat) (G2 : Nat → Int32), (hj : j ≤ nl) → (hG : GU G G2 b2 (mrg (mb G b2) (rsM lst j (mb G b)))) → (hCV2 : CV G2 lst nl) → nl - j < n9 → ∀ (H : Heap) (locs : List Loc), xP D [(a5, .inr (5, [.int (nI 0), .int (nI k), .int now, .ref mD, .ref mI, .ref mZ, .int (nI nl), .ref mK, .ref mO, .ref mB, .ref mR, .ref mF, .int kM, .int oM])), (mD, xI cy 600000 G2), (mI, xI cy 100000 It), (mZ, xZ cy 100000 Zt)] H → va_D A [(a5, .inr (5, [.int (nI 0), .int (nI k), .int now, .ref mD, .ref mI, .ref mZ, .int (nI nl), .ref mK, .ref mO, .ref mB, .ref mR, .ref mF, .int kM, .int oM])), (mD, xI cy 600000 G2), (mI, xI cy 100000 It), (mZ, xZ cy 100000 Zt)] → va_S A s.heap H locs → ∀ (ls : Array Slot), lv_has ls 6 [(0, .ref a5), (1, .int (nI b)), (2, .int (nI b2)), (3, .int (nI (nwK (mb G b2) (rsM lst j (mb G b))))), (4, .int (nI j))] → W p l e ({ frames := 2, cells := 0, slots := 0, locals := 46 } : Room) s m [.ref a5, .int (nI b), .int (nI b2)].toArray below meth c H locs 0 0 Q (F0 m 33 ls []) := by
          intro n9
          induction n9 with
          | zero => intro j G2 hj hG hCV2 hm; exact absurd hm (Nat.not_lt_zero _)
          | succ n9 ih_lp =>
            intro j G2 hj hG hCV2 hm H locs hP hD hS ls hl
            refine lv_iload hx hb dX5_merge_33 (lv_at hl 4 rfl) ?_
            refine lv_aload_n hx hb dX5_merge_35 rfl (lv_at hl 0 rfl) ?_
            refine va_get (D := D) (ci := 5) (v := .int (nI nl)) (C := RX5) (T := TX5) (N := 14) hx hb hts (by decide +kernel) hown hE.1 hP 0 rfl rfl 6 (by decide) (hts (.fieldLink RX5 58 "DistinctDaleModel" "listed" "I") (by decide +kernel)) (fun _ h9 => h9) rfl dX5_merge_36 ?_
            refine xb_icmp_ge (tgt := 107) (a := j) (b := nl) (by omega) (by omega) hx hb dX5_merge_39 (by decide) (fun c_11 => ?_) (fun c_11 => ?_)
            · obtain rfl : j = nl := by omega
              refine lv_iload_n hx hb dX5_merge_107 rfl (lv_at hl 3 rfl) ?_
              exact kret _ G2 _ _ _ _ _ _ dX5_merge_108 ⟨by rw [rs_end (fun x hx h => hCV b hb6 x hx h)], by rw [← rs_end (fun x hx h => hCV b hb6 x hx h)]; exact hG, hCV2⟩ hP hD hS (Nat.le_of_ble_eq_true rfl) (Nat.le_of_ble_eq_true rfl)
            · have hlj := (hML.1 j (by omega)).1
              have hdj : memb lst j (lst j) = false := ML_dj hML (by omega)
              have hG1 : mb G2 b = mb G b := rs_same hG hMV2
              have hG2 : mb G2 b2 = mrg (mb G b2) (rsM lst j (mb G b)) := hG.self (fun x hx => rs_hi hx)
              have hSx : (!Sm (mb G2 b2) (lst j)) = (!Sm (mb G b2) (lst j)) := by rw [hG2, rs_Sm hMV2 hdj]
              refine lv_aload_n hx hb dX5_merge_42 rfl (lv_at hl 0 rfl) ?_
              refine lv_iload_n hx hb dX5_merge_43 rfl (lv_at hl 1 rfl) ?_
              refine lv_aload_n hx hb dX5_merge_44 rfl (lv_at hl 0 rfl) ?_
              refine va_get (D := D) (ci := 5) (v := .ref mI) (C := RX5) (T := TX5) (N := 14) hx hb hts (by decide +kernel) hown hE.1 hP 0 rfl rfl 4 (by decide) (hts (.fieldLink RX5 15 "DistinctDaleModel" "items" "[I") (by decide +kernel)) (fun _ h9 => h9) rfl dX5_merge_45 ?_
              refine lv_iload hx hb dX5_merge_48 (lv_at hl 4 rfl) ?_
              refine va_iald (D := D) hx hb hE.1 hP 2 0 rfl rfl (vp_in_nI (by omega) (by omega)) dX5_merge_50 ?_
              refine lv_eqi (z := nI (lst j)) (by rw [nI_clamp (by omega)]; exact (hML.1 j (by omega)).2) ?_
              refine xcRi (va_runV (As := [.int (nI b), .int (nI (lst j))]) (rest := []) ⟨hx, hb, hml, hown, hts⟩ (m_has l D cy t0 a5 mD mI mZ mK mO mB mR mF k (nI 0) now (nI nl) kM oM b (lst j) G2 hb6 hlj) (cwV 2 hts gX5_merge_X5_has rfl rfl rfl (by decide +kernel) ⟨Nat.le_of_ble_eq_true rfl, Nat.le_of_ble_eq_true rfl⟩) (xPr.giveV (wc := [(a5, .inr (5, [.int (nI 0), .int (nI k), .int now, .ref mD, .ref mI, .ref mZ, .int (nI nl), .ref mK, .ref mO, .ref mB, .ref mR, .ref mF, .int kM, .int oM])), (mD, xI cy 600000 G2)]) hE hS hP [0, 1] rfl 0 5 rfl rfl) rfl rfl hl.1 rfl (lv_room (Nat.le_of_ble_eq_true rfl)) dX5_merge_51 ⟨(Nat.zero_le _), (Nat.zero_le _)⟩) (fun r_12 hr_13 => ?_)
              refine lv_eqi (z := xb (Sm (mb G b) (lst j))) (by rw [hr_13, hG1]) ?_
              refine lv_istore (lv' := [(5, .int (xb (Sm (mb G b) (lst j)))), (0, .ref a5), (1, .int (nI b)), (2, .int (nI b2)), (3, .int (nI (nwK (mb G b2) (rsM lst j (mb G b))))), (4, .int (nI j))]) hx hb dX5_merge_54 hl (by decide) rfl (fun ls hl => ?_)
              refine lv_iload_n hx hb dX5_merge_56 rfl (lv_at hl 4 rfl) ?_
              refine lv_iload hx hb dX5_merge_57 (lv_at hl 0 rfl) ?_
              refine xb_beq (tgt := 98) hx hb dX5_merge_59 (by decide) (fun c_14 => ?_) (fun c_14 => ?_)
              · have hSf : Sm (mb G b) (lst j) = false := c_14
                refine lv_iconst (v := nI 0) hx hb dX5_merge_98 (by decide) ?_
                refine lv_iadd hx hb dX5_merge_99 ?_
                refine lv_eqi (z := nI (nwK (mb G b2) (rsM lst j (mb G b)) + 0)) (nI_add _ _) ?_
                refine lv_istore_n (lv' := [(3, .int (nI (nwK (mb G b2) (rsM lst j (mb G b)) + 0))), (5, .int (xb (Sm (mb G b) (lst j)))), (0, .ref a5), (1, .int (nI b)), (2, .int (nI b2)), (4, .int (nI j))]) hx hb dX5_merge_100 rfl hl (by decide) rfl (fun ls hl => ?_)
                refine lv_iinc (v := nI (j + 1)) (lv' := [(4, .int (nI (j + 1))), (3, .int (nI (nwK (mb G b2) (rsM lst j (mb G b)) + 0))), (5, .int (xb (Sm (mb G b) (lst j)))), (0, .ref a5), (1, .int (nI b)), (2, .int (nI b2))]) hx hb dX5_merge_101 hl (k := 5) rfl (nI_add _ 1) (by decide) rfl (fun ls hl => ?_)
                refine lv_goto (tgt := 33) hx hb dX5_merge_104 (by decide) ?_
                have e2 : nwK (mb G b2) (rsM lst j (mb G b)) + 0 = nwK (mb G b2) (rsM lst (j + 1) (mb G b)) := by rw [rs_skip hSf, Nat.add_zero]
                rw [e2] at hl
                exact ih_lp (j + 1) G2 (by omega) (by rw [rs_skip hSf]; exact hG) hCV2 (by omega) _ _ hP hD hS _ (lv_sub hl [3, 4, 5, 1, 0] rfl)
              · have hSt : Sm (mb G b) (lst j) = true := c_14
                refine lv_aload_n hx hb dX5_merge_62 rfl (lv_at hl 1 rfl) ?_
                refine lv_iload_n hx hb dX5_merge_63 rfl (lv_at hl 3 rfl) ?_
                refine lv_aload_n hx hb dX5_merge_64 rfl (lv_at hl 1 rfl) ?_
                refine va_get (D := D) (ci := 5) (v := .ref mI) (C := RX5) (T := TX5) (N := 14) hx hb hts (by decide +kernel) hown hE.1 hP 0 rfl rfl 4 (by decide) (hts (.fieldLink RX5 15 "DistinctDaleModel" "items" "[I") (by decide +kernel)) (fun _ h9 => h9) rfl dX5_merge_65 ?_
                refine lv_iload hx hb dX5_merge_68 (lv_at hl 5 rfl) ?_
                refine va_iald (D := D) hx hb hE.1 hP 2 0 rfl rfl (vp_in_nI (by omega) (by omega)) dX5_merge_70 ?_
                refine lv_eqi (z := nI (lst j)) (by rw [nI_clamp (by omega)]; exact (hML.1 j (by omega)).2) ?_
                refine lv_aload_n hx hb dX5_merge_71 rfl (lv_at hl 1 rfl) ?_
                refine va_get (D := D) (ci := 5) (v := .ref mD) (C := RX5) (T := TX5) (N := 14) hx hb hts (by decide +kernel) hown hE.1 hP 0 rfl rfl 3 (by decide) (hts (.fieldLink RX5 8 "DistinctDaleModel" "dates" "[I") (by decide +kernel)) (fun _ h9 => h9) rfl dX5_merge_72 ?_
                refine lv_ldc (v := nI 100000) hx hb hown (hts (.constant RX5 14 (100000)) (by decide +kernel)) dX5_merge_75 ?_
                refine lv_iload_n hx hb dX5_merge_77 rfl (lv_at hl 2 rfl) ?_
                refine lv_imul hx hb dX5_merge_78 ?_
                refine lv_eqi (z := nI (100000 * b)) (pk_mul _ _) ?_
                refine lv_aload_n hx hb dX5_merge_79 rfl (lv_at hl 1 rfl) ?_
                refine va_get (D := D) (ci := 5) (v := .ref mI) (C := RX5) (T := TX5) (N := 14) hx hb hts (by decide +kernel) hown hE.1 hP 0 rfl rfl 4 (by decide) (hts (.fieldLink RX5 15 "DistinctDaleModel" "items" "[I") (by decide +kernel)) (fun _ h9 => h9) rfl dX5_merge_80 ?_
                refine lv_iload hx hb dX5_merge_83 (lv_at hl 5 rfl) ?_
                refine va_iald (D := D) hx hb hE.1 hP 2 0 rfl rfl (vp_in_nI (by omega) (by omega)) dX5_merge_85 ?_
                refine lv_eqi (z := nI (lst j)) (by rw [nI_clamp (by omega)]; exact (hML.1 j (by omega)).2) ?_
                refine lv_iadd hx hb dX5_merge_86 ?_
                refine lv_eqi (z := nI ((100000 * b) + (lst j))) (nI_add _ _) ?_
                refine va_iald (D := D) hx hb hE.1 hP 1 0 rfl rfl (vp_in_nI (by omega) (by omega)) dX5_merge_87 ?_
                refine lv_eqi (z := mb G b (lst j)) (by rw [nI_clamp (by omega), ← hG1, mb_lt hlj]) ?_
                refine xcWi (wr := []) (va_runV (As := [.int (nI b2), .int (nI (lst j)), .int (mb G b (lst j))]) (rest := [.int (nI (nwK (mb G b2) (rsM lst j (mb G b))))]) ⟨hx, hb, hml, hown, hts⟩ ((m_put l D cy t0 a5 mD mI mZ mK mO mB mR mF k (nI 0) now kM oM nl b2 (lst j) (mb G b (lst j)) G2 It Zt lst hb62 hlj hML) H.size) (cwV 3 hts gX5_merge_X5_put rfl rfl rfl (by decide +kernel) ⟨Nat.le_of_ble_eq_true rfl, Nat.le_of_ble_eq_true rfl⟩) (xPw.giveV (wc := [(a5, .inr (5, [.int (nI 0), .int (nI k), .int now, .ref mD, .ref mI, .ref mZ, .int (nI nl), .ref mK, .ref mO, .ref mB, .ref mR, .ref mF, .int kM, .int oM])), (mD, xI cy 600000 G2), (mI, xI cy 100000 It), (mZ, xZ cy 100000 Zt)]) hE hS hA hP hD [0, 1, 2, 3] (by decide) rfl 0 5 rfl rfl) rfl rfl hl.1 rfl (lv_room (Nat.le_of_ble_eq_true rfl)) dX5_merge_88 ⟨(Nat.zero_le _), (Nat.zero_le _)⟩) hP hD hS hA [0, 1, 2, 3] [] rfl rfl (by decide) (by decide) (fun r_15 u_17 H locs hr_16 hP hD hS => ?_)
                obtain ⟨G3, It3, Zt3, lst3, nl3⟩ := u_17
                refine lv_eqi (z := xb (!Sm (mb G2 b2) (lst j))) hr_16.1 ?_
                have hq1 : GU G2 G3 b2 (upM (mb G2 b2) (lst j) (mb G b (lst j))) := hr_16.2.1
                have hq2 : ML lst3 nl3 It3 Zt3 := hr_16.2.2.1
                have hq3 : ∀ y, memb lst nl y = true → memb lst3 nl3 y = true := hr_16.2.2.2.1
                have hq4 : memb lst3 nl3 (lst j) = true := hr_16.2.2.2.2.1
                obtain ⟨e1, e2, e3, e4⟩ := (show lst3 = lst ∧ nl3 = nl ∧ It3 = It ∧ Zt3 = Zt from hr_16.2.2.2.2.2 (memb_iff.mpr ⟨j, by omega, rfl⟩))
                rw [e2, e3, e4] at hP hD
                rw [e1, e2] at hq3 hq4
                have hP := hP.sub (ws' := [(a5, .inr (5, [.int (nI 0), .int (nI k), .int now, .ref mD, .ref mI, .ref mZ, .int (nI nl), .ref mK, .ref mO, .ref mB, .ref mR, .ref mF, .int kM, .int oM])), (mD, xI cy 600000 G3), (mI, xI cy 100000 It), (mZ, xZ cy 100000 Zt)]) [0, 1, 2, 3] rfl
                have hD := hD.sub (ws' := [(a5, .inr (5, [.int (nI 0), .int (nI k), .int now, .ref mD, .ref mI, .ref mZ, .int (nI nl), .ref mK, .ref mO, .ref mB, .ref mR, .ref mF, .int kM, .int oM])), (mD, xI cy 600000 G3), (mI, xI cy 100000 It), (mZ, xZ cy 100000 Zt)]) [0, 1, 2, 3] (by decide) rfl
                refine xb_beq (tgt := 98) hx hb dX5_merge_91 (by decide) (fun c_18 => ?_) (fun c_18 => ?_)
                · refine lv_iconst (v := nI 0) hx hb dX5_merge_98 (by decide) ?_
                  refine lv_iadd hx hb dX5_merge_99 ?_
                  refine lv_eqi (z := nI (nwK (mb G b2) (rsM lst j (mb G b)) + 0)) (nI_add _ _) ?_
                  refine lv_istore_n (lv' := [(3, .int (nI (nwK (mb G b2) (rsM lst j (mb G b)) + 0))), (5, .int (xb (Sm (mb G b) (lst j)))), (0, .ref a5), (1, .int (nI b)), (2, .int (nI b2)), (4, .int (nI j))]) hx hb dX5_merge_100 rfl hl (by decide) rfl (fun ls hl => ?_)
                  refine lv_iinc (v := nI (j + 1)) (lv' := [(4, .int (nI (j + 1))), (3, .int (nI (nwK (mb G b2) (rsM lst j (mb G b)) + 0))), (5, .int (xb (Sm (mb G b) (lst j)))), (0, .ref a5), (1, .int (nI b)), (2, .int (nI b2))]) hx hb dX5_merge_101 hl (k := 5) rfl (nI_add _ 1) (by decide) rfl (fun ls hl => ?_)
                  refine lv_goto (tgt := 33) hx hb dX5_merge_104 (by decide) ?_
                  have e2 : nwK (mb G b2) (rsM lst j (mb G b)) + 0 = nwK (mb G b2) (rsM lst (j + 1) (mb G b)) := by rw [rs_nw hSt hdj hlj, ← hSx, (show (!Sm (mb G2 b2) (lst j)) = false from c_18)]; rfl
                  rw [e2] at hl
                  exact ih_lp (j + 1) G3 (by omega) (by rw [← rs_step hSt hdj hMV2]; rw [hG2] at hq1; exact hG.trans hq1) (CV_up hCV2 hq1 hq3 hq4) (by omega) _ _ hP hD hS _ (lv_sub hl [3, 4, 5, 1, 0] rfl)
                · refine lv_iconst (v := nI 1) hx hb dX5_merge_94 (by decide) ?_
                  refine lv_goto (tgt := 99) hx hb dX5_merge_95 (by decide) ?_
                  refine lv_iadd hx hb dX5_merge_99 ?_
                  refine lv_eqi (z := nI (nwK (mb G b2) (rsM lst j (mb G b)) + 1)) (nI_add _ _) ?_
                  refine lv_istore_n (lv' := [(3, .int (nI (nwK (mb G b2) (rsM lst j (mb G b)) + 1))), (5, .int (xb (Sm (mb G b) (lst j)))), (0, .ref a5), (1, .int (nI b)), (2, .int (nI b2)), (4, .int (nI j))]) hx hb dX5_merge_100 rfl hl (by decide) rfl (fun ls hl => ?_)
                  refine lv_iinc (v := nI (j + 1)) (lv' := [(4, .int (nI (j + 1))), (3, .int (nI (nwK (mb G b2) (rsM lst j (mb G b)) + 1))), (5, .int (xb (Sm (mb G b) (lst j)))), (0, .ref a5), (1, .int (nI b)), (2, .int (nI b2))]) hx hb dX5_merge_101 hl (k := 5) rfl (nI_add _ 1) (by decide) rfl (fun ls hl => ?_)
                  refine lv_goto (tgt := 33) hx hb dX5_merge_104 (by decide) ?_
                  have e2 : nwK (mb G b2) (rsM lst j (mb G b)) + 1 = nwK (mb G b2) (rsM lst (j + 1) (mb G b)) := by rw [rs_nw hSt hdj hlj, ← hSx, (show (!Sm (mb G2 b2) (lst j)) = true from c_18)]; rfl
                  rw [e2] at hl
                  exact ih_lp (j + 1) G3 (by omega) (by rw [← rs_step hSt hdj hMV2]; rw [hG2] at hq1; exact hG.trans hq1) (CV_up hCV2 hq1 hq3 hq4) (by omega) _ _ hP hD hS _ (lv_sub hl [3, 4, 5, 1, 0] rfl)
        exact lp (nl + 1) 0 G (Nat.zero_le _) (by rw [rs0 hMV2]; exact ⟨fun x hx => (mb_lt hx).symm, fun _ _ => rfl⟩) hCV (by omega) _ _ hP hD hS _ (lv_sub hl [2, 3, 4, 1, 0] rfl)
      · exact absurd c_10 (by omega)
set_option maxHeartbeats 4000000 in
set_option maxRecDepth 100000 in
theorem m_pass (l : Launch) (D : va_G) (cy : Nat → ClassId) (t0 : Nat) (a5 mD mI mZ mK mO mB mR mF k nw tk : Nat) (th nl5 kM oM : Int32) (htk1 : 1 ≤ tk) (htk2 : tk ≤ 1000) : xWi (S := Unit) l yX5_pass wsX5_pass ({ frames := 1, cells := 0, slots := 0, locals := 21 } : Room) D cy t0 ([.ref a5, .int (nI tk)]) ([(a5, .inr (5, [.int th, .int (nI k), .int (nI nw), .ref mD, .ref mI, .ref mZ, .int nl5, .ref mK, .ref mO, .ref mB, .ref mR, .ref mF, .int kM, .int oM]))]) (fun r _ => r = nI (nw + tk)) (fun _ => [(a5, .inr (5, [.int (nI 0), .int (nI k), .int (nI (nw + tk)), .ref mD, .ref mI, .ref mZ, .int nl5, .ref mK, .ref mO, .ref mB, .ref mR, .ref mF, .int kM, .int oM]))]) 0 0 := by
  refine xofWi (cc := cX5_pass) (maxL := 2) (by decide) rfl (Nat.le_of_ble_eq_true rfl) (fun _ _ _ => rfl) ?_
  intro p e s m below meth c Q A ls hx hb hml hts hown hE hA H locs hP hD hl hS kret
  have hl : lv_has ls 2 [(0, .ref a5), (1, .int (nI tk))] := hl
  refine lv_aload_n hx hb dX5_pass_0 rfl (lv_at hl 0 rfl) ?_
  refine lv_iload_n hx hb dX5_pass_1 rfl (lv_at hl 1 rfl) ?_
  refine lv_iconst (v := nI 1) hx hb dX5_pass_2 (by decide) ?_
  refine xb_icmp_lt (tgt := 17) (a := tk) (b := 1) (by omega) (by omega) hx hb dX5_pass_3 (by decide) (fun c_1 => ?_) (fun c_1 => ?_)
  · exact absurd c_1 (by omega)
  · refine lv_iload_n hx hb dX5_pass_6 rfl (lv_at hl 1 rfl) ?_
    refine lv_sipush (v := nI 1000) hx hb dX5_pass_7 (by decide) ?_
    refine xb_icmp_gt (tgt := 17) (a := tk) (b := 1000) (by omega) (by omega) hx hb dX5_pass_10 (by decide) (fun c_2 => ?_) (fun c_2 => ?_)
    · exact absurd c_2 (by omega)
    · refine lv_iconst (v := nI 0) hx hb dX5_pass_13 (by decide) ?_
      refine lv_goto (tgt := 18) hx hb dX5_pass_14 (by decide) ?_
      refine xcWi (wr := []) (va_runV (As := [.int (nI 0)]) (rest := []) ⟨hx, hb, hml, hown, hts⟩ ((m_goesWell l D cy t0 a5 mD mI mZ mK mO mB mR mF k th (nI nw) nl5 kM oM 0 (by omega)) H.size) (cwV 1 hts gX5_pass_X5_goesWell rfl rfl rfl (by decide +kernel) ⟨Nat.le_of_ble_eq_true rfl, Nat.le_of_ble_eq_true rfl⟩) (xPw.giveV (wc := [(a5, .inr (5, [.int th, .int (nI k), .int (nI nw), .ref mD, .ref mI, .ref mZ, .int nl5, .ref mK, .ref mO, .ref mB, .ref mR, .ref mF, .int kM, .int oM]))]) hE hS hA hP hD [0] (by decide) rfl 0 5 rfl rfl) rfl rfl hl.1 rfl (lv_room (Nat.le_of_ble_eq_true rfl)) dX5_pass_18 ⟨(Nat.zero_le _), (Nat.zero_le _)⟩) hP hD hS hA [0] [] rfl rfl (by decide) (by decide) (fun r_3 u_5 H locs hr_4 hP hD hS => ?_)
      obtain rfl : r_3 = nI 1 := by rw [hr_4]; rfl
      have hP := hP.sub (ws' := [(a5, .inr (5, [.int (nI 0), .int (nI k), .int (nI nw), .ref mD, .ref mI, .ref mZ, .int nl5, .ref mK, .ref mO, .ref mB, .ref mR, .ref mF, .int kM, .int oM]))]) [0] rfl
      have hD := hD.sub (ws' := [(a5, .inr (5, [.int (nI 0), .int (nI k), .int (nI nw), .ref mD, .ref mI, .ref mZ, .int nl5, .ref mK, .ref mO, .ref mB, .ref mR, .ref mF, .int kM, .int oM]))]) [0] (by decide) rfl
      refine xb_if_ne (tgt := 26) (a := 1) (by omega) hx hb dX5_pass_21 (by decide) (fun c_6 => ?_) (fun c_6 => ?_)
      · refine lv_aload_n hx hb dX5_pass_26 rfl (lv_at hl 0 rfl) ?_
        refine lv_dup hx hb dX5_pass_27 rfl ?_
        refine va_get (D := D) (ci := 5) (v := .int (nI nw)) (C := RX5) (T := TX5) (N := 14) hx hb hts (by decide +kernel) hown hE.1 hP 0 rfl rfl 2 (by decide) (hts (.fieldLink RX5 71 "DistinctDaleModel" "now" "I") (by decide +kernel)) (fun _ h9 => h9) rfl dX5_pass_28 ?_
        refine lv_iload_n hx hb dX5_pass_31 rfl (lv_at hl 1 rfl) ?_
        refine lv_iadd hx hb dX5_pass_32 ?_
        refine lv_eqi (z := nI (nw + tk)) (nI_add _ _) ?_
        refine va_put (D := D) (ci := 5) (v := .int (nI (nw + tk))) (ty := .int) (C := RX5) (T := TX5) (N := 14) hx hb hts (by decide +kernel) tyX5 tyX5_ok nmX5 hown hE.1 hP hD hS 0 rfl rfl 2 (by decide) (hts (.fieldLink RX5 71 "DistinctDaleModel" "now" "I") (by decide +kernel)) (fun _ h9 => h9) rfl (by decide +kernel) rfl rfl (Nat.le_of_ble_eq_true rfl) dX5_pass_33 (fun H locs hP hD hS => ?_)
        have hP : xP D [(a5, .inr (5, [.int (nI 0), .int (nI k), .int (nI (nw + tk)), .ref mD, .ref mI, .ref mZ, .int nl5, .ref mK, .ref mO, .ref mB, .ref mR, .ref mF, .int kM, .int oM]))] H := hP
        have hD : va_D A [(a5, .inr (5, [.int (nI 0), .int (nI k), .int (nI (nw + tk)), .ref mD, .ref mI, .ref mZ, .int nl5, .ref mK, .ref mO, .ref mB, .ref mR, .ref mF, .int kM, .int oM]))] := hD
        refine lv_aload_n hx hb dX5_pass_36 rfl (lv_at hl 0 rfl) ?_
        refine va_get (D := D) (ci := 5) (v := .int (nI (nw + tk))) (C := RX5) (T := TX5) (N := 14) hx hb hts (by decide +kernel) hown hE.1 hP 0 rfl rfl 2 (by decide) (hts (.fieldLink RX5 71 "DistinctDaleModel" "now" "I") (by decide +kernel)) (fun _ h9 => h9) rfl dX5_pass_37 ?_
        exact kret _ () _ _ _ _ _ _ dX5_pass_40 rfl hP hD hS (Nat.le_of_ble_eq_true rfl) (Nat.le_of_ble_eq_true rfl)
      · exact absurd c_6 (by omega)
end XX5G
