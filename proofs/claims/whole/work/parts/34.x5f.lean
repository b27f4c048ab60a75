section XX5F
theorem Tm_lo {M : Nat → Int32} (h : MV M) {d : Int32} (hd : d < -1) (x : Nat) : Tm M (-1) x = Tm M d x := by
  rw [Tm_all h x]
  unfold Tm
  cases hs : Sm M x with
  | false => rfl
  | true =>
    have h1 := (h x).resolve_left (Sm_t.mp hs)
    rw [decide_eq_true (Int32.lt_trans hd (neg1lt h1))]; rfl
set_option maxHeartbeats 4000000 in
set_option maxRecDepth 100000 in
theorem m_clock (l : Launch) (D : va_G) (cy : Nat → ClassId) (t0 : Nat) (a5 mD mI mZ mK mO mB mR mF k : Nat) (th now nl5 kM oM : Int32) : xWi (S := Unit) l yX5_clock wsX5_clock ({ frames := 0, cells := 0, slots := 0, locals := 0 } : Room) D cy t0 ([.ref a5]) ([(a5, .inr (5, [.int th, .int (nI k), .int now, .ref mD, .ref mI, .ref mZ, .int nl5, .ref mK, .ref mO, .ref mB, .ref mR, .ref mF, .int kM, .int oM]))]) (fun r _ => r = now) (fun _ => [(a5, .inr (5, [.int (nI 0), .int (nI k), .int now, .ref mD, .ref mI, .ref mZ, .int nl5, .ref mK, .ref mO, .ref mB, .ref mR, .ref mF, .int kM, .int oM]))]) 0 0 := by
  refine xofWi (cc := cX5_clock) (maxL := 1) (by decide) rfl (Nat.le_of_ble_eq_true rfl) (fun _ _ _ => rfl) ?_
  intro p e s m below meth c Q A ls hx hb hml hts hown hE hA H locs hP hD hl hS kret
  have hl : lv_has ls 1 [(0, .ref a5)] := hl
  refine lv_aload_n hx hb dX5_clock_0 rfl (lv_at hl 0 rfl) ?_
  refine lv_iconst (v := nI 0) hx hb dX5_clock_1 (by decide) ?_
  refine va_put (D := D) (ci := 5) (v := .int (nI 0)) (ty := .int) (C := RX5) (T := TX5) (N := 14) hx hb hts (by decide +kernel) tyX5 tyX5_ok nmX5 hown hE.1 hP hD hS 0 rfl rfl 0 (by decide) (hts (.fieldLink RX5 43 "DistinctDaleModel" "thrown" "I") (by decide +kernel)) (fun _ h9 => h9) rfl (by decide +kernel) rfl rfl (Nat.le_of_ble_eq_true rfl) dX5_clock_2 (fun H locs hP hD hS => ?_)
  have hP : xP D [(a5, .inr (5, [.int (nI 0), .int (nI k), .int now, .ref mD, .ref mI, .ref mZ, .int nl5, .ref mK, .ref mO, .ref mB, .ref mR, .ref mF, .int kM, .int oM]))] H := hP
  have hD : va_D A [(a5, .inr (5, [.int (nI 0), .int (nI k), .int now, .ref mD, .ref mI, .ref mZ, .int nl5, .ref mK, .ref mO, .ref mB, .ref mR, .ref mF, .int kM, .int oM]))] := hD
  refine lv_aload_n hx hb dX5_clock_5 rfl (lv_at hl 0 rfl) ?_
  refine va_get (D := D) (ci := 5) (v := .int now) (C := RX5) (T := TX5) (N := 14) hx hb hts (by decide +kernel) hown hE.1 hP 0 rfl rfl 2 (by decide) (hts (.fieldLink RX5 71 "DistinctDaleModel" "now" "I") (by decide +kernel)) (fun _ h9 => h9) rfl dX5_clock_6 ?_
  exact kret _ () _ _ _ _ _ _ dX5_clock_9 rfl hP hD hS (Nat.le_of_ble_eq_true rfl) (Nat.le_of_ble_eq_true rfl)
set_option maxHeartbeats 4000000 in
set_option maxRecDepth 100000 in
theorem m_most (l : Launch) (D : va_G) (cy : Nat → ClassId) (t0 : Nat) (a5 mD mI mZ mK mO mB mR mF k : Nat) (th now nl5 kM oM : Int32) : xWi (S := Unit) l yX5_most wsX5_most ({ frames := 0, cells := 0, slots := 0, locals := 0 } : Room) D cy t0 ([.ref a5]) ([(a5, .inr (5, [.int th, .int (nI k), .int now, .ref mD, .ref mI, .ref mZ, .int nl5, .ref mK, .ref mO, .ref mB, .ref mR, .ref mF, .int kM, .int oM]))]) (fun r _ => r = nI k) (fun _ => [(a5, .inr (5, [.int (nI 0), .int (nI k), .int now, .ref mD, .ref mI, .ref mZ, .int nl5, .ref mK, .ref mO, .ref mB, .ref mR, .ref mF, .int kM, .int oM]))]) 0 0 := by
  refine xofWi (cc := cX5_most) (maxL := 1) (by decide) rfl (Nat.le_of_ble_eq_true rfl) (fun _ _ _ => rfl) ?_
  intro p e s m below meth c Q A ls hx hb hml hts hown hE hA H locs hP hD hl hS kret
  have hl : lv_has ls 1 [(0, .ref a5)] := hl
  refine lv_aload_n hx hb dX5_most_0 rfl (lv_at hl 0 rfl) ?_
  refine lv_iconst (v := nI 0) hx hb dX5_most_1 (by decide) ?_
  refine va_put (D := D) (ci := 5) (v := .int (nI 0)) (ty := .int) (C := RX5) (T := TX5) (N := 14) hx hb hts (by decide +kernel) tyX5 tyX5_ok nmX5 hown hE.1 hP hD hS 0 rfl rfl 0 (by decide) (hts (.fieldLink RX5 43 "DistinctDaleModel" "thrown" "I") (by decide +kernel)) (fun _ h9 => h9) rfl (by decide +kernel) rfl rfl (Nat.le_of_ble_eq_true rfl) dX5_most_2 (fun H locs hP hD hS => ?_)
  have hP : xP D [(a5, .inr (5, [.int (nI 0), .int (nI k), .int now, .ref mD, .ref mI, .ref mZ, .int nl5, .ref mK, .ref mO, .ref mB, .ref mR, .ref mF, .int kM, .int oM]))] H := hP
  have hD : va_D A [(a5, .inr (5, [.int (nI 0), .int (nI k), .int now, .ref mD, .ref mI, .ref mZ, .int nl5, .ref mK, .ref mO, .ref mB, .ref mR, .ref mF, .int kM, .int oM]))] := hD
  refine lv_aload_n hx hb dX5_most_5 rfl (lv_at hl 0 rfl) ?_
  refine va_get (D := D) (ci := 5) (v := .int (nI k)) (C := RX5) (T := TX5) (N := 14) hx hb hts (by decide +kernel) hown hE.1 hP 0 rfl rfl 1 (by decide) (hts (.fieldLink RX5 39 "DistinctDaleModel" "k" "I") (by decide +kernel)) (fun _ h9 => h9) rfl dX5_most_6 ?_
  exact kret _ () _ _ _ _ _ _ dX5_most_9 rfl hP hD hS (Nat.le_of_ble_eq_true rfl) (Nat.le_of_ble_eq_true rfl)
set_option maxHeartbeats 4000000 in
set_option maxRecDepth 100000 in
theorem m_hash (l : Launch) (D : va_G) (cy : Nat → ClassId) (t0 : Nat) (a5 mD mI mZ mK mO mB mR mF k : Nat) (th now nl5 kM oM : Int32) (x : Nat) (hx2 : x < 100000) : xWi (S := Unit) l yX5_hash wsX5_hash ({ frames := 1, cells := 0, slots := 0, locals := 21 } : Room) D cy t0 ([.ref a5, .int (nI x)]) ([(a5, .inr (5, [.int th, .int (nI k), .int now, .ref mD, .ref mI, .ref mZ, .int nl5, .ref mK, .ref mO, .ref mB, .ref mR, .ref mF, .int kM, .int oM]))]) (fun r _ => r = nI (hsh x)) (fun _ => [(a5, .inr (5, [.int (nI 0), .int (nI k), .int now, .ref mD, .ref mI, .ref mZ, .int nl5, .ref mK, .ref mO, .ref mB, .ref mR, .ref mF, .int kM, .int oM]))]) 0 0 := by
  refine xofWi (cc := cX5_hash) (maxL := 2) (by decide) rfl (Nat.le_of_ble_eq_true rfl) (fun _ _ _ => rfl) ?_
  intro p e s m below meth c Q A ls hx hb hml hts hown hE hA H locs hP hD hl hS kret
  have hl : lv_has ls 2 [(0, .ref a5), (1, .int (nI x))] := hl
  refine lv_aload_n hx hb dX5_hash_0 rfl (lv_at hl 0 rfl) ?_
  refine lv_iload_n hx hb dX5_hash_1 rfl (lv_at hl 1 rfl) ?_
  refine xcRi (va_runS (As := [.int (nI x)]) (rest := [.ref a5]) ⟨hx, hb, hml, hown, hts⟩ (m_isItem l D cy t0 (nI x)) (va_cwS 1 hts gX5_hash_X5_isItem rfl rfl rfl (by decide +kernel) ⟨Nat.le_of_ble_eq_true rfl, Nat.le_of_ble_eq_true rfl⟩) (xPr.give (wc := []) hE hS hP [] rfl) rfl rfl hl.1 rfl (lv_room (Nat.le_of_ble_eq_true rfl)) dX5_hash_2 ⟨(Nat.zero_le _), (Nat.zero_le _)⟩) (fun r_1 hr_2 => ?_)
  obtain rfl : r_1 = nI 1 := by rw [hr_2, isIt_lt hx2]; rfl
  refine xb_if_eq (tgt := 12) (a := 1) (by omega) hx hb dX5_hash_5 (by decide) (fun c_3 => ?_) (fun c_3 => ?_)
  · exact absurd c_3 (by omega)
  · refine lv_iconst (v := nI 0) hx hb dX5_hash_8 (by decide) ?_
    refine lv_goto (tgt := 13) hx hb dX5_hash_9 (by decide) ?_
    refine xcWi (wr := []) (va_runV (As := [.int (nI 0)]) (rest := []) ⟨hx, hb, hml, hown, hts⟩ ((m_goesWell l D cy t0 a5 mD mI mZ mK mO mB mR mF k th now nl5 kM oM 0 (by omega)) H.size) (cwV 1 hts gX5_hash_X5_goesWell rfl rfl rfl (by decide +kernel) ⟨Nat.le_of_ble_eq_true rfl, Nat.le_of_ble_eq_true rfl⟩) (xPw.giveV (wc := [(a5, .inr (5, [.int th, .int (nI k), .int now, .ref mD, .ref mI, .ref mZ, .int nl5, .ref mK, .ref mO, .ref mB, .ref mR, .ref mF, .int kM, .int oM]))]) hE hS hA hP hD [0] (by decide) rfl 0 5 rfl rfl) rfl rfl hl.1 rfl (lv_room (Nat.le_of_ble_eq_true rfl)) dX5_hash_13 ⟨(Nat.zero_le _), (Nat.zero_le _)⟩) hP hD hS hA [0] [] rfl rfl (by decide) (by decide) (fun r_4 u_6 H locs hr_5 hP hD hS => ?_)
    obtain rfl : r_4 = nI 1 := by rw [hr_5]; rfl
    have hP := hP.sub (ws' := [(a5, .inr (5, [.int (nI 0), .int (nI k), .int now, .ref mD, .ref mI, .ref mZ, .int nl5, .ref mK, .ref mO, .ref mB, .ref mR, .ref mF, .int kM, .int oM]))]) [0] rfl
    have hD := hD.sub (ws' := [(a5, .inr (5, [.int (nI 0), .int (nI k), .int now, .ref mD, .ref mI, .ref mZ, .int nl5, .ref mK, .ref mO, .ref mB, .ref mR, .ref mF, .int kM, .int oM]))]) [0] (by decide) rfl
    refine xb_if_eq (tgt := 26) (a := 1) (by omega) hx hb dX5_hash_16 (by decide) (fun c_7 => ?_) (fun c_7 => ?_)
    · exact absurd c_7 (by omega)
    · refine lv_iload_n hx hb dX5_hash_19 rfl (lv_at hl 1 rfl) ?_
      refine xcRi (va_runS (As := [.int (nI x)]) (rest := []) ⟨hx, hb, hml, hown, hts⟩ (m_hashOf l D cy t0 x hx2) (va_cwS 1 hts gX5_hash_X5_hashOf rfl rfl rfl (by decide +kernel) ⟨Nat.le_of_ble_eq_true rfl, Nat.le_of_ble_eq_true rfl⟩) (xPr.give (wc := []) hE hS hP [] rfl) rfl rfl hl.1 rfl (lv_room (Nat.le_of_ble_eq_true rfl)) dX5_hash_20 ⟨(Nat.zero_le _), (Nat.zero_le _)⟩) (fun r_8 hr_9 => ?_)
      obtain rfl : r_8 = nI (hsh x) := hr_9
      have hhl := hsh_lt x
      refine lv_goto (tgt := 27) hx hb dX5_hash_23 (by decide) ?_
      exact kret _ () _ _ _ _ _ _ dX5_hash_27 rfl hP hD hS (Nat.le_of_ble_eq_true rfl) (Nat.le_of_ble_eq_true rfl)
set_option maxHeartbeats 4000000 in
set_option maxRecDepth 100000 in
theorem m_dateOf (l : Launch) (D : va_G) (cy : Nat → ClassId) (t0 : Nat) (a5 mD mI mZ mK mO mB mR mF k : Nat) (th now nl5 kM oM : Int32) (b x : Nat) (G : Nat → Int32) (hb6 : b < 6) (hx2 : x < 100000) : xWi (S := Unit) l yX5_dateOf wsX5_dateOf ({ frames := 1, cells := 0, slots := 0, locals := 21 } : Room) D cy t0 ([.ref a5, .int (nI b), .int (nI x)]) ([(a5, .inr (5, [.int th, .int (nI k), .int now, .ref mD, .ref mI, .ref mZ, .int nl5, .ref mK, .ref mO, .ref mB, .ref mR, .ref mF, .int kM, .int oM])), (mD, xI cy 600000 G)]) (fun r _ => r = mb G b x) (fun _ => [(a5, .inr (5, [.int (nI 0), .int (nI k), .int now, .ref mD, .ref mI, .ref mZ, .int nl5, .ref mK, .ref mO, .ref mB, .ref mR, .ref mF, .int kM, .int oM])), (mD, xI cy 600000 G)]) 0 0 := by
  refine xofWi (cc := cX5_dateOf) (maxL := 3) (by decide) rfl (Nat.le_of_ble_eq_true rfl) (fun _ _ _ => rfl) ?_
  intro p e s m below meth c Q A ls hx hb hml hts hown hE hA H locs hP hD hl hS kret
  have hl : lv_has ls 3 [(0, .ref a5), (1, .int (nI b)), (2, .int (nI x))] := hl
  refine lv_aload_n hx hb dX5_dateOf_0 rfl (lv_at hl 0 rfl) ?_
  refine lv_iload_n hx hb dX5_dateOf_1 rfl (lv_at hl 1 rfl) ?_
  refine xcRi (va_runS (As := [.int (nI b)]) (rest := [.ref a5]) ⟨hx, hb, hml, hown, hts⟩ (m_isBasket l D cy t0 (nI b)) (va_cwS 1 hts gX5_dateOf_X5_isBasket rfl rfl rfl (by decide +kernel) ⟨Nat.le_of_ble_eq_true rfl, Nat.le_of_ble_eq_true rfl⟩) (xPr.give (wc := []) hE hS hP [] rfl) rfl rfl hl.1 rfl (lv_room (Nat.le_of_ble_eq_true rfl)) dX5_dateOf_2 ⟨(Nat.zero_le _), (Nat.zero_le _)⟩) (fun r_1 hr_2 => ?_)
  obtain rfl : r_1 = nI 1 := by rw [hr_2, isBk_lt hb6]; rfl
  refine xb_if_ne (tgt := 12) (a := 1) (by omega) hx hb dX5_dateOf_5 (by decide) (fun c_3 => ?_) (fun c_3 => ?_)
  · refine lv_iload_n hx hb dX5_dateOf_12 rfl (lv_at hl 2 rfl) ?_
    refine xcRi (va_runS (As := [.int (nI x)]) (rest := [.ref a5]) ⟨hx, hb, hml, hown, hts⟩ (m_isItem l D cy t0 (nI x)) (va_cwS 1 hts gX5_dateOf_X5_isItem rfl rfl rfl (by decide +kernel) ⟨Nat.le_of_ble_eq_true rfl, Nat.le_of_ble_eq_true rfl⟩) (xPr.give (wc := []) hE hS hP [] rfl) rfl rfl hl.1 rfl (lv_room (Nat.le_of_ble_eq_true rfl)) dX5_dateOf_13 ⟨(Nat.zero_le _), (Nat.zero_le _)⟩) (fun r_4 hr_5 => ?_)
    obtain rfl : r_4 = nI 1 := by rw [hr_5, isIt_lt hx2]; rfl
    refine xb_if_eq (tgt := 23) (a := 1) (by omega) hx hb dX5_dateOf_16 (by decide) (fun c_6 => ?_) (fun c_6 => ?_)
    · exact absurd c_6 (by omega)
    · refine lv_iconst (v := nI 0) hx hb dX5_dateOf_19 (by decide) ?_
      refine lv_goto (tgt := 24) hx hb dX5_dateOf_20 (by decide) ?_
      refine xcWi (wr := [(mD, xI cy 600000 G)]) (va_runV (As := [.int (nI 0)]) (rest := []) ⟨hx, hb, hml, hown, hts⟩ ((m_goesWell l D cy t0 a5 mD mI mZ mK mO mB mR mF k th now nl5 kM oM 0 (by omega)) H.size) (cwV 1 hts gX5_dateOf_X5_goesWell rfl rfl rfl (by decide +kernel) ⟨Nat.le_of_ble_eq_true rfl, Nat.le_of_ble_eq_true rfl⟩) (xPw.giveV (wc := [(a5, .inr (5, [.int th, .int (nI k), .int now, .ref mD, .ref mI, .ref mZ, .int nl5, .ref mK, .ref mO, .ref mB, .ref mR, .ref mF, .int kM, .int oM]))]) hE hS hA hP hD [0] (by decide) rfl 0 5 rfl rfl) rfl rfl hl.1 rfl (lv_room (Nat.le_of_ble_eq_true rfl)) dX5_dateOf_24 ⟨(Nat.zero_le _), (Nat.zero_le _)⟩) hP hD hS hA [0] [1] rfl rfl (by decide) (by decide) (fun r_7 u_9 H locs hr_8 hP hD hS => ?_)
      obtain rfl : r_7 = nI 1 := by rw [hr_8]; rfl
      have hP := hP.sub (ws' := [(a5, .inr (5, [.int (nI 0), .int (nI k), .int now, .ref mD, .ref mI, .ref mZ, .int nl5, .ref mK, .ref mO, .ref mB, .ref mR, .ref mF, .int kM, .int oM])), (mD, xI cy 600000 G)]) [1, 0] rfl
      have hD := hD.sub (ws' := [(a5, .inr (5, [.int (nI 0), .int (nI k), .int now, .ref mD, .ref mI, .ref mZ, .int nl5, .ref mK, .ref mO, .ref mB, .ref mR, .ref mF, .int kM, .int oM])), (mD, xI cy 600000 G)]) [1, 0] (by decide) rfl
      refine xb_if_eq (tgt := 44) (a := 1) (by omega) hx hb dX5_dateOf_27 (by decide) (fun c_10 => ?_) (fun c_10 => ?_)
      · exact absurd c_10 (by omega)
      · refine lv_aload_n hx hb dX5_dateOf_30 rfl (lv_at hl 0 rfl) ?_
        refine va_get (D := D) (ci := 5) (v := .ref mD) (C := RX5) (T := TX5) (N := 14) hx hb hts (by decide +kernel) hown hE.1 hP 0 rfl rfl 3 (by decide) (hts (.fieldLink RX5 8 "DistinctDaleModel" "dates" "[I") (by decide +kernel)) (fun _ h9 => h9) rfl dX5_dateOf_31 ?_
        refine lv_ldc (v := nI 100000) hx hb hown (hts (.constant RX5 14 (100000)) (by decide +kernel)) dX5_dateOf_34 ?_
        refine lv_iload_n hx hb dX5_dateOf_36 rfl (lv_at hl 1 rfl) ?_
        refine lv_imul hx hb dX5_dateOf_37 ?_
        refine lv_eqi (z := nI (100000 * b)) (pk_mul _ _) ?_
        refine lv_iload_n hx hb dX5_dateOf_38 rfl (lv_at hl 2 rfl) ?_
        refine lv_iadd hx hb dX5_dateOf_39 ?_
        refine lv_eqi (z := nI ((100000 * b) + x)) (nI_add _ _) ?_
        refine va_iald (D := D) hx hb hE.1 hP 1 0 rfl rfl (vp_in_nI (by omega) (by omega)) dX5_dateOf_40 ?_
        refine lv_eqi (z := mb G b x) (by rw [nI_clamp (by omega), mb_lt hx2]) ?_
        refine lv_goto (tgt := 45) hx hb dX5_dateOf_41 (by decide) ?_
        exact kret _ () _ _ _ _ _ _ dX5_dateOf_45 rfl hP hD hS (Nat.le_of_ble_eq_true rfl) (Nat.le_of_ble_eq_true rfl)
  · exact absurd c_3 (by omega)
set_option maxHeartbeats 4000000 in
set_option maxRecDepth 100000 in
theorem m_plain (l : Launch) (D : va_G) (cy : Nat → ClassId) (t0 : Nat) (a5 mD mI mZ mK mO mB mR mF k : Nat) (th now kM oM : Int32) (nl : Nat) (b : Nat) (G It Zt : Nat → Int32) (lst : Nat → Nat) (hML : ML lst nl It Zt) (hCV : CV G lst nl) (hb6 : b < 6) : xWi (S := Unit) l yX5_plain wsX5_plain ({ frames := 2, cells := 0, slots := 0, locals := 45 } : Room) D cy t0 ([.ref a5, .int (nI b)]) ([(a5, .inr (5, [.int th, .int (nI k), .int now, .ref mD, .ref mI, .ref mZ, .int (nI nl), .ref mK, .ref mO, .ref mB, .ref mR, .ref mF, .int kM, .int oM])), (mD, xI cy 600000 G), (mI, xI cy 100000 It)]) (fun r _ => r = nI (cb (Sm (mb G b)) 100000)) (fun _ => [(a5, .inr (5, [.int (nI 0), .int (nI k), .int now, .ref mD, .ref mI, .ref mZ, .int (nI nl), .ref mK, .ref mO, .ref mB, .ref mR, .ref mF, .int kM, .int oM])), (mD, xI cy 600000 G), (mI, xI cy 100000 It)]) 0 0 := by
  refine xofWi (cc := cX5_plain) (maxL := 2) (by decide) rfl (Nat.le_of_ble_eq_true rfl) (fun _ _ _ => rfl) ?_
  intro p e s m below meth c Q A ls hx hb hml hts hown hE hA H locs hP hD hl hS kret
  have hl : lv_has ls 2 [(0, .ref a5), (1, .int (nI b))] := hl
  refine lv_aload_n hx hb dX5_plain_0 rfl (lv_at hl 0 rfl) ?_
  refine lv_iload_n hx hb dX5_plain_1 rfl (lv_at hl 1 rfl) ?_
  refine xcRi (va_runS (As := [.int (nI b)]) (rest := [.ref a5]) ⟨hx, hb, hml, hown, hts⟩ (m_isBasket l D cy t0 (nI b)) (va_cwS 1 hts gX5_plain_X5_isBasket rfl rfl rfl (by decide +kernel) ⟨Nat.le_of_ble_eq_true rfl, Nat.le_of_ble_eq_true rfl⟩) (xPr.give (wc := []) hE hS hP [] rfl) rfl rfl hl.1 rfl (lv_room (Nat.le_of_ble_eq_true rfl)) dX5_plain_2 ⟨(Nat.zero_le _), (Nat.zero_le _)⟩) (fun r_1 hr_2 => ?_)
  obtain rfl : r_1 = nI 1 := by rw [hr_2, isBk_lt hb6]; rfl
  refine xb_if_eq (tgt := 12) (a := 1) (by omega) hx hb dX5_plain_5 (by decide) (fun c_3 => ?_) (fun c_3 => ?_)
  · exact absurd c_3 (by omega)
  · refine lv_iconst (v := nI 0) hx hb dX5_plain_8 (by decide) ?_
    refine lv_goto (tgt := 13) hx hb dX5_plain_9 (by decide) ?_
    refine xcWi (wr := [(mD, xI cy 600000 G), (mI, xI cy 100000 It)]) (va_runV (As := [.int (nI 0)]) (rest := []) ⟨hx, hb, hml, hown, hts⟩ ((m_goesWell l D cy t0 a5 mD mI mZ mK mO mB mR mF k th now (nI nl) kM oM 0 (by omega)) H.size) (cwV 1 hts gX5_plain_X5_goesWell rfl rfl rfl (by decide +kernel) ⟨Nat.le_of_ble_eq_true rfl, Nat.le_of_ble_eq_true rfl⟩) (xPw.giveV (wc := [(a5, .inr (5, [.int th, .int (nI k), .int now, .ref mD, .ref mI, .ref mZ, .int (nI nl), .ref mK, .ref mO, .ref mB, .ref mR, .ref mF, .int kM, .int oM]))]) hE hS hA hP hD [0] (by decide) rfl 0 5 rfl rfl) rfl rfl hl.1 rfl (lv_room (Nat.le_of_ble_eq_true rfl)) dX5_plain_13 ⟨(Nat.zero_le _), (Nat.zero_le _)⟩) hP hD hS hA [0] [1, 2] rfl rfl (by decide) (by decide) (fun r_4 u_6 H locs hr_5 hP hD hS => ?_)
    obtain rfl : r_4 = nI 1 := by rw [hr_5]; rfl
    have hP := hP.sub (ws' := [(a5, .inr (5, [.int (nI 0), .int (nI k), .int now, .ref mD, .ref mI, .ref mZ, .int (nI nl), .ref mK, .ref mO, .ref mB, .ref mR, .ref mF, .int kM, .int oM])), (mD, xI cy 600000 G), (mI, xI cy 100000 It)]) [2, 0, 1] rfl
    have hD := hD.sub (ws' := [(a5, .inr (5, [.int (nI 0), .int (nI k), .int now, .ref mD, .ref mI, .ref mZ, .int (nI nl), .ref mK, .ref mO, .ref mB, .ref mR, .ref mF, .int kM, .int oM])), (mD, xI cy 600000 G), (mI, xI cy 100000 It)]) [2, 0, 1] (by decide) rfl
    refine xb_if_eq (tgt := 27) (a := 1) (by omega) hx hb dX5_plain_16 (by decide) (fun c_7 => ?_) (fun c_7 => ?_)
    · exact absurd c_7 (by omega)
    · refine lv_aload_n hx hb dX5_plain_19 rfl (lv_at hl 0 rfl) ?_
      refine lv_iload_n hx hb dX5_plain_20 rfl (lv_at hl 1 rfl) ?_
      refine xcRi (va_runV (As := [.int (nI b)]) (rest := []) ⟨hx, hb, hml, hown, hts⟩ (m_count l D cy t0 a5 mD mI mZ mK mO mB mR mF k (nI 0) now kM oM nl b G It Zt lst hb6 hML hCV) (cwV 1 hts gX5_plain_X5_count rfl rfl rfl (by decide +kernel) ⟨Nat.le_of_ble_eq_true rfl, Nat.le_of_ble_eq_true rfl⟩) (xPr.giveV (wc := [(a5, .inr (5, [.int (nI 0), .int (nI k), .int now, .ref mD, .ref mI, .ref mZ, .int (nI nl), .ref mK, .ref mO, .ref mB, .ref mR, .ref mF, .int kM, .int oM])), (mD, xI cy 600000 G), (mI, xI cy 100000 It)]) hE hS hP [0, 1, 2] rfl 0 5 rfl rfl) rfl rfl hl.1 rfl (lv_room (Nat.le_of_ble_eq_true rfl)) dX5_plain_21 ⟨(Nat.zero_le _), (Nat.zero_le _)⟩) (fun r_8 hr_9 => ?_)
      obtain rfl : r_8 = nI (cb (Sm (mb G b)) 100000) := hr_9
      refine lv_goto (tgt := 28) hx hb dX5_plain_24 (by decide) ?_
      exact kret _ () _ _ _ _ _ _ dX5_plain_28 rfl hP hD hS (Nat.le_of_ble_eq_true rfl) (Nat.le_of_ble_eq_true rfl)
set_option maxHeartbeats 4000000 in
set_option maxRecDepth 100000 in
theorem m_plainCommon (l : Launch) (D : va_G) (cy : Nat → ClassId) (t0 : Nat) (a5 mD mI mZ mK mO mB mR mF k : Nat) (th now kM oM : Int32) (nl : Nat) (b b2 : Nat) (G It Zt : Nat → Int32) (lst : Nat → Nat) (hML : ML lst nl It Zt) (hCV : CV G lst nl) (hb6 : b < 6) (hb62 : b2 < 6) : xWi (S := Unit) l yX5_plainCommon wsX5_plainCommon ({ frames := 1, cells := 0, slots := 0, locals := 22 } : Room) D cy t0 ([.ref a5, .int (nI b), .int (nI b2)]) ([(a5, .inr (5, [.int th, .int (nI k), .int now, .ref mD, .ref mI, .ref mZ, .int (nI nl), .ref mK, .ref mO, .ref mB, .ref mR, .ref mF, .int kM, .int oM])), (mD, xI cy 600000 G), (mI, xI cy 100000 It)]) (fun r _ => r = nI (cb (fun x => Sm (mb G b) x && Sm (mb G b2) x) 100000)) (fun _ => [(a5, .inr (5, [.int (nI 0), .int (nI k), .int now, .ref mD, .ref mI, .ref mZ, .int (nI nl), .ref mK, .ref mO, .ref mB, .ref mR, .ref mF, .int kM, .int oM])), (mD, xI cy 600000 G), (mI, xI cy 100000 It)]) 0 0 := by
  refine xofWi (cc := cX5_plainCommon) (maxL := 5) (by decide) rfl (Nat.le_of_ble_eq_true rfl) (fun _ _ _ => rfl) ?_
  intro p e s m below meth c Q A ls hx hb hml hts hown hE hA H locs hP hD hl hS kret
  have hl : lv_has ls 5 [(0, .ref a5), (1, .int (nI b)), (2, .int (nI b2))] := hl
  have hnle := hML.le
  refine lv_aload_n hx hb dX5_plainCommon_0 rfl (lv_at hl 0 rfl) ?_
  refine lv_iload_n hx hb dX5_plainCommon_1 rfl (lv_at hl 1 rfl) ?_
  refine xcRi (va_runS (As := [.int (nI b)]) (rest := [.ref a5]) ⟨hx, hb, hml, hown, hts⟩ (m_isBasket l D cy t0 (nI b)) (va_cwS 1 hts gX5_plainCommon_X5_isBasket rfl rfl rfl (by decide +kernel) ⟨Nat.le_of_ble_eq_true rfl, Nat.le_of_ble_eq_true rfl⟩) (xPr.give (wc := []) hE hS hP [] rfl) rfl rfl hl.1 rfl (lv_room (Nat.le_of_ble_eq_true rfl)) dX5_plainCommon_2 ⟨(Nat.zero_le _), (Nat.zero_le _)⟩) (fun r_1 hr_2 => ?_)
  obtain rfl : r_1 = nI 1 := by rw [hr_2, isBk_lt hb6]; rfl
  refine xb_if_eq (tgt := 19) (a := 1) (by omega) hx hb dX5_plainCommon_5 (by decide) (fun c_3 => ?_) (fun c_3 => ?_)
  · exact absurd c_3 (by omega)
  · refine lv_iload_n hx hb dX5_plainCommon_8 rfl (lv_at hl 2 rfl) ?_
    refine xcRi (va_runS (As := [.int (nI b2)]) (rest := [.ref a5]) ⟨hx, hb, hml, hown, hts⟩ (m_isBasket l D cy t0 (nI b2)) (va_cwS 1 hts gX5_plainCommon_X5_isBasket rfl rfl rfl (by decide +kernel) ⟨Nat.le_of_ble_eq_true rfl, Nat.le_of_ble_eq_true rfl⟩) (xPr.give (wc := []) hE hS hP [] rfl) rfl rfl hl.1 rfl (lv_room (Nat.le_of_ble_eq_true rfl)) dX5_plainCommon_9 ⟨(Nat.zero_le _), (Nat.zero_le _)⟩) (fun r_4 hr_5 => ?_)
    obtain rfl : r_4 = nI 1 := by rw [hr_5, isBk_lt hb62]; rfl
    refine xb_if_eq (tgt := 19) (a := 1) (by omega) hx hb dX5_plainCommon_12 (by decide) (fun c_6 => ?_) (fun c_6 => ?_)
    · exact absurd c_6 (by omega)
    · refine lv_iconst (v := nI 0) hx hb dX5_plainCommon_15 (by decide) ?_
      refine lv_goto (tgt := 20) hx hb dX5_plainCommon_16 (by decide) ?_
      refine xcWi (wr := [(mD, xI cy 600000 G), (mI, xI cy 100000 It)]) (va_runV (As := [.int (nI 0)]) (rest := []) ⟨hx, hb, hml, hown, hts⟩ ((m_goesWell l D cy t0 a5 mD mI mZ mK mO mB mR mF k th now (nI nl) kM oM 0 (by omega)) H.size) (cwV 1 hts gX5_plainCommon_X5_goesWell rfl rfl rfl (by decide +kernel) ⟨Nat.le_of_ble_eq_true rfl, Nat.le_of_ble_eq_true rfl⟩) (xPw.giveV (wc := [(a5, .inr (5, [.int th, .int (nI k), .int now, .ref mD, .ref mI, .ref mZ, .int (nI nl), .ref mK, .ref mO, .ref mB, .ref mR, .ref mF, .int kM, .int oM]))]) hE hS hA hP hD [0] (by decide) rfl 0 5 rfl rfl) rfl rfl hl.1 rfl (lv_room (Nat.le_of_ble_eq_true rfl)) dX5_plainCommon_20 ⟨(Nat.zero_le _), (Nat.zero_le _)⟩) hP hD hS hA [0] [1, 2] rfl rfl (by decide) (by decide) (fun r_7 u_9 H locs hr_8 hP hD hS => ?_)
      obtain rfl : r_7 = nI 1 := by rw [hr_8]; rfl
      have hP := hP.sub (ws' := [(a5, .inr (5, [.int (nI 0), .int (nI k), .int now, .ref mD, .ref mI, .ref mZ, .int (nI nl), .ref mK, .ref mO, .ref mB, .ref mR, .ref mF, .int kM, .int oM])), (mD, xI cy 600000 G), (mI, xI cy 100000 It)]) [2, 0, 1] rfl
      have hD := hD.sub (ws' := [(a5, .inr (5, [.int (nI 0), .int (nI k), .int now, .ref mD, .ref mI, .ref mZ, .int (nI nl), .ref mK, .ref mO, .ref mB, .ref mR, .ref mF, .int kM, .int oM])), (mD, xI cy 600000 G), (mI, xI cy 100000 It)]) [2, 0, 1] (by decide) rfl
      refine xb_if_ne (tgt := 28) (a := 1) (by omega) hx hb dX5_plainCommon_23 (by decide) (fun c_10 => ?_) (fun c_10 => ?_)
      · refine lv_iconst (v := nI 0) hx hb dX5_plainCommon_28 (by decide) ?_
        refine lv_istore_n (lv' := [(3, .int (nI 0)), (0, .ref a5), (1, .int (nI b)), (2, .int (nI b2))]) hx hb dX5_plainCommon_29 rfl hl (by decide) rfl (fun ls hl => ?_)
        refine lv_iconst (v := nI 0) hx hb dX5_plainCommon_30 (by decide) ?_
        refine lv_istore (lv' := [(4, .int (nI 0)), (3, .int (nI 0)), (0, .ref a5), (1, .int (nI b)), (2, .int (nI b2))]) hx hb dX5_plainCommon_31 hl (by decide) rfl (fun ls hl => ?_)
        have lp : ∀ (n9 : Nat), ∀ (j : Nat), (hj : j ≤ nl) → nl - j < n9 → ∀ (H : Heap) (locs : List Loc), xP D [(a5, .inr (5, [.int (nI 0), .int (nI k), .int now, .ref mD, .ref mI, .ref mZ, .int (nI nl), .ref mK, .ref mO, .ref mB, .ref mR, .ref mF, .int kM, .int oM])), (mD, xI cy 600000 G), (mI, xI cy 100000 It)] H → va_D A [(a5, .inr (5, [.int (nI 0), .int (nI k), .int now, .ref mD, .ref mI, .ref mZ, .int (nI nl), .ref mK, .ref mO, .ref mB, .ref mR, .ref mF, .int kM, .int oM])), (mD, xI cy 600000 G), (mI, xI cy 100000 It)] → va_S A s.heap H locs → ∀ (ls : Array Slot), lv_has ls 5 [(0, .ref a5), (1, .int (nI b)), (2, .int (nI b2)), (3, .int (nI (cb (fun i => Sm (mb G b) (lst i) && Sm (mb G b2) (lst i)) j))), (4, .int (nI j))] → W p l e ({ frames := 1, cells := 0, slots := 0, locals := 22 } : Room) s m [.ref a5, .int (nI b), .int (nI b2)].toArray below meth c H locs 0 0 Q (F0 m 33 ls []) := by
          intro n9
          induction n9 with
          | zero => intro j hj hm; exact absurd hm (Nat.not_lt_zero _)
          | succ n9 ih_lp =>
            intro j hj hm H locs hP hD hS ls hl
            have hcj := cb_le (P := (fun i => Sm (mb G b) (lst i) && Sm (mb G b2) (lst i))) (n := j)
            refine lv_iload hx hb dX5_plainCommon_33 (lv_at hl 4 rfl) ?_
            refine lv_aload_n hx hb dX5_plainCommon_35 rfl (lv_at hl 0 rfl) ?_
            refine va_get (D := D) (ci := 5) (v := .int (nI nl)) (C := RX5) (T := TX5) (N := 14) hx hb hts (by decide +kernel) hown hE.1 hP 0 rfl rfl 6 (by decide) (hts (.fieldLink RX5 58 "DistinctDaleModel" "listed" "I") (by decide +kernel)) (fun _ h9 => h9) rfl dX5_plainCommon_36 ?_
            refine xb_icmp_ge (tgt := 86) (a := j) (b := nl) (by omega) (by omega) hx hb dX5_plainCommon_39 (by decide) (fun c_11 => ?_) (fun c_11 => ?_)
            · obtain rfl : j = nl := by omega
              refine lv_iload_n hx hb dX5_plainCommon_86 rfl (lv_at hl 3 rfl) ?_
              exact kret _ () _ _ _ _ _ _ dX5_plainCommon_87 (congrArg nI (hML.cnt (P := (fun x => Sm (mb G b) x && Sm (mb G b2) x)) (fun x hx h => hCV b hb6 x hx (by simp at h; exact h.1)))) hP hD hS (Nat.le_of_ble_eq_true rfl) (Nat.le_of_ble_eq_true rfl)
            · refine lv_iload_n hx hb dX5_plainCommon_42 rfl (lv_at hl 3 rfl) ?_
              refine lv_aload_n hx hb dX5_plainCommon_43 rfl (lv_at hl 0 rfl) ?_
              refine lv_iload_n hx hb dX5_plainCommon_44 rfl (lv_at hl 1 rfl) ?_
              refine lv_aload_n hx hb dX5_plainCommon_45 rfl (lv_at hl 0 rfl) ?_
              refine va_get (D := D) (ci := 5) (v := .ref mI) (C := RX5) (T := TX5) (N := 14) hx hb hts (by decide +kernel) hown hE.1 hP 0 rfl rfl 4 (by decide) (hts (.fieldLink RX5 15 "DistinctDaleModel" "items" "[I") (by decide +kernel)) (fun _ h9 => h9) rfl dX5_plainCommon_46 ?_
              refine lv_iload hx hb dX5_plainCommon_49 (lv_at hl 4 rfl) ?_
              refine va_iald (D := D) hx hb hE.1 hP 2 0 rfl rfl (vp_in_nI (by omega) (by omega)) dX5_plainCommon_51 ?_
              refine lv_eqi (z := nI (lst j)) (by rw [nI_clamp (by omega)]; exact (hML.1 j (by omega)).2) ?_
              refine xcRi (va_runV (As := [.int (nI b), .int (nI (lst j))]) (rest := [.int (nI (cb (fun i => Sm (mb G b) (lst i) && Sm (mb G b2) (lst i)) j))]) ⟨hx, hb, hml, hown, hts⟩ (m_has l D cy t0 a5 mD mI mZ mK mO mB mR mF k (nI 0) now (nI nl) kM oM b (lst j) G hb6 (hML.1 j (by omega)).1) (cwV 2 hts gX5_plainCommon_X5_has rfl rfl rfl (by decide +kernel) ⟨Nat.le_of_ble_eq_true rfl, Nat.le_of_ble_eq_true rfl⟩) (xPr.giveV (wc := [(a5, .inr (5, [.int (nI 0), .int (nI k), .int now, .ref mD, .ref mI, .ref mZ, .int (nI nl), .ref mK, .ref mO, .ref mB, .ref mR, .ref mF, .int kM, .int oM])), (mD, xI cy 600000 G)]) hE hS hP [0, 1] rfl 0 5 rfl rfl) rfl rfl hl.1 rfl (lv_room (Nat.le_of_ble_eq_true rfl)) dX5_plainCommon_52 ⟨(Nat.zero_le _), (Nat.zero_le _)⟩) (fun r_12 hr_13 => ?_)
              refine lv_eqi (z := xb (Sm (mb G b) (lst j))) hr_13 ?_
              refine xb_beq (tgt := 77) hx hb dX5_plainCommon_55 (by decide) (fun c_14 => ?_) (fun c_14 => ?_)
              · refine lv_iconst (v := nI 0) hx hb dX5_plainCommon_77 (by decide) ?_
                refine lv_iadd hx hb dX5_plainCommon_78 ?_
                refine lv_eqi (z := nI (cb (fun i => Sm (mb G b) (lst i) && Sm (mb G b2) (lst i)) j + 0)) (nI_add _ _) ?_
                refine lv_istore_n (lv' := [(3, .int (nI (cb (fun i => Sm (mb G b) (lst i) && Sm (mb G b2) (lst i)) j + 0))), (0, .ref a5), (1, .int (nI b)), (2, .int (nI b2)), (4, .int (nI j))]) hx hb dX5_plainCommon_79 rfl hl (by decide) rfl (fun ls hl => ?_)
                refine lv_iinc (v := nI (j + 1)) (lv' := [(4, .int (nI (j + 1))), (3, .int (nI (cb (fun i => Sm (mb G b) (lst i) && Sm (mb G b2) (lst i)) j + 0))), (0, .ref a5), (1, .int (nI b)), (2, .int (nI b2))]) hx hb dX5_plainCommon_80 hl (k := 4) rfl (nI_add _ 1) (by decide) rfl (fun ls hl => ?_)
                refine lv_goto (tgt := 33) hx hb dX5_plainCommon_83 (by decide) ?_
                have e2 : cb (fun i => Sm (mb G b) (lst i) && Sm (mb G b2) (lst i)) j + 0 = cb (fun i => Sm (mb G b) (lst i) && Sm (mb G b2) (lst i)) (j + 1) := by rw [cb_f (P := (fun i => Sm (mb G b) (lst i) && Sm (mb G b2) (lst i))) (by simp [c_14])]; rfl
                rw [e2] at hl
                exact ih_lp (j + 1) (by omega) (by omega) _ _ hP hD hS _ (lv_sub hl [2, 3, 4, 1, 0] rfl)
              · refine lv_aload_n hx hb dX5_plainCommon_58 rfl (lv_at hl 0 rfl) ?_
                refine lv_iload_n hx hb dX5_plainCommon_59 rfl (lv_at hl 2 rfl) ?_
                refine lv_aload_n hx hb dX5_plainCommon_60 rfl (lv_at hl 0 rfl) ?_
                refine va_get (D := D) (ci := 5) (v := .ref mI) (C := RX5) (T := TX5) (N := 14) hx hb hts (by decide +kernel) hown hE.1 hP 0 rfl rfl 4 (by decide) (hts (.fieldLink RX5 15 "DistinctDaleModel" "items" "[I") (by decide +kernel)) (fun _ h9 => h9) rfl dX5_plainCommon_61 ?_
                refine lv_iload hx hb dX5_plainCommon_64 (lv_at hl 4 rfl) ?_
                refine va_iald (D := D) hx hb hE.1 hP 2 0 rfl rfl (vp_in_nI (by omega) (by omega)) dX5_plainCommon_66 ?_
                refine lv_eqi (z := nI (lst j)) (by rw [nI_clamp (by omega)]; exact (hML.1 j (by omega)).2) ?_
                refine xcRi (va_runV (As := [.int (nI b2), .int (nI (lst j))]) (rest := [.int (nI (cb (fun i => Sm (mb G b) (lst i) && Sm (mb G b2) (lst i)) j))]) ⟨hx, hb, hml, hown, hts⟩ (m_has l D cy t0 a5 mD mI mZ mK mO mB mR mF k (nI 0) now (nI nl) kM oM b2 (lst j) G hb62 (hML.1 j (by omega)).1) (cwV 2 hts gX5_plainCommon_X5_has rfl rfl rfl (by decide +kernel) ⟨Nat.le_of_ble_eq_true rfl, Nat.le_of_ble_eq_true rfl⟩) (xPr.giveV (wc := [(a5, .inr (5, [.int (nI 0), .int (nI k), .int now, .ref mD, .ref mI, .ref mZ, .int (nI nl), .ref mK, .ref mO, .ref mB, .ref mR, .ref mF, .int kM, .int oM])), (mD, xI cy 600000 G)]) hE hS hP [0, 1] rfl 0 5 rfl rfl) rfl rfl hl.1 rfl (lv_room (Nat.le_of_ble_eq_true rfl)) dX5_plainCommon_67 ⟨(Nat.zero_le _), (Nat.zero_le _)⟩) (fun r_15 hr_16 => ?_)
                refine lv_eqi (z := xb (Sm (mb G b2) (lst j))) hr_16 ?_
                refine xb_beq (tgt := 77) hx hb dX5_plainCommon_70 (by decide) (fun c_17 => ?_) (fun c_17 => ?_)
                · refine lv_iconst (v := nI 0) hx hb dX5_plainCommon_77 (by decide) ?_
                  refine lv_iadd hx hb dX5_plainCommon_78 ?_
                  refine lv_eqi (z := nI (cb (fun i => Sm (mb G b) (lst i) && Sm (mb G b2) (lst i)) j + 0)) (nI_add _ _) ?_
                  refine lv_istore_n (lv' := [(3, .int (nI (cb (fun i => Sm (mb G b) (lst i) && Sm (mb G b2) (lst i)) j + 0))), (0, .ref a5), (1, .int (nI b)), (2, .int (nI b2)), (4, .int (nI j))]) hx hb dX5_plainCommon_79 rfl hl (by decide) rfl (fun ls hl => ?_)
                  refine lv_iinc (v := nI (j + 1)) (lv' := [(4, .int (nI (j + 1))), (3, .int (nI (cb (fun i => Sm (mb G b) (lst i) && Sm (mb G b2) (lst i)) j + 0))), (0, .ref a5), (1, .int (nI b)), (2, .int (nI b2))]) hx hb dX5_plainCommon_80 hl (k := 4) rfl (nI_add _ 1) (by decide) rfl (fun ls hl => ?_)
                  refine lv_goto (tgt := 33) hx hb dX5_plainCommon_83 (by decide) ?_
                  have e2 : cb (fun i => Sm (mb G b) (lst i) && Sm (mb G b2) (lst i)) j + 0 = cb (fun i => Sm (mb G b) (lst i) && Sm (mb G b2) (lst i)) (j + 1) := by rw [cb_f (P := (fun i => Sm (mb G b) (lst i) && Sm (mb G b2) (lst i))) (by simp [c_17])]; rfl
                  rw [e2] at hl
                  exact ih_lp (j + 1) (by omega) (by omega) _ _ hP hD hS _ (lv_sub hl [2, 3, 4, 1, 0] rfl)
                · refine lv_iconst (v := nI 1) hx hb dX5_plainCommon_73 (by decide) ?_
                  refine lv_goto (tgt := 78) hx hb dX5_plainCommon_74 (by decide) ?_
                  refine lv_iadd hx hb dX5_plainCommon_78 ?_
                  refine lv_eqi (z := nI (cb (fun i => Sm (mb G b) (lst i) && Sm (mb G b2) (lst i)) j + 1)) (nI_add _ _) ?_
                  refine lv_istore_n (lv' := [(3, .int (nI (cb (fun i => Sm (mb G b) (lst i) && Sm (mb G b2) (lst i)) j + 1))), (0, .ref a5), (1, .int (nI b)), (2, .int (nI b2)), (4, .int (nI j))]) hx hb dX5_plainCommon_79 rfl hl (by decide) rfl (fun ls hl => ?_)
                  refine lv_iinc (v := nI (j + 1)) (lv' := [(4, .int (nI (j + 1))), (3, .int (nI (cb (fun i => Sm (mb G b) (lst i) && Sm (mb G b2) (lst i)) j + 1))), (0, .ref a5), (1, .int (nI b)), (2, .int (nI b2))]) hx hb dX5_plainCommon_80 hl (k := 4) rfl (nI_add _ 1) (by decide) rfl (fun ls hl => ?_)
                  refine lv_goto (tgt := 33) hx hb dX5_plainCommon_83 (by decide) ?_
                  have e2 : cb (fun i => Sm (mb G b) (lst i) && Sm (mb G b2) (lst i)) j + 1 = cb (fun i => Sm (mb G b) (lst i) && Sm (mb G b2) (lst i)) (j + 1) := by rw [cb_t (P := (fun i => Sm (mb G b) (lst i) && Sm (mb G b2) (lst i))) (by simp [c_14, c_17])]
                  rw [e2] at hl
                  exact ih_lp (j + 1) (by omega) (by omega) _ _ hP hD hS _ (lv_sub hl [2, 3, 4, 1, 0] rfl)
        exact lp (nl + 1) 0 (Nat.zero_le _) (by omega) _ _ hP hD hS _ (lv_sub hl [2, 3, 4, 1, 0] rfl)
      · exact absurd c_10 (by omega)
set_option maxHeartbeats 4000000 in
set_option maxRecDepth 100000 in
theorem m_kept (l : Launch) (D : va_G) (cy : Nat → ClassId) (t0 : Nat) (a5 mD mI mZ mK mO mB mR mF k : Nat) (th now kM oM : Int32) (nl : Nat) (b : Nat) (fK : Nat → Int32) (G It Zt : Nat → Int32) (lst : Nat → Nat) (hML : ML lst nl It Zt) (hCV : CV G lst nl) (hb6 : b < 6) (hk2 : 2 ≤ k) (hk : k ≤ 32) : xWi (S := Nat → Int32) l yX5_kept wsX5_kept ({ frames := 3, cells := 0, slots := 0, locals := 71 } : Room) D cy t0 ([.ref a5, .int (nI b)]) ([(a5, .inr (5, [.int th, .int (nI k), .int now, .ref mD, .ref mI, .ref mZ, .int (nI nl), .ref mK, .ref mO, .ref mB, .ref mR, .ref mF, .int kM, .int oM])), (mD, xI cy 600000 G), (mI, xI cy 100000 It), (mK, xI cy 32 fK)]) (fun r _ => r = nI (min k (cb (hs (Sm (mb G b)) 100000) 16777213))) (fun u => [(a5, .inr (5, [.int (nI 0), .int (nI k), .int now, .ref mD, .ref mI, .ref mZ, .int (nI nl), .ref mK, .ref mO, .ref mB, .ref mR, .ref mF, .int kM, .int oM])), (mD, xI cy 600000 G), (mI, xI cy 100000 It), (mK, xI cy 32 u)]) 0 0 := by
  refine xofWi (cc := cX5_kept) (maxL := 2) (by decide) rfl (Nat.le_of_ble_eq_true rfl) (fun _ _ _ => rfl) ?_
  intro p e s m below meth c Q A ls hx hb hml hts hown hE hA H locs hP hD hl hS kret
  have hl : lv_has ls 2 [(0, .ref a5), (1, .int (nI b))] := hl
  refine lv_aload_n hx hb dX5_kept_0 rfl (lv_at hl 0 rfl) ?_
  refine lv_iload_n hx hb dX5_kept_1 rfl (lv_at hl 1 rfl) ?_
  refine xcRi (va_runS (As := [.int (nI b)]) (rest := [.ref a5]) ⟨hx, hb, hml, hown, hts⟩ (m_isBasket l D cy t0 (nI b)) (va_cwS 1 hts gX5_kept_X5_isBasket rfl rfl rfl (by decide +kernel) ⟨Nat.le_of_ble_eq_true rfl, Nat.le_of_ble_eq_true rfl⟩) (xPr.give (wc := []) hE hS hP [] rfl) rfl rfl hl.1 rfl (lv_room (Nat.le_of_ble_eq_true rfl)) dX5_kept_2 ⟨(Nat.zero_le _), (Nat.zero_le _)⟩) (fun r_1 hr_2 => ?_)
  obtain rfl : r_1 = nI 1 := by rw [hr_2, isBk_lt hb6]; rfl
  refine xb_if_eq (tgt := 12) (a := 1) (by omega) hx hb dX5_kept_5 (by decide) (fun c_3 => ?_) (fun c_3 => ?_)
  · exact absurd c_3 (by omega)
  · refine lv_iconst (v := nI 0) hx hb dX5_kept_8 (by decide) ?_
    refine lv_goto (tgt := 13) hx hb dX5_kept_9 (by decide) ?_
    refine xcWi (wr := [(mD, xI cy 600000 G), (mI, xI cy 100000 It), (mK, xI cy 32 fK)]) (va_runV (As := [.int (nI 0)]) (rest := []) ⟨hx, hb, hml, hown, hts⟩ ((m_goesWell l D cy t0 a5 mD mI mZ mK mO mB mR mF k th now (nI nl) kM oM 0 (by omega)) H.size) (cwV 1 hts gX5_kept_X5_goesWell rfl rfl rfl (by decide +kernel) ⟨Nat.le_of_ble_eq_true rfl, Nat.le_of_ble_eq_true rfl⟩) (xPw.giveV (wc := [(a5, .inr (5, [.int th, .int (nI k), .int now, .ref mD, .ref mI, .ref mZ, .int (nI nl), .ref mK, .ref mO, .ref mB, .ref mR, .ref mF, .int kM, .int oM]))]) hE hS hA hP hD [0] (by decide) rfl 0 5 rfl rfl) rfl rfl hl.1 rfl (lv_room (Nat.le_of_ble_eq_true rfl)) dX5_kept_13 ⟨(Nat.zero_le _), (Nat.zero_le _)⟩) hP hD hS hA [0] [1, 2, 3] rfl rfl (by decide) (by decide) (fun r_4 u_6 H locs hr_5 hP hD hS => ?_)
    obtain rfl : r_4 = nI 1 := by rw [hr_5]; rfl
    have hP := hP.sub (ws' := [(a5, .inr (5, [.int (nI 0), .int (nI k), .int now, .ref mD, .ref mI, .ref mZ, .int (nI nl), .ref mK, .ref mO, .ref mB, .ref mR, .ref mF, .int kM, .int oM])), (mD, xI cy 600000 G), (mI, xI cy 100000 It), (mK, xI cy 32 fK)]) [3, 0, 1, 2] rfl
    have hD := hD.sub (ws' := [(a5, .inr (5, [.int (nI 0), .int (nI k), .int now, .ref mD, .ref mI, .ref mZ, .int (nI nl), .ref mK, .ref mO, .ref mB, .ref mR, .ref mF, .int kM, .int oM])), (mD, xI cy 600000 G), (mI, xI cy 100000 It), (mK, xI cy 32 fK)]) [3, 0, 1, 2] (by decide) rfl
    refine xb_if_eq (tgt := 27) (a := 1) (by omega) hx hb dX5_kept_16 (by decide) (fun c_7 => ?_) (fun c_7 => ?_)
    · exact absurd c_7 (by omega)
    · refine lv_aload_n hx hb dX5_kept_19 rfl (lv_at hl 0 rfl) ?_
      refine lv_iload_n hx hb dX5_kept_20 rfl (lv_at hl 1 rfl) ?_
      refine xcWi (wr := []) (va_runV (As := [.int (nI b)]) (rest := []) ⟨hx, hb, hml, hown, hts⟩ ((m_layKept l D cy t0 a5 mD mI mZ mK mO mB mR mF k (nI 0) now kM oM nl b fK G It Zt lst hML hCV hb6 hk2 hk) H.size) (cwV 1 hts gX5_kept_X5_layKept rfl rfl rfl (by decide +kernel) ⟨Nat.le_of_ble_eq_true rfl, Nat.le_of_ble_eq_true rfl⟩) (xPw.giveV (wc := [(a5, .inr (5, [.int (nI 0), .int (nI k), .int now, .ref mD, .ref mI, .ref mZ, .int (nI nl), .ref mK, .ref mO, .ref mB, .ref mR, .ref mF, .int kM, .int oM])), (mD, xI cy 600000 G), (mI, xI cy 100000 It), (mK, xI cy 32 fK)]) hE hS hA hP hD [0, 1, 2, 3] (by decide) rfl 0 5 rfl rfl) rfl rfl hl.1 rfl (lv_room (Nat.le_of_ble_eq_true rfl)) dX5_kept_21 ⟨(Nat.zero_le _), (Nat.zero_le _)⟩) hP hD hS hA [0, 1, 2, 3] [] rfl rfl (by decide) (by decide) (fun r_8 u_10 H locs hr_9 hP hD hS => ?_)
      obtain ⟨z, g⟩ := u_10
      obtain rfl : r_8 = nI z := hr_9.1
      have hL : LH k (hs (Sm (mb G b)) 100000) z g := hr_9.2
      have hL1 := hL.1
      have hP := hP.sub (ws' := [(a5, .inr (5, [.int (nI 0), .int (nI k), .int now, .ref mD, .ref mI, .ref mZ, .int (nI nl), .ref mK, .ref mO, .ref mB, .ref mR, .ref mF, .int kM, .int oM])), (mD, xI cy 600000 G), (mI, xI cy 100000 It), (mK, xI cy 32 g)]) [0, 1, 2, 3] rfl
      have hD := hD.sub (ws' := [(a5, .inr (5, [.int (nI 0), .int (nI k), .int now, .ref mD, .ref mI, .ref mZ, .int (nI nl), .ref mK, .ref mO, .ref mB, .ref mR, .ref mF, .int kM, .int oM])), (mD, xI cy 600000 G), (mI, xI cy 100000 It), (mK, xI cy 32 g)]) [0, 1, 2, 3] (by decide) rfl
      refine lv_goto (tgt := 28) hx hb dX5_kept_24 (by decide) ?_
      exact kret _ g _ _ _ _ _ _ dX5_kept_28 (congrArg nI hL1) hP hD hS (Nat.le_of_ble_eq_true rfl) (Nat.le_of_ble_eq_true rfl)
set_option maxHeartbeats 4000000 in
set_option maxRecDepth 100000 in
theorem m_keptAt (l : Launch) (D : va_G) (cy : Nat → ClassId) (t0 : Nat) (a5 mD mI mZ mK mO mB mR mF k : Nat) (th now kM oM : Int32) (nl : Nat) (b ix : Nat) (fK : Nat → Int32) (G It Zt : Nat → Int32) (lst : Nat → Nat) (hML : ML lst nl It Zt) (hCV : CV G lst nl) (hb6 : b < 6) (hk2 : 2 ≤ k) (hk : k ≤ 32) (hix : ix < min k (cb (hs (Sm (mb G b)) 100000) 16777213)) : xWi (S := Nat → Int32) l yX5_keptAt wsX5_keptAt ({ frames := 3, cells := 0, slots := 0, locals := 71 } : Room) D cy t0 ([.ref a5, .int (nI b), .int (nI ix)]) ([(a5, .inr (5, [.int th, .int (nI k), .int now, .ref mD, .ref mI, .ref mZ, .int (nI nl), .ref mK, .ref mO, .ref mB, .ref mR, .ref mF, .int kM, .int oM])), (mD, xI cy 600000 G), (mI, xI cy 100000 It), (mK, xI cy 32 fK)]) (fun r _ => r = nI (nthB (hs (Sm (mb G b)) 100000) ix 16777213)) (fun u => [(a5, .inr (5, [.int (nI 0), .int (nI k), .int now, .ref mD, .ref mI, .ref mZ, .int (nI nl), .ref mK, .ref mO, .ref mB, .ref mR, .ref mF, .int kM, .int oM])), (mD, xI cy 600000 G), (mI, xI cy 100000 It), (mK, xI cy 32 u)]) 0 0 := by
  refine xofWi (cc := cX5_keptAt) (maxL := 4) (by decide) rfl (Nat.le_of_ble_eq_true rfl) (fun _ _ _ => rfl) ?_
  intro p e s m below meth c Q A ls hx hb hml hts hown hE hA H locs hP hD hl hS kret
  have hl : lv_has ls 4 [(0, .ref a5), (1, .int (nI b)), (2, .int (nI ix))] := hl
  refine lv_iload_n hx hb dX5_keptAt_0 rfl (lv_at hl 1 rfl) ?_
  refine xcRi (va_runS (As := [.int (nI b)]) (rest := []) ⟨hx, hb, hml, hown, hts⟩ (m_isBasket l D cy t0 (nI b)) (va_cwS 1 hts gX5_keptAt_X5_isBasket rfl rfl rfl (by decide +kernel) ⟨Nat.le_of_ble_eq_true rfl, Nat.le_of_ble_eq_true rfl⟩) (xPr.give (wc := []) hE hS hP [] rfl) rfl rfl hl.1 rfl (lv_room (Nat.le_of_ble_eq_true rfl)) dX5_keptAt_1 ⟨(Nat.zero_le _), (Nat.zero_le _)⟩) (fun r_1 hr_2 => ?_)
  obtain rfl : r_1 = nI 1 := by rw [hr_2, isBk_lt hb6]; rfl
  refine xb_if_eq (tgt := 15) (a := 1) (by omega) hx hb dX5_keptAt_4 (by decide) (fun c_3 => ?_) (fun c_3 => ?_)
  · exact absurd c_3 (by omega)
  · refine lv_aload_n hx hb dX5_keptAt_7 rfl (lv_at hl 0 rfl) ?_
    refine lv_iload_n hx hb dX5_keptAt_8 rfl (lv_at hl 1 rfl) ?_
    refine xcWi (wr := []) (va_runV (As := [.int (nI b)]) (rest := []) ⟨hx, hb, hml, hown, hts⟩ ((m_layKept l D cy t0 a5 mD mI mZ mK mO mB mR mF k th now kM oM nl b fK G It Zt lst hML hCV hb6 hk2 hk) H.size) (cwV 1 hts gX5_keptAt_X5_layKept rfl rfl rfl (by decide +kernel) ⟨Nat.le_of_ble_eq_true rfl, Nat.le_of_ble_eq_true rfl⟩) (xPw.giveV (wc := [(a5, .inr (5, [.int th, .int (nI k), .int now, .ref mD, .ref mI, .ref mZ, .int (nI nl), .ref mK, .ref mO, .ref mB, .ref mR, .ref mF, .int kM, .int oM])), (mD, xI cy 600000 G), (mI, xI cy 100000 It), (mK, xI cy 32 fK)]) hE hS hA hP hD [0, 1, 2, 3] (by decide) rfl 0 5 rfl rfl) rfl rfl hl.1 rfl (lv_room (Nat.le_of_ble_eq_true rfl)) dX5_keptAt_9 ⟨(Nat.zero_le _), (Nat.zero_le _)⟩) hP hD hS hA [0, 1, 2, 3] [] rfl rfl (by decide) (by decide) (fun r_4 u_6 H locs hr_5 hP hD hS => ?_)
    obtain ⟨z, g⟩ := u_6
    obtain rfl : r_4 = nI z := hr_5.1
    have hL : LH k (hs (Sm (mb G b)) 100000) z g := hr_5.2
    have hL1 := hL.1
    have hP := hP.sub (ws' := [(a5, .inr (5, [.int th, .int (nI k), .int now, .ref mD, .ref mI, .ref mZ, .int (nI nl), .ref mK, .ref mO, .ref mB, .ref mR, .ref mF, .int kM, .int oM])), (mD, xI cy 600000 G), (mI, xI cy 100000 It), (mK, xI cy 32 g)]) [0, 1, 2, 3] rfl
    have hD := hD.sub (ws' := [(a5, .inr (5, [.int th, .int (nI k), .int now, .ref mD, .ref mI, .ref mZ, .int (nI nl), .ref mK, .ref mO, .ref mB, .ref mR, .ref mF, .int kM, .int oM])), (mD, xI cy 600000 G), (mI, xI cy 100000 It), (mK, xI cy 32 g)]) [0, 1, 2, 3] (by decide) rfl
    refine lv_goto (tgt := 16) hx hb dX5_keptAt_12 (by decide) ?_
    refine lv_istore_n (lv' := [(3, .int (nI z)), (0, .ref a5), (1, .int (nI b)), (2, .int (nI ix))]) hx hb dX5_keptAt_16 rfl hl (by decide) rfl (fun ls hl => ?_)
    refine lv_aload_n hx hb dX5_keptAt_17 rfl (lv_at hl 1 rfl) ?_
    refine lv_iload_n hx hb dX5_keptAt_18 rfl (lv_at hl 3 rfl) ?_
    refine xb_if_lt (tgt := 31) (a := ix) (by omega) hx hb dX5_keptAt_19 (by decide) (fun c_7 => ?_) (fun c_7 => ?_)
    · exact c_7.elim
    · refine lv_iload_n hx hb dX5_keptAt_22 rfl (lv_at hl 3 rfl) ?_
      refine lv_iload_n hx hb dX5_keptAt_23 rfl (lv_at hl 0 rfl) ?_
      refine xb_icmp_ge (tgt := 31) (a := ix) (b := z) (by omega) (by omega) hx hb dX5_keptAt_24 (by decide) (fun c_8 => ?_) (fun c_8 => ?_)
      · exact absurd c_8 (by omega)
      · refine lv_iconst (v := nI 0) hx hb dX5_keptAt_27 (by decide) ?_
        refine lv_goto (tgt := 32) hx hb dX5_keptAt_28 (by decide) ?_
        refine xcWi (wr := [(mD, xI cy 600000 G), (mI, xI cy 100000 It), (mK, xI cy 32 g)]) (va_runV (As := [.int (nI 0)]) (rest := []) ⟨hx, hb, hml, hown, hts⟩ ((m_goesWell l D cy t0 a5 mD mI mZ mK mO mB mR mF k th now (nI nl) kM oM 0 (by omega)) H.size) (cwV 1 hts gX5_keptAt_X5_goesWell rfl rfl rfl (by decide +kernel) ⟨Nat.le_of_ble_eq_true rfl, Nat.le_of_ble_eq_true rfl⟩) (xPw.giveV (wc := [(a5, .inr (5, [.int th, .int (nI k), .int now, .ref mD, .ref mI, .ref mZ, .int (nI nl), .ref mK, .ref mO, .ref mB, .ref mR, .ref mF, .int kM, .int oM]))]) hE hS hA hP hD [0] (by decide) rfl 0 5 rfl rfl) rfl rfl hl.1 rfl (lv_room (Nat.le_of_ble_eq_true rfl)) dX5_keptAt_32 ⟨(Nat.zero_le _), (Nat.zero_le _)⟩) hP hD hS hA [0] [1, 2, 3] rfl rfl (by decide) (by decide) (fun r_9 u_11 H locs hr_10 hP hD hS => ?_)
        obtain rfl : r_9 = nI 1 := by rw [hr_10]; rfl
        have hP := hP.sub (ws' := [(a5, .inr (5, [.int (nI 0), .int (nI k), .int now, .ref mD, .ref mI, .ref mZ, .int (nI nl), .ref mK, .ref mO, .ref mB, .ref mR, .ref mF, .int kM, .int oM])), (mD, xI cy 600000 G), (mI, xI cy 100000 It), (mK, xI cy 32 g)]) [3, 0, 1, 2] rfl
        have hD := hD.sub (ws' := [(a5, .inr (5, [.int (nI 0), .int (nI k), .int now, .ref mD, .ref mI, .ref mZ, .int (nI nl), .ref mK, .ref mO, .ref mB, .ref mR, .ref mF, .int kM, .int oM])), (mD, xI cy 600000 G), (mI, xI cy 100000 It), (mK, xI cy 32 g)]) [3, 0, 1, 2] (by decide) rfl
        refine xb_if_eq (tgt := 47) (a := 1) (by omega) hx hb dX5_keptAt_35 (by decide) (fun c_12 => ?_) (fun c_12 => ?_)
        · exact absurd c_12 (by omega)
        · refine lv_aload_n hx hb dX5_keptAt_38 rfl (lv_at hl 1 rfl) ?_
          refine va_get (D := D) (ci := 5) (v := .ref mK) (C := RX5) (T := TX5) (N := 14) hx hb hts (by decide +kernel) hown hE.1 hP 0 rfl rfl 7 (by decide) (hts (.fieldLink RX5 22 "DistinctDaleModel" "kept" "[I") (by decide +kernel)) (fun _ h9 => h9) rfl dX5_keptAt_39 ?_
          refine lv_iload_n hx hb dX5_keptAt_42 rfl (lv_at hl 3 rfl) ?_
          obtain ⟨t, ht1, ht2, ht3, ht4⟩ := hL.at (j := ix) (by omega)
          refine va_iald (D := D) hx hb hE.1 hP 3 0 rfl rfl (vp_in_nI (by omega) (by omega)) dX5_keptAt_43 ?_
          refine lv_eqi (z := nI t) (by rw [nI_clamp (by omega)]; exact ht4) ?_
          refine lv_goto (tgt := 48) hx hb dX5_keptAt_44 (by decide) ?_
          exact kret _ g _ _ _ _ _ _ dX5_keptAt_48 (congrArg nI (nthB_eq ht1 ht2 ht3).symm) hP hD hS (Nat.le_of_ble_eq_true rfl) (Nat.le_of_ble_eq_true rfl)
set_option maxHeartbeats 4000000 in
set_option maxRecDepth 100000 in
theorem m_byLeast (l : Launch) (D : va_G) (cy : Nat → ClassId) (t0 : Nat) (a5 mD mI mZ mK mO mB mR mF k : Nat) (th now kM oM : Int32) (nl : Nat) (b : Nat) (fK : Nat → Int32) (G It Zt : Nat → Int32) (lst : Nat → Nat) (hML : ML lst nl It Zt) (hCV : CV G lst nl) (hb6 : b < 6) (hk2 : 2 ≤ k) (hk : k ≤ 32) : xWi (S := Nat → Int32) l yX5_byLeast wsX5_byLeast ({ frames := 3, cells := 0, slots := 0, locals := 71 } : Room) D cy t0 ([.ref a5, .int (nI b)]) ([(a5, .inr (5, [.int th, .int (nI k), .int now, .ref mD, .ref mI, .ref mZ, .int (nI nl), .ref mK, .ref mO, .ref mB, .ref mR, .ref mF, .int kM, .int oM])), (mD, xI cy 600000 G), (mI, xI cy 100000 It), (mK, xI cy 32 fK)]) (fun r _ => r = nI (estV k (hs (Sm (mb G b)) 100000))) (fun u => [(a5, .inr (5, [.int (nI 0), .int (nI k), .int now, .ref mD, .ref mI, .ref mZ, .int (nI nl), .ref mK, .ref mO, .ref mB, .ref mR, .ref mF, .int kM, .int oM])), (mD, xI cy 600000 G), (mI, xI cy 100000 It), (mK, xI cy 32 u)]) 0 0 := by
  refine xofWi (cc := cX5_byLeast) (maxL := 3) (by decide) rfl (Nat.le_of_ble_eq_true rfl) (fun _ _ _ => rfl) ?_
  intro p e s m below meth c Q A ls hx hb hml hts hown hE hA H locs hP hD hl hS kret
  have hl : lv_has ls 3 [(0, .ref a5), (1, .int (nI b))] := hl
  refine lv_aload_n hx hb dX5_byLeast_0 rfl (lv_at hl 0 rfl) ?_
  refine lv_iload_n hx hb dX5_byLeast_1 rfl (lv_at hl 1 rfl) ?_
  refine xcRi (va_runS (As := [.int (nI b)]) (rest := [.ref a5]) ⟨hx, hb, hml, hown, hts⟩ (m_isBasket l D cy t0 (nI b)) (va_cwS 1 hts gX5_byLeast_X5_isBasket rfl rfl rfl (by decide +kernel) ⟨Nat.le_of_ble_eq_true rfl, Nat.le_of_ble_eq_true rfl⟩) (xPr.give (wc := []) hE hS hP [] rfl) rfl rfl hl.1 rfl (lv_room (Nat.le_of_ble_eq_true rfl)) dX5_byLeast_2 ⟨(Nat.zero_le _), (Nat.zero_le _)⟩) (fun r_1 hr_2 => ?_)
  obtain rfl : r_1 = nI 1 := by rw [hr_2, isBk_lt hb6]; rfl
  refine xb_if_eq (tgt := 12) (a := 1) (by omega) hx hb dX5_byLeast_5 (by decide) (fun c_3 => ?_) (fun c_3 => ?_)
  · exact absurd c_3 (by omega)
  · refine lv_iconst (v := nI 0) hx hb dX5_byLeast_8 (by decide) ?_
    refine lv_goto (tgt := 13) hx hb dX5_byLeast_9 (by decide) ?_
    refine xcWi (wr := [(mD, xI cy 600000 G), (mI, xI cy 100000 It), (mK, xI cy 32 fK)]) (va_runV (As := [.int (nI 0)]) (rest := []) ⟨hx, hb, hml, hown, hts⟩ ((m_goesWell l D cy t0 a5 mD mI mZ mK mO mB mR mF k th now (nI nl) kM oM 0 (by omega)) H.size) (cwV 1 hts gX5_byLeast_X5_goesWell rfl rfl rfl (by decide +kernel) ⟨Nat.le_of_ble_eq_true rfl, Nat.le_of_ble_eq_true rfl⟩) (xPw.giveV (wc := [(a5, .inr (5, [.int th, .int (nI k), .int now, .ref mD, .ref mI, .ref mZ, .int (nI nl), .ref mK, .ref mO, .ref mB, .ref mR, .ref mF, .int kM, .int oM]))]) hE hS hA hP hD [0] (by decide) rfl 0 5 rfl rfl) rfl rfl hl.1 rfl (lv_room (Nat.le_of_ble_eq_true rfl)) dX5_byLeast_13 ⟨(Nat.zero_le _), (Nat.zero_le _)⟩) hP hD hS hA [0] [1, 2, 3] rfl rfl (by decide) (by decide) (fun r_4 u_6 H locs hr_5 hP hD hS => ?_)
    obtain rfl : r_4 = nI 1 := by rw [hr_5]; rfl
    have hP := hP.sub (ws' := [(a5, .inr (5, [.int (nI 0), .int (nI k), .int now, .ref mD, .ref mI, .ref mZ, .int (nI nl), .ref mK, .ref mO, .ref mB, .ref mR, .ref mF, .int kM, .int oM])), (mD, xI cy 600000 G), (mI, xI cy 100000 It), (mK, xI cy 32 fK)]) [3, 0, 1, 2] rfl
    have hD := hD.sub (ws' := [(a5, .inr (5, [.int (nI 0), .int (nI k), .int now, .ref mD, .ref mI, .ref mZ, .int (nI nl), .ref mK, .ref mO, .ref mB, .ref mR, .ref mF, .int kM, .int oM])), (mD, xI cy 600000 G), (mI, xI cy 100000 It), (mK, xI cy 32 fK)]) [3, 0, 1, 2] (by decide) rfl
    refine xb_if_ne (tgt := 21) (a := 1) (by omega) hx hb dX5_byLeast_16 (by decide) (fun c_7 => ?_) (fun c_7 => ?_)
    · refine lv_aload_n hx hb dX5_byLeast_21 rfl (lv_at hl 0 rfl) ?_
      refine lv_iload_n hx hb dX5_byLeast_22 rfl (lv_at hl 1 rfl) ?_
      refine xcWi (wr := []) (va_runV (As := [.int (nI b)]) (rest := []) ⟨hx, hb, hml, hown, hts⟩ ((m_layKept l D cy t0 a5 mD mI mZ mK mO mB mR mF k (nI 0) now kM oM nl b fK G It Zt lst hML hCV hb6 hk2 hk) H.size) (cwV 1 hts gX5_byLeast_X5_layKept rfl rfl rfl (by decide +kernel) ⟨Nat.le_of_ble_eq_true rfl, Nat.le_of_ble_eq_true rfl⟩) (xPw.giveV (wc := [(a5, .inr (5, [.int (nI 0), .int (nI k), .int now, .ref mD, .ref mI, .ref mZ, .int (nI nl), .ref mK, .ref mO, .ref mB, .ref mR, .ref mF, .int kM, .int oM])), (mD, xI cy 600000 G), (mI, xI cy 100000 It), (mK, xI cy 32 fK)]) hE hS hA hP hD [0, 1, 2, 3] (by decide) rfl 0 5 rfl rfl) rfl rfl hl.1 rfl (lv_room (Nat.le_of_ble_eq_true rfl)) dX5_byLeast_23 ⟨(Nat.zero_le _), (Nat.zero_le _)⟩) hP hD hS hA [0, 1, 2, 3] [] rfl rfl (by decide) (by decide) (fun r_8 u_10 H locs hr_9 hP hD hS => ?_)
      obtain ⟨z, g⟩ := u_10
      obtain rfl : r_8 = nI z := hr_9.1
      have hL : LH k (hs (Sm (mb G b)) 100000) z g := hr_9.2
      have hL1 := hL.1
      have hP := hP.sub (ws' := [(a5, .inr (5, [.int (nI 0), .int (nI k), .int now, .ref mD, .ref mI, .ref mZ, .int (nI nl), .ref mK, .ref mO, .ref mB, .ref mR, .ref mF, .int kM, .int oM])), (mD, xI cy 600000 G), (mI, xI cy 100000 It), (mK, xI cy 32 g)]) [0, 1, 2, 3] rfl
      have hD := hD.sub (ws' := [(a5, .inr (5, [.int (nI 0), .int (nI k), .int now, .ref mD, .ref mI, .ref mZ, .int (nI nl), .ref mK, .ref mO, .ref mB, .ref mR, .ref mF, .int kM, .int oM])), (mD, xI cy 600000 G), (mI, xI cy 100000 It), (mK, xI cy 32 g)]) [0, 1, 2, 3] (by decide) rfl
      refine lv_istore_n (lv' := [(2, .int (nI z)), (0, .ref a5), (1, .int (nI b))]) hx hb dX5_byLeast_26 rfl hl (by decide) rfl (fun ls hl => ?_)
      refine lv_aload_n hx hb dX5_byLeast_27 rfl (lv_at hl 1 rfl) ?_
      refine lv_iload_n hx hb dX5_byLeast_28 rfl (lv_at hl 0 rfl) ?_
      refine lv_iload_n hx hb dX5_byLeast_29 rfl (lv_at hl 0 rfl) ?_
      refine xb_if_ne (tgt := 37) (a := z) (by omega) hx hb dX5_byLeast_30 (by decide) (fun c_11 => ?_) (fun c_11 => ?_)
      · obtain ⟨t, ht1, ht2, ht3, ht4⟩ := hL.at (j := z - 1) (by omega)
        refine lv_aload_n hx hb dX5_byLeast_37 rfl (lv_at hl 1 rfl) ?_
        refine va_get (D := D) (ci := 5) (v := .ref mK) (C := RX5) (T := TX5) (N := 14) hx hb hts (by decide +kernel) hown hE.1 hP 0 rfl rfl 7 (by decide) (hts (.fieldLink RX5 22 "DistinctDaleModel" "kept" "[I") (by decide +kernel)) (fun _ h9 => h9) rfl dX5_byLeast_38 ?_
        refine lv_iload_n hx hb dX5_byLeast_41 rfl (lv_at hl 0 rfl) ?_
        refine lv_iconst (v := nI 1) hx hb dX5_byLeast_42 (by decide) ?_
        refine lv_isub hx hb dX5_byLeast_43 ?_
        refine lv_eqi (z := nI (z - 1)) (pk_sub (by omega)) ?_
        refine va_iald (D := D) hx hb hE.1 hP 3 0 rfl rfl (vp_in_nI (by omega) (by omega)) dX5_byLeast_44 ?_
        refine lv_eqi (z := nI t) (by rw [nI_clamp (by omega)]; exact ht4) ?_
        refine xcRl (va_runV (As := [.int (nI z), .int (nI t)]) (rest := []) ⟨hx, hb, hml, hown, hts⟩ (m_est l D cy t0 a5 mD mI mZ mK mO mB mR mF k (nI 0) now (nI nl) kM oM z t hk2 hk (by omega) (fun q => by have := cb_le (P := (hs (Sm (mb G b)) 100000)) (n := t); omega) (by omega)) (cwV 2 hts gX5_byLeast_X5_estimate rfl rfl rfl (by decide +kernel) ⟨Nat.le_of_ble_eq_true rfl, Nat.le_of_ble_eq_true rfl⟩) (xPr.giveV (wc := [(a5, .inr (5, [.int (nI 0), .int (nI k), .int now, .ref mD, .ref mI, .ref mZ, .int (nI nl), .ref mK, .ref mO, .ref mB, .ref mR, .ref mF, .int kM, .int oM]))]) hE hS hP [0] rfl 0 5 rfl rfl) rfl rfl hl.1 rfl (lv_room (Nat.le_of_ble_eq_true rfl)) dX5_byLeast_45 ⟨(Nat.zero_le _), (Nat.zero_le _)⟩) (fun r_12 hr_13 => ?_)
        refine lv_eql (z := lN (estV k (hs (Sm (mb G b)) 100000))) (hr_13.trans (congrArg lN (est_eq hL (by omega) ht1 ht2 ht3))) ?_
        refine lv_l2i (v := nI (estV k (hs (Sm (mb G b)) 100000))) hx hb dX5_byLeast_48 (lN_i _) ?_
        exact kret _ g _ _ _ _ _ _ dX5_byLeast_49 rfl hP hD hS (Nat.le_of_ble_eq_true rfl) (Nat.le_of_ble_eq_true rfl)
      · have hz0 : z = 0 := c_11
        refine lv_iconst (v := nI 1) hx hb dX5_byLeast_33 (by decide) ?_
        refine lv_goto (tgt := 45) hx hb dX5_byLeast_34 (by decide) ?_
        refine xcRl (va_runV (As := [.int (nI z), .int (nI 1)]) (rest := []) ⟨hx, hb, hml, hown, hts⟩ (m_est l D cy t0 a5 mD mI mZ mK mO mB mR mF k (nI 0) now (nI nl) kM oM z 1 hk2 hk (by omega) (fun q => by omega) (by omega)) (cwV 2 hts gX5_byLeast_X5_estimate rfl rfl rfl (by decide +kernel) ⟨Nat.le_of_ble_eq_true rfl, Nat.le_of_ble_eq_true rfl⟩) (xPr.giveV (wc := [(a5, .inr (5, [.int (nI 0), .int (nI k), .int now, .ref mD, .ref mI, .ref mZ, .int (nI nl), .ref mK, .ref mO, .ref mB, .ref mR, .ref mF, .int kM, .int oM]))]) hE hS hP [0] rfl 0 5 rfl rfl) rfl rfl hl.1 rfl (lv_room (Nat.le_of_ble_eq_true rfl)) dX5_byLeast_45 ⟨(Nat.zero_le _), (Nat.zero_le _)⟩) (fun r_14 hr_15 => ?_)
        refine lv_eql (z := lN (estV k (hs (Sm (mb G b)) 100000))) (hr_15.trans (congrArg lN (by rw [if_pos (by omega), estV_z hL (by omega) (by omega)]; exact hz0))) ?_
        refine lv_l2i (v := nI (estV k (hs (Sm (mb G b)) 100000))) hx hb dX5_byLeast_48 (lN_i _) ?_
        exact kret _ g _ _ _ _ _ _ dX5_byLeast_49 rfl hP hD hS (Nat.le_of_ble_eq_true rfl) (Nat.le_of_ble_eq_true rfl)
    · exact absurd c_7 (by omega)
set_option maxHeartbeats 4000000 in
set_option maxRecDepth 100000 in
theorem m_together (l : Launch) (D : va_G) (cy : Nat → ClassId) (t0 : Nat) (a5 mD mI mZ mK mO mB mR mF k : Nat) (th now kM oM : Int32) (nl : Nat) (b b2 : Nat) (fK fO fB : Nat → Int32) (G It Zt : Nat → Int32) (lst : Nat → Nat) (hML : ML lst nl It Zt) (hCV : CV G lst nl) (hb6 : b < 6) (hb62 : b2 < 6) (hk2 : 2 ≤ k) (hk : k ≤ 32) : xWi (S := Nat × (Nat → Int32) × Nat × (Nat → Int32) × Nat × (Nat → Int32)) l yX5_together wsX5_together ({ frames := 5, cells := 0, slots := 0, locals := 127 } : Room) D cy t0 ([.ref a5, .int (nI b), .int (nI b2)]) ([(a5, .inr (5, [.int th, .int (nI k), .int now, .ref mD, .ref mI, .ref mZ, .int (nI nl), .ref mK, .ref mO, .ref mB, .ref mR, .ref mF, .int kM, .int oM])), (mD, xI cy 600000 G), (mI, xI cy 100000 It), (mK, xI cy 32 fK), (mO, xI cy 32 fO), (mB, xI cy 32 fB)]) (fun r _ => r = nI (estV k (uH k (hs (Sm (mb G b)) 100000) (hs (Sm (mb G b2)) 100000)))) (fun u => [(a5, .inr (5, [.int (nI 0), .int (nI k), .int now, .ref mD, .ref mI, .ref mZ, .int (nI nl), .ref mK, .ref mO, .ref mB, .ref mR, .ref mF, .int (nI u.1), .int (nI u.2.2.1)])), (mD, xI cy 600000 G), (mI, xI cy 100000 It), (mK, xI cy 32 u.2.1), (mO, xI cy 32 u.2.2.2.1), (mB, xI cy 32 u.2.2.2.2.2)]) 0 0 := by
  refine xofWi (cc := cX5_together) (maxL := 3) (by decide) rfl (Nat.le_of_ble_eq_true rfl) (fun _ _ _ => rfl) ?_
  intro p e s m below meth c Q A ls hx hb hml hts hown hE hA H locs hP hD hl hS kret
  have hl : lv_has ls 3 [(0, .ref a5), (1, .int (nI b)), (2, .int (nI b2))] := hl
  refine lv_aload_n hx hb dX5_together_0 rfl (lv_at hl 0 rfl) ?_
  refine lv_iload_n hx hb dX5_together_1 rfl (lv_at hl 1 rfl) ?_
  refine xcRi (va_runS (As := [.int (nI b)]) (rest := [.ref a5]) ⟨hx, hb, hml, hown, hts⟩ (m_isBasket l D cy t0 (nI b)) (va_cwS 1 hts gX5_together_X5_isBasket rfl rfl rfl (by decide +kernel) ⟨Nat.le_of_ble_eq_true rfl, Nat.le_of_ble_eq_true rfl⟩) (xPr.give (wc := []) hE hS hP [] rfl) rfl rfl hl.1 rfl (lv_room (Nat.le_of_ble_eq_true rfl)) dX5_together_2 ⟨(Nat.zero_le _), (Nat.zero_le _)⟩) (fun r_1 hr_2 => ?_)
  obtain rfl : r_1 = nI 1 := by rw [hr_2, isBk_lt hb6]; rfl
  refine xb_if_eq (tgt := 19) (a := 1) (by omega) hx hb dX5_together_5 (by decide) (fun c_3 => ?_) (fun c_3 => ?_)
  · exact absurd c_3 (by omega)
  · refine lv_iload_n hx hb dX5_together_8 rfl (lv_at hl 2 rfl) ?_
    refine xcRi (va_runS (As := [.int (nI b2)]) (rest := [.ref a5]) ⟨hx, hb, hml, hown, hts⟩ (m_isBasket l D cy t0 (nI b2)) (va_cwS 1 hts gX5_together_X5_isBasket rfl rfl rfl (by decide +kernel) ⟨Nat.le_of_ble_eq_true rfl, Nat.le_of_ble_eq_true rfl⟩) (xPr.give (wc := []) hE hS hP [] rfl) rfl rfl hl.1 rfl (lv_room (Nat.le_of_ble_eq_true rfl)) dX5_together_9 ⟨(Nat.zero_le _), (Nat.zero_le _)⟩) (fun r_4 hr_5 => ?_)
    obtain rfl : r_4 = nI 1 := by rw [hr_5, isBk_lt hb62]; rfl
    refine xb_if_eq (tgt := 19) (a := 1) (by omega) hx hb dX5_together_12 (by decide) (fun c_6 => ?_) (fun c_6 => ?_)
    · exact absurd c_6 (by omega)
    · refine lv_iconst (v := nI 0) hx hb dX5_together_15 (by decide) ?_
      refine lv_goto (tgt := 20) hx hb dX5_together_16 (by decide) ?_
      refine xcWi (wr := [(mD, xI cy 600000 G), (mI, xI cy 100000 It), (mK, xI cy 32 fK), (mO, xI cy 32 fO), (mB, xI cy 32 fB)]) (va_runV (As := [.int (nI 0)]) (rest := []) ⟨hx, hb, hml, hown, hts⟩ ((m_goesWell l D cy t0 a5 mD mI mZ mK mO mB mR mF k th now (nI nl) kM oM 0 (by omega)) H.size) (cwV 1 hts gX5_together_X5_goesWell rfl rfl rfl (by decide +kernel) ⟨Nat.le_of_ble_eq_true rfl, Nat.le_of_ble_eq_true rfl⟩) (xPw.giveV (wc := [(a5, .inr (5, [.int th, .int (nI k), .int now, .ref mD, .ref mI, .ref mZ, .int (nI nl), .ref mK, .ref mO, .ref mB, .ref mR, .ref mF, .int kM, .int oM]))]) hE hS hA hP hD [0] (by decide) rfl 0 5 rfl rfl) rfl rfl hl.1 rfl (lv_room (Nat.le_of_ble_eq_true rfl)) dX5_together_20 ⟨(Nat.zero_le _), (Nat.zero_le _)⟩) hP hD hS hA [0] [1, 2, 3, 4, 5] rfl rfl (by decide) (by decide) (fun r_7 u_9 H locs hr_8 hP hD hS => ?_)
      obtain rfl : r_7 = nI 1 := by rw [hr_8]; rfl
      have hP := hP.sub (ws' := [(a5, .inr (5, [.int (nI 0), .int (nI k), .int now, .ref mD, .ref mI, .ref mZ, .int (nI nl), .ref mK, .ref mO, .ref mB, .ref mR, .ref mF, .int kM, .int oM])), (mD, xI cy 600000 G), (mI, xI cy 100000 It), (mK, xI cy 32 fK), (mO, xI cy 32 fO), (mB, xI cy 32 fB)]) [5, 0, 1, 2, 3, 4] rfl
      have hD := hD.sub (ws' := [(a5, .inr (5, [.int (nI 0), .int (nI k), .int now, .ref mD, .ref mI, .ref mZ, .int (nI nl), .ref mK, .ref mO, .ref mB, .ref mR, .ref mF, .int kM, .int oM])), (mD, xI cy 600000 G), (mI, xI cy 100000 It), (mK, xI cy 32 fK), (mO, xI cy 32 fO), (mB, xI cy 32 fB)]) [5, 0, 1, 2, 3, 4] (by decide) rfl
      refine xb_if_eq (tgt := 36) (a := 1) (by omega) hx hb dX5_together_23 (by decide) (fun c_10 => ?_) (fun c_10 => ?_)
      · exact absurd c_10 (by omega)
      · refine lv_aload_n hx hb dX5_together_26 rfl (lv_at hl 0 rfl) ?_
        refine lv_iload_n hx hb dX5_together_27 rfl (lv_at hl 1 rfl) ?_
        refine lv_iload_n hx hb dX5_together_28 rfl (lv_at hl 2 rfl) ?_
        refine lv_iconst (v := nI 0) hx hb dX5_together_29 (by decide) ?_
        refine xcWi (wr := []) (va_runV (As := [.int (nI b), .int (nI b2), .int (nI 0)]) (rest := []) ⟨hx, hb, hml, hown, hts⟩ ((m_share0 l D cy t0 a5 mD mI mZ mK mO mB mR mF k (nI 0) now kM oM nl b b2 fK fO fB G It Zt lst hML hCV hb6 hb62 hk2 hk) H.size) (cwV 3 hts gX5_together_X5_share rfl rfl rfl (by decide +kernel) ⟨Nat.le_of_ble_eq_true rfl, Nat.le_of_ble_eq_true rfl⟩) (xPw.giveV (wc := [(a5, .inr (5, [.int (nI 0), .int (nI k), .int now, .ref mD, .ref mI, .ref mZ, .int (nI nl), .ref mK, .ref mO, .ref mB, .ref mR, .ref mF, .int kM, .int oM])), (mD, xI cy 600000 G), (mI, xI cy 100000 It), (mK, xI cy 32 fK), (mO, xI cy 32 fO), (mB, xI cy 32 fB)]) hE hS hA hP hD [0, 1, 2, 3, 4, 5] (by decide) rfl 0 5 rfl rfl) rfl rfl hl.1 rfl (lv_room (Nat.le_of_ble_eq_true rfl)) dX5_together_30 ⟨(Nat.zero_le _), (Nat.zero_le _)⟩) hP hD hS hA [0, 1, 2, 3, 4, 5] [] rfl rfl (by decide) (by decide) (fun r_11 u_13 H locs hr_12 hP hD hS => ?_)
        obtain ⟨z1, g1, z2, g2, zB, gB⟩ := u_13
        obtain rfl : r_11 = nI (estV k (uH k (hs (Sm (mb G b)) 100000) (hs (Sm (mb G b2)) 100000))) := hr_12
        have hP := hP.sub (ws' := [(a5, .inr (5, [.int (nI 0), .int (nI k), .int now, .ref mD, .ref mI, .ref mZ, .int (nI nl), .ref mK, .ref mO, .ref mB, .ref mR, .ref mF, .int (nI z1), .int (nI z2)])), (mD, xI cy 600000 G), (mI, xI cy 100000 It), (mK, xI cy 32 g1), (mO, xI cy 32 g2), (mB, xI cy 32 gB)]) [0, 1, 2, 3, 4, 5] rfl
        have hD := hD.sub (ws' := [(a5, .inr (5, [.int (nI 0), .int (nI k), .int now, .ref mD, .ref mI, .ref mZ, .int (nI nl), .ref mK, .ref mO, .ref mB, .ref mR, .ref mF, .int (nI z1), .int (nI z2)])), (mD, xI cy 600000 G), (mI, xI cy 100000 It), (mK, xI cy 32 g1), (mO, xI cy 32 g2), (mB, xI cy 32 gB)]) [0, 1, 2, 3, 4, 5] (by decide) rfl
        refine lv_goto (tgt := 37) hx hb dX5_together_33 (by decide) ?_
        exact kret _ (z1, g1, z2, g2, zB, gB) _ _ _ _ _ _ dX5_together_37 rfl hP hD hS (Nat.le_of_ble_eq_true rfl) (Nat.le_of_ble_eq_true rfl)
set_option maxHeartbeats 4000000 in
set_option maxRecDepth 100000 in
theorem m_common (l : Launch) (D : va_G) (cy : Nat → ClassId) (t0 : Nat) (a5 mD mI mZ mK mO mB mR mF k : Nat) (th now kM oM : Int32) (nl : Nat) (b b2 : Nat) (fK fO fB : Nat → Int32) (G It Zt : Nat → Int32) (lst : Nat → Nat) (hML : ML lst nl It Zt) (hCV : CV G lst nl) (hb6 : b < 6) (hb62 : b2 < 6) (hk2 : 2 ≤ k) (hk : k ≤ 32) : xWi (S := Nat × (Nat → Int32) × Nat × (Nat → Int32) × Nat × (Nat → Int32)) l yX5_common wsX5_common ({ frames := 5, cells := 0, slots := 0, locals := 127 } : Room) D cy t0 ([.ref a5, .int (nI b), .int (nI b2)]) ([(a5, .inr (5, [.int th, .int (nI k), .int now, .ref mD, .ref mI, .ref mZ, .int (nI nl), .ref mK, .ref mO, .ref mB, .ref mR, .ref mF, .int kM, .int oM])), (mD, xI cy 600000 G), (mI, xI cy 100000 It), (mK, xI cy 32 fK), (mO, xI cy 32 fO), (mB, xI cy 32 fB)]) (fun r _ => r = nI (partV k (uH k (hs (Sm (mb G b)) 100000) (hs (Sm (mb G b2)) 100000)) (cntV k (uH k (hs (Sm (mb G b)) 100000) (hs (Sm (mb G b2)) 100000)) (inT k (hs (Sm (mb G b)) 100000) (hs (Sm (mb G b2)) 100000))))) (fun u => [(a5, .inr (5, [.int (nI 0), .int (nI k), .int now, .ref mD, .ref mI, .ref mZ, .int (nI nl), .ref mK, .ref mO, .ref mB, .ref mR, .ref mF, .int (nI u.1), .int (nI u.2.2.1)])), (mD, xI cy 600000 G), (mI, xI cy 100000 It), (mK, xI cy 32 u.2.1), (mO, xI cy 32 u.2.2.2.1), (mB, xI cy 32 u.2.2.2.2.2)]) 0 0 := by
  refine xofWi (cc := cX5_common) (maxL := 3) (by decide) rfl (Nat.le_of_ble_eq_true rfl) (fun _ _ _ => rfl) ?_
  intro p e s m below meth c Q A ls hx hb hml hts hown hE hA H locs hP hD hl hS kret
  have hl : lv_has ls 3 [(0, .ref a5), (1, .int (nI b)), (2, .int (nI b2))] := hl
  refine lv_aload_n hx hb dX5_common_0 rfl (lv_at hl 0 rfl) ?_
  refine lv_iload_n hx hb dX5_common_1 rfl (lv_at hl 1 rfl) ?_
  refine xcRi (va_runS (As := [.int (nI b)]) (rest := [.ref a5]) ⟨hx, hb, hml, hown, hts⟩ (m_isBasket l D cy t0 (nI b)) (va_cwS 1 hts gX5_common_X5_isBasket rfl rfl rfl (by decide +kernel) ⟨Nat.le_of_ble_eq_true rfl, Nat.le_of_ble_eq_true rfl⟩) (xPr.give (wc := []) hE hS hP [] rfl) rfl rfl hl.1 rfl (lv_room (Nat.le_of_ble_eq_true rfl)) dX5_common_2 ⟨(Nat.zero_le _), (Nat.zero_le _)⟩) (fun r_1 hr_2 => ?_)
  obtain rfl : r_1 = nI 1 := by rw [hr_2, isBk_lt hb6]; rfl
  refine xb_if_eq (tgt := 19) (a := 1) (by omega) hx hb dX5_common_5 (by decide) (fun c_3 => ?_) (fun c_3 => ?_)
  · exact absurd c_3 (by omega)
  · refine lv_iload_n hx hb dX5_common_8 rfl (lv_at hl 2 rfl) ?_
    refine xcRi (va_runS (As := [.int (nI b2)]) (rest := [.ref a5]) ⟨hx, hb, hml, hown, hts⟩ (m_isBasket l D cy t0 (nI b2)) (va_cwS 1 hts gX5_common_X5_isBasket rfl rfl rfl (by decide +kernel) ⟨Nat.le_of_ble_eq_true rfl, Nat.le_of_ble_eq_true rfl⟩) (xPr.give (wc := []) hE hS hP [] rfl) rfl rfl hl.1 rfl (lv_room (Nat.le_of_ble_eq_true rfl)) dX5_common_9 ⟨(Nat.zero_le _), (Nat.zero_le _)⟩) (fun r_4 hr_5 => ?_)
    obtain rfl : r_4 = nI 1 := by rw [hr_5, isBk_lt hb62]; rfl
    refine xb_if_eq (tgt := 19) (a := 1) (by omega) hx hb dX5_common_12 (by decide) (fun c_6 => ?_) (fun c_6 => ?_)
    · exact absurd c_6 (by omega)
    · refine lv_iconst (v := nI 0) hx hb dX5_common_15 (by decide) ?_
      refine lv_goto (tgt := 20) hx hb dX5_common_16 (by decide) ?_
      refine xcWi (wr := [(mD, xI cy 600000 G), (mI, xI cy 100000 It), (mK, xI cy 32 fK), (mO, xI cy 32 fO), (mB, xI cy 32 fB)]) (va_runV (As := [.int (nI 0)]) (rest := []) ⟨hx, hb, hml, hown, hts⟩ ((m_goesWell l D cy t0 a5 mD mI mZ mK mO mB mR mF k th now (nI nl) kM oM 0 (by omega)) H.size) (cwV 1 hts gX5_common_X5_goesWell rfl rfl rfl (by decide +kernel) ⟨Nat.le_of_ble_eq_true rfl, Nat.le_of_ble_eq_true rfl⟩) (xPw.giveV (wc := [(a5, .inr (5, [.int th, .int (nI k), .int now, .ref mD, .ref mI, .ref mZ, .int (nI nl), .ref mK, .ref mO, .ref mB, .ref mR, .ref mF, .int kM, .int oM]))]) hE hS hA hP hD [0] (by decide) rfl 0 5 rfl rfl) rfl rfl hl.1 rfl (lv_room (Nat.le_of_ble_eq_true rfl)) dX5_common_20 ⟨(Nat.zero_le _), (Nat.zero_le _)⟩) hP hD hS hA [0] [1, 2, 3, 4, 5] rfl rfl (by decide) (by decide) (fun r_7 u_9 H locs hr_8 hP hD hS => ?_)
      obtain rfl : r_7 = nI 1 := by rw [hr_8]; rfl
      have hP := hP.sub (ws' := [(a5, .inr (5, [.int (nI 0), .int (nI k), .int now, .ref mD, .ref mI, .ref mZ, .int (nI nl), .ref mK, .ref mO, .ref mB, .ref mR, .ref mF, .int kM, .int oM])), (mD, xI cy 600000 G), (mI, xI cy 100000 It), (mK, xI cy 32 fK), (mO, xI cy 32 fO), (mB, xI cy 32 fB)]) [5, 0, 1, 2, 3, 4] rfl
      have hD := hD.sub (ws' := [(a5, .inr (5, [.int (nI 0), .int (nI k), .int now, .ref mD, .ref mI, .ref mZ, .int (nI nl), .ref mK, .ref mO, .ref mB, .ref mR, .ref mF, .int kM, .int oM])), (mD, xI cy 600000 G), (mI, xI cy 100000 It), (mK, xI cy 32 fK), (mO, xI cy 32 fO), (mB, xI cy 32 fB)]) [5, 0, 1, 2, 3, 4] (by decide) rfl
      refine xb_if_eq (tgt := 36) (a := 1) (by omega) hx hb dX5_common_23 (by decide) (fun c_10 => ?_) (fun c_10 => ?_)
      · exact absurd c_10 (by omega)
      · refine lv_aload_n hx hb dX5_common_26 rfl (lv_at hl 0 rfl) ?_
        refine lv_iload_n hx hb dX5_common_27 rfl (lv_at hl 1 rfl) ?_
        refine lv_iload_n hx hb dX5_common_28 rfl (lv_at hl 2 rfl) ?_
        refine lv_iconst (v := nI 1) hx hb dX5_common_29 (by decide) ?_
        refine xcWi (wr := []) (va_runV (As := [.int (nI b), .int (nI b2), .int (nI 1)]) (rest := []) ⟨hx, hb, hml, hown, hts⟩ ((m_share1 l D cy t0 a5 mD mI mZ mK mO mB mR mF k (nI 0) now kM oM nl b b2 fK fO fB G It Zt lst hML hCV hb6 hb62 hk2 hk) H.size) (cwV 3 hts gX5_common_X5_share rfl rfl rfl (by decide +kernel) ⟨Nat.le_of_ble_eq_true rfl, Nat.le_of_ble_eq_true rfl⟩) (xPw.giveV (wc := [(a5, .inr (5, [.int (nI 0), .int (nI k), .int now, .ref mD, .ref mI, .ref mZ, .int (nI nl), .ref mK, .ref mO, .ref mB, .ref mR, .ref mF, .int kM, .int oM])), (mD, xI cy 600000 G), (mI, xI cy 100000 It), (mK, xI cy 32 fK), (mO, xI cy 32 fO), (mB, xI cy 32 fB)]) hE hS hA hP hD [0, 1, 2, 3, 4, 5] (by decide) rfl 0 5 rfl rfl) rfl rfl hl.1 rfl (lv_room (Nat.le_of_ble_eq_true rfl)) dX5_common_30 ⟨(Nat.zero_le _), (Nat.zero_le _)⟩) hP hD hS hA [0, 1, 2, 3, 4, 5] [] rfl rfl (by decide) (by decide) (fun r_11 u_13 H locs hr_12 hP hD hS => ?_)
        obtain ⟨z1, g1, z2, g2, zB, gB⟩ := u_13
        obtain rfl : r_11 = nI (partV k (uH k (hs (Sm (mb G b)) 100000) (hs (Sm (mb G b2)) 100000)) (cntV k (uH k (hs (Sm (mb G b)) 100000) (hs (Sm (mb G b2)) 100000)) (inT k (hs (Sm (mb G b)) 100000) (hs (Sm (mb G b2)) 100000)))) := hr_12
        have hP := hP.sub (ws' := [(a5, .inr (5, [.int (nI 0), .int (nI k), .int now, .ref mD, .ref mI, .ref mZ, .int (nI nl), .ref mK, .ref mO, .ref mB, .ref mR, .ref mF, .int (nI z1), .int (nI z2)])), (mD, xI cy 600000 G), (mI, xI cy 100000 It), (mK, xI cy 32 g1), (mO, xI cy 32 g2), (mB, xI cy 32 gB)]) [0, 1, 2, 3, 4, 5] rfl
        have hD := hD.sub (ws' := [(a5, .inr (5, [.int (nI 0), .int (nI k), .int now, .ref mD, .ref mI, .ref mZ, .int (nI nl), .ref mK, .ref mO, .ref mB, .ref mR, .ref mF, .int (nI z1), .int (nI z2)])), (mD, xI cy 600000 G), (mI, xI cy 100000 It), (mK, xI cy 32 g1), (mO, xI cy 32 g2), (mB, xI cy 32 gB)]) [0, 1, 2, 3, 4, 5] (by decide) rfl
        refine lv_goto (tgt := 37) hx hb dX5_common_33 (by decide) ?_
        exact kret _ (z1, g1, z2, g2, zB, gB) _ _ _ _ _ _ dX5_common_37 rfl hP hD hS (Nat.le_of_ble_eq_true rfl) (Nat.le_of_ble_eq_true rfl)
set_option maxHeartbeats 4000000 in
set_option maxRecDepth 100000 in
theorem m_without (l : Launch) (D : va_G) (cy : Nat → ClassId) (t0 : Nat) (a5 mD mI mZ mK mO mB mR mF k : Nat) (th now kM oM : Int32) (nl : Nat) (b b2 : Nat) (fK fO fB : Nat → Int32) (G It Zt : Nat → Int32) (lst : Nat → Nat) (hML : ML lst nl It Zt) (hCV : CV G lst nl) (hb6 : b < 6) (hb62 : b2 < 6) (hk2 : 2 ≤ k) (hk : k ≤ 32) : xWi (S := Nat × (Nat → Int32) × Nat × (Nat → Int32) × Nat × (Nat → Int32)) l yX5_without wsX5_without ({ frames := 5, cells := 0, slots := 0, locals := 127 } : Room) D cy t0 ([.ref a5, .int (nI b), .int (nI b2)]) ([(a5, .inr (5, [.int th, .int (nI k), .int now, .ref mD, .ref mI, .ref mZ, .int (nI nl), .ref mK, .ref mO, .ref mB, .ref mR, .ref mF, .int kM, .int oM])), (mD, xI cy 600000 G), (mI, xI cy 100000 It), (mK, xI cy 32 fK), (mO, xI cy 32 fO), (mB, xI cy 32 fB)]) (fun r _ => r = nI (partV k (uH k (hs (Sm (mb G b)) 100000) (hs (Sm (mb G b2)) 100000)) (cntV k (uH k (hs (Sm (mb G b)) 100000) (hs (Sm (mb G b2)) 100000)) (noT k (hs (Sm (mb G b2)) 100000))))) (fun u => [(a5, .inr (5, [.int (nI 0), .int (nI k), .int now, .ref mD, .ref mI, .ref mZ, .int (nI nl), .ref mK, .ref mO, .ref mB, .ref mR, .ref mF, .int (nI u.1), .int (nI u.2.2.1)])), (mD, xI cy 600000 G), (mI, xI cy 100000 It), (mK, xI cy 32 u.2.1), (mO, xI cy 32 u.2.2.2.1), (mB, xI cy 32 u.2.2.2.2.2)]) 0 0 := by
  refine xofWi (cc := cX5_without) (maxL := 3) (by decide) rfl (Nat.le_of_ble_eq_true rfl) (fun _ _ _ => rfl) ?_
  intro p e s m below meth c Q A ls hx hb hml hts hown hE hA H locs hP hD hl hS kret
  have hl : lv_has ls 3 [(0, .ref a5), (1, .int (nI b)), (2, .int (nI b2))] := hl
  refine lv_aload_n hx hb dX5_without_0 rfl (lv_at hl 0 rfl) ?_
  refine lv_iload_n hx hb dX5_without_1 rfl (lv_at hl 1 rfl) ?_
  refine xcRi (va_runS (As := [.int (nI b)]) (rest := [.ref a5]) ⟨hx, hb, hml, hown, hts⟩ (m_isBasket l D cy t0 (nI b)) (va_cwS 1 hts gX5_without_X5_isBasket rfl rfl rfl (by decide +kernel) ⟨Nat.le_of_ble_eq_true rfl, Nat.le_of_ble_eq_true rfl⟩) (xPr.give (wc := []) hE hS hP [] rfl) rfl rfl hl.1 rfl (lv_room (Nat.le_of_ble_eq_true rfl)) dX5_without_2 ⟨(Nat.zero_le _), (Nat.zero_le _)⟩) (fun r_1 hr_2 => ?_)
  obtain rfl : r_1 = nI 1 := by rw [hr_2, isBk_lt hb6]; rfl
  refine xb_if_eq (tgt := 19) (a := 1) (by omega) hx hb dX5_without_5 (by decide) (fun c_3 => ?_) (fun c_3 => ?_)
  · exact absurd c_3 (by omega)
  · refine lv_iload_n hx hb dX5_without_8 rfl (lv_at hl 2 rfl) ?_
    refine xcRi (va_runS (As := [.int (nI b2)]) (rest := [.ref a5]) ⟨hx, hb, hml, hown, hts⟩ (m_isBasket l D cy t0 (nI b2)) (va_cwS 1 hts gX5_without_X5_isBasket rfl rfl rfl (by decide +kernel) ⟨Nat.le_of_ble_eq_true rfl, Nat.le_of_ble_eq_true rfl⟩) (xPr.give (wc := []) hE hS hP [] rfl) rfl rfl hl.1 rfl (lv_room (Nat.le_of_ble_eq_true rfl)) dX5_without_9 ⟨(Nat.zero_le _), (Nat.zero_le _)⟩) (fun r_4 hr_5 => ?_)
    obtain rfl : r_4 = nI 1 := by rw [hr_5, isBk_lt hb62]; rfl
    refine xb_if_eq (tgt := 19) (a := 1) (by omega) hx hb dX5_without_12 (by decide) (fun c_6 => ?_) (fun c_6 => ?_)
    · exact absurd c_6 (by omega)
    · refine lv_iconst (v := nI 0) hx hb dX5_without_15 (by decide) ?_
      refine lv_goto (tgt := 20) hx hb dX5_without_16 (by decide) ?_
      refine xcWi (wr := [(mD, xI cy 600000 G), (mI, xI cy 100000 It), (mK, xI cy 32 fK), (mO, xI cy 32 fO), (mB, xI cy 32 fB)]) (va_runV (As := [.int (nI 0)]) (rest := []) ⟨hx, hb, hml, hown, hts⟩ ((m_goesWell l D cy t0 a5 mD mI mZ mK mO mB mR mF k th now (nI nl) kM oM 0 (by omega)) H.size) (cwV 1 hts gX5_without_X5_goesWell rfl rfl rfl (by decide +kernel) ⟨Nat.le_of_ble_eq_true rfl, Nat.le_of_ble_eq_true rfl⟩) (xPw.giveV (wc := [(a5, .inr (5, [.int th, .int (nI k), .int now, .ref mD, .ref mI, .ref mZ, .int (nI nl), .ref mK, .ref mO, .ref mB, .ref mR, .ref mF, .int kM, .int oM]))]) hE hS hA hP hD [0] (by decide) rfl 0 5 rfl rfl) rfl rfl hl.1 rfl (lv_room (Nat.le_of_ble_eq_true rfl)) dX5_without_20 ⟨(Nat.zero_le _), (Nat.zero_le _)⟩) hP hD hS hA [0] [1, 2, 3, 4, 5] rfl rfl (by decide) (by decide) (fun r_7 u_9 H locs hr_8 hP hD hS => ?_)
      obtain rfl : r_7 = nI 1 := by rw [hr_8]; rfl
      have hP := hP.sub (ws' := [(a5, .inr (5, [.int (nI 0), .int (nI k), .int now, .ref mD, .ref mI, .ref mZ, .int (nI nl), .ref mK, .ref mO, .ref mB, .ref mR, .ref mF, .int kM, .int oM])), (mD, xI cy 600000 G), (mI, xI cy 100000 It), (mK, xI cy 32 fK), (mO, xI cy 32 fO), (mB, xI cy 32 fB)]) [5, 0, 1, 2, 3, 4] rfl
      have hD := hD.sub (ws' := [(a5, .inr (5, [.int (nI 0), .int (nI k), .int now, .ref mD, .ref mI, .ref mZ, .int (nI nl), .ref mK, .ref mO, .ref mB, .ref mR, .ref mF, .int kM, .int oM])), (mD, xI cy 600000 G), (mI, xI cy 100000 It), (mK, xI cy 32 fK), (mO, xI cy 32 fO), (mB, xI cy 32 fB)]) [5, 0, 1, 2, 3, 4] (by decide) rfl
      refine xb_if_eq (tgt := 36) (a := 1) (by omega) hx hb dX5_without_23 (by decide) (fun c_10 => ?_) (fun c_10 => ?_)
      · exact absurd c_10 (by omega)
      · refine lv_aload_n hx hb dX5_without_26 rfl (lv_at hl 0 rfl) ?_
        refine lv_iload_n hx hb dX5_without_27 rfl (lv_at hl 1 rfl) ?_
        refine lv_iload_n hx hb dX5_without_28 rfl (lv_at hl 2 rfl) ?_
        refine lv_iconst (v := nI 2) hx hb dX5_without_29 (by decide) ?_
        refine xcWi (wr := []) (va_runV (As := [.int (nI b), .int (nI b2), .int (nI 2)]) (rest := []) ⟨hx, hb, hml, hown, hts⟩ ((m_share2 l D cy t0 a5 mD mI mZ mK mO mB mR mF k (nI 0) now kM oM nl b b2 fK fO fB G It Zt lst hML hCV hb6 hb62 hk2 hk) H.size) (cwV 3 hts gX5_without_X5_share rfl rfl rfl (by decide +kernel) ⟨Nat.le_of_ble_eq_true rfl, Nat.le_of_ble_eq_true rfl⟩) (xPw.giveV (wc := [(a5, .inr (5, [.int (nI 0), .int (nI k), .int now, .ref mD, .ref mI, .ref mZ, .int (nI nl), .ref mK, .ref mO, .ref mB, .ref mR, .ref mF, .int kM, .int oM])), (mD, xI cy 600000 G), (mI, xI cy 100000 It), (mK, xI cy 32 fK), (mO, xI cy 32 fO), (mB, xI cy 32 fB)]) hE hS hA hP hD [0, 1, 2, 3, 4, 5] (by decide) rfl 0 5 rfl rfl) rfl rfl hl.1 rfl (lv_room (Nat.le_of_ble_eq_true rfl)) dX5_without_30 ⟨(Nat.zero_le _), (Nat.zero_le _)⟩) hP hD hS hA [0, 1, 2, 3, 4, 5] [] rfl rfl (by decide) (by decide) (fun r_11 u_13 H locs hr_12 hP hD hS => ?_)
        obtain ⟨z1, g1, z2, g2, zB, gB⟩ := u_13
        obtain rfl : r_11 = nI (partV k (uH k (hs (Sm (mb G b)) 100000) (hs (Sm (mb G b2)) 100000)) (cntV k (uH k (hs (Sm (mb G b)) 100000) (hs (Sm (mb G b2)) 100000)) (noT k (hs (Sm (mb G b2)) 100000)))) := hr_12
        have hP := hP.sub (ws' := [(a5, .inr (5, [.int (nI 0), .int (nI k), .int now, .ref mD, .ref mI, .ref mZ, .int (nI nl), .ref mK, .ref mO, .ref mB, .ref mR, .ref mF, .int (nI z1), .int (nI z2)])), (mD, xI cy 600000 G), (mI, xI cy 100000 It), (mK, xI cy 32 g1), (mO, xI cy 32 g2), (mB, xI cy 32 gB)]) [0, 1, 2, 3, 4, 5] rfl
        have hD := hD.sub (ws' := [(a5, .inr (5, [.int (nI 0), .int (nI k), .int now, .ref mD, .ref mI, .ref mZ, .int (nI nl), .ref mK, .ref mO, .ref mB, .ref mR, .ref mF, .int (nI z1), .int (nI z2)])), (mD, xI cy 600000 G), (mI, xI cy 100000 It), (mK, xI cy 32 g1), (mO, xI cy 32 g2), (mB, xI cy 32 gB)]) [0, 1, 2, 3, 4, 5] (by decide) rfl
        refine lv_goto (tgt := 37) hx hb dX5_without_33 (by decide) ?_
        exact kret _ (z1, g1, z2, g2, zB, gB) _ _ _ _ _ _ dX5_without_37 rfl hP hD hS (Nat.le_of_ble_eq_true rfl) (Nat.le_of_ble_eq_true rfl)
set_option maxHeartbeats 4000000 in
set_option maxRecDepth 100000 in
theorem m_register (l : Launch) (D : va_G) (cy : Nat → ClassId) (t0 : Nat) (a5 mD mI mZ mK mO mB mR mF k : Nat) (th now kM oM : Int32) (nl : Nat) (b ri : Nat) (fR : Nat → Int32) (G It Zt : Nat → Int32) (lst : Nat → Nat) (hML : ML lst nl It Zt) (hCV : CV G lst nl) (hb6 : b < 6) (hMV : MV (mb G b)) (hri : ri < 16) : xWi (S := Nat → Int32) l yX5_register wsX5_register ({ frames := 2, cells := 0, slots := 0, locals := 47 } : Room) D cy t0 ([.ref a5, .int (nI b), .int (nI ri)]) ([(a5, .inr (5, [.int th, .int (nI k), .int now, .ref mD, .ref mI, .ref mZ, .int (nI nl), .ref mK, .ref mO, .ref mB, .ref mR, .ref mF, .int kM, .int oM])), (mD, xI cy 600000 G), (mI, xI cy 100000 It), (mR, xI cy 16 fR)]) (fun r _ => r = nI (mxr (Sm (mb G b)) ri 100000)) (fun u => [(a5, .inr (5, [.int (nI 0), .int (nI k), .int now, .ref mD, .ref mI, .ref mZ, .int (nI nl), .ref mK, .ref mO, .ref mB, .ref mR, .ref mF, .int kM, .int oM])), (mD, xI cy 600000 G), (mI, xI cy 100000 It), (mR, xI cy 16 u)]) 0 0 := by
  refine xofWi (cc := cX5_register) (maxL := 4) (by decide) rfl (Nat.le_of_ble_eq_true rfl) (fun _ _ _ => rfl) ?_
  intro p e s m below meth c Q A ls hx hb hml hts hown hE hA H locs hP hD hl hS kret
  have hl : lv_has ls 4 [(0, .ref a5), (1, .int (nI b)), (2, .int (nI ri))] := hl
  refine lv_iload_n hx hb dX5_register_0 rfl (lv_at hl 1 rfl) ?_
  refine xcRi (va_runS (As := [.int (nI b)]) (rest := []) ⟨hx, hb, hml, hown, hts⟩ (m_isBasket l D cy t0 (nI b)) (va_cwS 1 hts gX5_register_X5_isBasket rfl rfl rfl (by decide +kernel) ⟨Nat.le_of_ble_eq_true rfl, Nat.le_of_ble_eq_true rfl⟩) (xPr.give (wc := []) hE hS hP [] rfl) rfl rfl hl.1 rfl (lv_room (Nat.le_of_ble_eq_true rfl)) dX5_register_1 ⟨(Nat.zero_le _), (Nat.zero_le _)⟩) (fun r_1 hr_2 => ?_)
  obtain rfl : r_1 = nI 1 := by rw [hr_2, isBk_lt hb6]; rfl
  refine xb_if_eq (tgt := 21) (a := 1) (by omega) hx hb dX5_register_4 (by decide) (fun c_3 => ?_) (fun c_3 => ?_)
  · exact absurd c_3 (by omega)
  · refine lv_iload_n hx hb dX5_register_7 rfl (lv_at hl 2 rfl) ?_
    refine xb_if_lt (tgt := 21) (a := ri) (by omega) hx hb dX5_register_8 (by decide) (fun c_4 => ?_) (fun c_4 => ?_)
    · exact c_4.elim
    · refine lv_iload_n hx hb dX5_register_11 rfl (lv_at hl 2 rfl) ?_
      refine lv_bipush (v := nI 16) hx hb dX5_register_12 (by decide) ?_
      refine xb_icmp_ge (tgt := 21) (a := ri) (b := 16) (by omega) (by omega) hx hb dX5_register_14 (by decide) (fun c_5 => ?_) (fun c_5 => ?_)
      · exact absurd c_5 (by omega)
      · refine lv_iconst (v := nI 1) hx hb dX5_register_17 (by decide) ?_
        refine lv_goto (tgt := 22) hx hb dX5_register_18 (by decide) ?_
        refine lv_istore_n (lv' := [(3, .int (nI 1)), (0, .ref a5), (1, .int (nI b)), (2, .int (nI ri))]) hx hb dX5_register_22 rfl hl (by decide) rfl (fun ls hl => ?_)
        refine lv_aload_n hx hb dX5_register_23 rfl (lv_at hl 1 rfl) ?_
        refine lv_iload_n hx hb dX5_register_24 rfl (lv_at hl 0 rfl) ?_
        refine xb_if_eq (tgt := 32) (a := 1) (by omega) hx hb dX5_register_25 (by decide) (fun c_6 => ?_) (fun c_6 => ?_)
        · exact absurd c_6 (by omega)
        · refine lv_iconst (v := nI 0) hx hb dX5_register_28 (by decide) ?_
          refine lv_goto (tgt := 33) hx hb dX5_register_29 (by decide) ?_
          refine xcWi (wr := [(mD, xI cy 600000 G), (mI, xI cy 100000 It), (mR, xI cy 16 fR)]) (va_runV (As := [.int (nI 0)]) (rest := []) ⟨hx, hb, hml, hown, hts⟩ ((m_goesWell l D cy t0 a5 mD mI mZ mK mO mB mR mF k th now (nI nl) kM oM 0 (by omega)) H.size) (cwV 1 hts gX5_register_X5_goesWell rfl rfl rfl (by decide +kernel) ⟨Nat.le_of_ble_eq_true rfl, Nat.le_of_ble_eq_true rfl⟩) (xPw.giveV (wc := [(a5, .inr (5, [.int th, .int (nI k), .int now, .ref mD, .ref mI, .ref mZ, .int (nI nl), .ref mK, .ref mO, .ref mB, .ref mR, .ref mF, .int kM, .int oM]))]) hE hS hA hP hD [0] (by decide) rfl 0 5 rfl rfl) rfl rfl hl.1 rfl (lv_room (Nat.le_of_ble_eq_true rfl)) dX5_register_33 ⟨(Nat.zero_le _), (Nat.zero_le _)⟩) hP hD hS hA [0] [1, 2, 3] rfl rfl (by decide) (by decide) (fun r_7 u_9 H locs hr_8 hP hD hS => ?_)
          obtain rfl : r_7 = nI 1 := by rw [hr_8]; rfl
          have hP := hP.sub (ws' := [(a5, .inr (5, [.int (nI 0), .int (nI k), .int now, .ref mD, .ref mI, .ref mZ, .int (nI nl), .ref mK, .ref mO, .ref mB, .ref mR, .ref mF, .int kM, .int oM])), (mD, xI cy 600000 G), (mI, xI cy 100000 It), (mR, xI cy 16 fR)]) [3, 0, 1, 2] rfl
          have hD := hD.sub (ws' := [(a5, .inr (5, [.int (nI 0), .int (nI k), .int now, .ref mD, .ref mI, .ref mZ, .int (nI nl), .ref mK, .ref mO, .ref mB, .ref mR, .ref mF, .int kM, .int oM])), (mD, xI cy 600000 G), (mI, xI cy 100000 It), (mR, xI cy 16 fR)]) [3, 0, 1, 2] (by decide) rfl
          refine xb_if_ne (tgt := 41) (a := 1) (by omega) hx hb dX5_register_36 (by decide) (fun c_10 => ?_) (fun c_10 => ?_)
          · refine lv_aload_n hx hb dX5_register_41 rfl (lv_at hl 1 rfl) ?_
            refine lv_iload_n hx hb dX5_register_42 rfl (lv_at hl 2 rfl) ?_
            refine lv_iconst (v := (-1)) hx hb dX5_register_43 (by decide) ?_
            refine xcWv (wr := []) (va_runV (As := [.int (nI b), .int (-1)]) (rest := []) ⟨hx, hb, hml, hown, hts⟩ ((m_layRegs l D cy t0 a5 mD mI mZ mK mO mB mR mF k (nI 0) now kM oM nl b (-1) fR G It Zt lst hML hCV hb6 Int32.le_rfl) H.size) (cwV 2 hts gX5_register_X5_layRegisters rfl rfl rfl (by decide +kernel) ⟨Nat.le_of_ble_eq_true rfl, Nat.le_of_ble_eq_true rfl⟩) (xPw.giveV (wc := [(a5, .inr (5, [.int (nI 0), .int (nI k), .int now, .ref mD, .ref mI, .ref mZ, .int (nI nl), .ref mK, .ref mO, .ref mB, .ref mR, .ref mF, .int kM, .int oM])), (mD, xI cy 600000 G), (mI, xI cy 100000 It), (mR, xI cy 16 fR)]) hE hS hA hP hD [0, 1, 2, 3] (by decide) rfl 0 5 rfl rfl) rfl rfl hl.1 rfl (lv_room (Nat.le_of_ble_eq_true rfl)) dX5_register_44 ⟨(Nat.zero_le _), (Nat.zero_le _)⟩) hP hD hS hA [0, 1, 2, 3] [] rfl rfl (by decide) (by decide) (fun u_13 H locs hr_12 hP hD hS => ?_)
            obtain ⟨g9, rfl⟩ : ∃ z9, z9 = u_13 := ⟨_, rfl⟩
            have hRG : RG (Tm (mb G b) (-1)) 100000 g9 := hr_12
            have hP := hP.sub (ws' := [(a5, .inr (5, [.int (nI 0), .int (nI k), .int now, .ref mD, .ref mI, .ref mZ, .int (nI nl), .ref mK, .ref mO, .ref mB, .ref mR, .ref mF, .int kM, .int oM])), (mD, xI cy 600000 G), (mI, xI cy 100000 It), (mR, xI cy 16 g9)]) [0, 1, 2, 3] rfl
            have hD := hD.sub (ws' := [(a5, .inr (5, [.int (nI 0), .int (nI k), .int now, .ref mD, .ref mI, .ref mZ, .int (nI nl), .ref mK, .ref mO, .ref mB, .ref mR, .ref mF, .int kM, .int oM])), (mD, xI cy 600000 G), (mI, xI cy 100000 It), (mR, xI cy 16 g9)]) [0, 1, 2, 3] (by decide) rfl
            refine lv_aload_n hx hb dX5_register_47 rfl (lv_at hl 1 rfl) ?_
            refine va_get (D := D) (ci := 5) (v := .ref mR) (C := RX5) (T := TX5) (N := 14) hx hb hts (by decide +kernel) hown hE.1 hP 0 rfl rfl 10 (by decide) (hts (.fieldLink RX5 31 "DistinctDaleModel" "registers" "[I") (by decide +kernel)) (fun _ h9 => h9) rfl dX5_register_48 ?_
            refine lv_iload_n hx hb dX5_register_51 rfl (lv_at hl 3 rfl) ?_
            refine va_iald (D := D) hx hb hE.1 hP 3 0 rfl rfl (vp_in_nI (by omega) (by omega)) dX5_register_52 ?_
            refine lv_eqi (z := nI (mxr (Sm (mb G b)) ri 100000)) (by rw [nI_clamp (by omega), hRG ri hri, mxr_congr (fun x _ => Tm_all hMV x)]) ?_
            exact kret _ g9 _ _ _ _ _ _ dX5_register_53 rfl hP hD hS (Nat.le_of_ble_eq_true rfl) (Nat.le_of_ble_eq_true rfl)
          · exact absurd c_10 (by omega)
set_option maxHeartbeats 4000000 in
set_option maxRecDepth 100000 in
theorem m_byRegisters (l : Launch) (D : va_G) (cy : Nat → ClassId) (t0 : Nat) (a5 mD mI mZ mK mO mB mR mF k : Nat) (th now kM oM : Int32) (nl : Nat) (b : Nat) (fR : Nat → Int32) (G It Zt : Nat → Int32) (lst : Nat → Nat) (hML : ML lst nl It Zt) (hCV : CV G lst nl) (hb6 : b < 6) (hMV : MV (mb G b)) (fF : Nat → Int32) (hF9 : ∀ z, z < 17 → fF z = nI (tabN.getD z 0)) : xWl (S := Nat → Int32) l yX5_byRegisters wsX5_byRegisters ({ frames := 2, cells := 0, slots := 0, locals := 47 } : Room) D cy t0 ([.ref a5, .int (nI b)]) ([(a5, .inr (5, [.int th, .int (nI k), .int now, .ref mD, .ref mI, .ref mZ, .int (nI nl), .ref mK, .ref mO, .ref mB, .ref mR, .ref mF, .int kM, .int oM])), (mD, xI cy 600000 G), (mI, xI cy 100000 It), (mR, xI cy 16 fR), (mF, xI cy 17 fF)]) (fun r _ => r = lN (regE (fun r => mxr (Sm (mb G b)) r 100000))) (fun u => [(a5, .inr (5, [.int (nI 0), .int (nI k), .int now, .ref mD, .ref mI, .ref mZ, .int (nI nl), .ref mK, .ref mO, .ref mB, .ref mR, .ref mF, .int kM, .int oM])), (mD, xI cy 600000 G), (mI, xI cy 100000 It), (mR, xI cy 16 u), (mF, xI cy 17 fF)]) 0 0 := by
  refine xofWl (cc := cX5_byRegisters) (maxL := 2) (by decide) rfl (Nat.le_of_ble_eq_true rfl) ?_
  intro p e s m below meth c Q A ls hx hb hml hts hown hE hA H locs hP hD hl hS kret
  have hl : lv_has ls 2 [(0, .ref a5), (1, .int (nI b))] := hl
  refine lv_aload_n hx hb dX5_byRegisters_0 rfl (lv_at hl 0 rfl) ?_
  refine lv_iload_n hx hb dX5_byRegisters_1 rfl (lv_at hl 1 rfl) ?_
  refine xcRi (va_runS (As := [.int (nI b)]) (rest := [.ref a5]) ⟨hx, hb, hml, hown, hts⟩ (m_isBasket l D cy t0 (nI b)) (va_cwS 1 hts gX5_byRegisters_X5_isBasket rfl rfl rfl (by decide +kernel) ⟨Nat.le_of_ble_eq_true rfl, Nat.le_of_ble_eq_true rfl⟩) (xPr.give (wc := []) hE hS hP [] rfl) rfl rfl hl.1 rfl (lv_room (Nat.le_of_ble_eq_true rfl)) dX5_byRegisters_2 ⟨(Nat.zero_le _), (Nat.zero_le _)⟩) (fun r_1 hr_2 => ?_)
  obtain rfl : r_1 = nI 1 := by rw [hr_2, isBk_lt hb6]; rfl
  refine xb_if_eq (tgt := 12) (a := 1) (by omega) hx hb dX5_byRegisters_5 (by decide) (fun c_3 => ?_) (fun c_3 => ?_)
  · exact absurd c_3 (by omega)
  · refine lv_iconst (v := nI 0) hx hb dX5_byRegisters_8 (by decide) ?_
    refine lv_goto (tgt := 13) hx hb dX5_byRegisters_9 (by decide) ?_
    refine xcWi (wr := [(mD, xI cy 600000 G), (mI, xI cy 100000 It), (mR, xI cy 16 fR), (mF, xI cy 17 fF)]) (va_runV (As := [.int (nI 0)]) (rest := []) ⟨hx, hb, hml, hown, hts⟩ ((m_goesWell l D cy t0 a5 mD mI mZ mK mO mB mR mF k th now (nI nl) kM oM 0 (by omega)) H.size) (cwV 1 hts gX5_byRegisters_X5_goesWell rfl rfl rfl (by decide +kernel) ⟨Nat.le_of_ble_eq_true rfl, Nat.le_of_ble_eq_true rfl⟩) (xPw.giveV (wc := [(a5, .inr (5, [.int th, .int (nI k), .int now, .ref mD, .ref mI, .ref mZ, .int (nI nl), .ref mK, .ref mO, .ref mB, .ref mR, .ref mF, .int kM, .int oM]))]) hE hS hA hP hD [0] (by decide) rfl 0 5 rfl rfl) rfl rfl hl.1 rfl (lv_room (Nat.le_of_ble_eq_true rfl)) dX5_byRegisters_13 ⟨(Nat.zero_le _), (Nat.zero_le _)⟩) hP hD hS hA [0] [1, 2, 3, 4] rfl rfl (by decide) (by decide) (fun r_4 u_6 H locs hr_5 hP hD hS => ?_)
    obtain rfl : r_4 = nI 1 := by rw [hr_5]; rfl
    have hP := hP.sub (ws' := [(a5, .inr (5, [.int (nI 0), .int (nI k), .int now, .ref mD, .ref mI, .ref mZ, .int (nI nl), .ref mK, .ref mO, .ref mB, .ref mR, .ref mF, .int kM, .int oM])), (mD, xI cy 600000 G), (mI, xI cy 100000 It), (mR, xI cy 16 fR), (mF, xI cy 17 fF)]) [4, 0, 1, 2, 3] rfl
    have hD := hD.sub (ws' := [(a5, .inr (5, [.int (nI 0), .int (nI k), .int now, .ref mD, .ref mI, .ref mZ, .int (nI nl), .ref mK, .ref mO, .ref mB, .ref mR, .ref mF, .int kM, .int oM])), (mD, xI cy 600000 G), (mI, xI cy 100000 It), (mR, xI cy 16 fR), (mF, xI cy 17 fF)]) [4, 0, 1, 2, 3] (by decide) rfl
    refine xb_if_ne (tgt := 21) (a := 1) (by omega) hx hb dX5_byRegisters_16 (by decide) (fun c_7 => ?_) (fun c_7 => ?_)
    · refine lv_aload_n hx hb dX5_byRegisters_21 rfl (lv_at hl 0 rfl) ?_
      refine lv_iload_n hx hb dX5_byRegisters_22 rfl (lv_at hl 1 rfl) ?_
      refine lv_iconst (v := (-1)) hx hb dX5_byRegisters_23 (by decide) ?_
      refine xcWv (wr := [(mF, xI cy 17 fF)]) (va_runV (As := [.int (nI b), .int (-1)]) (rest := []) ⟨hx, hb, hml, hown, hts⟩ ((m_layRegs l D cy t0 a5 mD mI mZ mK mO mB mR mF k (nI 0) now kM oM nl b (-1) fR G It Zt lst hML hCV hb6 Int32.le_rfl) H.size) (cwV 2 hts gX5_byRegisters_X5_layRegisters rfl rfl rfl (by decide +kernel) ⟨Nat.le_of_ble_eq_true rfl, Nat.le_of_ble_eq_true rfl⟩) (xPw.giveV (wc := [(a5, .inr (5, [.int (nI 0), .int (nI k), .int now, .ref mD, .ref mI, .ref mZ, .int (nI nl), .ref mK, .ref mO, .ref mB, .ref mR, .ref mF, .int kM, .int oM])), (mD, xI cy 600000 G), (mI, xI cy 100000 It), (mR, xI cy 16 fR)]) hE hS hA hP hD [0, 1, 2, 3] (by decide) rfl 0 5 rfl rfl) rfl rfl hl.1 rfl (lv_room (Nat.le_of_ble_eq_true rfl)) dX5_byRegisters_24 ⟨(Nat.zero_le _), (Nat.zero_le _)⟩) hP hD hS hA [0, 1, 2, 3] [4] rfl rfl (by decide) (by decide) (fun u_10 H locs hr_9 hP hD hS => ?_)
      obtain ⟨g9, rfl⟩ : ∃ z9, z9 = u_10 := ⟨_, rfl⟩
      have hRG : RG (Tm (mb G b) (-1)) 100000 g9 := hr_9
      have hP := hP.sub (ws' := [(a5, .inr (5, [.int (nI 0), .int (nI k), .int now, .ref mD, .ref mI, .ref mZ, .int (nI nl), .ref mK, .ref mO, .ref mB, .ref mR, .ref mF, .int kM, .int oM])), (mD, xI cy 600000 G), (mI, xI cy 100000 It), (mR, xI cy 16 g9), (mF, xI cy 17 fF)]) [1, 2, 3, 4, 0] rfl
      have hD := hD.sub (ws' := [(a5, .inr (5, [.int (nI 0), .int (nI k), .int now, .ref mD, .ref mI, .ref mZ, .int (nI nl), .ref mK, .ref mO, .ref mB, .ref mR, .ref mF, .int kM, .int oM])), (mD, xI cy 600000 G), (mI, xI cy 100000 It), (mR, xI cy 16 g9), (mF, xI cy 17 fF)]) [1, 2, 3, 4, 0] (by decide) rfl
      refine lv_aload_n hx hb dX5_byRegisters_27 rfl (lv_at hl 0 rfl) ?_
      refine xcRl (va_runV (As := []) (rest := []) ⟨hx, hb, hml, hown, hts⟩ (m_ofRegs l D cy t0 a5 mD mI mZ mK mO mB mR mF k (nI 0) now (nI nl) kM oM (fun r => mxr (Tm (mb G b) (-1)) r 100000) g9 fF (fun r => mxr_le _) hRG hF9) (cwV 0 hts gX5_byRegisters_X5_ofRegisters rfl rfl rfl (by decide +kernel) ⟨Nat.le_of_ble_eq_true rfl, Nat.le_of_ble_eq_true rfl⟩) (xPr.giveV (wc := [(a5, .inr (5, [.int (nI 0), .int (nI k), .int now, .ref mD, .ref mI, .ref mZ, .int (nI nl), .ref mK, .ref mO, .ref mB, .ref mR, .ref mF, .int kM, .int oM])), (mR, xI cy 16 g9), (mF, xI cy 17 fF)]) hE hS hP [0, 3, 4] rfl 0 5 rfl rfl) rfl rfl hl.1 rfl (lv_room (Nat.le_of_ble_eq_true rfl)) dX5_byRegisters_28 ⟨(Nat.zero_le _), (Nat.zero_le _)⟩) (fun r_11 hr_12 => ?_)
      obtain rfl : r_11 = lN (regE (fun r => mxr (Tm (mb G b) (-1)) r 100000)) := hr_12
      exact kret _ g9 _ _ _ _ _ _ dX5_byRegisters_31 (congrArg lN (regE_congr (fun r _ => mxr_congr (fun x _ => Tm_all hMV x)))) hP hD hS (Nat.le_of_ble_eq_true rfl) (Nat.le_of_ble_eq_true rfl)
    · exact absurd c_7 (by omega)
set_option maxHeartbeats 4000000 in
set_option maxRecDepth 100000 in
theorem m_recent (l : Launch) (D : va_G) (cy : Nat → ClassId) (t0 : Nat) (a5 mD mI mZ mK mO mB mR mF k : Nat) (th now kM oM : Int32) (nl : Nat) (b tk : Nat) (fR : Nat → Int32) (G It Zt : Nat → Int32) (lst : Nat → Nat) (hML : ML lst nl It Zt) (hCV : CV G lst nl) (hb6 : b < 6) (hMV : MV (mb G b)) (htk1 : 1 ≤ tk) (htk2 : tk ≤ 100000) (fF : Nat → Int32) (hF9 : ∀ z, z < 17 → fF z = nI (tabN.getD z 0)) : xWl (S := Nat → Int32) l yX5_recent wsX5_recent ({ frames := 2, cells := 0, slots := 0, locals := 47 } : Room) D cy t0 ([.ref a5, .int (nI b), .int (nI tk)]) ([(a5, .inr (5, [.int th, .int (nI k), .int now, .ref mD, .ref mI, .ref mZ, .int (nI nl), .ref mK, .ref mO, .ref mB, .ref mR, .ref mF, .int kM, .int oM])), (mD, xI cy 600000 G), (mI, xI cy 100000 It), (mR, xI cy 16 fR), (mF, xI cy 17 fF)]) (fun r _ => r = lN (regE (fun r => mxr (Tm (mb G b) (now - nI tk)) r 100000))) (fun u => [(a5, .inr (5, [.int (nI 0), .int (nI k), .int now, .ref mD, .ref mI, .ref mZ, .int (nI nl), .ref mK, .ref mO, .ref mB, .ref mR, .ref mF, .int kM, .int oM])), (mD, xI cy 600000 G), (mI, xI cy 100000 It), (mR, xI cy 16 u), (mF, xI cy 17 fF)]) 0 0 := by
  refine xofWl (cc := cX5_recent) (maxL := 4) (by decide) rfl (Nat.le_of_ble_eq_true rfl) ?_
  intro p e s m below meth c Q A ls hx hb hml hts hown hE hA H locs hP hD hl hS kret
  have hl : lv_has ls 4 [(0, .ref a5), (1, .int (nI b)), (2, .int (nI tk))] := hl
  refine lv_aload_n hx hb dX5_recent_0 rfl (lv_at hl 0 rfl) ?_
  refine lv_iload_n hx hb dX5_recent_1 rfl (lv_at hl 1 rfl) ?_
  refine xcRi (va_runS (As := [.int (nI b)]) (rest := [.ref a5]) ⟨hx, hb, hml, hown, hts⟩ (m_isBasket l D cy t0 (nI b)) (va_cwS 1 hts gX5_recent_X5_isBasket rfl rfl rfl (by decide +kernel) ⟨Nat.le_of_ble_eq_true rfl, Nat.le_of_ble_eq_true rfl⟩) (xPr.give (wc := []) hE hS hP [] rfl) rfl rfl hl.1 rfl (lv_room (Nat.le_of_ble_eq_true rfl)) dX5_recent_2 ⟨(Nat.zero_le _), (Nat.zero_le _)⟩) (fun r_1 hr_2 => ?_)
  obtain rfl : r_1 = nI 1 := by rw [hr_2, isBk_lt hb6]; rfl
  refine xb_if_ne (tgt := 12) (a := 1) (by omega) hx hb dX5_recent_5 (by decide) (fun c_3 => ?_) (fun c_3 => ?_)
  · refine lv_iload_n hx hb dX5_recent_12 rfl (lv_at hl 2 rfl) ?_
    refine lv_iconst (v := nI 1) hx hb dX5_recent_13 (by decide) ?_
    refine xb_icmp_lt (tgt := 27) (a := tk) (b := 1) (by omega) (by omega) hx hb dX5_recent_14 (by decide) (fun c_4 => ?_) (fun c_4 => ?_)
    · exact absurd c_4 (by omega)
    · refine lv_iload_n hx hb dX5_recent_17 rfl (lv_at hl 2 rfl) ?_
      refine lv_ldc (v := nI 100000) hx hb hown (hts (.constant RX5 14 (100000)) (by decide +kernel)) dX5_recent_18 ?_
      refine xb_icmp_gt (tgt := 27) (a := tk) (b := 100000) (by omega) (by omega) hx hb dX5_recent_20 (by decide) (fun c_5 => ?_) (fun c_5 => ?_)
      · exact absurd c_5 (by omega)
      · refine lv_iconst (v := nI 0) hx hb dX5_recent_23 (by decide) ?_
        refine lv_goto (tgt := 28) hx hb dX5_recent_24 (by decide) ?_
        refine xcWi (wr := [(mD, xI cy 600000 G), (mI, xI cy 100000 It), (mR, xI cy 16 fR), (mF, xI cy 17 fF)]) (va_runV (As := [.int (nI 0)]) (rest := []) ⟨hx, hb, hml, hown, hts⟩ ((m_goesWell l D cy t0 a5 mD mI mZ mK mO mB mR mF k th now (nI nl) kM oM 0 (by omega)) H.size) (cwV 1 hts gX5_recent_X5_goesWell rfl rfl rfl (by decide +kernel) ⟨Nat.le_of_ble_eq_true rfl, Nat.le_of_ble_eq_true rfl⟩) (xPw.giveV (wc := [(a5, .inr (5, [.int th, .int (nI k), .int now, .ref mD, .ref mI, .ref mZ, .int (nI nl), .ref mK, .ref mO, .ref mB, .ref mR, .ref mF, .int kM, .int oM]))]) hE hS hA hP hD [0] (by decide) rfl 0 5 rfl rfl) rfl rfl hl.1 rfl (lv_room (Nat.le_of_ble_eq_true rfl)) dX5_recent_28 ⟨(Nat.zero_le _), (Nat.zero_le _)⟩) hP hD hS hA [0] [1, 2, 3, 4] rfl rfl (by decide) (by decide) (fun r_6 u_8 H locs hr_7 hP hD hS => ?_)
        obtain rfl : r_6 = nI 1 := by rw [hr_7]; rfl
        have hP := hP.sub (ws' := [(a5, .inr (5, [.int (nI 0), .int (nI k), .int now, .ref mD, .ref mI, .ref mZ, .int (nI nl), .ref mK, .ref mO, .ref mB, .ref mR, .ref mF, .int kM, .int oM])), (mD, xI cy 600000 G), (mI, xI cy 100000 It), (mR, xI cy 16 fR), (mF, xI cy 17 fF)]) [4, 0, 1, 2, 3] rfl
        have hD := hD.sub (ws' := [(a5, .inr (5, [.int (nI 0), .int (nI k), .int now, .ref mD, .ref mI, .ref mZ, .int (nI nl), .ref mK, .ref mO, .ref mB, .ref mR, .ref mF, .int kM, .int oM])), (mD, xI cy 600000 G), (mI, xI cy 100000 It), (mR, xI cy 16 fR), (mF, xI cy 17 fF)]) [4, 0, 1, 2, 3] (by decide) rfl
        refine xb_if_ne (tgt := 36) (a := 1) (by omega) hx hb dX5_recent_31 (by decide) (fun c_9 => ?_) (fun c_9 => ?_)
        · refine lv_aload_n hx hb dX5_recent_36 rfl (lv_at hl 0 rfl) ?_
          refine va_get (D := D) (ci := 5) (v := .int now) (C := RX5) (T := TX5) (N := 14) hx hb hts (by decide +kernel) hown hE.1 hP 0 rfl rfl 2 (by decide) (hts (.fieldLink RX5 71 "DistinctDaleModel" "now" "I") (by decide +kernel)) (fun _ h9 => h9) rfl dX5_recent_37 ?_
          refine lv_iload_n hx hb dX5_recent_40 rfl (lv_at hl 2 rfl) ?_
          refine lv_isub hx hb dX5_recent_41 ?_
          refine lv_istore_n (lv' := [(3, .int (now - (nI tk))), (0, .ref a5), (1, .int (nI b)), (2, .int (nI tk))]) hx hb dX5_recent_42 rfl hl (by decide) rfl (fun ls hl => ?_)
          refine lv_aload_n hx hb dX5_recent_43 rfl (lv_at hl 1 rfl) ?_
          refine lv_iload_n hx hb dX5_recent_44 rfl (lv_at hl 2 rfl) ?_
          refine lv_iload_n hx hb dX5_recent_45 rfl (lv_at hl 0 rfl) ?_
          refine lv_iconst (v := (-1)) hx hb dX5_recent_46 (by decide) ?_
          refine lv_icmp_ge (tgt := 54) hx hb dX5_recent_47 (by decide) (fun c_10 => ?_) (fun c_10 => ?_)
          · refine lv_iload_n hx hb dX5_recent_54 rfl (lv_at hl 0 rfl) ?_
            refine xcWv (wr := [(mF, xI cy 17 fF)]) (va_runV (As := [.int (nI b), .int (now - (nI tk))]) (rest := []) ⟨hx, hb, hml, hown, hts⟩ ((m_layRegs l D cy t0 a5 mD mI mZ mK mO mB mR mF k (nI 0) now kM oM nl b (now - nI tk) fR G It Zt lst hML hCV hb6 (Int32.not_lt.mp (Int32.not_lt.mpr c_10))) H.size) (cwV 2 hts gX5_recent_X5_layRegisters rfl rfl rfl (by decide +kernel) ⟨Nat.le_of_ble_eq_true rfl, Nat.le_of_ble_eq_true rfl⟩) (xPw.giveV (wc := [(a5, .inr (5, [.int (nI 0), .int (nI k), .int now, .ref mD, .ref mI, .ref mZ, .int (nI nl), .ref mK, .ref mO, .ref mB, .ref mR, .ref mF, .int kM, .int oM])), (mD, xI cy 600000 G), (mI, xI cy 100000 It), (mR, xI cy 16 fR)]) hE hS hA hP hD [0, 1, 2, 3] (by decide) rfl 0 5 rfl rfl) rfl rfl hl.1 rfl (lv_room (Nat.le_of_ble_eq_true rfl)) dX5_recent_55 ⟨(Nat.zero_le _), (Nat.zero_le _)⟩) hP hD hS hA [0, 1, 2, 3] [4] rfl rfl (by decide) (by decide) (fun u_13 H locs hr_12 hP hD hS => ?_)
            obtain ⟨g9, rfl⟩ : ∃ z9, z9 = u_13 := ⟨_, rfl⟩
            have hRG : RG (Tm (mb G b) (now - nI tk)) 100000 g9 := hr_12
            have hP := hP.sub (ws' := [(a5, .inr (5, [.int (nI 0), .int (nI k), .int now, .ref mD, .ref mI, .ref mZ, .int (nI nl), .ref mK, .ref mO, .ref mB, .ref mR, .ref mF, .int kM, .int oM])), (mD, xI cy 600000 G), (mI, xI cy 100000 It), (mR, xI cy 16 g9), (mF, xI cy 17 fF)]) [1, 2, 3, 4, 0] rfl
            have hD := hD.sub (ws' := [(a5, .inr (5, [.int (nI 0), .int (nI k), .int now, .ref mD, .ref mI, .ref mZ, .int (nI nl), .ref mK, .ref mO, .ref mB, .ref mR, .ref mF, .int kM, .int oM])), (mD, xI cy 600000 G), (mI, xI cy 100000 It), (mR, xI cy 16 g9), (mF, xI cy 17 fF)]) [1, 2, 3, 4, 0] (by decide) rfl
            refine lv_aload_n hx hb dX5_recent_58 rfl (lv_at hl 1 rfl) ?_
            refine xcRl (va_runV (As := []) (rest := []) ⟨hx, hb, hml, hown, hts⟩ (m_ofRegs l D cy t0 a5 mD mI mZ mK mO mB mR mF k (nI 0) now (nI nl) kM oM (fun r => mxr (Tm (mb G b) (now - nI tk)) r 100000) g9 fF (fun r => mxr_le _) hRG hF9) (cwV 0 hts gX5_recent_X5_ofRegisters rfl rfl rfl (by decide +kernel) ⟨Nat.le_of_ble_eq_true rfl, Nat.le_of_ble_eq_true rfl⟩) (xPr.giveV (wc := [(a5, .inr (5, [.int (nI 0), .int (nI k), .int now, .ref mD, .ref mI, .ref mZ, .int (nI nl), .ref mK, .ref mO, .ref mB, .ref mR, .ref mF, .int kM, .int oM])), (mR, xI cy 16 g9), (mF, xI cy 17 fF)]) hE hS hP [0, 3, 4] rfl 0 5 rfl rfl) rfl rfl hl.1 rfl (lv_room (Nat.le_of_ble_eq_true rfl)) dX5_recent_59 ⟨(Nat.zero_le _), (Nat.zero_le _)⟩) (fun r_14 hr_15 => ?_)
            obtain rfl : r_14 = lN (regE (fun r => mxr (Tm (mb G b) (now - nI tk)) r 100000)) := hr_15
            exact kret _ g9 _ _ _ _ _ _ dX5_recent_62 rfl hP hD hS (Nat.le_of_ble_eq_true rfl) (Nat.le_of_ble_eq_true rfl)
          · refine lv_iconst (v := (-1)) hx hb dX5_recent_50 (by decide) ?_
            refine lv_goto (tgt := 55) hx hb dX5_recent_51 (by decide) ?_
            refine xcWv (wr := [(mF, xI cy 17 fF)]) (va_runV (As := [.int (nI b), .int (-1)]) (rest := []) ⟨hx, hb, hml, hown, hts⟩ ((m_layRegs l D cy t0 a5 mD mI mZ mK mO mB mR mF k (nI 0) now kM oM nl b (-1) fR G It Zt lst hML hCV hb6 Int32.le_rfl) H.size) (cwV 2 hts gX5_recent_X5_layRegisters rfl rfl rfl (by decide +kernel) ⟨Nat.le_of_ble_eq_true rfl, Nat.le_of_ble_eq_true rfl⟩) (xPw.giveV (wc := [(a5, .inr (5, [.int (nI 0), .int (nI k), .int now, .ref mD, .ref mI, .ref mZ, .int (nI nl), .ref mK, .ref mO, .ref mB, .ref mR, .ref mF, .int kM, .int oM])), (mD, xI cy 600000 G), (mI, xI cy 100000 It), (mR, xI cy 16 fR)]) hE hS hA hP hD [0, 1, 2, 3] (by decide) rfl 0 5 rfl rfl) rfl rfl hl.1 rfl (lv_room (Nat.le_of_ble_eq_true rfl)) dX5_recent_55 ⟨(Nat.zero_le _), (Nat.zero_le _)⟩) hP hD hS hA [0, 1, 2, 3] [4] rfl rfl (by decide) (by decide) (fun u_18 H locs hr_17 hP hD hS => ?_)
            obtain ⟨g9, rfl⟩ : ∃ z9, z9 = u_18 := ⟨_, rfl⟩
            have hRG : RG (Tm (mb G b) (-1)) 100000 g9 := hr_17
            have hP := hP.sub (ws' := [(a5, .inr (5, [.int (nI 0), .int (nI k), .int now, .ref mD, .ref mI, .ref mZ, .int (nI nl), .ref mK, .ref mO, .ref mB, .ref mR, .ref mF, .int kM, .int oM])), (mD, xI cy 600000 G), (mI, xI cy 100000 It), (mR, xI cy 16 g9), (mF, xI cy 17 fF)]) [1, 2, 3, 4, 0] rfl
            have hD := hD.sub (ws' := [(a5, .inr (5, [.int (nI 0), .int (nI k), .int now, .ref mD, .ref mI, .ref mZ, .int (nI nl), .ref mK, .ref mO, .ref mB, .ref mR, .ref mF, .int kM, .int oM])), (mD, xI cy 600000 G), (mI, xI cy 100000 It), (mR, xI cy 16 g9), (mF, xI cy 17 fF)]) [1, 2, 3, 4, 0] (by decide) rfl
            refine lv_aload_n hx hb dX5_recent_58 rfl (lv_at hl 1 rfl) ?_
            refine xcRl (va_runV (As := []) (rest := []) ⟨hx, hb, hml, hown, hts⟩ (m_ofRegs l D cy t0 a5 mD mI mZ mK mO mB mR mF k (nI 0) now (nI nl) kM oM (fun r => mxr (Tm (mb G b) (-1)) r 100000) g9 fF (fun r => mxr_le _) hRG hF9) (cwV 0 hts gX5_recent_X5_ofRegisters rfl rfl rfl (by decide +kernel) ⟨Nat.le_of_ble_eq_true rfl, Nat.le_of_ble_eq_true rfl⟩) (xPr.giveV (wc := [(a5, .inr (5, [.int (nI 0), .int (nI k), .int now, .ref mD, .ref mI, .ref mZ, .int (nI nl), .ref mK, .ref mO, .ref mB, .ref mR, .ref mF, .int kM, .int oM])), (mR, xI cy 16 g9), (mF, xI cy 17 fF)]) hE hS hP [0, 3, 4] rfl 0 5 rfl rfl) rfl rfl hl.1 rfl (lv_room (Nat.le_of_ble_eq_true rfl)) dX5_recent_59 ⟨(Nat.zero_le _), (Nat.zero_le _)⟩) (fun r_19 hr_20 => ?_)
            obtain rfl : r_19 = lN (regE (fun r => mxr (Tm (mb G b) (-1)) r 100000)) := hr_20
            exact kret _ g9 _ _ _ _ _ _ dX5_recent_62 (congrArg lN (regE_congr (fun r _ => mxr_congr (fun x _ => Tm_lo hMV (Int32.not_le.mp c_10) x)))) hP hD hS (Nat.le_of_ble_eq_true rfl) (Nat.le_of_ble_eq_true rfl)
        · exact absurd c_9 (by omega)
  · exact absurd c_3 (by omega)
set_option maxHeartbeats 4000000 in
set_option maxRecDepth 100000 in
theorem m_level (l : Launch) (D : va_G) (cy : Nat → ClassId) (t0 : Nat) (a5 mD mI mZ mK mO mB mR mF k : Nat) (th now kM oM : Int32) (nl : Nat) (b : Nat) (G It Zt : Nat → Int32) (lst : Nat → Nat) (hML : ML lst nl It Zt) (hCV : CV G lst nl) (hb6 : b < 6) : xWi (S := Unit) l yX5_level wsX5_level ({ frames := 3, cells := 0, slots := 0, locals := 68 } : Room) D cy t0 ([.ref a5, .int (nI b)]) ([(a5, .inr (5, [.int th, .int (nI k), .int now, .ref mD, .ref mI, .ref mZ, .int (nI nl), .ref mK, .ref mO, .ref mB, .ref mR, .ref mF, .int kM, .int oM])), (mD, xI cy 600000 G), (mI, xI cy 100000 It)]) (fun r _ => r = nI (lvl (Sm (mb G b)))) (fun _ => [(a5, .inr (5, [.int (nI 0), .int (nI k), .int now, .ref mD, .ref mI, .ref mZ, .int (nI nl), .ref mK, .ref mO, .ref mB, .ref mR, .ref mF, .int kM, .int oM])), (mD, xI cy 600000 G), (mI, xI cy 100000 It)]) 0 0 := by
  refine xofWi (cc := cX5_level) (maxL := 2) (by decide) rfl (Nat.le_of_ble_eq_true rfl) (fun _ _ _ => rfl) ?_
  intro p e s m below meth c Q A ls hx hb hml hts hown hE hA H locs hP hD hl hS kret
  have hl : lv_has ls 2 [(0, .ref a5), (1, .int (nI b))] := hl
  refine lv_aload_n hx hb dX5_level_0 rfl (lv_at hl 0 rfl) ?_
  refine lv_iload_n hx hb dX5_level_1 rfl (lv_at hl 1 rfl) ?_
  refine xcRi (va_runS (As := [.int (nI b)]) (rest := [.ref a5]) ⟨hx, hb, hml, hown, hts⟩ (m_isBasket l D cy t0 (nI b)) (va_cwS 1 hts gX5_level_X5_isBasket rfl rfl rfl (by decide +kernel) ⟨Nat.le_of_ble_eq_true rfl, Nat.le_of_ble_eq_true rfl⟩) (xPr.give (wc := []) hE hS hP [] rfl) rfl rfl hl.1 rfl (lv_room (Nat.le_of_ble_eq_true rfl)) dX5_level_2 ⟨(Nat.zero_le _), (Nat.zero_le _)⟩) (fun r_1 hr_2 => ?_)
  obtain rfl : r_1 = nI 1 := by rw [hr_2, isBk_lt hb6]; rfl
  refine xb_if_eq (tgt := 12) (a := 1) (by omega) hx hb dX5_level_5 (by decide) (fun c_3 => ?_) (fun c_3 => ?_)
  · exact absurd c_3 (by omega)
  · refine lv_iconst (v := nI 0) hx hb dX5_level_8 (by decide) ?_
    refine lv_goto (tgt := 13) hx hb dX5_level_9 (by decide) ?_
    refine xcWi (wr := [(mD, xI cy 600000 G), (mI, xI cy 100000 It)]) (va_runV (As := [.int (nI 0)]) (rest := []) ⟨hx, hb, hml, hown, hts⟩ ((m_goesWell l D cy t0 a5 mD mI mZ mK mO mB mR mF k th now (nI nl) kM oM 0 (by omega)) H.size) (cwV 1 hts gX5_level_X5_goesWell rfl rfl rfl (by decide +kernel) ⟨Nat.le_of_ble_eq_true rfl, Nat.le_of_ble_eq_true rfl⟩) (xPw.giveV (wc := [(a5, .inr (5, [.int th, .int (nI k), .int now, .ref mD, .ref mI, .ref mZ, .int (nI nl), .ref mK, .ref mO, .ref mB, .ref mR, .ref mF, .int kM, .int oM]))]) hE hS hA hP hD [0] (by decide) rfl 0 5 rfl rfl) rfl rfl hl.1 rfl (lv_room (Nat.le_of_ble_eq_true rfl)) dX5_level_13 ⟨(Nat.zero_le _), (Nat.zero_le _)⟩) hP hD hS hA [0] [1, 2] rfl rfl (by decide) (by decide) (fun r_4 u_6 H locs hr_5 hP hD hS => ?_)
    obtain rfl : r_4 = nI 1 := by rw [hr_5]; rfl
    have hP := hP.sub (ws' := [(a5, .inr (5, [.int (nI 0), .int (nI k), .int now, .ref mD, .ref mI, .ref mZ, .int (nI nl), .ref mK, .ref mO, .ref mB, .ref mR, .ref mF, .int kM, .int oM])), (mD, xI cy 600000 G), (mI, xI cy 100000 It)]) [2, 0, 1] rfl
    have hD := hD.sub (ws' := [(a5, .inr (5, [.int (nI 0), .int (nI k), .int now, .ref mD, .ref mI, .ref mZ, .int (nI nl), .ref mK, .ref mO, .ref mB, .ref mR, .ref mF, .int kM, .int oM])), (mD, xI cy 600000 G), (mI, xI cy 100000 It)]) [2, 0, 1] (by decide) rfl
    refine xb_if_eq (tgt := 27) (a := 1) (by omega) hx hb dX5_level_16 (by decide) (fun c_7 => ?_) (fun c_7 => ?_)
    · exact absurd c_7 (by omega)
    · refine lv_aload_n hx hb dX5_level_19 rfl (lv_at hl 0 rfl) ?_
      refine lv_iload_n hx hb dX5_level_20 rfl (lv_at hl 1 rfl) ?_
      refine xcRi (va_runV (As := [.int (nI b)]) (rest := []) ⟨hx, hb, hml, hown, hts⟩ (m_levelOf l D cy t0 a5 mD mI mZ mK mO mB mR mF k (nI 0) now kM oM nl b G It Zt lst hML hCV hb6) (cwV 1 hts gX5_level_X5_levelOf rfl rfl rfl (by decide +kernel) ⟨Nat.le_of_ble_eq_true rfl, Nat.le_of_ble_eq_true rfl⟩) (xPr.giveV (wc := [(a5, .inr (5, [.int (nI 0), .int (nI k), .int now, .ref mD, .ref mI, .ref mZ, .int (nI nl), .ref mK, .ref mO, .ref mB, .ref mR, .ref mF, .int kM, .int oM])), (mD, xI cy 600000 G), (mI, xI cy 100000 It)]) hE hS hP [0, 1, 2] rfl 0 5 rfl rfl) rfl rfl hl.1 rfl (lv_room (Nat.le_of_ble_eq_true rfl)) dX5_level_21 ⟨(Nat.zero_le _), (Nat.zero_le _)⟩) (fun r_8 hr_9 => ?_)
      obtain rfl : r_8 = nI (lvl (Sm (mb G b))) := hr_9
      refine lv_goto (tgt := 28) hx hb dX5_level_24 (by decide) ?_
      exact kret _ () _ _ _ _ _ _ dX5_level_28 rfl hP hD hS (Nat.le_of_ble_eq_true rfl) (Nat.le_of_ble_eq_true rfl)
set_option maxHeartbeats 4000000 in
set_option maxRecDepth 100000 in
theorem m_sampled (l : Launch) (D : va_G) (cy : Nat → ClassId) (t0 : Nat) (a5 mD mI mZ mK mO mB mR mF k : Nat) (th now kM oM : Int32) (nl : Nat) (b : Nat) (G It Zt : Nat → Int32) (lst : Nat → Nat) (hML : ML lst nl It Zt) (hCV : CV G lst nl) (hb6 : b < 6) : xWi (S := Unit) l yX5_sampled wsX5_sampled ({ frames := 3, cells := 0, slots := 0, locals := 68 } : Room) D cy t0 ([.ref a5, .int (nI b)]) ([(a5, .inr (5, [.int th, .int (nI k), .int now, .ref mD, .ref mI, .ref mZ, .int (nI nl), .ref mK, .ref mO, .ref mB, .ref mR, .ref mF, .int kM, .int oM])), (mD, xI cy 600000 G), (mI, xI cy 100000 It)]) (fun r _ => r = nI (cb (SL (Sm (mb G b)) (lvl (Sm (mb G b)))) 100000)) (fun _ => [(a5, .inr (5, [.int (nI 0), .int (nI k), .int now, .ref mD, .ref mI, .ref mZ, .int (nI nl), .ref mK, .ref mO, .ref mB, .ref mR, .ref mF, .int kM, .int oM])), (mD, xI cy 600000 G), (mI, xI cy 100000 It)]) 0 0 := by
  refine xofWi (cc := cX5_sampled) (maxL := 2) (by decide) rfl (Nat.le_of_ble_eq_true rfl) (fun _ _ _ => rfl) ?_
  intro p e s m below meth c Q A ls hx hb hml hts hown hE hA H locs hP hD hl hS kret
  have hl : lv_has ls 2 [(0, .ref a5), (1, .int (nI b))] := hl
  have hlv : lvl (Sm (mb G b)) ≤ 24 := by have := lvF_le (Sm (mb G b)) 24 0; unfold lvl; omega
  refine lv_aload_n hx hb dX5_sampled_0 rfl (lv_at hl 0 rfl) ?_
  refine lv_iload_n hx hb dX5_sampled_1 rfl (lv_at hl 1 rfl) ?_
  refine xcRi (va_runS (As := [.int (nI b)]) (rest := [.ref a5]) ⟨hx, hb, hml, hown, hts⟩ (m_isBasket l D cy t0 (nI b)) (va_cwS 1 hts gX5_sampled_X5_isBasket rfl rfl rfl (by decide +kernel) ⟨Nat.le_of_ble_eq_true rfl, Nat.le_of_ble_eq_true rfl⟩) (xPr.give (wc := []) hE hS hP [] rfl) rfl rfl hl.1 rfl (lv_room (Nat.le_of_ble_eq_true rfl)) dX5_sampled_2 ⟨(Nat.zero_le _), (Nat.zero_le _)⟩) (fun r_1 hr_2 => ?_)
  obtain rfl : r_1 = nI 1 := by rw [hr_2, isBk_lt hb6]; rfl
  refine xb_if_eq (tgt := 12) (a := 1) (by omega) hx hb dX5_sampled_5 (by decide) (fun c_3 => ?_) (fun c_3 => ?_)
  · exact absurd c_3 (by omega)
  · refine lv_iconst (v := nI 0) hx hb dX5_sampled_8 (by decide) ?_
    refine lv_goto (tgt := 13) hx hb dX5_sampled_9 (by decide) ?_
    refine xcWi (wr := [(mD, xI cy 600000 G), (mI, xI cy 100000 It)]) (va_runV (As := [.int (nI 0)]) (rest := []) ⟨hx, hb, hml, hown, hts⟩ ((m_goesWell l D cy t0 a5 mD mI mZ mK mO mB mR mF k th now (nI nl) kM oM 0 (by omega)) H.size) (cwV 1 hts gX5_sampled_X5_goesWell rfl rfl rfl (by decide +kernel) ⟨Nat.le_of_ble_eq_true rfl, Nat.le_of_ble_eq_true rfl⟩) (xPw.giveV (wc := [(a5, .inr (5, [.int th, .int (nI k), .int now, .ref mD, .ref mI, .ref mZ, .int (nI nl), .ref mK, .ref mO, .ref mB, .ref mR, .ref mF, .int kM, .int oM]))]) hE hS hA hP hD [0] (by decide) rfl 0 5 rfl rfl) rfl rfl hl.1 rfl (lv_room (Nat.le_of_ble_eq_true rfl)) dX5_sampled_13 ⟨(Nat.zero_le _), (Nat.zero_le _)⟩) hP hD hS hA [0] [1, 2] rfl rfl (by decide) (by decide) (fun r_4 u_6 H locs hr_5 hP hD hS => ?_)
    obtain rfl : r_4 = nI 1 := by rw [hr_5]; rfl
    have hP := hP.sub (ws' := [(a5, .inr (5, [.int (nI 0), .int (nI k), .int now, .ref mD, .ref mI, .ref mZ, .int (nI nl), .ref mK, .ref mO, .ref mB, .ref mR, .ref mF, .int kM, .int oM])), (mD, xI cy 600000 G), (mI, xI cy 100000 It)]) [2, 0, 1] rfl
    have hD := hD.sub (ws' := [(a5, .inr (5, [.int (nI 0), .int (nI k), .int now, .ref mD, .ref mI, .ref mZ, .int (nI nl), .ref mK, .ref mO, .ref mB, .ref mR, .ref mF, .int kM, .int oM])), (mD, xI cy 600000 G), (mI, xI cy 100000 It)]) [2, 0, 1] (by decide) rfl
    refine xb_if_eq (tgt := 32) (a := 1) (by omega) hx hb dX5_sampled_16 (by decide) (fun c_7 => ?_) (fun c_7 => ?_)
    · exact absurd c_7 (by omega)
    · refine lv_aload_n hx hb dX5_sampled_19 rfl (lv_at hl 0 rfl) ?_
      refine lv_iload_n hx hb dX5_sampled_20 rfl (lv_at hl 1 rfl) ?_
      refine lv_aload_n hx hb dX5_sampled_21 rfl (lv_at hl 0 rfl) ?_
      refine lv_iload_n hx hb dX5_sampled_22 rfl (lv_at hl 1 rfl) ?_
      refine xcRi (va_runV (As := [.int (nI b)]) (rest := [.int (nI b), .ref a5]) ⟨hx, hb, hml, hown, hts⟩ (m_levelOf l D cy t0 a5 mD mI mZ mK mO mB mR mF k (nI 0) now kM oM nl b G It Zt lst hML hCV hb6) (cwV 1 hts gX5_sampled_X5_levelOf rfl rfl rfl (by decide +kernel) ⟨Nat.le_of_ble_eq_true rfl, Nat.le_of_ble_eq_true rfl⟩) (xPr.giveV (wc := [(a5, .inr (5, [.int (nI 0), .int (nI k), .int now, .ref mD, .ref mI, .ref mZ, .int (nI nl), .ref mK, .ref mO, .ref mB, .ref mR, .ref mF, .int kM, .int oM])), (mD, xI cy 600000 G), (mI, xI cy 100000 It)]) hE hS hP [0, 1, 2] rfl 0 5 rfl rfl) rfl rfl hl.1 rfl (lv_room (Nat.le_of_ble_eq_true rfl)) dX5_sampled_23 ⟨(Nat.zero_le _), (Nat.zero_le _)⟩) (fun r_8 hr_9 => ?_)
      obtain rfl : r_8 = nI (lvl (Sm (mb G b))) := hr_9
      refine xcRi (va_runV (As := [.int (nI b), .int (nI (lvl (Sm (mb G b))))]) (rest := []) ⟨hx, hb, hml, hown, hts⟩ (m_countAt l D cy t0 a5 mD mI mZ mK mO mB mR mF k (nI 0) now kM oM nl b (lvl (Sm (mb G b))) G It Zt lst hML hCV hb6 hlv) (cwV 2 hts gX5_sampled_X5_countAt rfl rfl rfl (by decide +kernel) ⟨Nat.le_of_ble_eq_true rfl, Nat.le_of_ble_eq_true rfl⟩) (xPr.giveV (wc := [(a5, .inr (5, [.int (nI 0), .int (nI k), .int now, .ref mD, .ref mI, .ref mZ, .int (nI nl), .ref mK, .ref mO, .ref mB, .ref mR, .ref mF, .int kM, .int oM])), (mD, xI cy 600000 G), (mI, xI cy 100000 It)]) hE hS hP [0, 1, 2] rfl 0 5 rfl rfl) rfl rfl hl.1 rfl (lv_room (Nat.le_of_ble_eq_true rfl)) dX5_sampled_26 ⟨(Nat.zero_le _), (Nat.zero_le _)⟩) (fun r_10 hr_11 => ?_)
      obtain rfl : r_10 = nI (cb (SL (Sm (mb G b)) (lvl (Sm (mb G b)))) 100000) := hr_11
      have hcb9 := cb_le (P := SL (Sm (mb G b)) (lvl (Sm (mb G b)))) (n := 100000)
      refine lv_goto (tgt := 33) hx hb dX5_sampled_29 (by decide) ?_
      exact kret _ () _ _ _ _ _ _ dX5_sampled_33 rfl hP hD hS (Nat.le_of_ble_eq_true rfl) (Nat.le_of_ble_eq_true rfl)
set_option maxHeartbeats 4000000 in
set_option maxRecDepth 100000 in
theorem m_bySample (l : Launch) (D : va_G) (cy : Nat → ClassId) (t0 : Nat) (a5 mD mI mZ mK mO mB mR mF k : Nat) (th now kM oM : Int32) (nl : Nat) (b : Nat) (G It Zt : Nat → Int32) (lst : Nat → Nat) (hML : ML lst nl It Zt) (hCV : CV G lst nl) (hb6 : b < 6) : xWi (S := Unit) l yX5_bySample wsX5_bySample ({ frames := 3, cells := 0, slots := 0, locals := 68 } : Room) D cy t0 ([.ref a5, .int (nI b)]) ([(a5, .inr (5, [.int th, .int (nI k), .int now, .ref mD, .ref mI, .ref mZ, .int (nI nl), .ref mK, .ref mO, .ref mB, .ref mR, .ref mF, .int kM, .int oM])), (mD, xI cy 600000 G), (mI, xI cy 100000 It)]) (fun r _ => r = nI (cb (SL (Sm (mb G b)) (lvl (Sm (mb G b)))) 100000) <<< (nI (lvl (Sm (mb G b))) &&& 31)) (fun _ => [(a5, .inr (5, [.int (nI 0), .int (nI k), .int now, .ref mD, .ref mI, .ref mZ, .int (nI nl), .ref mK, .ref mO, .ref mB, .ref mR, .ref mF, .int kM, .int oM])), (mD, xI cy 600000 G), (mI, xI cy 100000 It)]) 0 0 := by
  refine xofWi (cc := cX5_bySample) (maxL := 3) (by decide) rfl (Nat.le_of_ble_eq_true rfl) (fun _ _ _ => rfl) ?_
  intro p e s m below meth c Q A ls hx hb hml hts hown hE hA H locs hP hD hl hS kret
  have hl : lv_has ls 3 [(0, .ref a5), (1, .int (nI b))] := hl
  have hlv : lvl (Sm (mb G b)) ≤ 24 := by have := lvF_le (Sm (mb G b)) 24 0; unfold lvl; omega
  refine lv_aload_n hx hb dX5_bySample_0 rfl (lv_at hl 0 rfl) ?_
  refine lv_iload_n hx hb dX5_bySample_1 rfl (lv_at hl 1 rfl) ?_
  refine xcRi (va_runS (As := [.int (nI b)]) (rest := [.ref a5]) ⟨hx, hb, hml, hown, hts⟩ (m_isBasket l D cy t0 (nI b)) (va_cwS 1 hts gX5_bySample_X5_isBasket rfl rfl rfl (by decide +kernel) ⟨Nat.le_of_ble_eq_true rfl, Nat.le_of_ble_eq_true rfl⟩) (xPr.give (wc := []) hE hS hP [] rfl) rfl rfl hl.1 rfl (lv_room (Nat.le_of_ble_eq_true rfl)) dX5_bySample_2 ⟨(Nat.zero_le _), (Nat.zero_le _)⟩) (fun r_1 hr_2 => ?_)
  obtain rfl : r_1 = nI 1 := by rw [hr_2, isBk_lt hb6]; rfl
  refine xb_if_eq (tgt := 12) (a := 1) (by omega) hx hb dX5_bySample_5 (by decide) (fun c_3 => ?_) (fun c_3 => ?_)
  · exact absurd c_3 (by omega)
  · refine lv_iconst (v := nI 0) hx hb dX5_bySample_8 (by decide) ?_
    refine lv_goto (tgt := 13) hx hb dX5_bySample_9 (by decide) ?_
    refine xcWi (wr := [(mD, xI cy 600000 G), (mI, xI cy 100000 It)]) (va_runV (As := [.int (nI 0)]) (rest := []) ⟨hx, hb, hml, hown, hts⟩ ((m_goesWell l D cy t0 a5 mD mI mZ mK mO mB mR mF k th now (nI nl) kM oM 0 (by omega)) H.size) (cwV 1 hts gX5_bySample_X5_goesWell rfl rfl rfl (by decide +kernel) ⟨Nat.le_of_ble_eq_true rfl, Nat.le_of_ble_eq_true rfl⟩) (xPw.giveV (wc := [(a5, .inr (5, [.int th, .int (nI k), .int now, .ref mD, .ref mI, .ref mZ, .int (nI nl), .ref mK, .ref mO, .ref mB, .ref mR, .ref mF, .int kM, .int oM]))]) hE hS hA hP hD [0] (by decide) rfl 0 5 rfl rfl) rfl rfl hl.1 rfl (lv_room (Nat.le_of_ble_eq_true rfl)) dX5_bySample_13 ⟨(Nat.zero_le _), (Nat.zero_le _)⟩) hP hD hS hA [0] [1, 2] rfl rfl (by decide) (by decide) (fun r_4 u_6 H locs hr_5 hP hD hS => ?_)
    obtain rfl : r_4 = nI 1 := by rw [hr_5]; rfl
    have hP := hP.sub (ws' := [(a5, .inr (5, [.int (nI 0), .int (nI k), .int now, .ref mD, .ref mI, .ref mZ, .int (nI nl), .ref mK, .ref mO, .ref mB, .ref mR, .ref mF, .int kM, .int oM])), (mD, xI cy 600000 G), (mI, xI cy 100000 It)]) [2, 0, 1] rfl
    have hD := hD.sub (ws' := [(a5, .inr (5, [.int (nI 0), .int (nI k), .int now, .ref mD, .ref mI, .ref mZ, .int (nI nl), .ref mK, .ref mO, .ref mB, .ref mR, .ref mF, .int kM, .int oM])), (mD, xI cy 600000 G), (mI, xI cy 100000 It)]) [2, 0, 1] (by decide) rfl
    refine xb_if_ne (tgt := 21) (a := 1) (by omega) hx hb dX5_bySample_16 (by decide) (fun c_7 => ?_) (fun c_7 => ?_)
    · refine lv_aload_n hx hb dX5_bySample_21 rfl (lv_at hl 0 rfl) ?_
      refine lv_iload_n hx hb dX5_bySample_22 rfl (lv_at hl 1 rfl) ?_
      refine xcRi (va_runV (As := [.int (nI b)]) (rest := []) ⟨hx, hb, hml, hown, hts⟩ (m_levelOf l D cy t0 a5 mD mI mZ mK mO mB mR mF k (nI 0) now kM oM nl b G It Zt lst hML hCV hb6) (cwV 1 hts gX5_bySample_X5_levelOf rfl rfl rfl (by decide +kernel) ⟨Nat.le_of_ble_eq_true rfl, Nat.le_of_ble_eq_true rfl⟩) (xPr.giveV (wc := [(a5, .inr (5, [.int (nI 0), .int (nI k), .int now, .ref mD, .ref mI, .ref mZ, .int (nI nl), .ref mK, .ref mO, .ref mB, .ref mR, .ref mF, .int kM, .int oM])), (mD, xI cy 600000 G), (mI, xI cy 100000 It)]) hE hS hP [0, 1, 2] rfl 0 5 rfl rfl) rfl rfl hl.1 rfl (lv_room (Nat.le_of_ble_eq_true rfl)) dX5_bySample_23 ⟨(Nat.zero_le _), (Nat.zero_le _)⟩) (fun r_8 hr_9 => ?_)
      obtain rfl : r_8 = nI (lvl (Sm (mb G b))) := hr_9
      refine lv_istore_n (lv' := [(2, .int (nI (lvl (Sm (mb G b))))), (0, .ref a5), (1, .int (nI b))]) hx hb dX5_bySample_26 rfl hl (by decide) rfl (fun ls hl => ?_)
      refine lv_aload_n hx hb dX5_bySample_27 rfl (lv_at hl 1 rfl) ?_
      refine lv_iload_n hx hb dX5_bySample_28 rfl (lv_at hl 2 rfl) ?_
      refine lv_iload_n hx hb dX5_bySample_29 rfl (lv_at hl 0 rfl) ?_
      refine xcRi (va_runV (As := [.int (nI b), .int (nI (lvl (Sm (mb G b))))]) (rest := []) ⟨hx, hb, hml, hown, hts⟩ (m_countAt l D cy t0 a5 mD mI mZ mK mO mB mR mF k (nI 0) now kM oM nl b (lvl (Sm (mb G b))) G It Zt lst hML hCV hb6 hlv) (cwV 2 hts gX5_bySample_X5_countAt rfl rfl rfl (by decide +kernel) ⟨Nat.le_of_ble_eq_true rfl, Nat.le_of_ble_eq_true rfl⟩) (xPr.giveV (wc := [(a5, .inr (5, [.int (nI 0), .int (nI k), .int now, .ref mD, .ref mI, .ref mZ, .int (nI nl), .ref mK, .ref mO, .ref mB, .ref mR, .ref mF, .int kM, .int oM])), (mD, xI cy 600000 G), (mI, xI cy 100000 It)]) hE hS hP [0, 1, 2] rfl 0 5 rfl rfl) rfl rfl hl.1 rfl (lv_room (Nat.le_of_ble_eq_true rfl)) dX5_bySample_30 ⟨(Nat.zero_le _), (Nat.zero_le _)⟩) (fun r_10 hr_11 => ?_)
      obtain rfl : r_10 = nI (cb (SL (Sm (mb G b)) (lvl (Sm (mb G b)))) 100000) := hr_11
      have hcb9 := cb_le (P := SL (Sm (mb G b)) (lvl (Sm (mb G b)))) (n := 100000)
      refine lv_iload_n hx hb dX5_bySample_33 rfl (lv_at hl 0 rfl) ?_
      refine lv_ishl hx hb dX5_bySample_34 ?_
      exact kret _ () _ _ _ _ _ _ dX5_bySample_35 rfl hP hD hS (Nat.le_of_ble_eq_true rfl) (Nat.le_of_ble_eq_true rfl)
    · exact absurd c_7 (by omega)
set_option maxHeartbeats 4000000 in
set_option maxRecDepth 100000 in
theorem m_sampledAt (l : Launch) (D : va_G) (cy : Nat → ClassId) (t0 : Nat) (a5 mD mI mZ mK mO mB mR mF k : Nat) (th now kM oM : Int32) (nl : Nat) (b ix : Nat) (G It Zt : Nat → Int32) (lst : Nat → Nat) (hML : ML lst nl It Zt) (hCV : CV G lst nl) (hb6 : b < 6) (hix : ix < cb (SL (Sm (mb G b)) (lvl (Sm (mb G b)))) 100000) : xWi (S := Unit) l yX5_sampledAt wsX5_sampledAt ({ frames := 3, cells := 0, slots := 0, locals := 68 } : Room) D cy t0 ([.ref a5, .int (nI b), .int (nI ix)]) ([(a5, .inr (5, [.int th, .int (nI k), .int now, .ref mD, .ref mI, .ref mZ, .int (nI nl), .ref mK, .ref mO, .ref mB, .ref mR, .ref mF, .int kM, .int oM])), (mD, xI cy 600000 G), (mI, xI cy 100000 It)]) (fun r _ => r = nI (nthB (SL (Sm (mb G b)) (lvl (Sm (mb G b)))) ix 100000)) (fun _ => [(a5, .inr (5, [.int (nI 0), .int (nI k), .int now, .ref mD, .ref mI, .ref mZ, .int (nI nl), .ref mK, .ref mO, .ref mB, .ref mR, .ref mF, .int kM, .int oM])), (mD, xI cy 600000 G), (mI, xI cy 100000 It)]) 0 0 := by
  refine xofWi (cc := cX5_sampledAt) (maxL := 7) (by decide) rfl (Nat.le_of_ble_eq_true rfl) (fun _ _ _ => rfl) ?_
  intro p e s m below meth c Q A ls hx hb hml hts hown hE hA H locs hP hD hl hS kret
  have hl : lv_has ls 7 [(0, .ref a5), (1, .int (nI b)), (2, .int (nI ix))] := hl
  have hlv : lvl (Sm (mb G b)) ≤ 24 := by have := lvF_le (Sm (mb G b)) 24 0; unfold lvl; omega
  obtain ⟨t, ht1, ht2, ht3⟩ := cb_at hix
  have hpw : 2 ^ lvl (Sm (mb G b)) ≤ 2 ^ 24 := Nat.pow_le_pow_right (by omega) hlv
  have hpp := Nat.two_pow_pos (lvl (Sm (mb G b)))
  refine lv_iload_n hx hb dX5_sampledAt_0 rfl (lv_at hl 1 rfl) ?_
  refine xcRi (va_runS (As := [.int (nI b)]) (rest := []) ⟨hx, hb, hml, hown, hts⟩ (m_isBasket l D cy t0 (nI b)) (va_cwS 1 hts gX5_sampledAt_X5_isBasket rfl rfl rfl (by decide +kernel) ⟨Nat.le_of_ble_eq_true rfl, Nat.le_of_ble_eq_true rfl⟩) (xPr.give (wc := []) hE hS hP [] rfl) rfl rfl hl.1 rfl (lv_room (Nat.le_of_ble_eq_true rfl)) dX5_sampledAt_1 ⟨(Nat.zero_le _), (Nat.zero_le _)⟩) (fun r_1 hr_2 => ?_)
  obtain rfl : r_1 = nI 1 := by rw [hr_2, isBk_lt hb6]; rfl
  refine xb_if_eq (tgt := 15) (a := 1) (by omega) hx hb dX5_sampledAt_4 (by decide) (fun c_3 => ?_) (fun c_3 => ?_)
  · exact absurd c_3 (by omega)
  · refine lv_aload_n hx hb dX5_sampledAt_7 rfl (lv_at hl 0 rfl) ?_
    refine lv_iload_n hx hb dX5_sampledAt_8 rfl (lv_at hl 1 rfl) ?_
    refine xcRi (va_runV (As := [.int (nI b)]) (rest := []) ⟨hx, hb, hml, hown, hts⟩ (m_levelOf l D cy t0 a5 mD mI mZ mK mO mB mR mF k th now kM oM nl b G It Zt lst hML hCV hb6) (cwV 1 hts gX5_sampledAt_X5_levelOf rfl rfl rfl (by decide +kernel) ⟨Nat.le_of_ble_eq_true rfl, Nat.le_of_ble_eq_true rfl⟩) (xPr.giveV (wc := [(a5, .inr (5, [.int th, .int (nI k), .int now, .ref mD, .ref mI, .ref mZ, .int (nI nl), .ref mK, .ref mO, .ref mB, .ref mR, .ref mF, .int kM, .int oM])), (mD, xI cy 600000 G), (mI, xI cy 100000 It)]) hE hS hP [0, 1, 2] rfl 0 5 rfl rfl) rfl rfl hl.1 rfl (lv_room (Nat.le_of_ble_eq_true rfl)) dX5_sampledAt_9 ⟨(Nat.zero_le _), (Nat.zero_le _)⟩) (fun r_4 hr_5 => ?_)
    obtain rfl : r_4 = nI (lvl (Sm (mb G b))) := hr_5
    refine lv_goto (tgt := 16) hx hb dX5_sampledAt_12 (by decide) ?_
    refine lv_istore_n (lv' := [(3, .int (nI (lvl (Sm (mb G b))))), (0, .ref a5), (1, .int (nI b)), (2, .int (nI ix))]) hx hb dX5_sampledAt_16 rfl hl (by decide) rfl (fun ls hl => ?_)
    refine lv_iload_n hx hb dX5_sampledAt_17 rfl (lv_at hl 2 rfl) ?_
    refine xcRi (va_runS (As := [.int (nI b)]) (rest := []) ⟨hx, hb, hml, hown, hts⟩ (m_isBasket l D cy t0 (nI b)) (va_cwS 1 hts gX5_sampledAt_X5_isBasket rfl rfl rfl (by decide +kernel) ⟨Nat.le_of_ble_eq_true rfl, Nat.le_of_ble_eq_true rfl⟩) (xPr.give (wc := []) hE hS hP [] rfl) rfl rfl hl.1 rfl (lv_room (Nat.le_of_ble_eq_true rfl)) dX5_sampledAt_18 ⟨(Nat.zero_le _), (Nat.zero_le _)⟩) (fun r_6 hr_7 => ?_)
    obtain rfl : r_6 = nI 1 := by rw [hr_7, isBk_lt hb6]; rfl
    refine xb_if_eq (tgt := 33) (a := 1) (by omega) hx hb dX5_sampledAt_21 (by decide) (fun c_8 => ?_) (fun c_8 => ?_)
    · exact absurd c_8 (by omega)
    · refine lv_aload_n hx hb dX5_sampledAt_24 rfl (lv_at hl 1 rfl) ?_
      refine lv_iload_n hx hb dX5_sampledAt_25 rfl (lv_at hl 2 rfl) ?_
      refine lv_iload_n hx hb dX5_sampledAt_26 rfl (lv_at hl 0 rfl) ?_
      refine xcRi (va_runV (As := [.int (nI b), .int (nI (lvl (Sm (mb G b))))]) (rest := []) ⟨hx, hb, hml, hown, hts⟩ (m_countAt l D cy t0 a5 mD mI mZ mK mO mB mR mF k th now kM oM nl b (lvl (Sm (mb G b))) G It Zt lst hML hCV hb6 hlv) (cwV 2 hts gX5_sampledAt_X5_countAt rfl rfl rfl (by decide +kernel) ⟨Nat.le_of_ble_eq_true rfl, Nat.le_of_ble_eq_true rfl⟩) (xPr.giveV (wc := [(a5, .inr (5, [.int th, .int (nI k), .int now, .ref mD, .ref mI, .ref mZ, .int (nI nl), .ref mK, .ref mO, .ref mB, .ref mR, .ref mF, .int kM, .int oM])), (mD, xI cy 600000 G), (mI, xI cy 100000 It)]) hE hS hP [0, 1, 2] rfl 0 5 rfl rfl) rfl rfl hl.1 rfl (lv_room (Nat.le_of_ble_eq_true rfl)) dX5_sampledAt_27 ⟨(Nat.zero_le _), (Nat.zero_le _)⟩) (fun r_9 hr_10 => ?_)
      obtain rfl : r_9 = nI (cb (SL (Sm (mb G b)) (lvl (Sm (mb G b)))) 100000) := hr_10
      have hcb9 := cb_le (P := SL (Sm (mb G b)) (lvl (Sm (mb G b)))) (n := 100000)
      refine lv_goto (tgt := 34) hx hb dX5_sampledAt_30 (by decide) ?_
      refine lv_istore (lv' := [(4, .int (nI (cb (SL (Sm (mb G b)) (lvl (Sm (mb G b)))) 100000))), (3, .int (nI (lvl (Sm (mb G b))))), (0, .ref a5), (1, .int (nI b)), (2, .int (nI ix))]) hx hb dX5_sampledAt_34 hl (by decide) rfl (fun ls hl => ?_)
      refine lv_aload_n hx hb dX5_sampledAt_36 rfl (lv_at hl 2 rfl) ?_
      refine lv_iload_n hx hb dX5_sampledAt_37 rfl (lv_at hl 4 rfl) ?_
      refine xb_if_lt (tgt := 51) (a := ix) (by omega) hx hb dX5_sampledAt_38 (by decide) (fun c_11 => ?_) (fun c_11 => ?_)
      · exact c_11.elim
      · refine lv_iload_n hx hb dX5_sampledAt_41 rfl (lv_at hl 4 rfl) ?_
        refine lv_iload hx hb dX5_sampledAt_42 (lv_at hl 0 rfl) ?_
        refine xb_icmp_ge (tgt := 51) (a := ix) (b := cb (SL (Sm (mb G b)) (lvl (Sm (mb G b)))) 100000) (by omega) (by omega) hx hb dX5_sampledAt_44 (by decide) (fun c_12 => ?_) (fun c_12 => ?_)
        · exact absurd c_12 (by omega)
        · refine lv_iconst (v := nI 0) hx hb dX5_sampledAt_47 (by decide) ?_
          refine lv_goto (tgt := 52) hx hb dX5_sampledAt_48 (by decide) ?_
          refine xcWi (wr := [(mD, xI cy 600000 G), (mI, xI cy 100000 It)]) (va_runV (As := [.int (nI 0)]) (rest := []) ⟨hx, hb, hml, hown, hts⟩ ((m_goesWell l D cy t0 a5 mD mI mZ mK mO mB mR mF k th now (nI nl) kM oM 0 (by omega)) H.size) (cwV 1 hts gX5_sampledAt_X5_goesWell rfl rfl rfl (by decide +kernel) ⟨Nat.le_of_ble_eq_true rfl, Nat.le_of_ble_eq_true rfl⟩) (xPw.giveV (wc := [(a5, .inr (5, [.int th, .int (nI k), .int now, .ref mD, .ref mI, .ref mZ, .int (nI nl), .ref mK, .ref mO, .ref mB, .ref mR, .ref mF, .int kM, .int oM]))]) hE hS hA hP hD [0] (by decide) rfl 0 5 rfl rfl) rfl rfl hl.1 rfl (lv_room (Nat.le_of_ble_eq_true rfl)) dX5_sampledAt_52 ⟨(Nat.zero_le _), (Nat.zero_le _)⟩) hP hD hS hA [0] [1, 2] rfl rfl (by decide) (by decide) (fun r_13 u_15 H locs hr_14 hP hD hS => ?_)
          obtain rfl : r_13 = nI 1 := by rw [hr_14]; rfl
          have hP := hP.sub (ws' := [(a5, .inr (5, [.int (nI 0), .int (nI k), .int now, .ref mD, .ref mI, .ref mZ, .int (nI nl), .ref mK, .ref mO, .ref mB, .ref mR, .ref mF, .int kM, .int oM])), (mD, xI cy 600000 G), (mI, xI cy 100000 It)]) [2, 0, 1] rfl
          have hD := hD.sub (ws' := [(a5, .inr (5, [.int (nI 0), .int (nI k), .int now, .ref mD, .ref mI, .ref mZ, .int (nI nl), .ref mK, .ref mO, .ref mB, .ref mR, .ref mF, .int kM, .int oM])), (mD, xI cy 600000 G), (mI, xI cy 100000 It)]) [2, 0, 1] (by decide) rfl
          refine xb_if_ne (tgt := 60) (a := 1) (by omega) hx hb dX5_sampledAt_55 (by decide) (fun c_16 => ?_) (fun c_16 => ?_)
          · refine lv_iconst (v := nI 0) hx hb dX5_sampledAt_60 (by decide) ?_
            refine lv_istore (lv' := [(5, .int (nI 0)), (4, .int (nI (cb (SL (Sm (mb G b)) (lvl (Sm (mb G b)))) 100000))), (3, .int (nI (lvl (Sm (mb G b))))), (0, .ref a5), (1, .int (nI b)), (2, .int (nI ix))]) hx hb dX5_sampledAt_61 hl (by decide) rfl (fun ls hl => ?_)
            refine lv_iload_n hx hb dX5_sampledAt_63 rfl (lv_at hl 5 rfl) ?_
            refine lv_istore (lv' := [(6, .int (nI ix)), (5, .int (nI 0)), (4, .int (nI (cb (SL (Sm (mb G b)) (lvl (Sm (mb G b)))) 100000))), (3, .int (nI (lvl (Sm (mb G b))))), (0, .ref a5), (1, .int (nI b)), (2, .int (nI ix))]) hx hb dX5_sampledAt_64 hl (by decide) rfl (fun ls hl => ?_)
            have lp : ∀ (n9 : Nat), ∀ (lo : Nat), (hlo : lo ≤ t) → t - lo < n9 → ∀ (H : Heap) (locs : List Loc), xP D [(a5, .inr (5, [.int (nI 0), .int (nI k), .int now, .ref mD, .ref mI, .ref mZ, .int (nI nl), .ref mK, .ref mO, .ref mB, .ref mR, .ref mF, .int kM, .int oM])), (mD, xI cy 600000 G), (mI, xI cy 100000 It)] H → va_D A [(a5, .inr (5, [.int (nI 0), .int (nI k), .int now, .ref mD, .ref mI, .ref mZ, .int (nI nl), .ref mK, .ref mO, .ref mB, .ref mR, .ref mF, .int kM, .int oM])), (mD, xI cy 600000 G), (mI, xI cy 100000 It)] → va_S A s.heap H locs → ∀ (ls : Array Slot), lv_has ls 7 [(0, .ref a5), (1, .int (nI b)), (2, .int (nI ix)), (3, .int (nI (lvl (Sm (mb G b))))), (4, .int (nI (cb (SL (Sm (mb G b)) (lvl (Sm (mb G b)))) 100000))), (5, .int (nI lo)), (6, .int (nI (ix - cb (SL (Sm (mb G b)) (lvl (Sm (mb G b)))) lo)))] → W p l e ({ frames := 3, cells := 0, slots := 0, locals := 68 } : Room) s m [.ref a5, .int (nI b), .int (nI ix)].toArray below meth c H locs 0 0 Q (F0 m 66 ls []) := by
              intro n9
              induction n9 with
              | zero => intro lo hlo hm; exact absurd hm (Nat.not_lt_zero _)
              | succ n9 ih_lp =>
                intro lo hlo hm H locs hP hD hS ls hl
                have hci : cb (SL (Sm (mb G b)) (lvl (Sm (mb G b)))) lo ≤ ix := by rw [← ht3]; exact cb_mono hlo
                have hlo1 : lo < 100000 := by omega
                have hhl := hsh_lt lo
                have j93 : (hlt : lo < t) → ∀ (H : Heap) (locs : List Loc), xP D [(a5, .inr (5, [.int (nI 0), .int (nI k), .int now, .ref mD, .ref mI, .ref mZ, .int (nI nl), .ref mK, .ref mO, .ref mB, .ref mR, .ref mF, .int kM, .int oM])), (mD, xI cy 600000 G), (mI, xI cy 100000 It)] H → va_D A [(a5, .inr (5, [.int (nI 0), .int (nI k), .int now, .ref mD, .ref mI, .ref mZ, .int (nI nl), .ref mK, .ref mO, .ref mB, .ref mR, .ref mF, .int kM, .int oM])), (mD, xI cy 600000 G), (mI, xI cy 100000 It)] → va_S A s.heap H locs → ∀ (ls : Array Slot), lv_has ls 7 [(0, .ref a5), (1, .int (nI b)), (2, .int (nI ix)), (3, .int (nI (lvl (Sm (mb G b))))), (4, .int (nI (cb (SL (Sm (mb G b)) (lvl (Sm (mb G b)))) 100000))), (5, .int (nI lo)), (6, .int (nI (ix - cb (SL (Sm (mb G b)) (lvl (Sm (mb G b)))) lo)))] → W p l e ({ frames := 3, cells := 0, slots := 0, locals := 68 } : Room) s m [.ref a5, .int (nI b), .int (nI ix)].toArray below meth c H locs 0 0 Q (F0 m 93 ls []) := by
                  intro hlt H locs hP hD hS ls hl
                  refine lv_iload hx hb dX5_sampledAt_93 (lv_at hl 6 rfl) ?_
                  refine lv_aload_n hx hb dX5_sampledAt_95 rfl (lv_at hl 0 rfl) ?_
                  refine lv_iload_n hx hb dX5_sampledAt_96 rfl (lv_at hl 1 rfl) ?_
                  refine lv_iload hx hb dX5_sampledAt_97 (lv_at hl 5 rfl) ?_
                  refine xcRi (va_runV (As := [.int (nI b), .int (nI lo)]) (rest := [.int (nI (ix - cb (SL (Sm (mb G b)) (lvl (Sm (mb G b)))) lo))]) ⟨hx, hb, hml, hown, hts⟩ (m_has l D cy t0 a5 mD mI mZ mK mO mB mR mF k (nI 0) now (nI nl) kM oM b lo G hb6 hlo1) (cwV 2 hts gX5_sampledAt_X5_has rfl rfl rfl (by decide +kernel) ⟨Nat.le_of_ble_eq_true rfl, Nat.le_of_ble_eq_true rfl⟩) (xPr.giveV (wc := [(a5, .inr (5, [.int (nI 0), .int (nI k), .int now, .ref mD, .ref mI, .ref mZ, .int (nI nl), .ref mK, .ref mO, .ref mB, .ref mR, .ref mF, .int kM, .int oM])), (mD, xI cy 600000 G)]) hE hS hP [0, 1] rfl 0 5 rfl rfl) rfl rfl hl.1 rfl (lv_room (Nat.le_of_ble_eq_true rfl)) dX5_sampledAt_99 ⟨(Nat.zero_le _), (Nat.zero_le _)⟩) (fun r_17 hr_18 => ?_)
                  refine lv_eqi (z := xb (Sm (mb G b) lo)) hr_18 ?_
                  refine xb_beq (tgt := 121) hx hb dX5_sampledAt_102 (by decide) (fun c_19 => ?_) (fun c_19 => ?_)
                  · have hSl : (SL (Sm (mb G b)) (lvl (Sm (mb G b)))) lo = false := by rw [SL, c_19]; rfl
                    have e2 : cb (SL (Sm (mb G b)) (lvl (Sm (mb G b)))) (lo + 1) = cb (SL (Sm (mb G b)) (lvl (Sm (mb G b)))) lo := cb_f hSl
                    refine lv_iconst (v := nI 0) hx hb dX5_sampledAt_121 (by decide) ?_
                    refine lv_isub hx hb dX5_sampledAt_122 ?_
                    refine lv_eqi (z := nI (ix - cb (SL (Sm (mb G b)) (lvl (Sm (mb G b)))) (lo + 1))) (by rw [pk_sub (Nat.zero_le _)]; congr 1; omega) ?_
                    refine lv_istore (lv' := [(6, .int (nI (ix - cb (SL (Sm (mb G b)) (lvl (Sm (mb G b)))) (lo + 1)))), (0, .ref a5), (1, .int (nI b)), (2, .int (nI ix)), (3, .int (nI (lvl (Sm (mb G b))))), (4, .int (nI (cb (SL (Sm (mb G b)) (lvl (Sm (mb G b)))) 100000))), (5, .int (nI lo))]) hx hb dX5_sampledAt_123 hl (by decide) rfl (fun ls hl => ?_)
                    refine lv_iinc (v := nI (lo + 1)) (lv' := [(5, .int (nI (lo + 1))), (6, .int (nI (ix - cb (SL (Sm (mb G b)) (lvl (Sm (mb G b)))) (lo + 1)))), (0, .ref a5), (1, .int (nI b)), (2, .int (nI ix)), (3, .int (nI (lvl (Sm (mb G b))))), (4, .int (nI (cb (SL (Sm (mb G b)) (lvl (Sm (mb G b)))) 100000)))]) hx hb dX5_sampledAt_125 hl (k := 6) rfl (nI_add _ 1) (by decide) rfl (fun ls hl => ?_)
                    refine lv_goto (tgt := 66) hx hb dX5_sampledAt_128 (by decide) ?_
                    exact ih_lp (lo + 1) (by omega) (by omega) _ _ hP hD hS _ (lv_sub hl [2, 3, 4, 5, 6, 0, 1] rfl)
                  · refine lv_iload hx hb dX5_sampledAt_105 (lv_at hl 5 rfl) ?_
                    refine xcRi (va_runS (As := [.int (nI lo)]) (rest := [.int (nI (ix - cb (SL (Sm (mb G b)) (lvl (Sm (mb G b)))) lo))]) ⟨hx, hb, hml, hown, hts⟩ (m_hashOf l D cy t0 lo hlo1) (va_cwS 1 hts gX5_sampledAt_X5_hashOf rfl rfl rfl (by decide +kernel) ⟨Nat.le_of_ble_eq_true rfl, Nat.le_of_ble_eq_true rfl⟩) (xPr.give (wc := []) hE hS hP [] rfl) rfl rfl hl.1 rfl (lv_room (Nat.le_of_ble_eq_true rfl)) dX5_sampledAt_107 ⟨(Nat.zero_le _), (Nat.zero_le _)⟩) (fun r_20 hr_21 => ?_)
                    obtain rfl : r_20 = nI (hsh lo) := hr_21
                    have hhl := hsh_lt lo
                    refine lv_iconst (v := nI 1) hx hb dX5_sampledAt_110 (by decide) ?_
                    refine lv_iload_n hx hb dX5_sampledAt_111 rfl (lv_at hl 3 rfl) ?_
                    refine lv_ishl hx hb dX5_sampledAt_112 ?_
                    refine lv_eqi (z := nI (2 ^ lvl (Sm (mb G b)))) ((shlz (v := 1) (by omega) (by omega)).trans (congrArg nI (Nat.one_mul _))) ?_
                    refine lv_irem hx hb dX5_sampledAt_113 (nI_ne0 (by omega) (by omega)) ?_
                    refine lv_eqi (z := nI (hsh lo % 2 ^ lvl (Sm (mb G b)))) (pk_rem (by omega) (by omega) (by omega)) ?_
                    refine xb_if_ne (tgt := 121) (a := hsh lo % 2 ^ lvl (Sm (mb G b))) (by omega) hx hb dX5_sampledAt_114 (by decide) (fun c_22 => ?_) (fun c_22 => ?_)
                    · have hSl : (SL (Sm (mb G b)) (lvl (Sm (mb G b)))) lo = false := by rw [SL, c_19, decide_eq_false (fun q => c_22 ((zr_dvd hlv).mpr q))]; rfl
                      have e2 : cb (SL (Sm (mb G b)) (lvl (Sm (mb G b)))) (lo + 1) = cb (SL (Sm (mb G b)) (lvl (Sm (mb G b)))) lo := cb_f hSl
                      refine lv_iconst (v := nI 0) hx hb dX5_sampledAt_121 (by decide) ?_
                      refine lv_isub hx hb dX5_sampledAt_122 ?_
                      refine lv_eqi (z := nI (ix - cb (SL (Sm (mb G b)) (lvl (Sm (mb G b)))) (lo + 1))) (by rw [pk_sub (Nat.zero_le _)]; congr 1; omega) ?_
                      refine lv_istore (lv' := [(6, .int (nI (ix - cb (SL (Sm (mb G b)) (lvl (Sm (mb G b)))) (lo + 1)))), (0, .ref a5), (1, .int (nI b)), (2, .int (nI ix)), (3, .int (nI (lvl (Sm (mb G b))))), (4, .int (nI (cb (SL (Sm (mb G b)) (lvl (Sm (mb G b)))) 100000))), (5, .int (nI lo))]) hx hb dX5_sampledAt_123 hl (by decide) rfl (fun ls hl => ?_)
                      refine lv_iinc (v := nI (lo + 1)) (lv' := [(5, .int (nI (lo + 1))), (6, .int (nI (ix - cb (SL (Sm (mb G b)) (lvl (Sm (mb G b)))) (lo + 1)))), (0, .ref a5), (1, .int (nI b)), (2, .int (nI ix)), (3, .int (nI (lvl (Sm (mb G b))))), (4, .int (nI (cb (SL (Sm (mb G b)) (lvl (Sm (mb G b)))) 100000)))]) hx hb dX5_sampledAt_125 hl (k := 6) rfl (nI_add _ 1) (by decide) rfl (fun ls hl => ?_)
                      refine lv_goto (tgt := 66) hx hb dX5_sampledAt_128 (by decide) ?_
                      exact ih_lp (lo + 1) (by omega) (by omega) _ _ hP hD hS _ (lv_sub hl [2, 3, 4, 5, 6, 0, 1] rfl)
                    · have hSl : (SL (Sm (mb G b)) (lvl (Sm (mb G b)))) lo = true := by rw [SL, c_19, decide_eq_true ((zr_dvd hlv).mp c_22)]; rfl
                      have e2 : cb (SL (Sm (mb G b)) (lvl (Sm (mb G b)))) (lo + 1) = cb (SL (Sm (mb G b)) (lvl (Sm (mb G b)))) lo + 1 := cb_t hSl
                      have e3 : cb (SL (Sm (mb G b)) (lvl (Sm (mb G b)))) (lo + 1) ≤ cb (SL (Sm (mb G b)) (lvl (Sm (mb G b)))) t := cb_mono (by omega)
                      refine lv_iconst (v := nI 1) hx hb dX5_sampledAt_117 (by decide) ?_
                      refine lv_goto (tgt := 122) hx hb dX5_sampledAt_118 (by decide) ?_
                      refine lv_isub hx hb dX5_sampledAt_122 ?_
                      refine lv_eqi (z := nI (ix - cb (SL (Sm (mb G b)) (lvl (Sm (mb G b)))) (lo + 1))) (by rw [pk_sub (by omega)]; congr 1; omega) ?_
                      refine lv_istore (lv' := [(6, .int (nI (ix - cb (SL (Sm (mb G b)) (lvl (Sm (mb G b)))) (lo + 1)))), (0, .ref a5), (1, .int (nI b)), (2, .int (nI ix)), (3, .int (nI (lvl (Sm (mb G b))))), (4, .int (nI (cb (SL (Sm (mb G b)) (lvl (Sm (mb G b)))) 100000))), (5, .int (nI lo))]) hx hb dX5_sampledAt_123 hl (by decide) rfl (fun ls hl => ?_)
                      refine lv_iinc (v := nI (lo + 1)) (lv' := [(5, .int (nI (lo + 1))), (6, .int (nI (ix - cb (SL (Sm (mb G b)) (lvl (Sm (mb G b)))) (lo + 1)))), (0, .ref a5), (1, .int (nI b)), (2, .int (nI ix)), (3, .int (nI (lvl (Sm (mb G b))))), (4, .int (nI (cb (SL (Sm (mb G b)) (lvl (Sm (mb G b)))) 100000)))]) hx hb dX5_sampledAt_125 hl (k := 6) rfl (nI_add _ 1) (by decide) rfl (fun ls hl => ?_)
                      refine lv_goto (tgt := 66) hx hb dX5_sampledAt_128 (by decide) ?_
                      exact ih_lp (lo + 1) (by omega) (by omega) _ _ hP hD hS _ (lv_sub hl [2, 3, 4, 5, 6, 0, 1] rfl)
                refine lv_iload hx hb dX5_sampledAt_66 (lv_at hl 6 rfl) ?_
                refine xb_if_gt (tgt := 93) (a := ix - cb (SL (Sm (mb G b)) (lvl (Sm (mb G b)))) lo) (by omega) hx hb dX5_sampledAt_68 (by decide) (fun c_23 => ?_) (fun c_23 => ?_)
                · exact j93  (Nat.lt_of_le_of_ne hlo (fun q => by subst q; omega))  _ _ hP hD hS _ (lv_sub hl [0, 1, 2, 3, 4, 5, 6] rfl)
                · refine lv_aload_n hx hb dX5_sampledAt_71 rfl (lv_at hl 0 rfl) ?_
                  refine lv_iload_n hx hb dX5_sampledAt_72 rfl (lv_at hl 1 rfl) ?_
                  refine lv_iload hx hb dX5_sampledAt_73 (lv_at hl 5 rfl) ?_
                  refine xcRi (va_runV (As := [.int (nI b), .int (nI lo)]) (rest := []) ⟨hx, hb, hml, hown, hts⟩ (m_has l D cy t0 a5 mD mI mZ mK mO mB mR mF k (nI 0) now (nI nl) kM oM b lo G hb6 hlo1) (cwV 2 hts gX5_sampledAt_X5_has rfl rfl rfl (by decide +kernel) ⟨Nat.le_of_ble_eq_true rfl, Nat.le_of_ble_eq_true rfl⟩) (xPr.giveV (wc := [(a5, .inr (5, [.int (nI 0), .int (nI k), .int now, .ref mD, .ref mI, .ref mZ, .int (nI nl), .ref mK, .ref mO, .ref mB, .ref mR, .ref mF, .int kM, .int oM])), (mD, xI cy 600000 G)]) hE hS hP [0, 1] rfl 0 5 rfl rfl) rfl rfl hl.1 rfl (lv_room (Nat.le_of_ble_eq_true rfl)) dX5_sampledAt_75 ⟨(Nat.zero_le _), (Nat.zero_le _)⟩) (fun r_24 hr_25 => ?_)
                  refine lv_eqi (z := xb (Sm (mb G b) lo)) hr_25 ?_
                  refine xb_beq (tgt := 93) hx hb dX5_sampledAt_78 (by decide) (fun c_26 => ?_) (fun c_26 => ?_)
                  · exact j93  (Nat.lt_of_le_of_ne hlo (fun q => by subst q; rw [SL, c_26] at ht2; cases ht2))  _ _ hP hD hS _ (lv_sub hl [0, 1, 2, 3, 4, 5, 6] rfl)
                  · refine lv_iload hx hb dX5_sampledAt_81 (lv_at hl 5 rfl) ?_
                    refine xcRi (va_runS (As := [.int (nI lo)]) (rest := []) ⟨hx, hb, hml, hown, hts⟩ (m_hashOf l D cy t0 lo hlo1) (va_cwS 1 hts gX5_sampledAt_X5_hashOf rfl rfl rfl (by decide +kernel) ⟨Nat.le_of_ble_eq_true rfl, Nat.le_of_ble_eq_true rfl⟩) (xPr.give (wc := []) hE hS hP [] rfl) rfl rfl hl.1 rfl (lv_room (Nat.le_of_ble_eq_true rfl)) dX5_sampledAt_83 ⟨(Nat.zero_le _), (Nat.zero_le _)⟩) (fun r_27 hr_28 => ?_)
                    obtain rfl : r_27 = nI (hsh lo) := hr_28
                    have hhl := hsh_lt lo
                    refine lv_iconst (v := nI 1) hx hb dX5_sampledAt_86 (by decide) ?_
                    refine lv_iload_n hx hb dX5_sampledAt_87 rfl (lv_at hl 3 rfl) ?_
                    refine lv_ishl hx hb dX5_sampledAt_88 ?_
                    refine lv_eqi (z := nI (2 ^ lvl (Sm (mb G b)))) ((shlz (v := 1) (by omega) (by omega)).trans (congrArg nI (Nat.one_mul _))) ?_
                    refine lv_irem hx hb dX5_sampledAt_89 (nI_ne0 (by omega) (by omega)) ?_
                    refine lv_eqi (z := nI (hsh lo % 2 ^ lvl (Sm (mb G b)))) (pk_rem (by omega) (by omega) (by omega)) ?_
                    refine xb_if_eq (tgt := 131) (a := hsh lo % 2 ^ lvl (Sm (mb G b))) (by omega) hx hb dX5_sampledAt_90 (by decide) (fun c_29 => ?_) (fun c_29 => ?_)
                    · refine lv_iload hx hb dX5_sampledAt_131 (lv_at hl 5 rfl) ?_
                      have hSl : (SL (Sm (mb G b)) (lvl (Sm (mb G b)))) lo = true := by rw [SL, c_26, decide_eq_true ((zr_dvd hlv).mp c_29)]; rfl
                      have hce : cb (SL (Sm (mb G b)) (lvl (Sm (mb G b)))) lo = ix := by omega
                      exact kret _ () _ _ _ _ _ _ dX5_sampledAt_133 (congrArg nI (nthB_eq hlo1 hSl hce).symm) hP hD hS (Nat.le_of_ble_eq_true rfl) (Nat.le_of_ble_eq_true rfl)
                    · exact j93  (Nat.lt_of_le_of_ne hlo (fun q => c_29 (by subst q; rw [SL, Bool.and_eq_true] at ht2; exact (zr_dvd hlv).mpr (of_decide_eq_true ht2.2))))  _ _ hP hD hS _ (lv_sub hl [0, 1, 2, 3, 4, 5, 6] rfl)
            exact lp 100001 0 (Nat.zero_le _) (by omega) _ _ hP hD hS _ (lv_sub hl [4, 5, 6, 3, 2, 1, 0] rfl)
          · exact absurd c_16 (by omega)
end XX5F
