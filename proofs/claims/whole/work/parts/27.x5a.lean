section XX5A
set_option maxHeartbeats 4000000 in
set_option maxRecDepth 100000 in
theorem m_thrown (l : Launch) (D : va_G) (cy : Nat → ClassId) (t0 : Nat) (a5 mD mI mZ mK mO mB mR mF k : Nat) (th now nl5 kM oM : Int32) : xRi l yX5_thrown wsX5_thrown ({ frames := 0, cells := 0, slots := 0, locals := 0 } : Room) D cy t0 ([.ref a5]) ([(a5, .inr (5, [.int th, .int (nI k), .int now, .ref mD, .ref mI, .ref mZ, .int nl5, .ref mK, .ref mO, .ref mB, .ref mR, .ref mF, .int kM, .int oM]))]) (fun r => r = th) := by
  refine xofRi (cc := cX5_thrown) (maxL := 1) (by decide) rfl (Nat.le_of_ble_eq_true rfl) (fun _ _ => rfl) ?_
  intro p e s m below meth c Q ls hx hb hml hts hown hE hP hl hS kret
  have hl : lv_has ls 1 [(0, .ref a5)] := hl
  refine lv_aload_n hx hb dX5_thrown_0 rfl (lv_at hl 0 rfl) ?_
  refine va_get (D := D) (ci := 5) (v := .int th) (C := RX5) (T := TX5) (N := 14) hx hb hts (by decide +kernel) hown hE.1 hP 0 rfl rfl 0 (by decide) (hts (.fieldLink RX5 43 "DistinctDaleModel" "thrown" "I") (by decide +kernel)) (fun _ h9 => h9) rfl dX5_thrown_1 ?_
  exact kret _ _ _ dX5_thrown_4 rfl
set_option maxHeartbeats 4000000 in
set_option maxRecDepth 100000 in
theorem m_goesWell (l : Launch) (D : va_G) (cy : Nat → ClassId) (t0 : Nat) (a5 mD mI mZ mK mO mB mR mF k : Nat) (th now nl5 kM oM : Int32) (g9 : Nat) (hg9 : g9 < 3) : xWi (S := Unit) l yX5_goesWell wsX5_goesWell ({ frames := 0, cells := 0, slots := 0, locals := 0 } : Room) D cy t0 ([.ref a5, .int (nI g9)]) ([(a5, .inr (5, [.int th, .int (nI k), .int now, .ref mD, .ref mI, .ref mZ, .int nl5, .ref mK, .ref mO, .ref mB, .ref mR, .ref mF, .int kM, .int oM]))]) (fun r _ => r = xb (decide (g9 = 0))) (fun _ => [(a5, .inr (5, [.int (nI g9), .int (nI k), .int now, .ref mD, .ref mI, .ref mZ, .int nl5, .ref mK, .ref mO, .ref mB, .ref mR, .ref mF, .int kM, .int oM]))]) 0 0 := by
  refine xofWi (cc := cX5_goesWell) (maxL := 2) (by decide) rfl (Nat.le_of_ble_eq_true rfl) (fun r u h => by rw [h]; exact xb_nar _) ?_
  intro p e s m below meth c Q A ls hx hb hml hts hown hE hA H locs hP hD hl hS kret
  have hl : lv_has ls 2 [(0, .ref a5), (1, .int (nI g9))] := hl
  refine lv_aload_n hx hb dX5_goesWell_0 rfl (lv_at hl 0 rfl) ?_
  refine lv_iload_n hx hb dX5_goesWell_1 rfl (lv_at hl 1 rfl) ?_
  refine va_put (D := D) (ci := 5) (v := .int (nI g9)) (ty := .int) (C := RX5) (T := TX5) (N := 14) hx hb hts (by decide +kernel) tyX5 tyX5_ok nmX5 hown hE.1 hP hD hS 0 rfl rfl 0 (by decide) (hts (.fieldLink RX5 43 "DistinctDaleModel" "thrown" "I") (by decide +kernel)) (fun _ h9 => h9) rfl (by decide +kernel) rfl rfl (Nat.le_of_ble_eq_true rfl) dX5_goesWell_2 (fun H locs hP hD hS => ?_)
  have hP : xP D [(a5, .inr (5, [.int (nI g9), .int (nI k), .int now, .ref mD, .ref mI, .ref mZ, .int nl5, .ref mK, .ref mO, .ref mB, .ref mR, .ref mF, .int kM, .int oM]))] H := hP
  have hD : va_D A [(a5, .inr (5, [.int (nI g9), .int (nI k), .int now, .ref mD, .ref mI, .ref mZ, .int nl5, .ref mK, .ref mO, .ref mB, .ref mR, .ref mF, .int kM, .int oM]))] := hD
  refine lv_iload_n hx hb dX5_goesWell_5 rfl (lv_at hl 1 rfl) ?_
  refine xb_if_ne (tgt := 13) (a := g9) (by omega) hx hb dX5_goesWell_6 (by decide) (fun c_1 => ?_) (fun c_1 => ?_)
  · refine lv_iconst (v := nI 0) hx hb dX5_goesWell_13 (by decide) ?_
    exact kret _ () _ _ _ _ _ _ dX5_goesWell_14 (by rw [decide_eq_false c_1]; rfl) hP hD hS (Nat.le_of_ble_eq_true rfl) (Nat.le_of_ble_eq_true rfl)
  · refine lv_iconst (v := nI 1) hx hb dX5_goesWell_9 (by decide) ?_
    refine lv_goto (tgt := 14) hx hb dX5_goesWell_10 (by decide) ?_
    exact kret _ () _ _ _ _ _ _ dX5_goesWell_14 (by rw [decide_eq_true c_1]; rfl) hP hD hS (Nat.le_of_ble_eq_true rfl) (Nat.le_of_ble_eq_true rfl)
set_option maxHeartbeats 4000000 in
set_option maxRecDepth 100000 in
theorem m_isBasket (l : Launch) (D : va_G) (cy : Nat → ClassId) (t0 : Nat) (x : Int32) : xRi l yX5_isBasket wsX5_isBasket ({ frames := 0, cells := 0, slots := 0, locals := 0 } : Room) D cy t0 ([.int x]) ([]) (fun r => r = xb (isBk x)) := by
  refine xofRi (cc := cX5_isBasket) (maxL := 1) (by decide) rfl (Nat.le_of_ble_eq_true rfl) (fun r h => by rw [h]; exact xb_nar _) ?_
  intro p e s m below meth c Q ls hx hb hml hts hown hE hP hl hS kret
  have hl : lv_has ls 1 [(0, .int x)] := hl
  refine lv_iload_n hx hb dX5_isBasket_0 rfl (lv_at hl 0 rfl) ?_
  refine lv_if_lt (tgt := 14) hx hb dX5_isBasket_1 (by decide) (fun c_1 => ?_) (fun c_1 => ?_)
  · refine lv_iconst (v := nI 0) hx hb dX5_isBasket_14 (by decide) ?_
    exact kret _ _ _ dX5_isBasket_15 (by rw [isBk_neg c_1]; rfl)
  · obtain ⟨j, hj, ej⟩ := nI_of c_1
    rw [ej] at hl
    refine lv_iload_n hx hb dX5_isBasket_4 rfl (lv_at hl 0 rfl) ?_
    refine lv_bipush (v := nI 6) hx hb dX5_isBasket_5 (by decide) ?_
    refine xb_icmp_ge (tgt := 14) (a := j) (b := 6) (by omega) (by omega) hx hb dX5_isBasket_7 (by decide) (fun c_2 => ?_) (fun c_2 => ?_)
    · refine lv_iconst (v := nI 0) hx hb dX5_isBasket_14 (by decide) ?_
      exact kret _ _ _ dX5_isBasket_15 (by rw [ej, isBk_ge c_2 hj]; rfl)
    · refine lv_iconst (v := nI 1) hx hb dX5_isBasket_10 (by decide) ?_
      refine lv_goto (tgt := 15) hx hb dX5_isBasket_11 (by decide) ?_
      exact kret _ _ _ dX5_isBasket_15 (by rw [ej, isBk_lt c_2]; rfl)
set_option maxHeartbeats 4000000 in
set_option maxRecDepth 100000 in
theorem m_isItem (l : Launch) (D : va_G) (cy : Nat → ClassId) (t0 : Nat) (x : Int32) : xRi l yX5_isItem wsX5_isItem ({ frames := 0, cells := 0, slots := 0, locals := 0 } : Room) D cy t0 ([.int x]) ([]) (fun r => r = xb (isIt x)) := by
  refine xofRi (cc := cX5_isItem) (maxL := 1) (by decide) rfl (Nat.le_of_ble_eq_true rfl) (fun r h => by rw [h]; exact xb_nar _) ?_
  intro p e s m below meth c Q ls hx hb hml hts hown hE hP hl hS kret
  have hl : lv_has ls 1 [(0, .int x)] := hl
  refine lv_iload_n hx hb dX5_isItem_0 rfl (lv_at hl 0 rfl) ?_
  refine lv_if_lt (tgt := 14) hx hb dX5_isItem_1 (by decide) (fun c_1 => ?_) (fun c_1 => ?_)
  · refine lv_iconst (v := nI 0) hx hb dX5_isItem_14 (by decide) ?_
    exact kret _ _ _ dX5_isItem_15 (by rw [isIt_neg c_1]; rfl)
  · obtain ⟨j, hj, ej⟩ := nI_of c_1
    rw [ej] at hl
    refine lv_iload_n hx hb dX5_isItem_4 rfl (lv_at hl 0 rfl) ?_
    refine lv_ldc (v := nI 100000) hx hb hown (hts (.constant RX5 14 (100000)) (by decide +kernel)) dX5_isItem_5 ?_
    refine xb_icmp_ge (tgt := 14) (a := j) (b := 100000) (by omega) (by omega) hx hb dX5_isItem_7 (by decide) (fun c_2 => ?_) (fun c_2 => ?_)
    · refine lv_iconst (v := nI 0) hx hb dX5_isItem_14 (by decide) ?_
      exact kret _ _ _ dX5_isItem_15 (by rw [ej, isIt_ge c_2 hj]; rfl)
    · refine lv_iconst (v := nI 1) hx hb dX5_isItem_10 (by decide) ?_
      refine lv_goto (tgt := 15) hx hb dX5_isItem_11 (by decide) ?_
      exact kret _ _ _ dX5_isItem_15 (by rw [ej, isIt_lt c_2]; rfl)
set_option maxHeartbeats 4000000 in
set_option maxRecDepth 100000 in
theorem m_hashOf (l : Launch) (D : va_G) (cy : Nat → ClassId) (t0 : Nat) (i : Nat) (hi : i < 100000) : xRi l yX5_hashOf wsX5_hashOf ({ frames := 0, cells := 0, slots := 0, locals := 0 } : Room) D cy t0 ([.int (nI i)]) ([]) (fun r => r = nI (hsh i)) := by
  refine xofRi (cc := cX5_hashOf) (maxL := 1) (by decide) rfl (Nat.le_of_ble_eq_true rfl) (fun _ _ => rfl) ?_
  intro p e s m below meth c Q ls hx hb hml hts hown hE hP hl hS kret
  have hl : lv_has ls 1 [(0, .int (nI i))] := hl
  refine lv_ldc2 (v := lN 69) hx hb hown (hts (.constantLong RX5 46 (69)) (by decide +kernel)) dX5_hashOf_0 ?_
  refine lv_iload_n hx hb dX5_hashOf_3 rfl (lv_at hl 0 rfl) ?_
  refine lv_i2l (v := lN i) hx hb dX5_hashOf_4 (nI_l (by omega)) ?_
  refine lv_lmul hx hb dX5_hashOf_5 ?_
  refine lv_eql (z := lN (69 * i)) (lN_mul _ _) ?_
  refine lv_iload_n hx hb dX5_hashOf_6 rfl (lv_at hl 0 rfl) ?_
  refine lv_i2l (v := lN i) hx hb dX5_hashOf_7 (nI_l (by omega)) ?_
  refine lv_lmul hx hb dX5_hashOf_8 ?_
  refine lv_eql (z := lN ((69 * i) * i)) (lN_mul _ _) ?_
  refine lv_ldc2 (v := lN 48271) hx hb hown (hts (.constantLong RX5 48 (48271)) (by decide +kernel)) dX5_hashOf_9 ?_
  refine lv_iload_n hx hb dX5_hashOf_12 rfl (lv_at hl 0 rfl) ?_
  refine lv_i2l (v := lN i) hx hb dX5_hashOf_13 (nI_l (by omega)) ?_
  refine lv_lmul hx hb dX5_hashOf_14 ?_
  refine lv_eql (z := lN (48271 * i)) (lN_mul _ _) ?_
  refine lv_ladd hx hb dX5_hashOf_15 ?_
  refine lv_eql (z := lN (((69 * i) * i) + (48271 * i))) (lN_add _ _) ?_
  refine lv_ldc2 (v := lN 101) hx hb hown (hts (.constantLong RX5 50 (101)) (by decide +kernel)) dX5_hashOf_16 ?_
  refine lv_ladd hx hb dX5_hashOf_19 ?_
  refine lv_eql (z := lN ((((69 * i) * i) + (48271 * i)) + 101)) (lN_add _ _) ?_
  refine lv_ldc2 (v := lN 16777213) hx hb hown (hts (.constantLong RX5 52 (16777213)) (by decide +kernel)) dX5_hashOf_20 ?_
  refine lv_lrem hx hb dX5_hashOf_23 (by decide) ?_
  refine lv_eql (z := lN (hsh i)) (pk_lRem (by have := hsh_sq hi; omega) (by omega) (by omega)) ?_
  refine lv_l2i (v := nI (hsh i)) hx hb dX5_hashOf_24 (lN_i _) ?_
  exact kret _ _ _ dX5_hashOf_25 rfl
set_option maxHeartbeats 4000000 in
set_option maxRecDepth 100000 in
theorem m_has (l : Launch) (D : va_G) (cy : Nat → ClassId) (t0 : Nat) (a5 mD mI mZ mK mO mB mR mF k : Nat) (th now nl5 kM oM : Int32) (b x : Nat) (G : Nat → Int32) (hb6 : b < 6) (hx2 : x < 100000) : xRi l yX5_has wsX5_has ({ frames := 0, cells := 0, slots := 0, locals := 0 } : Room) D cy t0 ([.ref a5, .int (nI b), .int (nI x)]) ([(a5, .inr (5, [.int th, .int (nI k), .int now, .ref mD, .ref mI, .ref mZ, .int nl5, .ref mK, .ref mO, .ref mB, .ref mR, .ref mF, .int kM, .int oM])), (mD, xI cy 600000 G)]) (fun r => r = xb (Sm (mb G b) x)) := by
  refine xofRi (cc := cX5_has) (maxL := 3) (by decide) rfl (Nat.le_of_ble_eq_true rfl) (fun r h => by rw [h]; exact xb_nar _) ?_
  intro p e s m below meth c Q ls hx hb hml hts hown hE hP hl hS kret
  have hl : lv_has ls 3 [(0, .ref a5), (1, .int (nI b)), (2, .int (nI x))] := hl
  refine lv_aload_n hx hb dX5_has_0 rfl (lv_at hl 0 rfl) ?_
  refine va_get (D := D) (ci := 5) (v := .ref mD) (C := RX5) (T := TX5) (N := 14) hx hb hts (by decide +kernel) hown hE.1 hP 0 rfl rfl 3 (by decide) (hts (.fieldLink RX5 8 "DistinctDaleModel" "dates" "[I") (by decide +kernel)) (fun _ h9 => h9) rfl dX5_has_1 ?_
  refine lv_ldc (v := nI 100000) hx hb hown (hts (.constant RX5 14 (100000)) (by decide +kernel)) dX5_has_4 ?_
  refine lv_iload_n hx hb dX5_has_6 rfl (lv_at hl 1 rfl) ?_
  refine lv_imul hx hb dX5_has_7 ?_
  refine lv_eqi (z := nI (100000 * b)) (pk_mul _ _) ?_
  refine lv_iload_n hx hb dX5_has_8 rfl (lv_at hl 2 rfl) ?_
  refine lv_iadd hx hb dX5_has_9 ?_
  refine lv_eqi (z := nI ((100000 * b) + x)) (nI_add _ _) ?_
  refine va_iald (D := D) hx hb hE.1 hP 1 0 rfl rfl (vp_in_nI (by omega) (by omega)) dX5_has_10 ?_
  refine lv_eqi (z := G (100000 * b + x)) (by rw [nI_clamp (by omega)]) ?_
  refine lv_iconst (v := (-1)) hx hb dX5_has_11 (by decide) ?_
  refine lv_icmp_eq (tgt := 19) hx hb dX5_has_12 (by decide) (fun c_1 => ?_) (fun c_1 => ?_)
  · refine lv_iconst (v := nI 0) hx hb dX5_has_19 (by decide) ?_
    exact kret _ _ _ dX5_has_20 (by rw [show Sm (mb G b) x = false from Sm_f.mpr (by rw [mb_lt hx2]; exact c_1)]; rfl)
  · refine lv_iconst (v := nI 1) hx hb dX5_has_15 (by decide) ?_
    refine lv_goto (tgt := 20) hx hb dX5_has_16 (by decide) ?_
    exact kret _ _ _ dX5_has_20 (by rw [show Sm (mb G b) x = true from Sm_t.mpr (by rw [mb_lt hx2]; exact c_1)]; rfl)
set_option maxHeartbeats 4000000 in
set_option maxRecDepth 100000 in
theorem m_put (l : Launch) (D : va_G) (cy : Nat → ClassId) (t0 : Nat) (a5 mD mI mZ mK mO mB mR mF k : Nat) (th now kM oM : Int32) (nl : Nat) (b x : Nat) (d9 : Int32) (G It Zt : Nat → Int32) (lst : Nat → Nat) (hb6 : b < 6) (hx2 : x < 100000) (hML : ML lst nl It Zt) : xWi (S := (Nat → Int32) × (Nat → Int32) × (Nat → Int32) × (Nat → Nat) × Nat) l yX5_put wsX5_put ({ frames := 1, cells := 0, slots := 0, locals := 22 } : Room) D cy t0 ([.ref a5, .int (nI b), .int (nI x), .int d9]) ([(a5, .inr (5, [.int th, .int (nI k), .int now, .ref mD, .ref mI, .ref mZ, .int (nI nl), .ref mK, .ref mO, .ref mB, .ref mR, .ref mF, .int kM, .int oM])), (mD, xI cy 600000 G), (mI, xI cy 100000 It), (mZ, xZ cy 100000 Zt)]) (fun r u => r = xb (!Sm (mb G b) x) ∧ GU G u.1 b (upM (mb G b) x d9) ∧ ML u.2.2.2.1 u.2.2.2.2 u.2.1 u.2.2.1 ∧ (∀ y, memb lst nl y = true → memb u.2.2.2.1 u.2.2.2.2 y = true) ∧ memb u.2.2.2.1 u.2.2.2.2 x = true ∧ (memb lst nl x = true → u.2.2.2.1 = lst ∧ u.2.2.2.2 = nl ∧ u.2.1 = It ∧ u.2.2.1 = Zt)) (fun u => [(a5, .inr (5, [.int th, .int (nI k), .int now, .ref mD, .ref mI, .ref mZ, .int (nI u.2.2.2.2), .ref mK, .ref mO, .ref mB, .ref mR, .ref mF, .int kM, .int oM])), (mD, xI cy 600000 u.1), (mI, xI cy 100000 u.2.1), (mZ, xZ cy 100000 u.2.2.1)]) 0 0 := by
  refine xofWi (cc := cX5_put) (maxL := 5) (by decide) rfl (Nat.le_of_ble_eq_true rfl) (fun r u h => by rw [h.1]; exact xb_nar _) ?_
  intro p e s m below meth c Q A ls hx hb hml hts hown hE hA H locs hP hD hl hS kret
  have hl : lv_has ls 5 [(0, .ref a5), (1, .int (nI b)), (2, .int (nI x)), (3, .int d9)] := hl
  have hnle := hML.le
  refine lv_aload_n hx hb dX5_put_0 rfl (lv_at hl 0 rfl) ?_
  refine lv_iload_n hx hb dX5_put_1 rfl (lv_at hl 1 rfl) ?_
  refine lv_iload_n hx hb dX5_put_2 rfl (lv_at hl 2 rfl) ?_
  refine xcRi (va_runV (As := [.int (nI b), .int (nI x)]) (rest := []) ⟨hx, hb, hml, hown, hts⟩ (m_has l D cy t0 a5 mD mI mZ mK mO mB mR mF k th now (nI nl) kM oM b x G hb6 hx2) (cwV 2 hts gX5_put_X5_has rfl rfl rfl (by decide +kernel) ⟨Nat.le_of_ble_eq_true rfl, Nat.le_of_ble_eq_true rfl⟩) (xPr.giveV (wc := [(a5, .inr (5, [.int th, .int (nI k), .int now, .ref mD, .ref mI, .ref mZ, .int (nI nl), .ref mK, .ref mO, .ref mB, .ref mR, .ref mF, .int kM, .int oM])), (mD, xI cy 600000 G)]) hE hS hP [0, 1] rfl 0 5 rfl rfl) rfl rfl hl.1 rfl (lv_room (Nat.le_of_ble_eq_true rfl)) dX5_put_3 ⟨(Nat.zero_le _), (Nat.zero_le _)⟩) (fun r_1 hr_2 => ?_)
  refine lv_eqi (z := xb (Sm (mb G b) x)) hr_2 ?_
  refine xb_bne (tgt := 13) hx hb dX5_put_6 (by decide) (fun c_3 => ?_) (fun c_3 => ?_)
  · refine lv_iconst (v := nI 0) hx hb dX5_put_13 (by decide) ?_
    refine lv_istore (lv' := [(4, .int (nI 0)), (0, .ref a5), (1, .int (nI b)), (2, .int (nI x)), (3, .int d9)]) hx hb dX5_put_14 hl (by decide) rfl (fun ls hl => ?_)
    refine lv_iload_n hx hb dX5_put_16 rfl (lv_at hl 4 rfl) ?_
    refine lv_aload_n hx hb dX5_put_17 rfl (lv_at hl 1 rfl) ?_
    refine va_get (D := D) (ci := 5) (v := .ref mD) (C := RX5) (T := TX5) (N := 14) hx hb hts (by decide +kernel) hown hE.1 hP 0 rfl rfl 3 (by decide) (hts (.fieldLink RX5 8 "DistinctDaleModel" "dates" "[I") (by decide +kernel)) (fun _ h9 => h9) rfl dX5_put_18 ?_
    refine lv_ldc (v := nI 100000) hx hb hown (hts (.constant RX5 14 (100000)) (by decide +kernel)) dX5_put_21 ?_
    refine lv_iload_n hx hb dX5_put_23 rfl (lv_at hl 2 rfl) ?_
    refine lv_imul hx hb dX5_put_24 ?_
    refine lv_eqi (z := nI (100000 * b)) (pk_mul _ _) ?_
    refine lv_iload_n hx hb dX5_put_25 rfl (lv_at hl 3 rfl) ?_
    refine lv_iadd hx hb dX5_put_26 ?_
    refine lv_eqi (z := nI ((100000 * b) + x)) (nI_add _ _) ?_
    refine va_iald (D := D) hx hb hE.1 hP 1 0 rfl rfl (vp_in_nI (by omega) (by omega)) dX5_put_27 ?_
    refine lv_eqi (z := G (100000 * b + x)) (by rw [nI_clamp (by omega)]) ?_
    refine lv_icmp_le (tgt := 43) hx hb dX5_put_28 (by decide) (fun c_4 => ?_) (fun c_4 => ?_)
    · refine lv_aload_n hx hb dX5_put_43 rfl (lv_at hl 1 rfl) ?_
      refine va_get (D := D) (ci := 5) (v := .ref mZ) (C := RX5) (T := TX5) (N := 14) hx hb hts (by decide +kernel) hown hE.1 hP 0 rfl rfl 5 (by decide) (hts (.fieldLink RX5 18 "DistinctDaleModel" "isListed" "[Z") (by decide +kernel)) (fun _ h9 => h9) rfl dX5_put_44 ?_
      refine lv_iload_n hx hb dX5_put_47 rfl (lv_at hl 3 rfl) ?_
      refine va_zald (D := D) hx hb hE.1 hP 3 1 rfl rfl (vp_in_nI (by omega) (by omega)) dX5_put_48 ?_
      refine lv_eqi (z := xb (memb lst nl x)) (by rw [nI_clamp (by omega)]; exact hML.2.2 x hx2) ?_
      refine xb_bne (tgt := 79) hx hb dX5_put_49 (by decide) (fun c_5 => ?_) (fun c_5 => ?_)
      · have hlx := c_5
        refine lv_iload hx hb dX5_put_79 (lv_at hl 0 rfl) ?_
        exact kret _ (G, It, Zt, lst, nl) _ _ _ _ _ _ dX5_put_81 ⟨(by rw [c_3]; rfl), (GU_no hx2 c_4), ⟨hML, fun _ h => h, hlx, fun _ => ⟨rfl, rfl, rfl, rfl⟩⟩⟩ hP hD hS (Nat.le_of_ble_eq_true rfl) (Nat.le_of_ble_eq_true rfl)
      · have hlx := c_5
        have hnl := hML.lt hx2 hlx
        refine lv_aload_n hx hb dX5_put_52 rfl (lv_at hl 1 rfl) ?_
        refine va_get (D := D) (ci := 5) (v := .ref mZ) (C := RX5) (T := TX5) (N := 14) hx hb hts (by decide +kernel) hown hE.1 hP 0 rfl rfl 5 (by decide) (hts (.fieldLink RX5 18 "DistinctDaleModel" "isListed" "[Z") (by decide +kernel)) (fun _ h9 => h9) rfl dX5_put_53 ?_
        refine lv_iload_n hx hb dX5_put_56 rfl (lv_at hl 3 rfl) ?_
        refine lv_iconst (v := nI 1) hx hb dX5_put_57 (by decide) ?_
        refine va_zast (D := D) hx hb hE.1 hP hD hS 3 1 rfl rfl (vp_in_nI (by omega) (by omega)) dX5_put_58 (fun H locs hP hD hS => ?_)
        rw [nI_clamp (by omega)] at hP hD
        have hP : xP D [(a5, .inr (5, [.int th, .int (nI k), .int now, .ref mD, .ref mI, .ref mZ, .int (nI nl), .ref mK, .ref mO, .ref mB, .ref mR, .ref mF, .int kM, .int oM])), (mD, xI cy 600000 G), (mI, xI cy 100000 It), (mZ, xZ cy 100000 (upd Zt x (nI 1)))] H := hP
        have hD : va_D A [(a5, .inr (5, [.int th, .int (nI k), .int now, .ref mD, .ref mI, .ref mZ, .int (nI nl), .ref mK, .ref mO, .ref mB, .ref mR, .ref mF, .int kM, .int oM])), (mD, xI cy 600000 G), (mI, xI cy 100000 It), (mZ, xZ cy 100000 (upd Zt x (nI 1)))] := hD
        have hzf : upd Zt x (vp_nar .boolean (nI 1)) = upd Zt x 1 := rfl
        have hP : xP D [(a5, .inr (5, [.int th, .int (nI k), .int now, .ref mD, .ref mI, .ref mZ, .int (nI nl), .ref mK, .ref mO, .ref mB, .ref mR, .ref mF, .int kM, .int oM])), (mD, xI cy 600000 G), (mI, xI cy 100000 It), (mZ, xZ cy 100000 (upd Zt x 1))] H := hP
        have hD : va_D A [(a5, .inr (5, [.int th, .int (nI k), .int now, .ref mD, .ref mI, .ref mZ, .int (nI nl), .ref mK, .ref mO, .ref mB, .ref mR, .ref mF, .int kM, .int oM])), (mD, xI cy 600000 G), (mI, xI cy 100000 It), (mZ, xZ cy 100000 (upd Zt x 1))] := hD
        refine lv_aload_n hx hb dX5_put_59 rfl (lv_at hl 1 rfl) ?_
        refine va_get (D := D) (ci := 5) (v := .ref mI) (C := RX5) (T := TX5) (N := 14) hx hb hts (by decide +kernel) hown hE.1 hP 0 rfl rfl 4 (by decide) (hts (.fieldLink RX5 15 "DistinctDaleModel" "items" "[I") (by decide +kernel)) (fun _ h9 => h9) rfl dX5_put_60 ?_
        refine lv_aload_n hx hb dX5_put_63 rfl (lv_at hl 1 rfl) ?_
        refine va_get (D := D) (ci := 5) (v := .int (nI nl)) (C := RX5) (T := TX5) (N := 14) hx hb hts (by decide +kernel) hown hE.1 hP 0 rfl rfl 6 (by decide) (hts (.fieldLink RX5 58 "DistinctDaleModel" "listed" "I") (by decide +kernel)) (fun _ h9 => h9) rfl dX5_put_64 ?_
        refine lv_iload_n hx hb dX5_put_67 rfl (lv_at hl 3 rfl) ?_
        refine va_iast (D := D) hx hb hE.1 hP hD hS 2 0 rfl rfl (vp_in_nI (by omega) (by omega)) dX5_put_68 (fun H locs hP hD hS => ?_)
        rw [nI_clamp (by omega)] at hP hD
        have hP : xP D [(a5, .inr (5, [.int th, .int (nI k), .int now, .ref mD, .ref mI, .ref mZ, .int (nI nl), .ref mK, .ref mO, .ref mB, .ref mR, .ref mF, .int kM, .int oM])), (mD, xI cy 600000 G), (mI, xI cy 100000 (upd It nl (nI x))), (mZ, xZ cy 100000 (upd Zt x 1))] H := hP
        have hD : va_D A [(a5, .inr (5, [.int th, .int (nI k), .int now, .ref mD, .ref mI, .ref mZ, .int (nI nl), .ref mK, .ref mO, .ref mB, .ref mR, .ref mF, .int kM, .int oM])), (mD, xI cy 600000 G), (mI, xI cy 100000 (upd It nl (nI x))), (mZ, xZ cy 100000 (upd Zt x 1))] := hD
        refine lv_aload_n hx hb dX5_put_69 rfl (lv_at hl 1 rfl) ?_
        refine lv_dup hx hb dX5_put_70 rfl ?_
        refine va_get (D := D) (ci := 5) (v := .int (nI nl)) (C := RX5) (T := TX5) (N := 14) hx hb hts (by decide +kernel) hown hE.1 hP 0 rfl rfl 6 (by decide) (hts (.fieldLink RX5 58 "DistinctDaleModel" "listed" "I") (by decide +kernel)) (fun _ h9 => h9) rfl dX5_put_71 ?_
        refine lv_iconst (v := nI 1) hx hb dX5_put_74 (by decide) ?_
        refine lv_iadd hx hb dX5_put_75 ?_
        refine lv_eqi (z := nI (nl + 1)) (nI_add _ _) ?_
        refine va_put (D := D) (ci := 5) (v := .int (nI (nl + 1))) (ty := .int) (C := RX5) (T := TX5) (N := 14) hx hb hts (by decide +kernel) tyX5 tyX5_ok nmX5 hown hE.1 hP hD hS 0 rfl rfl 6 (by decide) (hts (.fieldLink RX5 58 "DistinctDaleModel" "listed" "I") (by decide +kernel)) (fun _ h9 => h9) rfl (by decide +kernel) rfl rfl (Nat.le_of_ble_eq_true rfl) dX5_put_76 (fun H locs hP hD hS => ?_)
        have hP : xP D [(a5, .inr (5, [.int th, .int (nI k), .int now, .ref mD, .ref mI, .ref mZ, .int (nI (nl + 1)), .ref mK, .ref mO, .ref mB, .ref mR, .ref mF, .int kM, .int oM])), (mD, xI cy 600000 G), (mI, xI cy 100000 (upd It nl (nI x))), (mZ, xZ cy 100000 (upd Zt x 1))] H := hP
        have hD : va_D A [(a5, .inr (5, [.int th, .int (nI k), .int now, .ref mD, .ref mI, .ref mZ, .int (nI (nl + 1)), .ref mK, .ref mO, .ref mB, .ref mR, .ref mF, .int kM, .int oM])), (mD, xI cy 600000 G), (mI, xI cy 100000 (upd It nl (nI x))), (mZ, xZ cy 100000 (upd Zt x 1))] := hD
        refine lv_iload hx hb dX5_put_79 (lv_at hl 0 rfl) ?_
        exact kret _ (G, upd It nl (nI x), upd Zt x 1, addL lst nl x, nl + 1) _ _ _ _ _ _ dX5_put_81 ⟨(by rw [c_3]; rfl), (GU_no hx2 c_4), ⟨hML.add hx2 hlx, fun y h => by rw [addL_memb, h, Bool.or_true], by rw [addL_memb]; simp, fun q => by rw [hlx] at q; cases q⟩⟩ hP hD hS (Nat.le_of_ble_eq_true rfl) (Nat.le_of_ble_eq_true rfl)
    · refine lv_aload_n hx hb dX5_put_31 rfl (lv_at hl 1 rfl) ?_
      refine va_get (D := D) (ci := 5) (v := .ref mD) (C := RX5) (T := TX5) (N := 14) hx hb hts (by decide +kernel) hown hE.1 hP 0 rfl rfl 3 (by decide) (hts (.fieldLink RX5 8 "DistinctDaleModel" "dates" "[I") (by decide +kernel)) (fun _ h9 => h9) rfl dX5_put_32 ?_
      refine lv_ldc (v := nI 100000) hx hb hown (hts (.constant RX5 14 (100000)) (by decide +kernel)) dX5_put_35 ?_
      refine lv_iload_n hx hb dX5_put_37 rfl (lv_at hl 2 rfl) ?_
      refine lv_imul hx hb dX5_put_38 ?_
      refine lv_eqi (z := nI (100000 * b)) (pk_mul _ _) ?_
      refine lv_iload_n hx hb dX5_put_39 rfl (lv_at hl 3 rfl) ?_
      refine lv_iadd hx hb dX5_put_40 ?_
      refine lv_eqi (z := nI ((100000 * b) + x)) (nI_add _ _) ?_
      refine lv_iload_n hx hb dX5_put_41 rfl (lv_at hl 4 rfl) ?_
      refine va_iast (D := D) hx hb hE.1 hP hD hS 1 0 rfl rfl (vp_in_nI (by omega) (by omega)) dX5_put_42 (fun H locs hP hD hS => ?_)
      rw [nI_clamp (by omega)] at hP hD
      have hP : xP D [(a5, .inr (5, [.int th, .int (nI k), .int now, .ref mD, .ref mI, .ref mZ, .int (nI nl), .ref mK, .ref mO, .ref mB, .ref mR, .ref mF, .int kM, .int oM])), (mD, xI cy 600000 (upd G ((100000 * b) + x) d9)), (mI, xI cy 100000 It), (mZ, xZ cy 100000 Zt)] H := hP
      have hD : va_D A [(a5, .inr (5, [.int th, .int (nI k), .int now, .ref mD, .ref mI, .ref mZ, .int (nI nl), .ref mK, .ref mO, .ref mB, .ref mR, .ref mF, .int kM, .int oM])), (mD, xI cy 600000 (upd G ((100000 * b) + x) d9)), (mI, xI cy 100000 It), (mZ, xZ cy 100000 Zt)] := hD
      refine lv_aload_n hx hb dX5_put_43 rfl (lv_at hl 1 rfl) ?_
      refine va_get (D := D) (ci := 5) (v := .ref mZ) (C := RX5) (T := TX5) (N := 14) hx hb hts (by decide +kernel) hown hE.1 hP 0 rfl rfl 5 (by decide) (hts (.fieldLink RX5 18 "DistinctDaleModel" "isListed" "[Z") (by decide +kernel)) (fun _ h9 => h9) rfl dX5_put_44 ?_
      refine lv_iload_n hx hb dX5_put_47 rfl (lv_at hl 3 rfl) ?_
      refine va_zald (D := D) hx hb hE.1 hP 3 1 rfl rfl (vp_in_nI (by omega) (by omega)) dX5_put_48 ?_
      refine lv_eqi (z := xb (memb lst nl x)) (by rw [nI_clamp (by omega)]; exact hML.2.2 x hx2) ?_
      refine xb_bne (tgt := 79) hx hb dX5_put_49 (by decide) (fun c_6 => ?_) (fun c_6 => ?_)
      · have hlx := c_6
        refine lv_iload hx hb dX5_put_79 (lv_at hl 0 rfl) ?_
        exact kret _ ((upd G (100000 * b + x) d9), It, Zt, lst, nl) _ _ _ _ _ _ dX5_put_81 ⟨(by rw [c_3]; rfl), (GU_yes hx2 (Int32.not_le.mp c_4)), ⟨hML, fun _ h => h, hlx, fun _ => ⟨rfl, rfl, rfl, rfl⟩⟩⟩ hP hD hS (Nat.le_of_ble_eq_true rfl) (Nat.le_of_ble_eq_true rfl)
      · have hlx := c_6
        have hnl := hML.lt hx2 hlx
        refine lv_aload_n hx hb dX5_put_52 rfl (lv_at hl 1 rfl) ?_
        refine va_get (D := D) (ci := 5) (v := .ref mZ) (C := RX5) (T := TX5) (N := 14) hx hb hts (by decide +kernel) hown hE.1 hP 0 rfl rfl 5 (by decide) (hts (.fieldLink RX5 18 "DistinctDaleModel" "isListed" "[Z") (by decide +kernel)) (fun _ h9 => h9) rfl dX5_put_53 ?_
        refine lv_iload_n hx hb dX5_put_56 rfl (lv_at hl 3 rfl) ?_
        refine lv_iconst (v := nI 1) hx hb dX5_put_57 (by decide) ?_
        refine va_zast (D := D) hx hb hE.1 hP hD hS 3 1 rfl rfl (vp_in_nI (by omega) (by omega)) dX5_put_58 (fun H locs hP hD hS => ?_)
        rw [nI_clamp (by omega)] at hP hD
        have hP : xP D [(a5, .inr (5, [.int th, .int (nI k), .int now, .ref mD, .ref mI, .ref mZ, .int (nI nl), .ref mK, .ref mO, .ref mB, .ref mR, .ref mF, .int kM, .int oM])), (mD, xI cy 600000 (upd G ((100000 * b) + x) d9)), (mI, xI cy 100000 It), (mZ, xZ cy 100000 (upd Zt x (nI 1)))] H := hP
        have hD : va_D A [(a5, .inr (5, [.int th, .int (nI k), .int now, .ref mD, .ref mI, .ref mZ, .int (nI nl), .ref mK, .ref mO, .ref mB, .ref mR, .ref mF, .int kM, .int oM])), (mD, xI cy 600000 (upd G ((100000 * b) + x) d9)), (mI, xI cy 100000 It), (mZ, xZ cy 100000 (upd Zt x (nI 1)))] := hD
        have hzf : upd Zt x (vp_nar .boolean (nI 1)) = upd Zt x 1 := rfl
        have hP : xP D [(a5, .inr (5, [.int th, .int (nI k), .int now, .ref mD, .ref mI, .ref mZ, .int (nI nl), .ref mK, .ref mO, .ref mB, .ref mR, .ref mF, .int kM, .int oM])), (mD, xI cy 600000 (upd G ((100000 * b) + x) d9)), (mI, xI cy 100000 It), (mZ, xZ cy 100000 (upd Zt x 1))] H := hP
        have hD : va_D A [(a5, .inr (5, [.int th, .int (nI k), .int now, .ref mD, .ref mI, .ref mZ, .int (nI nl), .ref mK, .ref mO, .ref mB, .ref mR, .ref mF, .int kM, .int oM])), (mD, xI cy 600000 (upd G ((100000 * b) + x) d9)), (mI, xI cy 100000 It), (mZ, xZ cy 100000 (upd Zt x 1))] := hD
        refine lv_aload_n hx hb dX5_put_59 rfl (lv_at hl 1 rfl) ?_
        refine va_get (D := D) (ci := 5) (v := .ref mI) (C := RX5) (T := TX5) (N := 14) hx hb hts (by decide +kernel) hown hE.1 hP 0 rfl rfl 4 (by decide) (hts (.fieldLink RX5 15 "DistinctDaleModel" "items" "[I") (by decide +kernel)) (fun _ h9 => h9) rfl dX5_put_60 ?_
        refine lv_aload_n hx hb dX5_put_63 rfl (lv_at hl 1 rfl) ?_
        refine va_get (D := D) (ci := 5) (v := .int (nI nl)) (C := RX5) (T := TX5) (N := 14) hx hb hts (by decide +kernel) hown hE.1 hP 0 rfl rfl 6 (by decide) (hts (.fieldLink RX5 58 "DistinctDaleModel" "listed" "I") (by decide +kernel)) (fun _ h9 => h9) rfl dX5_put_64 ?_
        refine lv_iload_n hx hb dX5_put_67 rfl (lv_at hl 3 rfl) ?_
        refine va_iast (D := D) hx hb hE.1 hP hD hS 2 0 rfl rfl (vp_in_nI (by omega) (by omega)) dX5_put_68 (fun H locs hP hD hS => ?_)
        rw [nI_clamp (by omega)] at hP hD
        have hP : xP D [(a5, .inr (5, [.int th, .int (nI k), .int now, .ref mD, .ref mI, .ref mZ, .int (nI nl), .ref mK, .ref mO, .ref mB, .ref mR, .ref mF, .int kM, .int oM])), (mD, xI cy 600000 (upd G ((100000 * b) + x) d9)), (mI, xI cy 100000 (upd It nl (nI x))), (mZ, xZ cy 100000 (upd Zt x 1))] H := hP
        have hD : va_D A [(a5, .inr (5, [.int th, .int (nI k), .int now, .ref mD, .ref mI, .ref mZ, .int (nI nl), .ref mK, .ref mO, .ref mB, .ref mR, .ref mF, .int kM, .int oM])), (mD, xI cy 600000 (upd G ((100000 * b) + x) d9)), (mI, xI cy 100000 (upd It nl (nI x))), (mZ, xZ cy 100000 (upd Zt x 1))] := hD
        refine lv_aload_n hx hb dX5_put_69 rfl (lv_at hl 1 rfl) ?_
        refine lv_dup hx hb dX5_put_70 rfl ?_
        refine va_get (D := D) (ci := 5) (v := .int (nI nl)) (C := RX5) (T := TX5) (N := 14) hx hb hts (by decide +kernel) hown hE.1 hP 0 rfl rfl 6 (by decide) (hts (.fieldLink RX5 58 "DistinctDaleModel" "listed" "I") (by decide +kernel)) (fun _ h9 => h9) rfl dX5_put_71 ?_
        refine lv_iconst (v := nI 1) hx hb dX5_put_74 (by decide) ?_
        refine lv_iadd hx hb dX5_put_75 ?_
        refine lv_eqi (z := nI (nl + 1)) (nI_add _ _) ?_
        refine va_put (D := D) (ci := 5) (v := .int (nI (nl + 1))) (ty := .int) (C := RX5) (T := TX5) (N := 14) hx hb hts (by decide +kernel) tyX5 tyX5_ok nmX5 hown hE.1 hP hD hS 0 rfl rfl 6 (by decide) (hts (.fieldLink RX5 58 "DistinctDaleModel" "listed" "I") (by decide +kernel)) (fun _ h9 => h9) rfl (by decide +kernel) rfl rfl (Nat.le_of_ble_eq_true rfl) dX5_put_76 (fun H locs hP hD hS => ?_)
        have hP : xP D [(a5, .inr (5, [.int th, .int (nI k), .int now, .ref mD, .ref mI, .ref mZ, .int (nI (nl + 1)), .ref mK, .ref mO, .ref mB, .ref mR, .ref mF, .int kM, .int oM])), (mD, xI cy 600000 (upd G ((100000 * b) + x) d9)), (mI, xI cy 100000 (upd It nl (nI x))), (mZ, xZ cy 100000 (upd Zt x 1))] H := hP
        have hD : va_D A [(a5, .inr (5, [.int th, .int (nI k), .int now, .ref mD, .ref mI, .ref mZ, .int (nI (nl + 1)), .ref mK, .ref mO, .ref mB, .ref mR, .ref mF, .int kM, .int oM])), (mD, xI cy 600000 (upd G ((100000 * b) + x) d9)), (mI, xI cy 100000 (upd It nl (nI x))), (mZ, xZ cy 100000 (upd Zt x 1))] := hD
        refine lv_iload hx hb dX5_put_79 (lv_at hl 0 rfl) ?_
        exact kret _ ((upd G (100000 * b + x) d9), upd It nl (nI x), upd Zt x 1, addL lst nl x, nl + 1) _ _ _ _ _ _ dX5_put_81 ⟨(by rw [c_3]; rfl), (GU_yes hx2 (Int32.not_le.mp c_4)), ⟨hML.add hx2 hlx, fun y h => by rw [addL_memb, h, Bool.or_true], by rw [addL_memb]; simp, fun q => by rw [hlx] at q; cases q⟩⟩ hP hD hS (Nat.le_of_ble_eq_true rfl) (Nat.le_of_ble_eq_true rfl)
  · refine lv_iconst (v := nI 1) hx hb dX5_put_9 (by decide) ?_
    refine lv_goto (tgt := 14) hx hb dX5_put_10 (by decide) ?_
    refine lv_istore (lv' := [(4, .int (nI 1)), (0, .ref a5), (1, .int (nI b)), (2, .int (nI x)), (3, .int d9)]) hx hb dX5_put_14 hl (by decide) rfl (fun ls hl => ?_)
    refine lv_iload_n hx hb dX5_put_16 rfl (lv_at hl 4 rfl) ?_
    refine lv_aload_n hx hb dX5_put_17 rfl (lv_at hl 1 rfl) ?_
    refine va_get (D := D) (ci := 5) (v := .ref mD) (C := RX5) (T := TX5) (N := 14) hx hb hts (by decide +kernel) hown hE.1 hP 0 rfl rfl 3 (by decide) (hts (.fieldLink RX5 8 "DistinctDaleModel" "dates" "[I") (by decide +kernel)) (fun _ h9 => h9) rfl dX5_put_18 ?_
    refine lv_ldc (v := nI 100000) hx hb hown (hts (.constant RX5 14 (100000)) (by decide +kernel)) dX5_put_21 ?_
    refine lv_iload_n hx hb dX5_put_23 rfl (lv_at hl 2 rfl) ?_
    refine lv_imul hx hb dX5_put_24 ?_
    refine lv_eqi (z := nI (100000 * b)) (pk_mul _ _) ?_
    refine lv_iload_n hx hb dX5_put_25 rfl (lv_at hl 3 rfl) ?_
    refine lv_iadd hx hb dX5_put_26 ?_
    refine lv_eqi (z := nI ((100000 * b) + x)) (nI_add _ _) ?_
    refine va_iald (D := D) hx hb hE.1 hP 1 0 rfl rfl (vp_in_nI (by omega) (by omega)) dX5_put_27 ?_
    refine lv_eqi (z := G (100000 * b + x)) (by rw [nI_clamp (by omega)]) ?_
    refine lv_icmp_le (tgt := 43) hx hb dX5_put_28 (by decide) (fun c_7 => ?_) (fun c_7 => ?_)
    · refine lv_aload_n hx hb dX5_put_43 rfl (lv_at hl 1 rfl) ?_
      refine va_get (D := D) (ci := 5) (v := .ref mZ) (C := RX5) (T := TX5) (N := 14) hx hb hts (by decide +kernel) hown hE.1 hP 0 rfl rfl 5 (by decide) (hts (.fieldLink RX5 18 "DistinctDaleModel" "isListed" "[Z") (by decide +kernel)) (fun _ h9 => h9) rfl dX5_put_44 ?_
      refine lv_iload_n hx hb dX5_put_47 rfl (lv_at hl 3 rfl) ?_
      refine va_zald (D := D) hx hb hE.1 hP 3 1 rfl rfl (vp_in_nI (by omega) (by omega)) dX5_put_48 ?_
      refine lv_eqi (z := xb (memb lst nl x)) (by rw [nI_clamp (by omega)]; exact hML.2.2 x hx2) ?_
      refine xb_bne (tgt := 79) hx hb dX5_put_49 (by decide) (fun c_8 => ?_) (fun c_8 => ?_)
      · have hlx := c_8
        refine lv_iload hx hb dX5_put_79 (lv_at hl 0 rfl) ?_
        exact kret _ (G, It, Zt, lst, nl) _ _ _ _ _ _ dX5_put_81 ⟨(by rw [c_3]; rfl), (GU_no hx2 c_7), ⟨hML, fun _ h => h, hlx, fun _ => ⟨rfl, rfl, rfl, rfl⟩⟩⟩ hP hD hS (Nat.le_of_ble_eq_true rfl) (Nat.le_of_ble_eq_true rfl)
      · have hlx := c_8
        have hnl := hML.lt hx2 hlx
        refine lv_aload_n hx hb dX5_put_52 rfl (lv_at hl 1 rfl) ?_
        refine va_get (D := D) (ci := 5) (v := .ref mZ) (C := RX5) (T := TX5) (N := 14) hx hb hts (by decide +kernel) hown hE.1 hP 0 rfl rfl 5 (by decide) (hts (.fieldLink RX5 18 "DistinctDaleModel" "isListed" "[Z") (by decide +kernel)) (fun _ h9 => h9) rfl dX5_put_53 ?_
        refine lv_iload_n hx hb dX5_put_56 rfl (lv_at hl 3 rfl) ?_
        refine lv_iconst (v := nI 1) hx hb dX5_put_57 (by decide) ?_
        refine va_zast (D := D) hx hb hE.1 hP hD hS 3 1 rfl rfl (vp_in_nI (by omega) (by omega)) dX5_put_58 (fun H locs hP hD hS => ?_)
        rw [nI_clamp (by omega)] at hP hD
        have hP : xP D [(a5, .inr (5, [.int th, .int (nI k), .int now, .ref mD, .ref mI, .ref mZ, .int (nI nl), .ref mK, .ref mO, .ref mB, .ref mR, .ref mF, .int kM, .int oM])), (mD, xI cy 600000 G), (mI, xI cy 100000 It), (mZ, xZ cy 100000 (upd Zt x (nI 1)))] H := hP
        have hD : va_D A [(a5, .inr (5, [.int th, .int (nI k), .int now, .ref mD, .ref mI, .ref mZ, .int (nI nl), .ref mK, .ref mO, .ref mB, .ref mR, .ref mF, .int kM, .int oM])), (mD, xI cy 600000 G), (mI, xI cy 100000 It), (mZ, xZ cy 100000 (upd Zt x (nI 1)))] := hD
        have hzf : upd Zt x (vp_nar .boolean (nI 1)) = upd Zt x 1 := rfl
        have hP : xP D [(a5, .inr (5, [.int th, .int (nI k), .int now, .ref mD, .ref mI, .ref mZ, .int (nI nl), .ref mK, .ref mO, .ref mB, .ref mR, .ref mF, .int kM, .int oM])), (mD, xI cy 600000 G), (mI, xI cy 100000 It), (mZ, xZ cy 100000 (upd Zt x 1))] H := hP
        have hD : va_D A [(a5, .inr (5, [.int th, .int (nI k), .int now, .ref mD, .ref mI, .ref mZ, .int (nI nl), .ref mK, .ref mO, .ref mB, .ref mR, .ref mF, .int kM, .int oM])), (mD, xI cy 600000 G), (mI, xI cy 100000 It), (mZ, xZ cy 100000 (upd Zt x 1))] := hD
        refine lv_aload_n hx hb dX5_put_59 rfl (lv_at hl 1 rfl) ?_
        refine va_get (D := D) (ci := 5) (v := .ref mI) (C := RX5) (T := TX5) (N := 14) hx hb hts (by decide +kernel) hown hE.1 hP 0 rfl rfl 4 (by decide) (hts (.fieldLink RX5 15 "DistinctDaleModel" "items" "[I") (by decide +kernel)) (fun _ h9 => h9) rfl dX5_put_60 ?_
        refine lv_aload_n hx hb dX5_put_63 rfl (lv_at hl 1 rfl) ?_
        refine va_get (D := D) (ci := 5) (v := .int (nI nl)) (C := RX5) (T := TX5) (N := 14) hx hb hts (by decide +kernel) hown hE.1 hP 0 rfl rfl 6 (by decide) (hts (.fieldLink RX5 58 "DistinctDaleModel" "listed" "I") (by decide +kernel)) (fun _ h9 => h9) rfl dX5_put_64 ?_
        refine lv_iload_n hx hb dX5_put_67 rfl (lv_at hl 3 rfl) ?_
        refine va_iast (D := D) hx hb hE.1 hP hD hS 2 0 rfl rfl (vp_in_nI (by omega) (by omega)) dX5_put_68 (fun H locs hP hD hS => ?_)
        rw [nI_clamp (by omega)] at hP hD
        have hP : xP D [(a5, .inr (5, [.int th, .int (nI k), .int now, .ref mD, .ref mI, .ref mZ, .int (nI nl), .ref mK, .ref mO, .ref mB, .ref mR, .ref mF, .int kM, .int oM])), (mD, xI cy 600000 G), (mI, xI cy 100000 (upd It nl (nI x))), (mZ, xZ cy 100000 (upd Zt x 1))] H := hP
        have hD : va_D A [(a5, .inr (5, [.int th, .int (nI k), .int now, .ref mD, .ref mI, .ref mZ, .int (nI nl), .ref mK, .ref mO, .ref mB, .ref mR, .ref mF, .int kM, .int oM])), (mD, xI cy 600000 G), (mI, xI cy 100000 (upd It nl (nI x))), (mZ, xZ cy 100000 (upd Zt x 1))] := hD
        refine lv_aload_n hx hb dX5_put_69 rfl (lv_at hl 1 rfl) ?_
        refine lv_dup hx hb dX5_put_70 rfl ?_
        refine va_get (D := D) (ci := 5) (v := .int (nI nl)) (C := RX5) (T := TX5) (N := 14) hx hb hts (by decide +kernel) hown hE.1 hP 0 rfl rfl 6 (by decide) (hts (.fieldLink RX5 58 "DistinctDaleModel" "listed" "I") (by decide +kernel)) (fun _ h9 => h9) rfl dX5_put_71 ?_
        refine lv_iconst (v := nI 1) hx hb dX5_put_74 (by decide) ?_
        refine lv_iadd hx hb dX5_put_75 ?_
        refine lv_eqi (z := nI (nl + 1)) (nI_add _ _) ?_
        refine va_put (D := D) (ci := 5) (v := .int (nI (nl + 1))) (ty := .int) (C := RX5) (T := TX5) (N := 14) hx hb hts (by decide +kernel) tyX5 tyX5_ok nmX5 hown hE.1 hP hD hS 0 rfl rfl 6 (by decide) (hts (.fieldLink RX5 58 "DistinctDaleModel" "listed" "I") (by decide +kernel)) (fun _ h9 => h9) rfl (by decide +kernel) rfl rfl (Nat.le_of_ble_eq_true rfl) dX5_put_76 (fun H locs hP hD hS => ?_)
        have hP : xP D [(a5, .inr (5, [.int th, .int (nI k), .int now, .ref mD, .ref mI, .ref mZ, .int (nI (nl + 1)), .ref mK, .ref mO, .ref mB, .ref mR, .ref mF, .int kM, .int oM])), (mD, xI cy 600000 G), (mI, xI cy 100000 (upd It nl (nI x))), (mZ, xZ cy 100000 (upd Zt x 1))] H := hP
        have hD : va_D A [(a5, .inr (5, [.int th, .int (nI k), .int now, .ref mD, .ref mI, .ref mZ, .int (nI (nl + 1)), .ref mK, .ref mO, .ref mB, .ref mR, .ref mF, .int kM, .int oM])), (mD, xI cy 600000 G), (mI, xI cy 100000 (upd It nl (nI x))), (mZ, xZ cy 100000 (upd Zt x 1))] := hD
        refine lv_iload hx hb dX5_put_79 (lv_at hl 0 rfl) ?_
        exact kret _ (G, upd It nl (nI x), upd Zt x 1, addL lst nl x, nl + 1) _ _ _ _ _ _ dX5_put_81 ⟨(by rw [c_3]; rfl), (GU_no hx2 c_7), ⟨hML.add hx2 hlx, fun y h => by rw [addL_memb, h, Bool.or_true], by rw [addL_memb]; simp, fun q => by rw [hlx] at q; cases q⟩⟩ hP hD hS (Nat.le_of_ble_eq_true rfl) (Nat.le_of_ble_eq_true rfl)
    · refine lv_aload_n hx hb dX5_put_31 rfl (lv_at hl 1 rfl) ?_
      refine va_get (D := D) (ci := 5) (v := .ref mD) (C := RX5) (T := TX5) (N := 14) hx hb hts (by decide +kernel) hown hE.1 hP 0 rfl rfl 3 (by decide) (hts (.fieldLink RX5 8 "DistinctDaleModel" "dates" "[I") (by decide +kernel)) (fun _ h9 => h9) rfl dX5_put_32 ?_
      refine lv_ldc (v := nI 100000) hx hb hown (hts (.constant RX5 14 (100000)) (by decide +kernel)) dX5_put_35 ?_
      refine lv_iload_n hx hb dX5_put_37 rfl (lv_at hl 2 rfl) ?_
      refine lv_imul hx hb dX5_put_38 ?_
      refine lv_eqi (z := nI (100000 * b)) (pk_mul _ _) ?_
      refine lv_iload_n hx hb dX5_put_39 rfl (lv_at hl 3 rfl) ?_
      refine lv_iadd hx hb dX5_put_40 ?_
      refine lv_eqi (z := nI ((100000 * b) + x)) (nI_add _ _) ?_
      refine lv_iload_n hx hb dX5_put_41 rfl (lv_at hl 4 rfl) ?_
      refine va_iast (D := D) hx hb hE.1 hP hD hS 1 0 rfl rfl (vp_in_nI (by omega) (by omega)) dX5_put_42 (fun H locs hP hD hS => ?_)
      rw [nI_clamp (by omega)] at hP hD
      have hP : xP D [(a5, .inr (5, [.int th, .int (nI k), .int now, .ref mD, .ref mI, .ref mZ, .int (nI nl), .ref mK, .ref mO, .ref mB, .ref mR, .ref mF, .int kM, .int oM])), (mD, xI cy 600000 (upd G ((100000 * b) + x) d9)), (mI, xI cy 100000 It), (mZ, xZ cy 100000 Zt)] H := hP
      have hD : va_D A [(a5, .inr (5, [.int th, .int (nI k), .int now, .ref mD, .ref mI, .ref mZ, .int (nI nl), .ref mK, .ref mO, .ref mB, .ref mR, .ref mF, .int kM, .int oM])), (mD, xI cy 600000 (upd G ((100000 * b) + x) d9)), (mI, xI cy 100000 It), (mZ, xZ cy 100000 Zt)] := hD
      refine lv_aload_n hx hb dX5_put_43 rfl (lv_at hl 1 rfl) ?_
      refine va_get (D := D) (ci := 5) (v := .ref mZ) (C := RX5) (T := TX5) (N := 14) hx hb hts (by decide +kernel) hown hE.1 hP 0 rfl rfl 5 (by decide) (hts (.fieldLink RX5 18 "DistinctDaleModel" "isListed" "[Z") (by decide +kernel)) (fun _ h9 => h9) rfl dX5_put_44 ?_
      refine lv_iload_n hx hb dX5_put_47 rfl (lv_at hl 3 rfl) ?_
      refine va_zald (D := D) hx hb hE.1 hP 3 1 rfl rfl (vp_in_nI (by omega) (by omega)) dX5_put_48 ?_
      refine lv_eqi (z := xb (memb lst nl x)) (by rw [nI_clamp (by omega)]; exact hML.2.2 x hx2) ?_
      refine xb_bne (tgt := 79) hx hb dX5_put_49 (by decide) (fun c_9 => ?_) (fun c_9 => ?_)
      · have hlx := c_9
        refine lv_iload hx hb dX5_put_79 (lv_at hl 0 rfl) ?_
        exact kret _ ((upd G (100000 * b + x) d9), It, Zt, lst, nl) _ _ _ _ _ _ dX5_put_81 ⟨(by rw [c_3]; rfl), (GU_yes hx2 (Int32.not_le.mp c_7)), ⟨hML, fun _ h => h, hlx, fun _ => ⟨rfl, rfl, rfl, rfl⟩⟩⟩ hP hD hS (Nat.le_of_ble_eq_true rfl) (Nat.le_of_ble_eq_true rfl)
      · have hlx := c_9
        have hnl := hML.lt hx2 hlx
        refine lv_aload_n hx hb dX5_put_52 rfl (lv_at hl 1 rfl) ?_
        refine va_get (D := D) (ci := 5) (v := .ref mZ) (C := RX5) (T := TX5) (N := 14) hx hb hts (by decide +kernel) hown hE.1 hP 0 rfl rfl 5 (by decide) (hts (.fieldLink RX5 18 "DistinctDaleModel" "isListed" "[Z") (by decide +kernel)) (fun _ h9 => h9) rfl dX5_put_53 ?_
        refine lv_iload_n hx hb dX5_put_56 rfl (lv_at hl 3 rfl) ?_
        refine lv_iconst (v := nI 1) hx hb dX5_put_57 (by decide) ?_
        refine va_zast (D := D) hx hb hE.1 hP hD hS 3 1 rfl rfl (vp_in_nI (by omega) (by omega)) dX5_put_58 (fun H locs hP hD hS => ?_)
        rw [nI_clamp (by omega)] at hP hD
        have hP : xP D [(a5, .inr (5, [.int th, .int (nI k), .int now, .ref mD, .ref mI, .ref mZ, .int (nI nl), .ref mK, .ref mO, .ref mB, .ref mR, .ref mF, .int kM, .int oM])), (mD, xI cy 600000 (upd G ((100000 * b) + x) d9)), (mI, xI cy 100000 It), (mZ, xZ cy 100000 (upd Zt x (nI 1)))] H := hP
        have hD : va_D A [(a5, .inr (5, [.int th, .int (nI k), .int now, .ref mD, .ref mI, .ref mZ, .int (nI nl), .ref mK, .ref mO, .ref mB, .ref mR, .ref mF, .int kM, .int oM])), (mD, xI cy 600000 (upd G ((100000 * b) + x) d9)), (mI, xI cy 100000 It), (mZ, xZ cy 100000 (upd Zt x (nI 1)))] := hD
        have hzf : upd Zt x (vp_nar .boolean (nI 1)) = upd Zt x 1 := rfl
        have hP : xP D [(a5, .inr (5, [.int th, .int (nI k), .int now, .ref mD, .ref mI, .ref mZ, .int (nI nl), .ref mK, .ref mO, .ref mB, .ref mR, .ref mF, .int kM, .int oM])), (mD, xI cy 600000 (upd G ((100000 * b) + x) d9)), (mI, xI cy 100000 It), (mZ, xZ cy 100000 (upd Zt x 1))] H := hP
        have hD : va_D A [(a5, .inr (5, [.int th, .int (nI k), .int now, .ref mD, .ref mI, .ref mZ, .int (nI nl), .ref mK, .ref mO, .ref mB, .ref mR, .ref mF, .int kM, .int oM])), (mD, xI cy 600000 (upd G ((100000 * b) + x) d9)), (mI, xI cy 100000 It), (mZ, xZ cy 100000 (upd Zt x 1))] := hD
        refine lv_aload_n hx hb dX5_put_59 rfl (lv_at hl 1 rfl) ?_
        refine va_get (D := D) (ci := 5) (v := .ref mI) (C := RX5) (T := TX5) (N := 14) hx hb hts (by decide +kernel) hown hE.1 hP 0 rfl rfl 4 (by decide) (hts (.fieldLink RX5 15 "DistinctDaleModel" "items" "[I") (by decide +kernel)) (fun _ h9 => h9) rfl dX5_put_60 ?_
        refine lv_aload_n hx hb dX5_put_63 rfl (lv_at hl 1 rfl) ?_
        refine va_get (D := D) (ci := 5) (v := .int (nI nl)) (C := RX5) (T := TX5) (N := 14) hx hb hts (by decide +kernel) hown hE.1 hP 0 rfl rfl 6 (by decide) (hts (.fieldLink RX5 58 "DistinctDaleModel" "listed" "I") (by decide +kernel)) (fun _ h9 => h9) rfl dX5_put_64 ?_
        refine lv_iload_n hx hb dX5_put_67 rfl (lv_at hl 3 rfl) ?_
        refine va_iast (D := D) hx hb hE.1 hP hD hS 2 0 rfl rfl (vp_in_nI (by omega) (by omega)) dX5_put_68 (fun H locs hP hD hS => ?_)
        rw [nI_clamp (by omega)] at hP hD
        have hP : xP D [(a5, .inr (5, [.int th, .int (nI k), .int now, .ref mD, .ref mI, .ref mZ, .int (nI nl), .ref mK, .ref mO, .ref mB, .ref mR, .ref mF, .int kM, .int oM])), (mD, xI cy 600000 (upd G ((100000 * b) + x) d9)), (mI, xI cy 100000 (upd It nl (nI x))), (mZ, xZ cy 100000 (upd Zt x 1))] H := hP
        have hD : va_D A [(a5, .inr (5, [.int th, .int (nI k), .int now, .ref mD, .ref mI, .ref mZ, .int (nI nl), .ref mK, .ref mO, .ref mB, .ref mR, .ref mF, .int kM, .int oM])), (mD, xI cy 600000 (upd G ((100000 * b) + x) d9)), (mI, xI cy 100000 (upd It nl (nI x))), (mZ, xZ cy 100000 (upd Zt x 1))] := hD
        refine lv_aload_n hx hb dX5_put_69 rfl (lv_at hl 1 rfl) ?_
        refine lv_dup hx hb dX5_put_70 rfl ?_
        refine va_get (D := D) (ci := 5) (v := .int (nI nl)) (C := RX5) (T := TX5) (N := 14) hx hb hts (by decide +kernel) hown hE.1 hP 0 rfl rfl 6 (by decide) (hts (.fieldLink RX5 58 "DistinctDaleModel" "listed" "I") (by decide +kernel)) (fun _ h9 => h9) rfl dX5_put_71 ?_
        refine lv_iconst (v := nI 1) hx hb dX5_put_74 (by decide) ?_
        refine lv_iadd hx hb dX5_put_75 ?_
        refine lv_eqi (z := nI (nl + 1)) (nI_add _ _) ?_
        refine va_put (D := D) (ci := 5) (v := .int (nI (nl + 1))) (ty := .int) (C := RX5) (T := TX5) (N := 14) hx hb hts (by decide +kernel) tyX5 tyX5_ok nmX5 hown hE.1 hP hD hS 0 rfl rfl 6 (by decide) (hts (.fieldLink RX5 58 "DistinctDaleModel" "listed" "I") (by decide +kernel)) (fun _ h9 => h9) rfl (by decide +kernel) rfl rfl (Nat.le_of_ble_eq_true rfl) dX5_put_76 (fun H locs hP hD hS => ?_)
        have hP : xP D [(a5, .inr (5, [.int th, .int (nI k), .int now, .ref mD, .ref mI, .ref mZ, .int (nI (nl + 1)), .ref mK, .ref mO, .ref mB, .ref mR, .ref mF, .int kM, .int oM])), (mD, xI cy 600000 (upd G ((100000 * b) + x) d9)), (mI, xI cy 100000 (upd It nl (nI x))), (mZ, xZ cy 100000 (upd Zt x 1))] H := hP
        have hD : va_D A [(a5, .inr (5, [.int th, .int (nI k), .int now, .ref mD, .ref mI, .ref mZ, .int (nI (nl + 1)), .ref mK, .ref mO, .ref mB, .ref mR, .ref mF, .int kM, .int oM])), (mD, xI cy 600000 (upd G ((100000 * b) + x) d9)), (mI, xI cy 100000 (upd It nl (nI x))), (mZ, xZ cy 100000 (upd Zt x 1))] := hD
        refine lv_iload hx hb dX5_put_79 (lv_at hl 0 rfl) ?_
        exact kret _ ((upd G (100000 * b + x) d9), upd It nl (nI x), upd Zt x 1, addL lst nl x, nl + 1) _ _ _ _ _ _ dX5_put_81 ⟨(by rw [c_3]; rfl), (GU_yes hx2 (Int32.not_le.mp c_7)), ⟨hML.add hx2 hlx, fun y h => by rw [addL_memb, h, Bool.or_true], by rw [addL_memb]; simp, fun q => by rw [hlx] at q; cases q⟩⟩ hP hD hS (Nat.le_of_ble_eq_true rfl) (Nat.le_of_ble_eq_true rfl)
set_option maxHeartbeats 4000000 in
set_option maxRecDepth 100000 in
theorem m_count (l : Launch) (D : va_G) (cy : Nat → ClassId) (t0 : Nat) (a5 mD mI mZ mK mO mB mR mF k : Nat) (th now kM oM : Int32) (nl b : Nat) (G It Zt : Nat → Int32) (lst : Nat → Nat) (hb6 : b < 6) (hML : ML lst nl It Zt) (hCV : CV G lst nl) : xRi l yX5_count wsX5_count ({ frames := 1, cells := 0, slots := 0, locals := 22 } : Room) D cy t0 ([.ref a5, .int (nI b)]) ([(a5, .inr (5, [.int th, .int (nI k), .int now, .ref mD, .ref mI, .ref mZ, .int (nI nl), .ref mK, .ref mO, .ref mB, .ref mR, .ref mF, .int kM, .int oM])), (mD, xI cy 600000 G), (mI, xI cy 100000 It)]) (fun r => r = nI (cb (Sm (mb G b)) 100000)) := by
  refine xofRi (cc := cX5_count) (maxL := 4) (by decide) rfl (Nat.le_of_ble_eq_true rfl) (fun _ _ => rfl) ?_
  intro p e s m below meth c Q ls hx hb hml hts hown hE hP hl hS kret
  have hl : lv_has ls 4 [(0, .ref a5), (1, .int (nI b))] := hl
  have hnle := hML.le
  refine lv_iconst (v := nI 0) hx hb dX5_count_0 (by decide) ?_
  refine lv_istore_n (lv' := [(2, .int (nI 0)), (0, .ref a5), (1, .int (nI b))]) hx hb dX5_count_1 rfl hl (by decide) rfl (fun ls hl => ?_)
  refine lv_iconst (v := nI 0) hx hb dX5_count_2 (by decide) ?_
  refine lv_istore_n (lv' := [(3, .int (nI 0)), (2, .int (nI 0)), (0, .ref a5), (1, .int (nI b))]) hx hb dX5_count_3 rfl hl (by decide) rfl (fun ls hl => ?_)
  have lp : ∀ (n9 : Nat), ∀ (j : Nat), (hj : j ≤ nl) → nl - j < n9 → ∀ (ls : Array Slot), lv_has ls 4 [(0, .ref a5), (1, .int (nI b)), (2, .int (nI (cb (fun i => Sm (mb G b) (lst i)) j))), (3, .int (nI j))] → W p l e ({ frames := 1, cells := 0, slots := 0, locals := 22 } : Room) s m [.ref a5, .int (nI b)].toArray below meth c s.heap [] 0 0 Q (F0 m 4 ls []) := by
    intro n9
    induction n9 with
    | zero => intro j hj hm; exact absurd hm (Nat.not_lt_zero _)
    | succ n9 ih_lp =>
      intro j hj hm ls hl
      have hcj := cb_le (P := fun i => Sm (mb G b) (lst i)) (n := j)
      refine lv_iload_n hx hb dX5_count_4 rfl (lv_at hl 3 rfl) ?_
      refine lv_aload_n hx hb dX5_count_5 rfl (lv_at hl 0 rfl) ?_
      refine va_get (D := D) (ci := 5) (v := .int (nI nl)) (C := RX5) (T := TX5) (N := 14) hx hb hts (by decide +kernel) hown hE.1 hP 0 rfl rfl 6 (by decide) (hts (.fieldLink RX5 58 "DistinctDaleModel" "listed" "I") (by decide +kernel)) (fun _ h9 => h9) rfl dX5_count_6 ?_
      refine xb_icmp_ge (tgt := 40) (a := j) (b := nl) (by omega) (by omega) hx hb dX5_count_9 (by decide) (fun c_1 => ?_) (fun c_1 => ?_)
      · obtain rfl : j = nl := by omega
        refine lv_iload_n hx hb dX5_count_40 rfl (lv_at hl 2 rfl) ?_
        exact kret _ _ _ dX5_count_41 (congrArg nI (hML.cnt (hCV b hb6)))
      · refine lv_iload_n hx hb dX5_count_12 rfl (lv_at hl 2 rfl) ?_
        refine lv_aload_n hx hb dX5_count_13 rfl (lv_at hl 0 rfl) ?_
        refine lv_iload_n hx hb dX5_count_14 rfl (lv_at hl 1 rfl) ?_
        refine lv_aload_n hx hb dX5_count_15 rfl (lv_at hl 0 rfl) ?_
        refine va_get (D := D) (ci := 5) (v := .ref mI) (C := RX5) (T := TX5) (N := 14) hx hb hts (by decide +kernel) hown hE.1 hP 0 rfl rfl 4 (by decide) (hts (.fieldLink RX5 15 "DistinctDaleModel" "items" "[I") (by decide +kernel)) (fun _ h9 => h9) rfl dX5_count_16 ?_
        refine lv_iload_n hx hb dX5_count_19 rfl (lv_at hl 3 rfl) ?_
        refine va_iald (D := D) hx hb hE.1 hP 2 0 rfl rfl (vp_in_nI (by omega) (by omega)) dX5_count_20 ?_
        refine lv_eqi (z := nI (lst j)) (by rw [nI_clamp (by omega)]; exact (hML.1 j (by omega)).2) ?_
        refine xcRi (va_runV (As := [.int (nI b), .int (nI (lst j))]) (rest := [.int (nI (cb (fun i => Sm (mb G b) (lst i)) j))]) ⟨hx, hb, hml, hown, hts⟩ (m_has l D cy t0 a5 mD mI mZ mK mO mB mR mF k th now (nI nl) kM oM b (lst j) G hb6 (hML.1 j (by omega)).1) (cwV 2 hts gX5_count_X5_has rfl rfl rfl (by decide +kernel) ⟨Nat.le_of_ble_eq_true rfl, Nat.le_of_ble_eq_true rfl⟩) (xPr.giveV (wc := [(a5, .inr (5, [.int th, .int (nI k), .int now, .ref mD, .ref mI, .ref mZ, .int (nI nl), .ref mK, .ref mO, .ref mB, .ref mR, .ref mF, .int kM, .int oM])), (mD, xI cy 600000 G)]) hE hS hP [0, 1] rfl 0 5 rfl rfl) rfl rfl hl.1 rfl (lv_room (Nat.le_of_ble_eq_true rfl)) dX5_count_21 ⟨(Nat.zero_le _), (Nat.zero_le _)⟩) (fun r_2 hr_3 => ?_)
        refine lv_eqi (z := xb (Sm (mb G b) (lst j))) hr_3 ?_
        refine xb_beq (tgt := 31) hx hb dX5_count_24 (by decide) (fun c_4 => ?_) (fun c_4 => ?_)
        · refine lv_iconst (v := nI 0) hx hb dX5_count_31 (by decide) ?_
          refine lv_iadd hx hb dX5_count_32 ?_
          refine lv_eqi (z := nI (cb (fun i => Sm (mb G b) (lst i)) j + 0)) (nI_add _ _) ?_
          refine lv_istore_n (lv' := [(2, .int (nI (cb (fun i => Sm (mb G b) (lst i)) j + 0))), (0, .ref a5), (1, .int (nI b)), (3, .int (nI j))]) hx hb dX5_count_33 rfl hl (by decide) rfl (fun ls hl => ?_)
          refine lv_iinc (v := nI (j + 1)) (lv' := [(3, .int (nI (j + 1))), (2, .int (nI (cb (fun i => Sm (mb G b) (lst i)) j + 0))), (0, .ref a5), (1, .int (nI b))]) hx hb dX5_count_34 hl (k := 3) rfl (nI_add _ 1) (by decide) rfl (fun ls hl => ?_)
          refine lv_goto (tgt := 4) hx hb dX5_count_37 (by decide) ?_
          have e2 : cb (fun i => Sm (mb G b) (lst i)) j + 0 = cb (fun i => Sm (mb G b) (lst i)) (j + 1) := by rw [cb_f (P := fun i => Sm (mb G b) (lst i)) c_4]; rfl
          rw [e2] at hl
          exact ih_lp (j + 1) (by omega) (by omega) _ (lv_sub hl [2, 3, 1, 0] rfl)
        · refine lv_iconst (v := nI 1) hx hb dX5_count_27 (by decide) ?_
          refine lv_goto (tgt := 32) hx hb dX5_count_28 (by decide) ?_
          refine lv_iadd hx hb dX5_count_32 ?_
          refine lv_eqi (z := nI (cb (fun i => Sm (mb G b) (lst i)) j + 1)) (nI_add _ _) ?_
          refine lv_istore_n (lv' := [(2, .int (nI (cb (fun i => Sm (mb G b) (lst i)) j + 1))), (0, .ref a5), (1, .int (nI b)), (3, .int (nI j))]) hx hb dX5_count_33 rfl hl (by decide) rfl (fun ls hl => ?_)
          refine lv_iinc (v := nI (j + 1)) (lv' := [(3, .int (nI (j + 1))), (2, .int (nI (cb (fun i => Sm (mb G b) (lst i)) j + 1))), (0, .ref a5), (1, .int (nI b))]) hx hb dX5_count_34 hl (k := 3) rfl (nI_add _ 1) (by decide) rfl (fun ls hl => ?_)
          refine lv_goto (tgt := 4) hx hb dX5_count_37 (by decide) ?_
          have e2 : cb (fun i => Sm (mb G b) (lst i)) j + 1 = cb (fun i => Sm (mb G b) (lst i)) (j + 1) := by rw [cb_t (P := fun i => Sm (mb G b) (lst i)) c_4]
          rw [e2] at hl
          exact ih_lp (j + 1) (by omega) (by omega) _ (lv_sub hl [2, 3, 1, 0] rfl)
  exact lp (nl + 1) 0 (Nat.zero_le _) (by omega) _ (lv_sub hl [2, 3, 1, 0] rfl)
end XX5A
