section XX5E
theorem isBk_no {p : Int32} (h : p < 0 ∨ nI 6 ≤ p) : isBk p = false := by
  rcases h with h | h
  · exact isBk_neg h
  · exact decide_eq_false (fun q => Int32.lt_irrefl (Int32.lt_of_lt_of_le q.2 h))
set_option maxHeartbeats 4000000 in
set_option maxRecDepth 100000 in
theorem m_addT (l : Launch) (D : va_G) (cy : Nat → ClassId) (t0 : Nat) (a5 mD mI mZ mK mO mB mR mF k : Nat) (th now nl5 kM oM : Int32) (p0 p1 : Int32) (hbi : p0 < 0 ∨ nI 6 ≤ p0) : xWi (S := Unit) l yX5_add wsX5_add ({ frames := 1, cells := 0, slots := 0, locals := 21 } : Room) D cy t0 ([.ref a5, .int p0, .int p1]) ([(a5, .inr (5, [.int th, .int (nI k), .int now, .ref mD, .ref mI, .ref mZ, .int nl5, .ref mK, .ref mO, .ref mB, .ref mR, .ref mF, .int kM, .int oM]))]) (fun r _ => r = nI 0) (fun _ => [(a5, .inr (5, [.int (nI 1), .int (nI k), .int now, .ref mD, .ref mI, .ref mZ, .int nl5, .ref mK, .ref mO, .ref mB, .ref mR, .ref mF, .int kM, .int oM]))]) 0 0 := by
  refine xofWi (cc := cX5_add) (maxL := 3) (by decide) rfl (Nat.le_of_ble_eq_true rfl) (fun r u h => by rw [h]; rfl) ?_
  intro p e s m below meth c Q A ls hx hb hml hts hown hE hA H locs hP hD hl hS kret
  have hl : lv_has ls 3 [(0, .ref a5), (1, .int p0), (2, .int p1)] := hl
  refine lv_aload_n hx hb dX5_add_0 rfl (lv_at hl 0 rfl) ?_
  refine lv_iload_n hx hb dX5_add_1 rfl (lv_at hl 1 rfl) ?_
  refine xcRi (va_runS (As := [.int p0]) (rest := [.ref a5]) ⟨hx, hb, hml, hown, hts⟩ (m_isBasket l D cy t0 p0) (va_cwS 1 hts gX5_add_X5_isBasket rfl rfl rfl (by decide +kernel) ⟨Nat.le_of_ble_eq_true rfl, Nat.le_of_ble_eq_true rfl⟩) (xPr.give (wc := []) hE hS hP [] rfl) rfl rfl hl.1 rfl (lv_room (Nat.le_of_ble_eq_true rfl)) dX5_add_2 ⟨(Nat.zero_le _), (Nat.zero_le _)⟩) (fun r_1 hr_2 => ?_)
  obtain rfl : r_1 = nI 0 := by rw [hr_2, isBk_no hbi]; rfl
  refine xb_if_ne (tgt := 12) (a := 0) (by omega) hx hb dX5_add_5 (by decide) (fun c_3 => ?_) (fun c_3 => ?_)
  · exact absurd c_3 (by omega)
  · refine lv_iconst (v := nI 1) hx hb dX5_add_8 (by decide) ?_
    refine lv_goto (tgt := 24) hx hb dX5_add_9 (by decide) ?_
    refine xcWi (wr := []) (va_runV (As := [.int (nI 1)]) (rest := []) ⟨hx, hb, hml, hown, hts⟩ ((m_goesWell l D cy t0 a5 mD mI mZ mK mO mB mR mF k th now nl5 kM oM 1 (by omega)) H.size) (cwV 1 hts gX5_add_X5_goesWell rfl rfl rfl (by decide +kernel) ⟨Nat.le_of_ble_eq_true rfl, Nat.le_of_ble_eq_true rfl⟩) (xPw.giveV (wc := [(a5, .inr (5, [.int th, .int (nI k), .int now, .ref mD, .ref mI, .ref mZ, .int nl5, .ref mK, .ref mO, .ref mB, .ref mR, .ref mF, .int kM, .int oM]))]) hE hS hA hP hD [0] (by decide) rfl 0 5 rfl rfl) rfl rfl hl.1 rfl (lv_room (Nat.le_of_ble_eq_true rfl)) dX5_add_24 ⟨(Nat.zero_le _), (Nat.zero_le _)⟩) hP hD hS hA [0] [] rfl rfl (by decide) (by decide) (fun r_4 u_6 H locs hr_5 hP hD hS => ?_)
    obtain rfl : r_4 = nI 0 := by rw [hr_5]; rfl
    have hP := hP.sub (ws' := [(a5, .inr (5, [.int (nI 1), .int (nI k), .int now, .ref mD, .ref mI, .ref mZ, .int nl5, .ref mK, .ref mO, .ref mB, .ref mR, .ref mF, .int kM, .int oM]))]) [0] rfl
    have hD := hD.sub (ws' := [(a5, .inr (5, [.int (nI 1), .int (nI k), .int now, .ref mD, .ref mI, .ref mZ, .int nl5, .ref mK, .ref mO, .ref mB, .ref mR, .ref mF, .int kM, .int oM]))]) [0] (by decide) rfl
    refine xb_if_eq (tgt := 47) (a := 0) (by omega) hx hb dX5_add_27 (by decide) (fun c_7 => ?_) (fun c_7 => ?_)
    · refine lv_iconst (v := nI 0) hx hb dX5_add_47 (by decide) ?_
      exact kret _ () _ _ _ _ _ _ dX5_add_48 rfl hP hD hS (Nat.le_of_ble_eq_true rfl) (Nat.le_of_ble_eq_true rfl)
    · exact absurd c_7 (by omega)
set_option maxHeartbeats 4000000 in
set_option maxRecDepth 100000 in
theorem m_addLineT (l : Launch) (D : va_G) (cy : Nat → ClassId) (t0 : Nat) (a5 mD mI mZ mK mO mB mR mF k : Nat) (th now nl5 kM oM : Int32) (p0 p1 p2 p3 : Int32) (hbi : p0 < 0 ∨ nI 6 ≤ p0) : xWi (S := Unit) l yX5_addLine wsX5_addLine ({ frames := 1, cells := 0, slots := 0, locals := 21 } : Room) D cy t0 ([.ref a5, .int p0, .int p1, .int p2, .int p3]) ([(a5, .inr (5, [.int th, .int (nI k), .int now, .ref mD, .ref mI, .ref mZ, .int nl5, .ref mK, .ref mO, .ref mB, .ref mR, .ref mF, .int kM, .int oM]))]) (fun _ _ => True) (fun _ => [(a5, .inr (5, [.int (nI 1), .int (nI k), .int now, .ref mD, .ref mI, .ref mZ, .int nl5, .ref mK, .ref mO, .ref mB, .ref mR, .ref mF, .int kM, .int oM]))]) 0 0 := by
  refine xofWi (cc := cX5_addLine) (maxL := 8) (by decide) rfl (Nat.le_of_ble_eq_true rfl) (fun _ _ _ => rfl) ?_
  intro p e s m below meth c Q A ls hx hb hml hts hown hE hA H locs hP hD hl hS kret
  have hl : lv_has ls 8 [(0, .ref a5), (1, .int p0), (2, .int p1), (3, .int p2), (4, .int p3)] := hl
  rcases Bool.eq_false_or_eq_true (isIt p1) with hit | hit
  · have h1t := hit
    refine lv_iload_n hx hb dX5_addLine_0 rfl (lv_at hl 2 rfl) ?_
    refine xcRi (va_runS (As := [.int p1]) (rest := []) ⟨hx, hb, hml, hown, hts⟩ (m_isItem l D cy t0 p1) (va_cwS 1 hts gX5_addLine_X5_isItem rfl rfl rfl (by decide +kernel) ⟨Nat.le_of_ble_eq_true rfl, Nat.le_of_ble_eq_true rfl⟩) (xPr.give (wc := []) hE hS hP [] rfl) rfl rfl hl.1 rfl (lv_room (Nat.le_of_ble_eq_true rfl)) dX5_addLine_1 ⟨(Nat.zero_le _), (Nat.zero_le _)⟩) (fun r_1 hr_2 => ?_)
    obtain rfl : r_1 = nI 1 := by rw [hr_2, hit]; rfl
    refine xb_if_eq (tgt := 50) (a := 1) (by omega) hx hb dX5_addLine_4 (by decide) (fun c_3 => ?_) (fun c_3 => ?_)
    · exact absurd c_3 (by omega)
    · refine lv_iload_n hx hb dX5_addLine_7 rfl (lv_at hl 3 rfl) ?_
      refine lv_iconst (v := nI 1) hx hb dX5_addLine_8 (by decide) ?_
      refine lv_icmp_lt (tgt := 50) hx hb dX5_addLine_9 (by decide) (fun c_4 => ?_) (fun c_4 => ?_)
      · refine lv_iconst (v := nI 0) hx hb dX5_addLine_50 (by decide) ?_
        refine lv_istore (lv' := [(5, .int (nI 0)), (0, .ref a5), (1, .int p0), (2, .int p1), (3, .int p2), (4, .int p3)]) hx hb dX5_addLine_51 hl (by decide) rfl (fun ls hl => ?_)
        refine lv_aload_n hx hb dX5_addLine_53 rfl (lv_at hl 1 rfl) ?_
        refine lv_iload_n hx hb dX5_addLine_54 rfl (lv_at hl 2 rfl) ?_
        refine xcRi (va_runS (As := [.int p0]) (rest := [.ref a5]) ⟨hx, hb, hml, hown, hts⟩ (m_isBasket l D cy t0 p0) (va_cwS 1 hts gX5_addLine_X5_isBasket rfl rfl rfl (by decide +kernel) ⟨Nat.le_of_ble_eq_true rfl, Nat.le_of_ble_eq_true rfl⟩) (xPr.give (wc := []) hE hS hP [] rfl) rfl rfl hl.1 rfl (lv_room (Nat.le_of_ble_eq_true rfl)) dX5_addLine_55 ⟨(Nat.zero_le _), (Nat.zero_le _)⟩) (fun r_5 hr_6 => ?_)
        obtain rfl : r_5 = nI 0 := by rw [hr_6, isBk_no hbi]; rfl
        refine xb_if_ne (tgt := 65) (a := 0) (by omega) hx hb dX5_addLine_58 (by decide) (fun c_7 => ?_) (fun c_7 => ?_)
        · exact absurd c_7 (by omega)
        · refine lv_iconst (v := nI 1) hx hb dX5_addLine_61 (by decide) ?_
          refine lv_goto (tgt := 75) hx hb dX5_addLine_62 (by decide) ?_
          refine xcWi (wr := []) (va_runV (As := [.int (nI 1)]) (rest := []) ⟨hx, hb, hml, hown, hts⟩ ((m_goesWell l D cy t0 a5 mD mI mZ mK mO mB mR mF k th now nl5 kM oM 1 (by omega)) H.size) (cwV 1 hts gX5_addLine_X5_goesWell rfl rfl rfl (by decide +kernel) ⟨Nat.le_of_ble_eq_true rfl, Nat.le_of_ble_eq_true rfl⟩) (xPw.giveV (wc := [(a5, .inr (5, [.int th, .int (nI k), .int now, .ref mD, .ref mI, .ref mZ, .int nl5, .ref mK, .ref mO, .ref mB, .ref mR, .ref mF, .int kM, .int oM]))]) hE hS hA hP hD [0] (by decide) rfl 0 5 rfl rfl) rfl rfl hl.1 rfl (lv_room (Nat.le_of_ble_eq_true rfl)) dX5_addLine_75 ⟨(Nat.zero_le _), (Nat.zero_le _)⟩) hP hD hS hA [0] [] rfl rfl (by decide) (by decide) (fun r_8 u_10 H locs hr_9 hP hD hS => ?_)
          obtain rfl : r_8 = nI 0 := by rw [hr_9]; rfl
          have hP := hP.sub (ws' := [(a5, .inr (5, [.int (nI 1), .int (nI k), .int now, .ref mD, .ref mI, .ref mZ, .int nl5, .ref mK, .ref mO, .ref mB, .ref mR, .ref mF, .int kM, .int oM]))]) [0] rfl
          have hD := hD.sub (ws' := [(a5, .inr (5, [.int (nI 1), .int (nI k), .int now, .ref mD, .ref mI, .ref mZ, .int nl5, .ref mK, .ref mO, .ref mB, .ref mR, .ref mF, .int kM, .int oM]))]) [0] (by decide) rfl
          refine xb_if_ne (tgt := 83) (a := 0) (by omega) hx hb dX5_addLine_78 (by decide) (fun c_11 => ?_) (fun c_11 => ?_)
          · exact absurd c_11 (by omega)
          · refine lv_iconst (v := nI 0) hx hb dX5_addLine_81 (by decide) ?_
            exact kret _ () _ _ _ _ _ _ dX5_addLine_82 trivial hP hD hS (Nat.le_of_ble_eq_true rfl) (Nat.le_of_ble_eq_true rfl)
      · refine lv_iload_n hx hb dX5_addLine_12 rfl (lv_at hl 3 rfl) ?_
        refine lv_sipush (v := nI 999) hx hb dX5_addLine_13 (by decide) ?_
        refine lv_icmp_gt (tgt := 50) hx hb dX5_addLine_16 (by decide) (fun c_12 => ?_) (fun c_12 => ?_)
        · refine lv_iconst (v := nI 0) hx hb dX5_addLine_50 (by decide) ?_
          refine lv_istore (lv' := [(5, .int (nI 0)), (0, .ref a5), (1, .int p0), (2, .int p1), (3, .int p2), (4, .int p3)]) hx hb dX5_addLine_51 hl (by decide) rfl (fun ls hl => ?_)
          refine lv_aload_n hx hb dX5_addLine_53 rfl (lv_at hl 1 rfl) ?_
          refine lv_iload_n hx hb dX5_addLine_54 rfl (lv_at hl 2 rfl) ?_
          refine xcRi (va_runS (As := [.int p0]) (rest := [.ref a5]) ⟨hx, hb, hml, hown, hts⟩ (m_isBasket l D cy t0 p0) (va_cwS 1 hts gX5_addLine_X5_isBasket rfl rfl rfl (by decide +kernel) ⟨Nat.le_of_ble_eq_true rfl, Nat.le_of_ble_eq_true rfl⟩) (xPr.give (wc := []) hE hS hP [] rfl) rfl rfl hl.1 rfl (lv_room (Nat.le_of_ble_eq_true rfl)) dX5_addLine_55 ⟨(Nat.zero_le _), (Nat.zero_le _)⟩) (fun r_13 hr_14 => ?_)
          obtain rfl : r_13 = nI 0 := by rw [hr_14, isBk_no hbi]; rfl
          refine xb_if_ne (tgt := 65) (a := 0) (by omega) hx hb dX5_addLine_58 (by decide) (fun c_15 => ?_) (fun c_15 => ?_)
          · exact absurd c_15 (by omega)
          · refine lv_iconst (v := nI 1) hx hb dX5_addLine_61 (by decide) ?_
            refine lv_goto (tgt := 75) hx hb dX5_addLine_62 (by decide) ?_
            refine xcWi (wr := []) (va_runV (As := [.int (nI 1)]) (rest := []) ⟨hx, hb, hml, hown, hts⟩ ((m_goesWell l D cy t0 a5 mD mI mZ mK mO mB mR mF k th now nl5 kM oM 1 (by omega)) H.size) (cwV 1 hts gX5_addLine_X5_goesWell rfl rfl rfl (by decide +kernel) ⟨Nat.le_of_ble_eq_true rfl, Nat.le_of_ble_eq_true rfl⟩) (xPw.giveV (wc := [(a5, .inr (5, [.int th, .int (nI k), .int now, .ref mD, .ref mI, .ref mZ, .int nl5, .ref mK, .ref mO, .ref mB, .ref mR, .ref mF, .int kM, .int oM]))]) hE hS hA hP hD [0] (by decide) rfl 0 5 rfl rfl) rfl rfl hl.1 rfl (lv_room (Nat.le_of_ble_eq_true rfl)) dX5_addLine_75 ⟨(Nat.zero_le _), (Nat.zero_le _)⟩) hP hD hS hA [0] [] rfl rfl (by decide) (by decide) (fun r_16 u_18 H locs hr_17 hP hD hS => ?_)
            obtain rfl : r_16 = nI 0 := by rw [hr_17]; rfl
            have hP := hP.sub (ws' := [(a5, .inr (5, [.int (nI 1), .int (nI k), .int now, .ref mD, .ref mI, .ref mZ, .int nl5, .ref mK, .ref mO, .ref mB, .ref mR, .ref mF, .int kM, .int oM]))]) [0] rfl
            have hD := hD.sub (ws' := [(a5, .inr (5, [.int (nI 1), .int (nI k), .int now, .ref mD, .ref mI, .ref mZ, .int nl5, .ref mK, .ref mO, .ref mB, .ref mR, .ref mF, .int kM, .int oM]))]) [0] (by decide) rfl
            refine xb_if_ne (tgt := 83) (a := 0) (by omega) hx hb dX5_addLine_78 (by decide) (fun c_19 => ?_) (fun c_19 => ?_)
            · exact absurd c_19 (by omega)
            · refine lv_iconst (v := nI 0) hx hb dX5_addLine_81 (by decide) ?_
              exact kret _ () _ _ _ _ _ _ dX5_addLine_82 trivial hP hD hS (Nat.le_of_ble_eq_true rfl) (Nat.le_of_ble_eq_true rfl)
        · refine lv_iload hx hb dX5_addLine_19 (lv_at hl 4 rfl) ?_
          refine lv_iconst (v := nI 1) hx hb dX5_addLine_21 (by decide) ?_
          refine lv_icmp_lt (tgt := 50) hx hb dX5_addLine_22 (by decide) (fun c_20 => ?_) (fun c_20 => ?_)
          · refine lv_iconst (v := nI 0) hx hb dX5_addLine_50 (by decide) ?_
            refine lv_istore (lv' := [(5, .int (nI 0)), (0, .ref a5), (1, .int p0), (2, .int p1), (3, .int p2), (4, .int p3)]) hx hb dX5_addLine_51 hl (by decide) rfl (fun ls hl => ?_)
            refine lv_aload_n hx hb dX5_addLine_53 rfl (lv_at hl 1 rfl) ?_
            refine lv_iload_n hx hb dX5_addLine_54 rfl (lv_at hl 2 rfl) ?_
            refine xcRi (va_runS (As := [.int p0]) (rest := [.ref a5]) ⟨hx, hb, hml, hown, hts⟩ (m_isBasket l D cy t0 p0) (va_cwS 1 hts gX5_addLine_X5_isBasket rfl rfl rfl (by decide +kernel) ⟨Nat.le_of_ble_eq_true rfl, Nat.le_of_ble_eq_true rfl⟩) (xPr.give (wc := []) hE hS hP [] rfl) rfl rfl hl.1 rfl (lv_room (Nat.le_of_ble_eq_true rfl)) dX5_addLine_55 ⟨(Nat.zero_le _), (Nat.zero_le _)⟩) (fun r_21 hr_22 => ?_)
            obtain rfl : r_21 = nI 0 := by rw [hr_22, isBk_no hbi]; rfl
            refine xb_if_ne (tgt := 65) (a := 0) (by omega) hx hb dX5_addLine_58 (by decide) (fun c_23 => ?_) (fun c_23 => ?_)
            · exact absurd c_23 (by omega)
            · refine lv_iconst (v := nI 1) hx hb dX5_addLine_61 (by decide) ?_
              refine lv_goto (tgt := 75) hx hb dX5_addLine_62 (by decide) ?_
              refine xcWi (wr := []) (va_runV (As := [.int (nI 1)]) (rest := []) ⟨hx, hb, hml, hown, hts⟩ ((m_goesWell l D cy t0 a5 mD mI mZ mK mO mB mR mF k th now nl5 kM oM 1 (by omega)) H.size) (cwV 1 hts gX5_addLine_X5_goesWell rfl rfl rfl (by decide +kernel) ⟨Nat.le_of_ble_eq_true rfl, Nat.le_of_ble_eq_true rfl⟩) (xPw.giveV (wc := [(a5, .inr (5, [.int th, .int (nI k), .int now, .ref mD, .ref mI, .ref mZ, .int nl5, .ref mK, .ref mO, .ref mB, .ref mR, .ref mF, .int kM, .int oM]))]) hE hS hA hP hD [0] (by decide) rfl 0 5 rfl rfl) rfl rfl hl.1 rfl (lv_room (Nat.le_of_ble_eq_true rfl)) dX5_addLine_75 ⟨(Nat.zero_le _), (Nat.zero_le _)⟩) hP hD hS hA [0] [] rfl rfl (by decide) (by decide) (fun r_24 u_26 H locs hr_25 hP hD hS => ?_)
              obtain rfl : r_24 = nI 0 := by rw [hr_25]; rfl
              have hP := hP.sub (ws' := [(a5, .inr (5, [.int (nI 1), .int (nI k), .int now, .ref mD, .ref mI, .ref mZ, .int nl5, .ref mK, .ref mO, .ref mB, .ref mR, .ref mF, .int kM, .int oM]))]) [0] rfl
              have hD := hD.sub (ws' := [(a5, .inr (5, [.int (nI 1), .int (nI k), .int now, .ref mD, .ref mI, .ref mZ, .int nl5, .ref mK, .ref mO, .ref mB, .ref mR, .ref mF, .int kM, .int oM]))]) [0] (by decide) rfl
              refine xb_if_ne (tgt := 83) (a := 0) (by omega) hx hb dX5_addLine_78 (by decide) (fun c_27 => ?_) (fun c_27 => ?_)
              · exact absurd c_27 (by omega)
              · refine lv_iconst (v := nI 0) hx hb dX5_addLine_81 (by decide) ?_
                exact kret _ () _ _ _ _ _ _ dX5_addLine_82 trivial hP hD hS (Nat.le_of_ble_eq_true rfl) (Nat.le_of_ble_eq_true rfl)
          · refine lv_iload hx hb dX5_addLine_25 (lv_at hl 4 rfl) ?_
            refine lv_bipush (v := nI 60) hx hb dX5_addLine_27 (by decide) ?_
            refine lv_icmp_gt (tgt := 50) hx hb dX5_addLine_29 (by decide) (fun c_28 => ?_) (fun c_28 => ?_)
            · refine lv_iconst (v := nI 0) hx hb dX5_addLine_50 (by decide) ?_
              refine lv_istore (lv' := [(5, .int (nI 0)), (0, .ref a5), (1, .int p0), (2, .int p1), (3, .int p2), (4, .int p3)]) hx hb dX5_addLine_51 hl (by decide) rfl (fun ls hl => ?_)
              refine lv_aload_n hx hb dX5_addLine_53 rfl (lv_at hl 1 rfl) ?_
              refine lv_iload_n hx hb dX5_addLine_54 rfl (lv_at hl 2 rfl) ?_
              refine xcRi (va_runS (As := [.int p0]) (rest := [.ref a5]) ⟨hx, hb, hml, hown, hts⟩ (m_isBasket l D cy t0 p0) (va_cwS 1 hts gX5_addLine_X5_isBasket rfl rfl rfl (by decide +kernel) ⟨Nat.le_of_ble_eq_true rfl, Nat.le_of_ble_eq_true rfl⟩) (xPr.give (wc := []) hE hS hP [] rfl) rfl rfl hl.1 rfl (lv_room (Nat.le_of_ble_eq_true rfl)) dX5_addLine_55 ⟨(Nat.zero_le _), (Nat.zero_le _)⟩) (fun r_29 hr_30 => ?_)
              obtain rfl : r_29 = nI 0 := by rw [hr_30, isBk_no hbi]; rfl
              refine xb_if_ne (tgt := 65) (a := 0) (by omega) hx hb dX5_addLine_58 (by decide) (fun c_31 => ?_) (fun c_31 => ?_)
              · exact absurd c_31 (by omega)
              · refine lv_iconst (v := nI 1) hx hb dX5_addLine_61 (by decide) ?_
                refine lv_goto (tgt := 75) hx hb dX5_addLine_62 (by decide) ?_
                refine xcWi (wr := []) (va_runV (As := [.int (nI 1)]) (rest := []) ⟨hx, hb, hml, hown, hts⟩ ((m_goesWell l D cy t0 a5 mD mI mZ mK mO mB mR mF k th now nl5 kM oM 1 (by omega)) H.size) (cwV 1 hts gX5_addLine_X5_goesWell rfl rfl rfl (by decide +kernel) ⟨Nat.le_of_ble_eq_true rfl, Nat.le_of_ble_eq_true rfl⟩) (xPw.giveV (wc := [(a5, .inr (5, [.int th, .int (nI k), .int now, .ref mD, .ref mI, .ref mZ, .int nl5, .ref mK, .ref mO, .ref mB, .ref mR, .ref mF, .int kM, .int oM]))]) hE hS hA hP hD [0] (by decide) rfl 0 5 rfl rfl) rfl rfl hl.1 rfl (lv_room (Nat.le_of_ble_eq_true rfl)) dX5_addLine_75 ⟨(Nat.zero_le _), (Nat.zero_le _)⟩) hP hD hS hA [0] [] rfl rfl (by decide) (by decide) (fun r_32 u_34 H locs hr_33 hP hD hS => ?_)
                obtain rfl : r_32 = nI 0 := by rw [hr_33]; rfl
                have hP := hP.sub (ws' := [(a5, .inr (5, [.int (nI 1), .int (nI k), .int now, .ref mD, .ref mI, .ref mZ, .int nl5, .ref mK, .ref mO, .ref mB, .ref mR, .ref mF, .int kM, .int oM]))]) [0] rfl
                have hD := hD.sub (ws' := [(a5, .inr (5, [.int (nI 1), .int (nI k), .int now, .ref mD, .ref mI, .ref mZ, .int nl5, .ref mK, .ref mO, .ref mB, .ref mR, .ref mF, .int kM, .int oM]))]) [0] (by decide) rfl
                refine xb_if_ne (tgt := 83) (a := 0) (by omega) hx hb dX5_addLine_78 (by decide) (fun c_35 => ?_) (fun c_35 => ?_)
                · exact absurd c_35 (by omega)
                · refine lv_iconst (v := nI 0) hx hb dX5_addLine_81 (by decide) ?_
                  exact kret _ () _ _ _ _ _ _ dX5_addLine_82 trivial hP hD hS (Nat.le_of_ble_eq_true rfl) (Nat.le_of_ble_eq_true rfl)
            · refine lv_iload_n hx hb dX5_addLine_32 rfl (lv_at hl 2 rfl) ?_
              refine lv_iload hx hb dX5_addLine_33 (lv_at hl 4 rfl) ?_
              refine lv_iconst (v := nI 1) hx hb dX5_addLine_35 (by decide) ?_
              refine lv_isub hx hb dX5_addLine_36 ?_
              refine lv_iload_n hx hb dX5_addLine_37 rfl (lv_at hl 3 rfl) ?_
              refine lv_imul hx hb dX5_addLine_38 ?_
              refine lv_iadd hx hb dX5_addLine_39 ?_
              refine xcRi (va_runS (As := [.int (p1 + ((p3 - (nI 1)) * p2))]) (rest := []) ⟨hx, hb, hml, hown, hts⟩ (m_isItem l D cy t0 (p1 + ((p3 - (nI 1)) * p2))) (va_cwS 1 hts gX5_addLine_X5_isItem rfl rfl rfl (by decide +kernel) ⟨Nat.le_of_ble_eq_true rfl, Nat.le_of_ble_eq_true rfl⟩) (xPr.give (wc := []) hE hS hP [] rfl) rfl rfl hl.1 rfl (lv_room (Nat.le_of_ble_eq_true rfl)) dX5_addLine_40 ⟨(Nat.zero_le _), (Nat.zero_le _)⟩) (fun r_36 hr_37 => ?_)
              refine lv_eqi (z := xb (isIt (p1 + ((p3 - (nI 1)) * p2)))) hr_37 ?_
              refine xb_beq (tgt := 50) hx hb dX5_addLine_43 (by decide) (fun c_38 => ?_) (fun c_38 => ?_)
              · refine lv_iconst (v := nI 0) hx hb dX5_addLine_50 (by decide) ?_
                refine lv_istore (lv' := [(5, .int (nI 0)), (0, .ref a5), (1, .int p0), (2, .int p1), (3, .int p2), (4, .int p3)]) hx hb dX5_addLine_51 hl (by decide) rfl (fun ls hl => ?_)
                refine lv_aload_n hx hb dX5_addLine_53 rfl (lv_at hl 1 rfl) ?_
                refine lv_iload_n hx hb dX5_addLine_54 rfl (lv_at hl 2 rfl) ?_
                refine xcRi (va_runS (As := [.int p0]) (rest := [.ref a5]) ⟨hx, hb, hml, hown, hts⟩ (m_isBasket l D cy t0 p0) (va_cwS 1 hts gX5_addLine_X5_isBasket rfl rfl rfl (by decide +kernel) ⟨Nat.le_of_ble_eq_true rfl, Nat.le_of_ble_eq_true rfl⟩) (xPr.give (wc := []) hE hS hP [] rfl) rfl rfl hl.1 rfl (lv_room (Nat.le_of_ble_eq_true rfl)) dX5_addLine_55 ⟨(Nat.zero_le _), (Nat.zero_le _)⟩) (fun r_39 hr_40 => ?_)
                obtain rfl : r_39 = nI 0 := by rw [hr_40, isBk_no hbi]; rfl
                refine xb_if_ne (tgt := 65) (a := 0) (by omega) hx hb dX5_addLine_58 (by decide) (fun c_41 => ?_) (fun c_41 => ?_)
                · exact absurd c_41 (by omega)
                · refine lv_iconst (v := nI 1) hx hb dX5_addLine_61 (by decide) ?_
                  refine lv_goto (tgt := 75) hx hb dX5_addLine_62 (by decide) ?_
                  refine xcWi (wr := []) (va_runV (As := [.int (nI 1)]) (rest := []) ⟨hx, hb, hml, hown, hts⟩ ((m_goesWell l D cy t0 a5 mD mI mZ mK mO mB mR mF k th now nl5 kM oM 1 (by omega)) H.size) (cwV 1 hts gX5_addLine_X5_goesWell rfl rfl rfl (by decide +kernel) ⟨Nat.le_of_ble_eq_true rfl, Nat.le_of_ble_eq_true rfl⟩) (xPw.giveV (wc := [(a5, .inr (5, [.int th, .int (nI k), .int now, .ref mD, .ref mI, .ref mZ, .int nl5, .ref mK, .ref mO, .ref mB, .ref mR, .ref mF, .int kM, .int oM]))]) hE hS hA hP hD [0] (by decide) rfl 0 5 rfl rfl) rfl rfl hl.1 rfl (lv_room (Nat.le_of_ble_eq_true rfl)) dX5_addLine_75 ⟨(Nat.zero_le _), (Nat.zero_le _)⟩) hP hD hS hA [0] [] rfl rfl (by decide) (by decide) (fun r_42 u_44 H locs hr_43 hP hD hS => ?_)
                  obtain rfl : r_42 = nI 0 := by rw [hr_43]; rfl
                  have hP := hP.sub (ws' := [(a5, .inr (5, [.int (nI 1), .int (nI k), .int now, .ref mD, .ref mI, .ref mZ, .int nl5, .ref mK, .ref mO, .ref mB, .ref mR, .ref mF, .int kM, .int oM]))]) [0] rfl
                  have hD := hD.sub (ws' := [(a5, .inr (5, [.int (nI 1), .int (nI k), .int now, .ref mD, .ref mI, .ref mZ, .int nl5, .ref mK, .ref mO, .ref mB, .ref mR, .ref mF, .int kM, .int oM]))]) [0] (by decide) rfl
                  refine xb_if_ne (tgt := 83) (a := 0) (by omega) hx hb dX5_addLine_78 (by decide) (fun c_45 => ?_) (fun c_45 => ?_)
                  · exact absurd c_45 (by omega)
                  · refine lv_iconst (v := nI 0) hx hb dX5_addLine_81 (by decide) ?_
                    exact kret _ () _ _ _ _ _ _ dX5_addLine_82 trivial hP hD hS (Nat.le_of_ble_eq_true rfl) (Nat.le_of_ble_eq_true rfl)
              · refine lv_iconst (v := nI 1) hx hb dX5_addLine_46 (by decide) ?_
                refine lv_goto (tgt := 51) hx hb dX5_addLine_47 (by decide) ?_
                refine lv_istore (lv' := [(5, .int (nI 1)), (0, .ref a5), (1, .int p0), (2, .int p1), (3, .int p2), (4, .int p3)]) hx hb dX5_addLine_51 hl (by decide) rfl (fun ls hl => ?_)
                refine lv_aload_n hx hb dX5_addLine_53 rfl (lv_at hl 1 rfl) ?_
                refine lv_iload_n hx hb dX5_addLine_54 rfl (lv_at hl 2 rfl) ?_
                refine xcRi (va_runS (As := [.int p0]) (rest := [.ref a5]) ⟨hx, hb, hml, hown, hts⟩ (m_isBasket l D cy t0 p0) (va_cwS 1 hts gX5_addLine_X5_isBasket rfl rfl rfl (by decide +kernel) ⟨Nat.le_of_ble_eq_true rfl, Nat.le_of_ble_eq_true rfl⟩) (xPr.give (wc := []) hE hS hP [] rfl) rfl rfl hl.1 rfl (lv_room (Nat.le_of_ble_eq_true rfl)) dX5_addLine_55 ⟨(Nat.zero_le _), (Nat.zero_le _)⟩) (fun r_46 hr_47 => ?_)
                obtain rfl : r_46 = nI 0 := by rw [hr_47, isBk_no hbi]; rfl
                refine xb_if_ne (tgt := 65) (a := 0) (by omega) hx hb dX5_addLine_58 (by decide) (fun c_48 => ?_) (fun c_48 => ?_)
                · exact absurd c_48 (by omega)
                · refine lv_iconst (v := nI 1) hx hb dX5_addLine_61 (by decide) ?_
                  refine lv_goto (tgt := 75) hx hb dX5_addLine_62 (by decide) ?_
                  refine xcWi (wr := []) (va_runV (As := [.int (nI 1)]) (rest := []) ⟨hx, hb, hml, hown, hts⟩ ((m_goesWell l D cy t0 a5 mD mI mZ mK mO mB mR mF k th now nl5 kM oM 1 (by omega)) H.size) (cwV 1 hts gX5_addLine_X5_goesWell rfl rfl rfl (by decide +kernel) ⟨Nat.le_of_ble_eq_true rfl, Nat.le_of_ble_eq_true rfl⟩) (xPw.giveV (wc := [(a5, .inr (5, [.int th, .int (nI k), .int now, .ref mD, .ref mI, .ref mZ, .int nl5, .ref mK, .ref mO, .ref mB, .ref mR, .ref mF, .int kM, .int oM]))]) hE hS hA hP hD [0] (by decide) rfl 0 5 rfl rfl) rfl rfl hl.1 rfl (lv_room (Nat.le_of_ble_eq_true rfl)) dX5_addLine_75 ⟨(Nat.zero_le _), (Nat.zero_le _)⟩) hP hD hS hA [0] [] rfl rfl (by decide) (by decide) (fun r_49 u_51 H locs hr_50 hP hD hS => ?_)
                  obtain rfl : r_49 = nI 0 := by rw [hr_50]; rfl
                  have hP := hP.sub (ws' := [(a5, .inr (5, [.int (nI 1), .int (nI k), .int now, .ref mD, .ref mI, .ref mZ, .int nl5, .ref mK, .ref mO, .ref mB, .ref mR, .ref mF, .int kM, .int oM]))]) [0] rfl
                  have hD := hD.sub (ws' := [(a5, .inr (5, [.int (nI 1), .int (nI k), .int now, .ref mD, .ref mI, .ref mZ, .int nl5, .ref mK, .ref mO, .ref mB, .ref mR, .ref mF, .int kM, .int oM]))]) [0] (by decide) rfl
                  refine xb_if_ne (tgt := 83) (a := 0) (by omega) hx hb dX5_addLine_78 (by decide) (fun c_52 => ?_) (fun c_52 => ?_)
                  · exact absurd c_52 (by omega)
                  · refine lv_iconst (v := nI 0) hx hb dX5_addLine_81 (by decide) ?_
                    exact kret _ () _ _ _ _ _ _ dX5_addLine_82 trivial hP hD hS (Nat.le_of_ble_eq_true rfl) (Nat.le_of_ble_eq_true rfl)
  · have h1f := hit
    refine lv_iload_n hx hb dX5_addLine_0 rfl (lv_at hl 2 rfl) ?_
    refine xcRi (va_runS (As := [.int p1]) (rest := []) ⟨hx, hb, hml, hown, hts⟩ (m_isItem l D cy t0 p1) (va_cwS 1 hts gX5_addLine_X5_isItem rfl rfl rfl (by decide +kernel) ⟨Nat.le_of_ble_eq_true rfl, Nat.le_of_ble_eq_true rfl⟩) (xPr.give (wc := []) hE hS hP [] rfl) rfl rfl hl.1 rfl (lv_room (Nat.le_of_ble_eq_true rfl)) dX5_addLine_1 ⟨(Nat.zero_le _), (Nat.zero_le _)⟩) (fun r_53 hr_54 => ?_)
    obtain rfl : r_53 = nI 0 := by rw [hr_54, hit]; rfl
    refine xb_if_eq (tgt := 50) (a := 0) (by omega) hx hb dX5_addLine_4 (by decide) (fun c_55 => ?_) (fun c_55 => ?_)
    · refine lv_iconst (v := nI 0) hx hb dX5_addLine_50 (by decide) ?_
      refine lv_istore (lv' := [(5, .int (nI 0)), (0, .ref a5), (1, .int p0), (2, .int p1), (3, .int p2), (4, .int p3)]) hx hb dX5_addLine_51 hl (by decide) rfl (fun ls hl => ?_)
      refine lv_aload_n hx hb dX5_addLine_53 rfl (lv_at hl 1 rfl) ?_
      refine lv_iload_n hx hb dX5_addLine_54 rfl (lv_at hl 2 rfl) ?_
      refine xcRi (va_runS (As := [.int p0]) (rest := [.ref a5]) ⟨hx, hb, hml, hown, hts⟩ (m_isBasket l D cy t0 p0) (va_cwS 1 hts gX5_addLine_X5_isBasket rfl rfl rfl (by decide +kernel) ⟨Nat.le_of_ble_eq_true rfl, Nat.le_of_ble_eq_true rfl⟩) (xPr.give (wc := []) hE hS hP [] rfl) rfl rfl hl.1 rfl (lv_room (Nat.le_of_ble_eq_true rfl)) dX5_addLine_55 ⟨(Nat.zero_le _), (Nat.zero_le _)⟩) (fun r_56 hr_57 => ?_)
      obtain rfl : r_56 = nI 0 := by rw [hr_57, isBk_no hbi]; rfl
      refine xb_if_ne (tgt := 65) (a := 0) (by omega) hx hb dX5_addLine_58 (by decide) (fun c_58 => ?_) (fun c_58 => ?_)
      · exact absurd c_58 (by omega)
      · refine lv_iconst (v := nI 1) hx hb dX5_addLine_61 (by decide) ?_
        refine lv_goto (tgt := 75) hx hb dX5_addLine_62 (by decide) ?_
        refine xcWi (wr := []) (va_runV (As := [.int (nI 1)]) (rest := []) ⟨hx, hb, hml, hown, hts⟩ ((m_goesWell l D cy t0 a5 mD mI mZ mK mO mB mR mF k th now nl5 kM oM 1 (by omega)) H.size) (cwV 1 hts gX5_addLine_X5_goesWell rfl rfl rfl (by decide +kernel) ⟨Nat.le_of_ble_eq_true rfl, Nat.le_of_ble_eq_true rfl⟩) (xPw.giveV (wc := [(a5, .inr (5, [.int th, .int (nI k), .int now, .ref mD, .ref mI, .ref mZ, .int nl5, .ref mK, .ref mO, .ref mB, .ref mR, .ref mF, .int kM, .int oM]))]) hE hS hA hP hD [0] (by decide) rfl 0 5 rfl rfl) rfl rfl hl.1 rfl (lv_room (Nat.le_of_ble_eq_true rfl)) dX5_addLine_75 ⟨(Nat.zero_le _), (Nat.zero_le _)⟩) hP hD hS hA [0] [] rfl rfl (by decide) (by decide) (fun r_59 u_61 H locs hr_60 hP hD hS => ?_)
        obtain rfl : r_59 = nI 0 := by rw [hr_60]; rfl
        have hP := hP.sub (ws' := [(a5, .inr (5, [.int (nI 1), .int (nI k), .int now, .ref mD, .ref mI, .ref mZ, .int nl5, .ref mK, .ref mO, .ref mB, .ref mR, .ref mF, .int kM, .int oM]))]) [0] rfl
        have hD := hD.sub (ws' := [(a5, .inr (5, [.int (nI 1), .int (nI k), .int now, .ref mD, .ref mI, .ref mZ, .int nl5, .ref mK, .ref mO, .ref mB, .ref mR, .ref mF, .int kM, .int oM]))]) [0] (by decide) rfl
        refine xb_if_ne (tgt := 83) (a := 0) (by omega) hx hb dX5_addLine_78 (by decide) (fun c_62 => ?_) (fun c_62 => ?_)
        · exact absurd c_62 (by omega)
        · refine lv_iconst (v := nI 0) hx hb dX5_addLine_81 (by decide) ?_
          exact kret _ () _ _ _ _ _ _ dX5_addLine_82 trivial hP hD hS (Nat.le_of_ble_eq_true rfl) (Nat.le_of_ble_eq_true rfl)
    · exact absurd c_55 (by omega)
set_option maxHeartbeats 4000000 in
set_option maxRecDepth 100000 in
theorem m_emptyT (l : Launch) (D : va_G) (cy : Nat → ClassId) (t0 : Nat) (a5 mD mI mZ mK mO mB mR mF k : Nat) (th now nl5 kM oM : Int32) (p0 : Int32) (hbi : p0 < 0 ∨ nI 6 ≤ p0) : xWi (S := Unit) l yX5_empty wsX5_empty ({ frames := 1, cells := 0, slots := 0, locals := 21 } : Room) D cy t0 ([.ref a5, .int p0]) ([(a5, .inr (5, [.int th, .int (nI k), .int now, .ref mD, .ref mI, .ref mZ, .int nl5, .ref mK, .ref mO, .ref mB, .ref mR, .ref mF, .int kM, .int oM]))]) (fun _ _ => True) (fun _ => [(a5, .inr (5, [.int (nI 1), .int (nI k), .int now, .ref mD, .ref mI, .ref mZ, .int nl5, .ref mK, .ref mO, .ref mB, .ref mR, .ref mF, .int kM, .int oM]))]) 0 0 := by
  refine xofWi (cc := cX5_empty) (maxL := 4) (by decide) rfl (Nat.le_of_ble_eq_true rfl) (fun _ _ _ => rfl) ?_
  intro p e s m below meth c Q A ls hx hb hml hts hown hE hA H locs hP hD hl hS kret
  have hl : lv_has ls 4 [(0, .ref a5), (1, .int p0)] := hl
  refine lv_aload_n hx hb dX5_empty_0 rfl (lv_at hl 0 rfl) ?_
  refine lv_iload_n hx hb dX5_empty_1 rfl (lv_at hl 1 rfl) ?_
  refine xcRi (va_runS (As := [.int p0]) (rest := [.ref a5]) ⟨hx, hb, hml, hown, hts⟩ (m_isBasket l D cy t0 p0) (va_cwS 1 hts gX5_empty_X5_isBasket rfl rfl rfl (by decide +kernel) ⟨Nat.le_of_ble_eq_true rfl, Nat.le_of_ble_eq_true rfl⟩) (xPr.give (wc := []) hE hS hP [] rfl) rfl rfl hl.1 rfl (lv_room (Nat.le_of_ble_eq_true rfl)) dX5_empty_2 ⟨(Nat.zero_le _), (Nat.zero_le _)⟩) (fun r_1 hr_2 => ?_)
  obtain rfl : r_1 = nI 0 := by rw [hr_2, isBk_no hbi]; rfl
  refine xb_if_eq (tgt := 12) (a := 0) (by omega) hx hb dX5_empty_5 (by decide) (fun c_3 => ?_) (fun c_3 => ?_)
  · refine lv_iconst (v := nI 1) hx hb dX5_empty_12 (by decide) ?_
    refine xcWi (wr := []) (va_runV (As := [.int (nI 1)]) (rest := []) ⟨hx, hb, hml, hown, hts⟩ ((m_goesWell l D cy t0 a5 mD mI mZ mK mO mB mR mF k th now nl5 kM oM 1 (by omega)) H.size) (cwV 1 hts gX5_empty_X5_goesWell rfl rfl rfl (by decide +kernel) ⟨Nat.le_of_ble_eq_true rfl, Nat.le_of_ble_eq_true rfl⟩) (xPw.giveV (wc := [(a5, .inr (5, [.int th, .int (nI k), .int now, .ref mD, .ref mI, .ref mZ, .int nl5, .ref mK, .ref mO, .ref mB, .ref mR, .ref mF, .int kM, .int oM]))]) hE hS hA hP hD [0] (by decide) rfl 0 5 rfl rfl) rfl rfl hl.1 rfl (lv_room (Nat.le_of_ble_eq_true rfl)) dX5_empty_13 ⟨(Nat.zero_le _), (Nat.zero_le _)⟩) hP hD hS hA [0] [] rfl rfl (by decide) (by decide) (fun r_4 u_6 H locs hr_5 hP hD hS => ?_)
    obtain rfl : r_4 = nI 0 := by rw [hr_5]; rfl
    have hP := hP.sub (ws' := [(a5, .inr (5, [.int (nI 1), .int (nI k), .int now, .ref mD, .ref mI, .ref mZ, .int nl5, .ref mK, .ref mO, .ref mB, .ref mR, .ref mF, .int kM, .int oM]))]) [0] rfl
    have hD := hD.sub (ws' := [(a5, .inr (5, [.int (nI 1), .int (nI k), .int now, .ref mD, .ref mI, .ref mZ, .int nl5, .ref mK, .ref mO, .ref mB, .ref mR, .ref mF, .int kM, .int oM]))]) [0] (by decide) rfl
    refine xb_if_ne (tgt := 21) (a := 0) (by omega) hx hb dX5_empty_16 (by decide) (fun c_7 => ?_) (fun c_7 => ?_)
    · exact absurd c_7 (by omega)
    · refine lv_iconst (v := nI 0) hx hb dX5_empty_19 (by decide) ?_
      exact kret _ () _ _ _ _ _ _ dX5_empty_20 trivial hP hD hS (Nat.le_of_ble_eq_true rfl) (Nat.le_of_ble_eq_true rfl)
  · exact absurd c_3 (by omega)
set_option maxHeartbeats 4000000 in
set_option maxRecDepth 100000 in
theorem m_plainT (l : Launch) (D : va_G) (cy : Nat → ClassId) (t0 : Nat) (a5 mD mI mZ mK mO mB mR mF k : Nat) (th now nl5 kM oM : Int32) (p0 : Int32) (hbi : p0 < 0 ∨ nI 6 ≤ p0) : xWi (S := Unit) l yX5_plain wsX5_plain ({ frames := 1, cells := 0, slots := 0, locals := 21 } : Room) D cy t0 ([.ref a5, .int p0]) ([(a5, .inr (5, [.int th, .int (nI k), .int now, .ref mD, .ref mI, .ref mZ, .int nl5, .ref mK, .ref mO, .ref mB, .ref mR, .ref mF, .int kM, .int oM]))]) (fun _ _ => True) (fun _ => [(a5, .inr (5, [.int (nI 1), .int (nI k), .int now, .ref mD, .ref mI, .ref mZ, .int nl5, .ref mK, .ref mO, .ref mB, .ref mR, .ref mF, .int kM, .int oM]))]) 0 0 := by
  refine xofWi (cc := cX5_plain) (maxL := 2) (by decide) rfl (Nat.le_of_ble_eq_true rfl) (fun _ _ _ => rfl) ?_
  intro p e s m below meth c Q A ls hx hb hml hts hown hE hA H locs hP hD hl hS kret
  have hl : lv_has ls 2 [(0, .ref a5), (1, .int p0)] := hl
  refine lv_aload_n hx hb dX5_plain_0 rfl (lv_at hl 0 rfl) ?_
  refine lv_iload_n hx hb dX5_plain_1 rfl (lv_at hl 1 rfl) ?_
  refine xcRi (va_runS (As := [.int p0]) (rest := [.ref a5]) ⟨hx, hb, hml, hown, hts⟩ (m_isBasket l D cy t0 p0) (va_cwS 1 hts gX5_plain_X5_isBasket rfl rfl rfl (by decide +kernel) ⟨Nat.le_of_ble_eq_true rfl, Nat.le_of_ble_eq_true rfl⟩) (xPr.give (wc := []) hE hS hP [] rfl) rfl rfl hl.1 rfl (lv_room (Nat.le_of_ble_eq_true rfl)) dX5_plain_2 ⟨(Nat.zero_le _), (Nat.zero_le _)⟩) (fun r_1 hr_2 => ?_)
  obtain rfl : r_1 = nI 0 := by rw [hr_2, isBk_no hbi]; rfl
  refine xb_if_eq (tgt := 12) (a := 0) (by omega) hx hb dX5_plain_5 (by decide) (fun c_3 => ?_) (fun c_3 => ?_)
  · refine lv_iconst (v := nI 1) hx hb dX5_plain_12 (by decide) ?_
    refine xcWi (wr := []) (va_runV (As := [.int (nI 1)]) (rest := []) ⟨hx, hb, hml, hown, hts⟩ ((m_goesWell l D cy t0 a5 mD mI mZ mK mO mB mR mF k th now nl5 kM oM 1 (by omega)) H.size) (cwV 1 hts gX5_plain_X5_goesWell rfl rfl rfl (by decide +kernel) ⟨Nat.le_of_ble_eq_true rfl, Nat.le_of_ble_eq_true rfl⟩) (xPw.giveV (wc := [(a5, .inr (5, [.int th, .int (nI k), .int now, .ref mD, .ref mI, .ref mZ, .int nl5, .ref mK, .ref mO, .ref mB, .ref mR, .ref mF, .int kM, .int oM]))]) hE hS hA hP hD [0] (by decide) rfl 0 5 rfl rfl) rfl rfl hl.1 rfl (lv_room (Nat.le_of_ble_eq_true rfl)) dX5_plain_13 ⟨(Nat.zero_le _), (Nat.zero_le _)⟩) hP hD hS hA [0] [] rfl rfl (by decide) (by decide) (fun r_4 u_6 H locs hr_5 hP hD hS => ?_)
    obtain rfl : r_4 = nI 0 := by rw [hr_5]; rfl
    have hP := hP.sub (ws' := [(a5, .inr (5, [.int (nI 1), .int (nI k), .int now, .ref mD, .ref mI, .ref mZ, .int nl5, .ref mK, .ref mO, .ref mB, .ref mR, .ref mF, .int kM, .int oM]))]) [0] rfl
    have hD := hD.sub (ws' := [(a5, .inr (5, [.int (nI 1), .int (nI k), .int now, .ref mD, .ref mI, .ref mZ, .int nl5, .ref mK, .ref mO, .ref mB, .ref mR, .ref mF, .int kM, .int oM]))]) [0] (by decide) rfl
    refine xb_if_eq (tgt := 27) (a := 0) (by omega) hx hb dX5_plain_16 (by decide) (fun c_7 => ?_) (fun c_7 => ?_)
    · refine lv_iconst (v := nI 0) hx hb dX5_plain_27 (by decide) ?_
      exact kret _ () _ _ _ _ _ _ dX5_plain_28 trivial hP hD hS (Nat.le_of_ble_eq_true rfl) (Nat.le_of_ble_eq_true rfl)
    · exact absurd c_7 (by omega)
  · exact absurd c_3 (by omega)
set_option maxHeartbeats 4000000 in
set_option maxRecDepth 100000 in
theorem m_dateOfT (l : Launch) (D : va_G) (cy : Nat → ClassId) (t0 : Nat) (a5 mD mI mZ mK mO mB mR mF k : Nat) (th now nl5 kM oM : Int32) (p0 p1 : Int32) (hbi : p0 < 0 ∨ nI 6 ≤ p0) : xWi (S := Unit) l yX5_dateOf wsX5_dateOf ({ frames := 1, cells := 0, slots := 0, locals := 21 } : Room) D cy t0 ([.ref a5, .int p0, .int p1]) ([(a5, .inr (5, [.int th, .int (nI k), .int now, .ref mD, .ref mI, .ref mZ, .int nl5, .ref mK, .ref mO, .ref mB, .ref mR, .ref mF, .int kM, .int oM]))]) (fun _ _ => True) (fun _ => [(a5, .inr (5, [.int (nI 1), .int (nI k), .int now, .ref mD, .ref mI, .ref mZ, .int nl5, .ref mK, .ref mO, .ref mB, .ref mR, .ref mF, .int kM, .int oM]))]) 0 0 := by
  refine xofWi (cc := cX5_dateOf) (maxL := 3) (by decide) rfl (Nat.le_of_ble_eq_true rfl) (fun _ _ _ => rfl) ?_
  intro p e s m below meth c Q A ls hx hb hml hts hown hE hA H locs hP hD hl hS kret
  have hl : lv_has ls 3 [(0, .ref a5), (1, .int p0), (2, .int p1)] := hl
  refine lv_aload_n hx hb dX5_dateOf_0 rfl (lv_at hl 0 rfl) ?_
  refine lv_iload_n hx hb dX5_dateOf_1 rfl (lv_at hl 1 rfl) ?_
  refine xcRi (va_runS (As := [.int p0]) (rest := [.ref a5]) ⟨hx, hb, hml, hown, hts⟩ (m_isBasket l D cy t0 p0) (va_cwS 1 hts gX5_dateOf_X5_isBasket rfl rfl rfl (by decide +kernel) ⟨Nat.le_of_ble_eq_true rfl, Nat.le_of_ble_eq_true rfl⟩) (xPr.give (wc := []) hE hS hP [] rfl) rfl rfl hl.1 rfl (lv_room (Nat.le_of_ble_eq_true rfl)) dX5_dateOf_2 ⟨(Nat.zero_le _), (Nat.zero_le _)⟩) (fun r_1 hr_2 => ?_)
  obtain rfl : r_1 = nI 0 := by rw [hr_2, isBk_no hbi]; rfl
  refine xb_if_ne (tgt := 12) (a := 0) (by omega) hx hb dX5_dateOf_5 (by decide) (fun c_3 => ?_) (fun c_3 => ?_)
  · exact absurd c_3 (by omega)
  · refine lv_iconst (v := nI 1) hx hb dX5_dateOf_8 (by decide) ?_
    refine lv_goto (tgt := 24) hx hb dX5_dateOf_9 (by decide) ?_
    refine xcWi (wr := []) (va_runV (As := [.int (nI 1)]) (rest := []) ⟨hx, hb, hml, hown, hts⟩ ((m_goesWell l D cy t0 a5 mD mI mZ mK mO mB mR mF k th now nl5 kM oM 1 (by omega)) H.size) (cwV 1 hts gX5_dateOf_X5_goesWell rfl rfl rfl (by decide +kernel) ⟨Nat.le_of_ble_eq_true rfl, Nat.le_of_ble_eq_true rfl⟩) (xPw.giveV (wc := [(a5, .inr (5, [.int th, .int (nI k), .int now, .ref mD, .ref mI, .ref mZ, .int nl5, .ref mK, .ref mO, .ref mB, .ref mR, .ref mF, .int kM, .int oM]))]) hE hS hA hP hD [0] (by decide) rfl 0 5 rfl rfl) rfl rfl hl.1 rfl (lv_room (Nat.le_of_ble_eq_true rfl)) dX5_dateOf_24 ⟨(Nat.zero_le _), (Nat.zero_le _)⟩) hP hD hS hA [0] [] rfl rfl (by decide) (by decide) (fun r_4 u_6 H locs hr_5 hP hD hS => ?_)
    obtain rfl : r_4 = nI 0 := by rw [hr_5]; rfl
    have hP := hP.sub (ws' := [(a5, .inr (5, [.int (nI 1), .int (nI k), .int now, .ref mD, .ref mI, .ref mZ, .int nl5, .ref mK, .ref mO, .ref mB, .ref mR, .ref mF, .int kM, .int oM]))]) [0] rfl
    have hD := hD.sub (ws' := [(a5, .inr (5, [.int (nI 1), .int (nI k), .int now, .ref mD, .ref mI, .ref mZ, .int nl5, .ref mK, .ref mO, .ref mB, .ref mR, .ref mF, .int kM, .int oM]))]) [0] (by decide) rfl
    refine xb_if_eq (tgt := 44) (a := 0) (by omega) hx hb dX5_dateOf_27 (by decide) (fun c_7 => ?_) (fun c_7 => ?_)
    · refine lv_iconst (v := nI 0) hx hb dX5_dateOf_44 (by decide) ?_
      exact kret _ () _ _ _ _ _ _ dX5_dateOf_45 trivial hP hD hS (Nat.le_of_ble_eq_true rfl) (Nat.le_of_ble_eq_true rfl)
    · exact absurd c_7 (by omega)
set_option maxHeartbeats 4000000 in
set_option maxRecDepth 100000 in
theorem m_keptT (l : Launch) (D : va_G) (cy : Nat → ClassId) (t0 : Nat) (a5 mD mI mZ mK mO mB mR mF k : Nat) (th now nl5 kM oM : Int32) (p0 : Int32) (hbi : p0 < 0 ∨ nI 6 ≤ p0) : xWi (S := Unit) l yX5_kept wsX5_kept ({ frames := 1, cells := 0, slots := 0, locals := 21 } : Room) D cy t0 ([.ref a5, .int p0]) ([(a5, .inr (5, [.int th, .int (nI k), .int now, .ref mD, .ref mI, .ref mZ, .int nl5, .ref mK, .ref mO, .ref mB, .ref mR, .ref mF, .int kM, .int oM]))]) (fun _ _ => True) (fun _ => [(a5, .inr (5, [.int (nI 1), .int (nI k), .int now, .ref mD, .ref mI, .ref mZ, .int nl5, .ref mK, .ref mO, .ref mB, .ref mR, .ref mF, .int kM, .int oM]))]) 0 0 := by
  refine xofWi (cc := cX5_kept) (maxL := 2) (by decide) rfl (Nat.le_of_ble_eq_true rfl) (fun _ _ _ => rfl) ?_
  intro p e s m below meth c Q A ls hx hb hml hts hown hE hA H locs hP hD hl hS kret
  have hl : lv_has ls 2 [(0, .ref a5), (1, .int p0)] := hl
  refine lv_aload_n hx hb dX5_kept_0 rfl (lv_at hl 0 rfl) ?_
  refine lv_iload_n hx hb dX5_kept_1 rfl (lv_at hl 1 rfl) ?_
  refine xcRi (va_runS (As := [.int p0]) (rest := [.ref a5]) ⟨hx, hb, hml, hown, hts⟩ (m_isBasket l D cy t0 p0) (va_cwS 1 hts gX5_kept_X5_isBasket rfl rfl rfl (by decide +kernel) ⟨Nat.le_of_ble_eq_true rfl, Nat.le_of_ble_eq_true rfl⟩) (xPr.give (wc := []) hE hS hP [] rfl) rfl rfl hl.1 rfl (lv_room (Nat.le_of_ble_eq_true rfl)) dX5_kept_2 ⟨(Nat.zero_le _), (Nat.zero_le _)⟩) (fun r_1 hr_2 => ?_)
  obtain rfl : r_1 = nI 0 := by rw [hr_2, isBk_no hbi]; rfl
  refine xb_if_eq (tgt := 12) (a := 0) (by omega) hx hb dX5_kept_5 (by decide) (fun c_3 => ?_) (fun c_3 => ?_)
  · refine lv_iconst (v := nI 1) hx hb dX5_kept_12 (by decide) ?_
    refine xcWi (wr := []) (va_runV (As := [.int (nI 1)]) (rest := []) ⟨hx, hb, hml, hown, hts⟩ ((m_goesWell l D cy t0 a5 mD mI mZ mK mO mB mR mF k th now nl5 kM oM 1 (by omega)) H.size) (cwV 1 hts gX5_kept_X5_goesWell rfl rfl rfl (by decide +kernel) ⟨Nat.le_of_ble_eq_true rfl, Nat.le_of_ble_eq_true rfl⟩) (xPw.giveV (wc := [(a5, .inr (5, [.int th, .int (nI k), .int now, .ref mD, .ref mI, .ref mZ, .int nl5, .ref mK, .ref mO, .ref mB, .ref mR, .ref mF, .int kM, .int oM]))]) hE hS hA hP hD [0] (by decide) rfl 0 5 rfl rfl) rfl rfl hl.1 rfl (lv_room (Nat.le_of_ble_eq_true rfl)) dX5_kept_13 ⟨(Nat.zero_le _), (Nat.zero_le _)⟩) hP hD hS hA [0] [] rfl rfl (by decide) (by decide) (fun r_4 u_6 H locs hr_5 hP hD hS => ?_)
    obtain rfl : r_4 = nI 0 := by rw [hr_5]; rfl
    have hP := hP.sub (ws' := [(a5, .inr (5, [.int (nI 1), .int (nI k), .int now, .ref mD, .ref mI, .ref mZ, .int nl5, .ref mK, .ref mO, .ref mB, .ref mR, .ref mF, .int kM, .int oM]))]) [0] rfl
    have hD := hD.sub (ws' := [(a5, .inr (5, [.int (nI 1), .int (nI k), .int now, .ref mD, .ref mI, .ref mZ, .int nl5, .ref mK, .ref mO, .ref mB, .ref mR, .ref mF, .int kM, .int oM]))]) [0] (by decide) rfl
    refine xb_if_eq (tgt := 27) (a := 0) (by omega) hx hb dX5_kept_16 (by decide) (fun c_7 => ?_) (fun c_7 => ?_)
    · refine lv_iconst (v := nI 0) hx hb dX5_kept_27 (by decide) ?_
      exact kret _ () _ _ _ _ _ _ dX5_kept_28 trivial hP hD hS (Nat.le_of_ble_eq_true rfl) (Nat.le_of_ble_eq_true rfl)
    · exact absurd c_7 (by omega)
  · exact absurd c_3 (by omega)
set_option maxHeartbeats 4000000 in
set_option maxRecDepth 100000 in
theorem m_keptAtT (l : Launch) (D : va_G) (cy : Nat → ClassId) (t0 : Nat) (a5 mD mI mZ mK mO mB mR mF k : Nat) (th now nl5 kM oM : Int32) (p0 p1 : Int32) (hbi : p0 < 0 ∨ nI 6 ≤ p0) : xWi (S := Unit) l yX5_keptAt wsX5_keptAt ({ frames := 1, cells := 0, slots := 0, locals := 21 } : Room) D cy t0 ([.ref a5, .int p0, .int p1]) ([(a5, .inr (5, [.int th, .int (nI k), .int now, .ref mD, .ref mI, .ref mZ, .int nl5, .ref mK, .ref mO, .ref mB, .ref mR, .ref mF, .int kM, .int oM]))]) (fun _ _ => True) (fun _ => [(a5, .inr (5, [.int (nI 1), .int (nI k), .int now, .ref mD, .ref mI, .ref mZ, .int nl5, .ref mK, .ref mO, .ref mB, .ref mR, .ref mF, .int kM, .int oM]))]) 0 0 := by
  refine xofWi (cc := cX5_keptAt) (maxL := 4) (by decide) rfl (Nat.le_of_ble_eq_true rfl) (fun _ _ _ => rfl) ?_
  intro p e s m below meth c Q A ls hx hb hml hts hown hE hA H locs hP hD hl hS kret
  have hl : lv_has ls 4 [(0, .ref a5), (1, .int p0), (2, .int p1)] := hl
  refine lv_iload_n hx hb dX5_keptAt_0 rfl (lv_at hl 1 rfl) ?_
  refine xcRi (va_runS (As := [.int p0]) (rest := []) ⟨hx, hb, hml, hown, hts⟩ (m_isBasket l D cy t0 p0) (va_cwS 1 hts gX5_keptAt_X5_isBasket rfl rfl rfl (by decide +kernel) ⟨Nat.le_of_ble_eq_true rfl, Nat.le_of_ble_eq_true rfl⟩) (xPr.give (wc := []) hE hS hP [] rfl) rfl rfl hl.1 rfl (lv_room (Nat.le_of_ble_eq_true rfl)) dX5_keptAt_1 ⟨(Nat.zero_le _), (Nat.zero_le _)⟩) (fun r_1 hr_2 => ?_)
  obtain rfl : r_1 = nI 0 := by rw [hr_2, isBk_no hbi]; rfl
  refine xb_if_eq (tgt := 15) (a := 0) (by omega) hx hb dX5_keptAt_4 (by decide) (fun c_3 => ?_) (fun c_3 => ?_)
  · refine lv_iconst (v := nI 0) hx hb dX5_keptAt_15 (by decide) ?_
    refine lv_istore_n (lv' := [(3, .int (nI 0)), (0, .ref a5), (1, .int p0), (2, .int p1)]) hx hb dX5_keptAt_16 rfl hl (by decide) rfl (fun ls hl => ?_)
    refine lv_aload_n hx hb dX5_keptAt_17 rfl (lv_at hl 1 rfl) ?_
    refine lv_iload_n hx hb dX5_keptAt_18 rfl (lv_at hl 3 rfl) ?_
    refine lv_if_lt (tgt := 31) hx hb dX5_keptAt_19 (by decide) (fun c_4 => ?_) (fun c_4 => ?_)
    · refine lv_iconst (v := nI 1) hx hb dX5_keptAt_31 (by decide) ?_
      refine xcWi (wr := []) (va_runV (As := [.int (nI 1)]) (rest := []) ⟨hx, hb, hml, hown, hts⟩ ((m_goesWell l D cy t0 a5 mD mI mZ mK mO mB mR mF k th now nl5 kM oM 1 (by omega)) H.size) (cwV 1 hts gX5_keptAt_X5_goesWell rfl rfl rfl (by decide +kernel) ⟨Nat.le_of_ble_eq_true rfl, Nat.le_of_ble_eq_true rfl⟩) (xPw.giveV (wc := [(a5, .inr (5, [.int th, .int (nI k), .int now, .ref mD, .ref mI, .ref mZ, .int nl5, .ref mK, .ref mO, .ref mB, .ref mR, .ref mF, .int kM, .int oM]))]) hE hS hA hP hD [0] (by decide) rfl 0 5 rfl rfl) rfl rfl hl.1 rfl (lv_room (Nat.le_of_ble_eq_true rfl)) dX5_keptAt_32 ⟨(Nat.zero_le _), (Nat.zero_le _)⟩) hP hD hS hA [0] [] rfl rfl (by decide) (by decide) (fun r_5 u_7 H locs hr_6 hP hD hS => ?_)
      obtain rfl : r_5 = nI 0 := by rw [hr_6]; rfl
      have hP := hP.sub (ws' := [(a5, .inr (5, [.int (nI 1), .int (nI k), .int now, .ref mD, .ref mI, .ref mZ, .int nl5, .ref mK, .ref mO, .ref mB, .ref mR, .ref mF, .int kM, .int oM]))]) [0] rfl
      have hD := hD.sub (ws' := [(a5, .inr (5, [.int (nI 1), .int (nI k), .int now, .ref mD, .ref mI, .ref mZ, .int nl5, .ref mK, .ref mO, .ref mB, .ref mR, .ref mF, .int kM, .int oM]))]) [0] (by decide) rfl
      refine xb_if_eq (tgt := 47) (a := 0) (by omega) hx hb dX5_keptAt_35 (by decide) (fun c_8 => ?_) (fun c_8 => ?_)
      · refine lv_iconst (v := nI 0) hx hb dX5_keptAt_47 (by decide) ?_
        exact kret _ () _ _ _ _ _ _ dX5_keptAt_48 trivial hP hD hS (Nat.le_of_ble_eq_true rfl) (Nat.le_of_ble_eq_true rfl)
      · exact absurd c_8 (by omega)
    · refine lv_iload_n hx hb dX5_keptAt_22 rfl (lv_at hl 3 rfl) ?_
      refine lv_iload_n hx hb dX5_keptAt_23 rfl (lv_at hl 0 rfl) ?_
      refine lv_icmp_ge (tgt := 31) hx hb dX5_keptAt_24 (by decide) (fun c_9 => ?_) (fun c_9 => ?_)
      · refine lv_iconst (v := nI 1) hx hb dX5_keptAt_31 (by decide) ?_
        refine xcWi (wr := []) (va_runV (As := [.int (nI 1)]) (rest := []) ⟨hx, hb, hml, hown, hts⟩ ((m_goesWell l D cy t0 a5 mD mI mZ mK mO mB mR mF k th now nl5 kM oM 1 (by omega)) H.size) (cwV 1 hts gX5_keptAt_X5_goesWell rfl rfl rfl (by decide +kernel) ⟨Nat.le_of_ble_eq_true rfl, Nat.le_of_ble_eq_true rfl⟩) (xPw.giveV (wc := [(a5, .inr (5, [.int th, .int (nI k), .int now, .ref mD, .ref mI, .ref mZ, .int nl5, .ref mK, .ref mO, .ref mB, .ref mR, .ref mF, .int kM, .int oM]))]) hE hS hA hP hD [0] (by decide) rfl 0 5 rfl rfl) rfl rfl hl.1 rfl (lv_room (Nat.le_of_ble_eq_true rfl)) dX5_keptAt_32 ⟨(Nat.zero_le _), (Nat.zero_le _)⟩) hP hD hS hA [0] [] rfl rfl (by decide) (by decide) (fun r_10 u_12 H locs hr_11 hP hD hS => ?_)
        obtain rfl : r_10 = nI 0 := by rw [hr_11]; rfl
        have hP := hP.sub (ws' := [(a5, .inr (5, [.int (nI 1), .int (nI k), .int now, .ref mD, .ref mI, .ref mZ, .int nl5, .ref mK, .ref mO, .ref mB, .ref mR, .ref mF, .int kM, .int oM]))]) [0] rfl
        have hD := hD.sub (ws' := [(a5, .inr (5, [.int (nI 1), .int (nI k), .int now, .ref mD, .ref mI, .ref mZ, .int nl5, .ref mK, .ref mO, .ref mB, .ref mR, .ref mF, .int kM, .int oM]))]) [0] (by decide) rfl
        refine xb_if_eq (tgt := 47) (a := 0) (by omega) hx hb dX5_keptAt_35 (by decide) (fun c_13 => ?_) (fun c_13 => ?_)
        · refine lv_iconst (v := nI 0) hx hb dX5_keptAt_47 (by decide) ?_
          exact kret _ () _ _ _ _ _ _ dX5_keptAt_48 trivial hP hD hS (Nat.le_of_ble_eq_true rfl) (Nat.le_of_ble_eq_true rfl)
        · exact absurd c_13 (by omega)
      · exact (c_9 (Int32.not_lt.mp c_4)).elim
  · exact absurd c_3 (by omega)
set_option maxHeartbeats 4000000 in
set_option maxRecDepth 100000 in
theorem m_byLeastT (l : Launch) (D : va_G) (cy : Nat → ClassId) (t0 : Nat) (a5 mD mI mZ mK mO mB mR mF k : Nat) (th now nl5 kM oM : Int32) (p0 : Int32) (hbi : p0 < 0 ∨ nI 6 ≤ p0) : xWi (S := Unit) l yX5_byLeast wsX5_byLeast ({ frames := 1, cells := 0, slots := 0, locals := 21 } : Room) D cy t0 ([.ref a5, .int p0]) ([(a5, .inr (5, [.int th, .int (nI k), .int now, .ref mD, .ref mI, .ref mZ, .int nl5, .ref mK, .ref mO, .ref mB, .ref mR, .ref mF, .int kM, .int oM]))]) (fun _ _ => True) (fun _ => [(a5, .inr (5, [.int (nI 1), .int (nI k), .int now, .ref mD, .ref mI, .ref mZ, .int nl5, .ref mK, .ref mO, .ref mB, .ref mR, .ref mF, .int kM, .int oM]))]) 0 0 := by
  refine xofWi (cc := cX5_byLeast) (maxL := 3) (by decide) rfl (Nat.le_of_ble_eq_true rfl) (fun _ _ _ => rfl) ?_
  intro p e s m below meth c Q A ls hx hb hml hts hown hE hA H locs hP hD hl hS kret
  have hl : lv_has ls 3 [(0, .ref a5), (1, .int p0)] := hl
  refine lv_aload_n hx hb dX5_byLeast_0 rfl (lv_at hl 0 rfl) ?_
  refine lv_iload_n hx hb dX5_byLeast_1 rfl (lv_at hl 1 rfl) ?_
  refine xcRi (va_runS (As := [.int p0]) (rest := [.ref a5]) ⟨hx, hb, hml, hown, hts⟩ (m_isBasket l D cy t0 p0) (va_cwS 1 hts gX5_byLeast_X5_isBasket rfl rfl rfl (by decide +kernel) ⟨Nat.le_of_ble_eq_true rfl, Nat.le_of_ble_eq_true rfl⟩) (xPr.give (wc := []) hE hS hP [] rfl) rfl rfl hl.1 rfl (lv_room (Nat.le_of_ble_eq_true rfl)) dX5_byLeast_2 ⟨(Nat.zero_le _), (Nat.zero_le _)⟩) (fun r_1 hr_2 => ?_)
  obtain rfl : r_1 = nI 0 := by rw [hr_2, isBk_no hbi]; rfl
  refine xb_if_eq (tgt := 12) (a := 0) (by omega) hx hb dX5_byLeast_5 (by decide) (fun c_3 => ?_) (fun c_3 => ?_)
  · refine lv_iconst (v := nI 1) hx hb dX5_byLeast_12 (by decide) ?_
    refine xcWi (wr := []) (va_runV (As := [.int (nI 1)]) (rest := []) ⟨hx, hb, hml, hown, hts⟩ ((m_goesWell l D cy t0 a5 mD mI mZ mK mO mB mR mF k th now nl5 kM oM 1 (by omega)) H.size) (cwV 1 hts gX5_byLeast_X5_goesWell rfl rfl rfl (by decide +kernel) ⟨Nat.le_of_ble_eq_true rfl, Nat.le_of_ble_eq_true rfl⟩) (xPw.giveV (wc := [(a5, .inr (5, [.int th, .int (nI k), .int now, .ref mD, .ref mI, .ref mZ, .int nl5, .ref mK, .ref mO, .ref mB, .ref mR, .ref mF, .int kM, .int oM]))]) hE hS hA hP hD [0] (by decide) rfl 0 5 rfl rfl) rfl rfl hl.1 rfl (lv_room (Nat.le_of_ble_eq_true rfl)) dX5_byLeast_13 ⟨(Nat.zero_le _), (Nat.zero_le _)⟩) hP hD hS hA [0] [] rfl rfl (by decide) (by decide) (fun r_4 u_6 H locs hr_5 hP hD hS => ?_)
    obtain rfl : r_4 = nI 0 := by rw [hr_5]; rfl
    have hP := hP.sub (ws' := [(a5, .inr (5, [.int (nI 1), .int (nI k), .int now, .ref mD, .ref mI, .ref mZ, .int nl5, .ref mK, .ref mO, .ref mB, .ref mR, .ref mF, .int kM, .int oM]))]) [0] rfl
    have hD := hD.sub (ws' := [(a5, .inr (5, [.int (nI 1), .int (nI k), .int now, .ref mD, .ref mI, .ref mZ, .int nl5, .ref mK, .ref mO, .ref mB, .ref mR, .ref mF, .int kM, .int oM]))]) [0] (by decide) rfl
    refine xb_if_ne (tgt := 21) (a := 0) (by omega) hx hb dX5_byLeast_16 (by decide) (fun c_7 => ?_) (fun c_7 => ?_)
    · exact absurd c_7 (by omega)
    · refine lv_iconst (v := nI 0) hx hb dX5_byLeast_19 (by decide) ?_
      exact kret _ () _ _ _ _ _ _ dX5_byLeast_20 trivial hP hD hS (Nat.le_of_ble_eq_true rfl) (Nat.le_of_ble_eq_true rfl)
  · exact absurd c_3 (by omega)
set_option maxHeartbeats 4000000 in
set_option maxRecDepth 100000 in
theorem m_registerT (l : Launch) (D : va_G) (cy : Nat → ClassId) (t0 : Nat) (a5 mD mI mZ mK mO mB mR mF k : Nat) (th now nl5 kM oM : Int32) (p0 p1 : Int32) (hbi : p0 < 0 ∨ nI 6 ≤ p0) : xWi (S := Unit) l yX5_register wsX5_register ({ frames := 1, cells := 0, slots := 0, locals := 21 } : Room) D cy t0 ([.ref a5, .int p0, .int p1]) ([(a5, .inr (5, [.int th, .int (nI k), .int now, .ref mD, .ref mI, .ref mZ, .int nl5, .ref mK, .ref mO, .ref mB, .ref mR, .ref mF, .int kM, .int oM]))]) (fun _ _ => True) (fun _ => [(a5, .inr (5, [.int (nI 1), .int (nI k), .int now, .ref mD, .ref mI, .ref mZ, .int nl5, .ref mK, .ref mO, .ref mB, .ref mR, .ref mF, .int kM, .int oM]))]) 0 0 := by
  refine xofWi (cc := cX5_register) (maxL := 4) (by decide) rfl (Nat.le_of_ble_eq_true rfl) (fun _ _ _ => rfl) ?_
  intro p e s m below meth c Q A ls hx hb hml hts hown hE hA H locs hP hD hl hS kret
  have hl : lv_has ls 4 [(0, .ref a5), (1, .int p0), (2, .int p1)] := hl
  refine lv_iload_n hx hb dX5_register_0 rfl (lv_at hl 1 rfl) ?_
  refine xcRi (va_runS (As := [.int p0]) (rest := []) ⟨hx, hb, hml, hown, hts⟩ (m_isBasket l D cy t0 p0) (va_cwS 1 hts gX5_register_X5_isBasket rfl rfl rfl (by decide +kernel) ⟨Nat.le_of_ble_eq_true rfl, Nat.le_of_ble_eq_true rfl⟩) (xPr.give (wc := []) hE hS hP [] rfl) rfl rfl hl.1 rfl (lv_room (Nat.le_of_ble_eq_true rfl)) dX5_register_1 ⟨(Nat.zero_le _), (Nat.zero_le _)⟩) (fun r_1 hr_2 => ?_)
  obtain rfl : r_1 = nI 0 := by rw [hr_2, isBk_no hbi]; rfl
  refine xb_if_eq (tgt := 21) (a := 0) (by omega) hx hb dX5_register_4 (by decide) (fun c_3 => ?_) (fun c_3 => ?_)
  · refine lv_iconst (v := nI 0) hx hb dX5_register_21 (by decide) ?_
    refine lv_istore_n (lv' := [(3, .int (nI 0)), (0, .ref a5), (1, .int p0), (2, .int p1)]) hx hb dX5_register_22 rfl hl (by decide) rfl (fun ls hl => ?_)
    refine lv_aload_n hx hb dX5_register_23 rfl (lv_at hl 1 rfl) ?_
    refine lv_iload_n hx hb dX5_register_24 rfl (lv_at hl 0 rfl) ?_
    refine xb_if_eq (tgt := 32) (a := 0) (by omega) hx hb dX5_register_25 (by decide) (fun c_4 => ?_) (fun c_4 => ?_)
    · refine lv_iconst (v := nI 1) hx hb dX5_register_32 (by decide) ?_
      refine xcWi (wr := []) (va_runV (As := [.int (nI 1)]) (rest := []) ⟨hx, hb, hml, hown, hts⟩ ((m_goesWell l D cy t0 a5 mD mI mZ mK mO mB mR mF k th now nl5 kM oM 1 (by omega)) H.size) (cwV 1 hts gX5_register_X5_goesWell rfl rfl rfl (by decide +kernel) ⟨Nat.le_of_ble_eq_true rfl, Nat.le_of_ble_eq_true rfl⟩) (xPw.giveV (wc := [(a5, .inr (5, [.int th, .int (nI k), .int now, .ref mD, .ref mI, .ref mZ, .int nl5, .ref mK, .ref mO, .ref mB, .ref mR, .ref mF, .int kM, .int oM]))]) hE hS hA hP hD [0] (by decide) rfl 0 5 rfl rfl) rfl rfl hl.1 rfl (lv_room (Nat.le_of_ble_eq_true rfl)) dX5_register_33 ⟨(Nat.zero_le _), (Nat.zero_le _)⟩) hP hD hS hA [0] [] rfl rfl (by decide) (by decide) (fun r_5 u_7 H locs hr_6 hP hD hS => ?_)
      obtain rfl : r_5 = nI 0 := by rw [hr_6]; rfl
      have hP := hP.sub (ws' := [(a5, .inr (5, [.int (nI 1), .int (nI k), .int now, .ref mD, .ref mI, .ref mZ, .int nl5, .ref mK, .ref mO, .ref mB, .ref mR, .ref mF, .int kM, .int oM]))]) [0] rfl
      have hD := hD.sub (ws' := [(a5, .inr (5, [.int (nI 1), .int (nI k), .int now, .ref mD, .ref mI, .ref mZ, .int nl5, .ref mK, .ref mO, .ref mB, .ref mR, .ref mF, .int kM, .int oM]))]) [0] (by decide) rfl
      refine xb_if_ne (tgt := 41) (a := 0) (by omega) hx hb dX5_register_36 (by decide) (fun c_8 => ?_) (fun c_8 => ?_)
      · exact absurd c_8 (by omega)
      · refine lv_iconst (v := nI 0) hx hb dX5_register_39 (by decide) ?_
        exact kret _ () _ _ _ _ _ _ dX5_register_40 trivial hP hD hS (Nat.le_of_ble_eq_true rfl) (Nat.le_of_ble_eq_true rfl)
    · exact absurd c_4 (by omega)
  · exact absurd c_3 (by omega)
set_option maxHeartbeats 4000000 in
set_option maxRecDepth 100000 in
theorem m_byRegistersT (l : Launch) (D : va_G) (cy : Nat → ClassId) (t0 : Nat) (a5 mD mI mZ mK mO mB mR mF k : Nat) (th now nl5 kM oM : Int32) (p0 : Int32) (hbi : p0 < 0 ∨ nI 6 ≤ p0) : xWl (S := Unit) l yX5_byRegisters wsX5_byRegisters ({ frames := 1, cells := 0, slots := 0, locals := 21 } : Room) D cy t0 ([.ref a5, .int p0]) ([(a5, .inr (5, [.int th, .int (nI k), .int now, .ref mD, .ref mI, .ref mZ, .int nl5, .ref mK, .ref mO, .ref mB, .ref mR, .ref mF, .int kM, .int oM]))]) (fun _ _ => True) (fun _ => [(a5, .inr (5, [.int (nI 1), .int (nI k), .int now, .ref mD, .ref mI, .ref mZ, .int nl5, .ref mK, .ref mO, .ref mB, .ref mR, .ref mF, .int kM, .int oM]))]) 0 0 := by
  refine xofWl (cc := cX5_byRegisters) (maxL := 2) (by decide) rfl (Nat.le_of_ble_eq_true rfl) ?_
  intro p e s m below meth c Q A ls hx hb hml hts hown hE hA H locs hP hD hl hS kret
  have hl : lv_has ls 2 [(0, .ref a5), (1, .int p0)] := hl
  refine lv_aload_n hx hb dX5_byRegisters_0 rfl (lv_at hl 0 rfl) ?_
  refine lv_iload_n hx hb dX5_byRegisters_1 rfl (lv_at hl 1 rfl) ?_
  refine xcRi (va_runS (As := [.int p0]) (rest := [.ref a5]) ⟨hx, hb, hml, hown, hts⟩ (m_isBasket l D cy t0 p0) (va_cwS 1 hts gX5_byRegisters_X5_isBasket rfl rfl rfl (by decide +kernel) ⟨Nat.le_of_ble_eq_true rfl, Nat.le_of_ble_eq_true rfl⟩) (xPr.give (wc := []) hE hS hP [] rfl) rfl rfl hl.1 rfl (lv_room (Nat.le_of_ble_eq_true rfl)) dX5_byRegisters_2 ⟨(Nat.zero_le _), (Nat.zero_le _)⟩) (fun r_1 hr_2 => ?_)
  obtain rfl : r_1 = nI 0 := by rw [hr_2, isBk_no hbi]; rfl
  refine xb_if_eq (tgt := 12) (a := 0) (by omega) hx hb dX5_byRegisters_5 (by decide) (fun c_3 => ?_) (fun c_3 => ?_)
  · refine lv_iconst (v := nI 1) hx hb dX5_byRegisters_12 (by decide) ?_
    refine xcWi (wr := []) (va_runV (As := [.int (nI 1)]) (rest := []) ⟨hx, hb, hml, hown, hts⟩ ((m_goesWell l D cy t0 a5 mD mI mZ mK mO mB mR mF k th now nl5 kM oM 1 (by omega)) H.size) (cwV 1 hts gX5_byRegisters_X5_goesWell rfl rfl rfl (by decide +kernel) ⟨Nat.le_of_ble_eq_true rfl, Nat.le_of_ble_eq_true rfl⟩) (xPw.giveV (wc := [(a5, .inr (5, [.int th, .int (nI k), .int now, .ref mD, .ref mI, .ref mZ, .int nl5, .ref mK, .ref mO, .ref mB, .ref mR, .ref mF, .int kM, .int oM]))]) hE hS hA hP hD [0] (by decide) rfl 0 5 rfl rfl) rfl rfl hl.1 rfl (lv_room (Nat.le_of_ble_eq_true rfl)) dX5_byRegisters_13 ⟨(Nat.zero_le _), (Nat.zero_le _)⟩) hP hD hS hA [0] [] rfl rfl (by decide) (by decide) (fun r_4 u_6 H locs hr_5 hP hD hS => ?_)
    obtain rfl : r_4 = nI 0 := by rw [hr_5]; rfl
    have hP := hP.sub (ws' := [(a5, .inr (5, [.int (nI 1), .int (nI k), .int now, .ref mD, .ref mI, .ref mZ, .int nl5, .ref mK, .ref mO, .ref mB, .ref mR, .ref mF, .int kM, .int oM]))]) [0] rfl
    have hD := hD.sub (ws' := [(a5, .inr (5, [.int (nI 1), .int (nI k), .int now, .ref mD, .ref mI, .ref mZ, .int nl5, .ref mK, .ref mO, .ref mB, .ref mR, .ref mF, .int kM, .int oM]))]) [0] (by decide) rfl
    refine xb_if_ne (tgt := 21) (a := 0) (by omega) hx hb dX5_byRegisters_16 (by decide) (fun c_7 => ?_) (fun c_7 => ?_)
    · exact absurd c_7 (by omega)
    · refine lv_lconst (v := lN 0) hx hb dX5_byRegisters_19 (by decide) ?_
      exact kret _ () _ _ _ _ _ _ dX5_byRegisters_20 trivial hP hD hS (Nat.le_of_ble_eq_true rfl) (Nat.le_of_ble_eq_true rfl)
  · exact absurd c_3 (by omega)
set_option maxHeartbeats 4000000 in
set_option maxRecDepth 100000 in
theorem m_recentT (l : Launch) (D : va_G) (cy : Nat → ClassId) (t0 : Nat) (a5 mD mI mZ mK mO mB mR mF k : Nat) (th now nl5 kM oM : Int32) (p0 p1 : Int32) (hbi : p0 < 0 ∨ nI 6 ≤ p0) : xWl (S := Unit) l yX5_recent wsX5_recent ({ frames := 1, cells := 0, slots := 0, locals := 21 } : Room) D cy t0 ([.ref a5, .int p0, .int p1]) ([(a5, .inr (5, [.int th, .int (nI k), .int now, .ref mD, .ref mI, .ref mZ, .int nl5, .ref mK, .ref mO, .ref mB, .ref mR, .ref mF, .int kM, .int oM]))]) (fun _ _ => True) (fun _ => [(a5, .inr (5, [.int (nI 1), .int (nI k), .int now, .ref mD, .ref mI, .ref mZ, .int nl5, .ref mK, .ref mO, .ref mB, .ref mR, .ref mF, .int kM, .int oM]))]) 0 0 := by
  refine xofWl (cc := cX5_recent) (maxL := 4) (by decide) rfl (Nat.le_of_ble_eq_true rfl) ?_
  intro p e s m below meth c Q A ls hx hb hml hts hown hE hA H locs hP hD hl hS kret
  have hl : lv_has ls 4 [(0, .ref a5), (1, .int p0), (2, .int p1)] := hl
  refine lv_aload_n hx hb dX5_recent_0 rfl (lv_at hl 0 rfl) ?_
  refine lv_iload_n hx hb dX5_recent_1 rfl (lv_at hl 1 rfl) ?_
  refine xcRi (va_runS (As := [.int p0]) (rest := [.ref a5]) ⟨hx, hb, hml, hown, hts⟩ (m_isBasket l D cy t0 p0) (va_cwS 1 hts gX5_recent_X5_isBasket rfl rfl rfl (by decide +kernel) ⟨Nat.le_of_ble_eq_true rfl, Nat.le_of_ble_eq_true rfl⟩) (xPr.give (wc := []) hE hS hP [] rfl) rfl rfl hl.1 rfl (lv_room (Nat.le_of_ble_eq_true rfl)) dX5_recent_2 ⟨(Nat.zero_le _), (Nat.zero_le _)⟩) (fun r_1 hr_2 => ?_)
  obtain rfl : r_1 = nI 0 := by rw [hr_2, isBk_no hbi]; rfl
  refine xb_if_ne (tgt := 12) (a := 0) (by omega) hx hb dX5_recent_5 (by decide) (fun c_3 => ?_) (fun c_3 => ?_)
  · exact absurd c_3 (by omega)
  · refine lv_iconst (v := nI 1) hx hb dX5_recent_8 (by decide) ?_
    refine lv_goto (tgt := 28) hx hb dX5_recent_9 (by decide) ?_
    refine xcWi (wr := []) (va_runV (As := [.int (nI 1)]) (rest := []) ⟨hx, hb, hml, hown, hts⟩ ((m_goesWell l D cy t0 a5 mD mI mZ mK mO mB mR mF k th now nl5 kM oM 1 (by omega)) H.size) (cwV 1 hts gX5_recent_X5_goesWell rfl rfl rfl (by decide +kernel) ⟨Nat.le_of_ble_eq_true rfl, Nat.le_of_ble_eq_true rfl⟩) (xPw.giveV (wc := [(a5, .inr (5, [.int th, .int (nI k), .int now, .ref mD, .ref mI, .ref mZ, .int nl5, .ref mK, .ref mO, .ref mB, .ref mR, .ref mF, .int kM, .int oM]))]) hE hS hA hP hD [0] (by decide) rfl 0 5 rfl rfl) rfl rfl hl.1 rfl (lv_room (Nat.le_of_ble_eq_true rfl)) dX5_recent_28 ⟨(Nat.zero_le _), (Nat.zero_le _)⟩) hP hD hS hA [0] [] rfl rfl (by decide) (by decide) (fun r_4 u_6 H locs hr_5 hP hD hS => ?_)
    obtain rfl : r_4 = nI 0 := by rw [hr_5]; rfl
    have hP := hP.sub (ws' := [(a5, .inr (5, [.int (nI 1), .int (nI k), .int now, .ref mD, .ref mI, .ref mZ, .int nl5, .ref mK, .ref mO, .ref mB, .ref mR, .ref mF, .int kM, .int oM]))]) [0] rfl
    have hD := hD.sub (ws' := [(a5, .inr (5, [.int (nI 1), .int (nI k), .int now, .ref mD, .ref mI, .ref mZ, .int nl5, .ref mK, .ref mO, .ref mB, .ref mR, .ref mF, .int kM, .int oM]))]) [0] (by decide) rfl
    refine xb_if_ne (tgt := 36) (a := 0) (by omega) hx hb dX5_recent_31 (by decide) (fun c_7 => ?_) (fun c_7 => ?_)
    · exact absurd c_7 (by omega)
    · refine lv_lconst (v := lN 0) hx hb dX5_recent_34 (by decide) ?_
      exact kret _ () _ _ _ _ _ _ dX5_recent_35 trivial hP hD hS (Nat.le_of_ble_eq_true rfl) (Nat.le_of_ble_eq_true rfl)
set_option maxHeartbeats 4000000 in
set_option maxRecDepth 100000 in
theorem m_levelT (l : Launch) (D : va_G) (cy : Nat → ClassId) (t0 : Nat) (a5 mD mI mZ mK mO mB mR mF k : Nat) (th now nl5 kM oM : Int32) (p0 : Int32) (hbi : p0 < 0 ∨ nI 6 ≤ p0) : xWi (S := Unit) l yX5_level wsX5_level ({ frames := 1, cells := 0, slots := 0, locals := 21 } : Room) D cy t0 ([.ref a5, .int p0]) ([(a5, .inr (5, [.int th, .int (nI k), .int now, .ref mD, .ref mI, .ref mZ, .int nl5, .ref mK, .ref mO, .ref mB, .ref mR, .ref mF, .int kM, .int oM]))]) (fun _ _ => True) (fun _ => [(a5, .inr (5, [.int (nI 1), .int (nI k), .int now, .ref mD, .ref mI, .ref mZ, .int nl5, .ref mK, .ref mO, .ref mB, .ref mR, .ref mF, .int kM, .int oM]))]) 0 0 := by
  refine xofWi (cc := cX5_level) (maxL := 2) (by decide) rfl (Nat.le_of_ble_eq_true rfl) (fun _ _ _ => rfl) ?_
  intro p e s m below meth c Q A ls hx hb hml hts hown hE hA H locs hP hD hl hS kret
  have hl : lv_has ls 2 [(0, .ref a5), (1, .int p0)] := hl
  refine lv_aload_n hx hb dX5_level_0 rfl (lv_at hl 0 rfl) ?_
  refine lv_iload_n hx hb dX5_level_1 rfl (lv_at hl 1 rfl) ?_
  refine xcRi (va_runS (As := [.int p0]) (rest := [.ref a5]) ⟨hx, hb, hml, hown, hts⟩ (m_isBasket l D cy t0 p0) (va_cwS 1 hts gX5_level_X5_isBasket rfl rfl rfl (by decide +kernel) ⟨Nat.le_of_ble_eq_true rfl, Nat.le_of_ble_eq_true rfl⟩) (xPr.give (wc := []) hE hS hP [] rfl) rfl rfl hl.1 rfl (lv_room (Nat.le_of_ble_eq_true rfl)) dX5_level_2 ⟨(Nat.zero_le _), (Nat.zero_le _)⟩) (fun r_1 hr_2 => ?_)
  obtain rfl : r_1 = nI 0 := by rw [hr_2, isBk_no hbi]; rfl
  refine xb_if_eq (tgt := 12) (a := 0) (by omega) hx hb dX5_level_5 (by decide) (fun c_3 => ?_) (fun c_3 => ?_)
  · refine lv_iconst (v := nI 1) hx hb dX5_level_12 (by decide) ?_
    refine xcWi (wr := []) (va_runV (As := [.int (nI 1)]) (rest := []) ⟨hx, hb, hml, hown, hts⟩ ((m_goesWell l D cy t0 a5 mD mI mZ mK mO mB mR mF k th now nl5 kM oM 1 (by omega)) H.size) (cwV 1 hts gX5_level_X5_goesWell rfl rfl rfl (by decide +kernel) ⟨Nat.le_of_ble_eq_true rfl, Nat.le_of_ble_eq_true rfl⟩) (xPw.giveV (wc := [(a5, .inr (5, [.int th, .int (nI k), .int now, .ref mD, .ref mI, .ref mZ, .int nl5, .ref mK, .ref mO, .ref mB, .ref mR, .ref mF, .int kM, .int oM]))]) hE hS hA hP hD [0] (by decide) rfl 0 5 rfl rfl) rfl rfl hl.1 rfl (lv_room (Nat.le_of_ble_eq_true rfl)) dX5_level_13 ⟨(Nat.zero_le _), (Nat.zero_le _)⟩) hP hD hS hA [0] [] rfl rfl (by decide) (by decide) (fun r_4 u_6 H locs hr_5 hP hD hS => ?_)
    obtain rfl : r_4 = nI 0 := by rw [hr_5]; rfl
    have hP := hP.sub (ws' := [(a5, .inr (5, [.int (nI 1), .int (nI k), .int now, .ref mD, .ref mI, .ref mZ, .int nl5, .ref mK, .ref mO, .ref mB, .ref mR, .ref mF, .int kM, .int oM]))]) [0] rfl
    have hD := hD.sub (ws' := [(a5, .inr (5, [.int (nI 1), .int (nI k), .int now, .ref mD, .ref mI, .ref mZ, .int nl5, .ref mK, .ref mO, .ref mB, .ref mR, .ref mF, .int kM, .int oM]))]) [0] (by decide) rfl
    refine xb_if_eq (tgt := 27) (a := 0) (by omega) hx hb dX5_level_16 (by decide) (fun c_7 => ?_) (fun c_7 => ?_)
    · refine lv_iconst (v := nI 0) hx hb dX5_level_27 (by decide) ?_
      exact kret _ () _ _ _ _ _ _ dX5_level_28 trivial hP hD hS (Nat.le_of_ble_eq_true rfl) (Nat.le_of_ble_eq_true rfl)
    · exact absurd c_7 (by omega)
  · exact absurd c_3 (by omega)
set_option maxHeartbeats 4000000 in
set_option maxRecDepth 100000 in
theorem m_sampledT (l : Launch) (D : va_G) (cy : Nat → ClassId) (t0 : Nat) (a5 mD mI mZ mK mO mB mR mF k : Nat) (th now nl5 kM oM : Int32) (p0 : Int32) (hbi : p0 < 0 ∨ nI 6 ≤ p0) : xWi (S := Unit) l yX5_sampled wsX5_sampled ({ frames := 1, cells := 0, slots := 0, locals := 21 } : Room) D cy t0 ([.ref a5, .int p0]) ([(a5, .inr (5, [.int th, .int (nI k), .int now, .ref mD, .ref mI, .ref mZ, .int nl5, .ref mK, .ref mO, .ref mB, .ref mR, .ref mF, .int kM, .int oM]))]) (fun _ _ => True) (fun _ => [(a5, .inr (5, [.int (nI 1), .int (nI k), .int now, .ref mD, .ref mI, .ref mZ, .int nl5, .ref mK, .ref mO, .ref mB, .ref mR, .ref mF, .int kM, .int oM]))]) 0 0 := by
  refine xofWi (cc := cX5_sampled) (maxL := 2) (by decide) rfl (Nat.le_of_ble_eq_true rfl) (fun _ _ _ => rfl) ?_
  intro p e s m below meth c Q A ls hx hb hml hts hown hE hA H locs hP hD hl hS kret
  have hl : lv_has ls 2 [(0, .ref a5), (1, .int p0)] := hl
  refine lv_aload_n hx hb dX5_sampled_0 rfl (lv_at hl 0 rfl) ?_
  refine lv_iload_n hx hb dX5_sampled_1 rfl (lv_at hl 1 rfl) ?_
  refine xcRi (va_runS (As := [.int p0]) (rest := [.ref a5]) ⟨hx, hb, hml, hown, hts⟩ (m_isBasket l D cy t0 p0) (va_cwS 1 hts gX5_sampled_X5_isBasket rfl rfl rfl (by decide +kernel) ⟨Nat.le_of_ble_eq_true rfl, Nat.le_of_ble_eq_true rfl⟩) (xPr.give (wc := []) hE hS hP [] rfl) rfl rfl hl.1 rfl (lv_room (Nat.le_of_ble_eq_true rfl)) dX5_sampled_2 ⟨(Nat.zero_le _), (Nat.zero_le _)⟩) (fun r_1 hr_2 => ?_)
  obtain rfl : r_1 = nI 0 := by rw [hr_2, isBk_no hbi]; rfl
  refine xb_if_eq (tgt := 12) (a := 0) (by omega) hx hb dX5_sampled_5 (by decide) (fun c_3 => ?_) (fun c_3 => ?_)
  · refine lv_iconst (v := nI 1) hx hb dX5_sampled_12 (by decide) ?_
    refine xcWi (wr := []) (va_runV (As := [.int (nI 1)]) (rest := []) ⟨hx, hb, hml, hown, hts⟩ ((m_goesWell l D cy t0 a5 mD mI mZ mK mO mB mR mF k th now nl5 kM oM 1 (by omega)) H.size) (cwV 1 hts gX5_sampled_X5_goesWell rfl rfl rfl (by decide +kernel) ⟨Nat.le_of_ble_eq_true rfl, Nat.le_of_ble_eq_true rfl⟩) (xPw.giveV (wc := [(a5, .inr (5, [.int th, .int (nI k), .int now, .ref mD, .ref mI, .ref mZ, .int nl5, .ref mK, .ref mO, .ref mB, .ref mR, .ref mF, .int kM, .int oM]))]) hE hS hA hP hD [0] (by decide) rfl 0 5 rfl rfl) rfl rfl hl.1 rfl (lv_room (Nat.le_of_ble_eq_true rfl)) dX5_sampled_13 ⟨(Nat.zero_le _), (Nat.zero_le _)⟩) hP hD hS hA [0] [] rfl rfl (by decide) (by decide) (fun r_4 u_6 H locs hr_5 hP hD hS => ?_)
    obtain rfl : r_4 = nI 0 := by rw [hr_5]; rfl
    have hP := hP.sub (ws' := [(a5, .inr (5, [.int (nI 1), .int (nI k), .int now, .ref mD, .ref mI, .ref mZ, .int nl5, .ref mK, .ref mO, .ref mB, .ref mR, .ref mF, .int kM, .int oM]))]) [0] rfl
    have hD := hD.sub (ws' := [(a5, .inr (5, [.int (nI 1), .int (nI k), .int now, .ref mD, .ref mI, .ref mZ, .int nl5, .ref mK, .ref mO, .ref mB, .ref mR, .ref mF, .int kM, .int oM]))]) [0] (by decide) rfl
    refine xb_if_eq (tgt := 32) (a := 0) (by omega) hx hb dX5_sampled_16 (by decide) (fun c_7 => ?_) (fun c_7 => ?_)
    · refine lv_iconst (v := nI 0) hx hb dX5_sampled_32 (by decide) ?_
      exact kret _ () _ _ _ _ _ _ dX5_sampled_33 trivial hP hD hS (Nat.le_of_ble_eq_true rfl) (Nat.le_of_ble_eq_true rfl)
    · exact absurd c_7 (by omega)
  · exact absurd c_3 (by omega)
set_option maxHeartbeats 4000000 in
set_option maxRecDepth 100000 in
theorem m_sampledAtT (l : Launch) (D : va_G) (cy : Nat → ClassId) (t0 : Nat) (a5 mD mI mZ mK mO mB mR mF k : Nat) (th now nl5 kM oM : Int32) (p0 p1 : Int32) (hbi : p0 < 0 ∨ nI 6 ≤ p0) : xWi (S := Unit) l yX5_sampledAt wsX5_sampledAt ({ frames := 1, cells := 0, slots := 0, locals := 21 } : Room) D cy t0 ([.ref a5, .int p0, .int p1]) ([(a5, .inr (5, [.int th, .int (nI k), .int now, .ref mD, .ref mI, .ref mZ, .int nl5, .ref mK, .ref mO, .ref mB, .ref mR, .ref mF, .int kM, .int oM]))]) (fun _ _ => True) (fun _ => [(a5, .inr (5, [.int (nI 1), .int (nI k), .int now, .ref mD, .ref mI, .ref mZ, .int nl5, .ref mK, .ref mO, .ref mB, .ref mR, .ref mF, .int kM, .int oM]))]) 0 0 := by
  refine xofWi (cc := cX5_sampledAt) (maxL := 7) (by decide) rfl (Nat.le_of_ble_eq_true rfl) (fun _ _ _ => rfl) ?_
  intro p e s m below meth c Q A ls hx hb hml hts hown hE hA H locs hP hD hl hS kret
  have hl : lv_has ls 7 [(0, .ref a5), (1, .int p0), (2, .int p1)] := hl
  refine lv_iload_n hx hb dX5_sampledAt_0 rfl (lv_at hl 1 rfl) ?_
  refine xcRi (va_runS (As := [.int p0]) (rest := []) ⟨hx, hb, hml, hown, hts⟩ (m_isBasket l D cy t0 p0) (va_cwS 1 hts gX5_sampledAt_X5_isBasket rfl rfl rfl (by decide +kernel) ⟨Nat.le_of_ble_eq_true rfl, Nat.le_of_ble_eq_true rfl⟩) (xPr.give (wc := []) hE hS hP [] rfl) rfl rfl hl.1 rfl (lv_room (Nat.le_of_ble_eq_true rfl)) dX5_sampledAt_1 ⟨(Nat.zero_le _), (Nat.zero_le _)⟩) (fun r_1 hr_2 => ?_)
  obtain rfl : r_1 = nI 0 := by rw [hr_2, isBk_no hbi]; rfl
  refine xb_if_eq (tgt := 15) (a := 0) (by omega) hx hb dX5_sampledAt_4 (by decide) (fun c_3 => ?_) (fun c_3 => ?_)
  · refine lv_iconst (v := nI 0) hx hb dX5_sampledAt_15 (by decide) ?_
    refine lv_istore_n (lv' := [(3, .int (nI 0)), (0, .ref a5), (1, .int p0), (2, .int p1)]) hx hb dX5_sampledAt_16 rfl hl (by decide) rfl (fun ls hl => ?_)
    refine lv_iload_n hx hb dX5_sampledAt_17 rfl (lv_at hl 2 rfl) ?_
    refine xcRi (va_runS (As := [.int p0]) (rest := []) ⟨hx, hb, hml, hown, hts⟩ (m_isBasket l D cy t0 p0) (va_cwS 1 hts gX5_sampledAt_X5_isBasket rfl rfl rfl (by decide +kernel) ⟨Nat.le_of_ble_eq_true rfl, Nat.le_of_ble_eq_true rfl⟩) (xPr.give (wc := []) hE hS hP [] rfl) rfl rfl hl.1 rfl (lv_room (Nat.le_of_ble_eq_true rfl)) dX5_sampledAt_18 ⟨(Nat.zero_le _), (Nat.zero_le _)⟩) (fun r_4 hr_5 => ?_)
    obtain rfl : r_4 = nI 0 := by rw [hr_5, isBk_no hbi]; rfl
    refine xb_if_eq (tgt := 33) (a := 0) (by omega) hx hb dX5_sampledAt_21 (by decide) (fun c_6 => ?_) (fun c_6 => ?_)
    · refine lv_iconst (v := nI 0) hx hb dX5_sampledAt_33 (by decide) ?_
      refine lv_istore (lv' := [(4, .int (nI 0)), (3, .int (nI 0)), (0, .ref a5), (1, .int p0), (2, .int p1)]) hx hb dX5_sampledAt_34 hl (by decide) rfl (fun ls hl => ?_)
      refine lv_aload_n hx hb dX5_sampledAt_36 rfl (lv_at hl 2 rfl) ?_
      refine lv_iload_n hx hb dX5_sampledAt_37 rfl (lv_at hl 4 rfl) ?_
      refine lv_if_lt (tgt := 51) hx hb dX5_sampledAt_38 (by decide) (fun c_7 => ?_) (fun c_7 => ?_)
      · refine lv_iconst (v := nI 1) hx hb dX5_sampledAt_51 (by decide) ?_
        refine xcWi (wr := []) (va_runV (As := [.int (nI 1)]) (rest := []) ⟨hx, hb, hml, hown, hts⟩ ((m_goesWell l D cy t0 a5 mD mI mZ mK mO mB mR mF k th now nl5 kM oM 1 (by omega)) H.size) (cwV 1 hts gX5_sampledAt_X5_goesWell rfl rfl rfl (by decide +kernel) ⟨Nat.le_of_ble_eq_true rfl, Nat.le_of_ble_eq_true rfl⟩) (xPw.giveV (wc := [(a5, .inr (5, [.int th, .int (nI k), .int now, .ref mD, .ref mI, .ref mZ, .int nl5, .ref mK, .ref mO, .ref mB, .ref mR, .ref mF, .int kM, .int oM]))]) hE hS hA hP hD [0] (by decide) rfl 0 5 rfl rfl) rfl rfl hl.1 rfl (lv_room (Nat.le_of_ble_eq_true rfl)) dX5_sampledAt_52 ⟨(Nat.zero_le _), (Nat.zero_le _)⟩) hP hD hS hA [0] [] rfl rfl (by decide) (by decide) (fun r_8 u_10 H locs hr_9 hP hD hS => ?_)
        obtain rfl : r_8 = nI 0 := by rw [hr_9]; rfl
        have hP := hP.sub (ws' := [(a5, .inr (5, [.int (nI 1), .int (nI k), .int now, .ref mD, .ref mI, .ref mZ, .int nl5, .ref mK, .ref mO, .ref mB, .ref mR, .ref mF, .int kM, .int oM]))]) [0] rfl
        have hD := hD.sub (ws' := [(a5, .inr (5, [.int (nI 1), .int (nI k), .int now, .ref mD, .ref mI, .ref mZ, .int nl5, .ref mK, .ref mO, .ref mB, .ref mR, .ref mF, .int kM, .int oM]))]) [0] (by decide) rfl
        refine xb_if_ne (tgt := 60) (a := 0) (by omega) hx hb dX5_sampledAt_55 (by decide) (fun c_11 => ?_) (fun c_11 => ?_)
        · exact absurd c_11 (by omega)
        · refine lv_iconst (v := nI 0) hx hb dX5_sampledAt_58 (by decide) ?_
          exact kret _ () _ _ _ _ _ _ dX5_sampledAt_59 trivial hP hD hS (Nat.le_of_ble_eq_true rfl) (Nat.le_of_ble_eq_true rfl)
      · refine lv_iload_n hx hb dX5_sampledAt_41 rfl (lv_at hl 4 rfl) ?_
        refine lv_iload hx hb dX5_sampledAt_42 (lv_at hl 0 rfl) ?_
        refine lv_icmp_ge (tgt := 51) hx hb dX5_sampledAt_44 (by decide) (fun c_12 => ?_) (fun c_12 => ?_)
        · refine lv_iconst (v := nI 1) hx hb dX5_sampledAt_51 (by decide) ?_
          refine xcWi (wr := []) (va_runV (As := [.int (nI 1)]) (rest := []) ⟨hx, hb, hml, hown, hts⟩ ((m_goesWell l D cy t0 a5 mD mI mZ mK mO mB mR mF k th now nl5 kM oM 1 (by omega)) H.size) (cwV 1 hts gX5_sampledAt_X5_goesWell rfl rfl rfl (by decide +kernel) ⟨Nat.le_of_ble_eq_true rfl, Nat.le_of_ble_eq_true rfl⟩) (xPw.giveV (wc := [(a5, .inr (5, [.int th, .int (nI k), .int now, .ref mD, .ref mI, .ref mZ, .int nl5, .ref mK, .ref mO, .ref mB, .ref mR, .ref mF, .int kM, .int oM]))]) hE hS hA hP hD [0] (by decide) rfl 0 5 rfl rfl) rfl rfl hl.1 rfl (lv_room (Nat.le_of_ble_eq_true rfl)) dX5_sampledAt_52 ⟨(Nat.zero_le _), (Nat.zero_le _)⟩) hP hD hS hA [0] [] rfl rfl (by decide) (by decide) (fun r_13 u_15 H locs hr_14 hP hD hS => ?_)
          obtain rfl : r_13 = nI 0 := by rw [hr_14]; rfl
          have hP := hP.sub (ws' := [(a5, .inr (5, [.int (nI 1), .int (nI k), .int now, .ref mD, .ref mI, .ref mZ, .int nl5, .ref mK, .ref mO, .ref mB, .ref mR, .ref mF, .int kM, .int oM]))]) [0] rfl
          have hD := hD.sub (ws' := [(a5, .inr (5, [.int (nI 1), .int (nI k), .int now, .ref mD, .ref mI, .ref mZ, .int nl5, .ref mK, .ref mO, .ref mB, .ref mR, .ref mF, .int kM, .int oM]))]) [0] (by decide) rfl
          refine xb_if_ne (tgt := 60) (a := 0) (by omega) hx hb dX5_sampledAt_55 (by decide) (fun c_16 => ?_) (fun c_16 => ?_)
          · exact absurd c_16 (by omega)
          · refine lv_iconst (v := nI 0) hx hb dX5_sampledAt_58 (by decide) ?_
            exact kret _ () _ _ _ _ _ _ dX5_sampledAt_59 trivial hP hD hS (Nat.le_of_ble_eq_true rfl) (Nat.le_of_ble_eq_true rfl)
        · exact (c_12 (Int32.not_lt.mp c_7)).elim
    · exact absurd c_6 (by omega)
  · exact absurd c_3 (by omega)
set_option maxHeartbeats 4000000 in
set_option maxRecDepth 100000 in
theorem m_bySampleT (l : Launch) (D : va_G) (cy : Nat → ClassId) (t0 : Nat) (a5 mD mI mZ mK mO mB mR mF k : Nat) (th now nl5 kM oM : Int32) (p0 : Int32) (hbi : p0 < 0 ∨ nI 6 ≤ p0) : xWi (S := Unit) l yX5_bySample wsX5_bySample ({ frames := 1, cells := 0, slots := 0, locals := 21 } : Room) D cy t0 ([.ref a5, .int p0]) ([(a5, .inr (5, [.int th, .int (nI k), .int now, .ref mD, .ref mI, .ref mZ, .int nl5, .ref mK, .ref mO, .ref mB, .ref mR, .ref mF, .int kM, .int oM]))]) (fun _ _ => True) (fun _ => [(a5, .inr (5, [.int (nI 1), .int (nI k), .int now, .ref mD, .ref mI, .ref mZ, .int nl5, .ref mK, .ref mO, .ref mB, .ref mR, .ref mF, .int kM, .int oM]))]) 0 0 := by
  refine xofWi (cc := cX5_bySample) (maxL := 3) (by decide) rfl (Nat.le_of_ble_eq_true rfl) (fun _ _ _ => rfl) ?_
  intro p e s m below meth c Q A ls hx hb hml hts hown hE hA H locs hP hD hl hS kret
  have hl : lv_has ls 3 [(0, .ref a5), (1, .int p0)] := hl
  refine lv_aload_n hx hb dX5_bySample_0 rfl (lv_at hl 0 rfl) ?_
  refine lv_iload_n hx hb dX5_bySample_1 rfl (lv_at hl 1 rfl) ?_
  refine xcRi (va_runS (As := [.int p0]) (rest := [.ref a5]) ⟨hx, hb, hml, hown, hts⟩ (m_isBasket l D cy t0 p0) (va_cwS 1 hts gX5_bySample_X5_isBasket rfl rfl rfl (by decide +kernel) ⟨Nat.le_of_ble_eq_true rfl, Nat.le_of_ble_eq_true rfl⟩) (xPr.give (wc := []) hE hS hP [] rfl) rfl rfl hl.1 rfl (lv_room (Nat.le_of_ble_eq_true rfl)) dX5_bySample_2 ⟨(Nat.zero_le _), (Nat.zero_le _)⟩) (fun r_1 hr_2 => ?_)
  obtain rfl : r_1 = nI 0 := by rw [hr_2, isBk_no hbi]; rfl
  refine xb_if_eq (tgt := 12) (a := 0) (by omega) hx hb dX5_bySample_5 (by decide) (fun c_3 => ?_) (fun c_3 => ?_)
  · refine lv_iconst (v := nI 1) hx hb dX5_bySample_12 (by decide) ?_
    refine xcWi (wr := []) (va_runV (As := [.int (nI 1)]) (rest := []) ⟨hx, hb, hml, hown, hts⟩ ((m_goesWell l D cy t0 a5 mD mI mZ mK mO mB mR mF k th now nl5 kM oM 1 (by omega)) H.size) (cwV 1 hts gX5_bySample_X5_goesWell rfl rfl rfl (by decide +kernel) ⟨Nat.le_of_ble_eq_true rfl, Nat.le_of_ble_eq_true rfl⟩) (xPw.giveV (wc := [(a5, .inr (5, [.int th, .int (nI k), .int now, .ref mD, .ref mI, .ref mZ, .int nl5, .ref mK, .ref mO, .ref mB, .ref mR, .ref mF, .int kM, .int oM]))]) hE hS hA hP hD [0] (by decide) rfl 0 5 rfl rfl) rfl rfl hl.1 rfl (lv_room (Nat.le_of_ble_eq_true rfl)) dX5_bySample_13 ⟨(Nat.zero_le _), (Nat.zero_le _)⟩) hP hD hS hA [0] [] rfl rfl (by decide) (by decide) (fun r_4 u_6 H locs hr_5 hP hD hS => ?_)
    obtain rfl : r_4 = nI 0 := by rw [hr_5]; rfl
    have hP := hP.sub (ws' := [(a5, .inr (5, [.int (nI 1), .int (nI k), .int now, .ref mD, .ref mI, .ref mZ, .int nl5, .ref mK, .ref mO, .ref mB, .ref mR, .ref mF, .int kM, .int oM]))]) [0] rfl
    have hD := hD.sub (ws' := [(a5, .inr (5, [.int (nI 1), .int (nI k), .int now, .ref mD, .ref mI, .ref mZ, .int nl5, .ref mK, .ref mO, .ref mB, .ref mR, .ref mF, .int kM, .int oM]))]) [0] (by decide) rfl
    refine xb_if_ne (tgt := 21) (a := 0) (by omega) hx hb dX5_bySample_16 (by decide) (fun c_7 => ?_) (fun c_7 => ?_)
    · exact absurd c_7 (by omega)
    · refine lv_iconst (v := nI 0) hx hb dX5_bySample_19 (by decide) ?_
      exact kret _ () _ _ _ _ _ _ dX5_bySample_20 trivial hP hD hS (Nat.le_of_ble_eq_true rfl) (Nat.le_of_ble_eq_true rfl)
  · exact absurd c_3 (by omega)
set_option maxHeartbeats 4000000 in
set_option maxRecDepth 100000 in
theorem m_mergeT (l : Launch) (D : va_G) (cy : Nat → ClassId) (t0 : Nat) (a5 mD mI mZ mK mO mB mR mF k : Nat) (th now nl5 kM oM : Int32) (p0 p1 : Int32) (hbi : p0 < 0 ∨ nI 6 ≤ p0) : xWi (S := Unit) l yX5_merge wsX5_merge ({ frames := 1, cells := 0, slots := 0, locals := 21 } : Room) D cy t0 ([.ref a5, .int p0, .int p1]) ([(a5, .inr (5, [.int th, .int (nI k), .int now, .ref mD, .ref mI, .ref mZ, .int nl5, .ref mK, .ref mO, .ref mB, .ref mR, .ref mF, .int kM, .int oM]))]) (fun _ _ => True) (fun _ => [(a5, .inr (5, [.int (nI 1), .int (nI k), .int now, .ref mD, .ref mI, .ref mZ, .int nl5, .ref mK, .ref mO, .ref mB, .ref mR, .ref mF, .int kM, .int oM]))]) 0 0 := by
  refine xofWi (cc := cX5_merge) (maxL := 6) (by decide) rfl (Nat.le_of_ble_eq_true rfl) (fun _ _ _ => rfl) ?_
  intro p e s m below meth c Q A ls hx hb hml hts hown hE hA H locs hP hD hl hS kret
  have hl : lv_has ls 6 [(0, .ref a5), (1, .int p0), (2, .int p1)] := hl
  refine lv_aload_n hx hb dX5_merge_0 rfl (lv_at hl 0 rfl) ?_
  refine lv_iload_n hx hb dX5_merge_1 rfl (lv_at hl 1 rfl) ?_
  refine xcRi (va_runS (As := [.int p0]) (rest := [.ref a5]) ⟨hx, hb, hml, hown, hts⟩ (m_isBasket l D cy t0 p0) (va_cwS 1 hts gX5_merge_X5_isBasket rfl rfl rfl (by decide +kernel) ⟨Nat.le_of_ble_eq_true rfl, Nat.le_of_ble_eq_true rfl⟩) (xPr.give (wc := []) hE hS hP [] rfl) rfl rfl hl.1 rfl (lv_room (Nat.le_of_ble_eq_true rfl)) dX5_merge_2 ⟨(Nat.zero_le _), (Nat.zero_le _)⟩) (fun r_1 hr_2 => ?_)
  obtain rfl : r_1 = nI 0 := by rw [hr_2, isBk_no hbi]; rfl
  refine xb_if_eq (tgt := 19) (a := 0) (by omega) hx hb dX5_merge_5 (by decide) (fun c_3 => ?_) (fun c_3 => ?_)
  · refine lv_iconst (v := nI 1) hx hb dX5_merge_19 (by decide) ?_
    refine xcWi (wr := []) (va_runV (As := [.int (nI 1)]) (rest := []) ⟨hx, hb, hml, hown, hts⟩ ((m_goesWell l D cy t0 a5 mD mI mZ mK mO mB mR mF k th now nl5 kM oM 1 (by omega)) H.size) (cwV 1 hts gX5_merge_X5_goesWell rfl rfl rfl (by decide +kernel) ⟨Nat.le_of_ble_eq_true rfl, Nat.le_of_ble_eq_true rfl⟩) (xPw.giveV (wc := [(a5, .inr (5, [.int th, .int (nI k), .int now, .ref mD, .ref mI, .ref mZ, .int nl5, .ref mK, .ref mO, .ref mB, .ref mR, .ref mF, .int kM, .int oM]))]) hE hS hA hP hD [0] (by decide) rfl 0 5 rfl rfl) rfl rfl hl.1 rfl (lv_room (Nat.le_of_ble_eq_true rfl)) dX5_merge_20 ⟨(Nat.zero_le _), (Nat.zero_le _)⟩) hP hD hS hA [0] [] rfl rfl (by decide) (by decide) (fun r_4 u_6 H locs hr_5 hP hD hS => ?_)
    obtain rfl : r_4 = nI 0 := by rw [hr_5]; rfl
    have hP := hP.sub (ws' := [(a5, .inr (5, [.int (nI 1), .int (nI k), .int now, .ref mD, .ref mI, .ref mZ, .int nl5, .ref mK, .ref mO, .ref mB, .ref mR, .ref mF, .int kM, .int oM]))]) [0] rfl
    have hD := hD.sub (ws' := [(a5, .inr (5, [.int (nI 1), .int (nI k), .int now, .ref mD, .ref mI, .ref mZ, .int nl5, .ref mK, .ref mO, .ref mB, .ref mR, .ref mF, .int kM, .int oM]))]) [0] (by decide) rfl
    refine xb_if_ne (tgt := 28) (a := 0) (by omega) hx hb dX5_merge_23 (by decide) (fun c_7 => ?_) (fun c_7 => ?_)
    · exact absurd c_7 (by omega)
    · refine lv_iconst (v := nI 0) hx hb dX5_merge_26 (by decide) ?_
      exact kret _ () _ _ _ _ _ _ dX5_merge_27 trivial hP hD hS (Nat.le_of_ble_eq_true rfl) (Nat.le_of_ble_eq_true rfl)
  · exact absurd c_3 (by omega)
set_option maxHeartbeats 4000000 in
set_option maxRecDepth 100000 in
theorem m_plainCommonT (l : Launch) (D : va_G) (cy : Nat → ClassId) (t0 : Nat) (a5 mD mI mZ mK mO mB mR mF k : Nat) (th now nl5 kM oM : Int32) (p0 p1 : Int32) (hbi : p0 < 0 ∨ nI 6 ≤ p0) : xWi (S := Unit) l yX5_plainCommon wsX5_plainCommon ({ frames := 1, cells := 0, slots := 0, locals := 21 } : Room) D cy t0 ([.ref a5, .int p0, .int p1]) ([(a5, .inr (5, [.int th, .int (nI k), .int now, .ref mD, .ref mI, .ref mZ, .int nl5, .ref mK, .ref mO, .ref mB, .ref mR, .ref mF, .int kM, .int oM]))]) (fun _ _ => True) (fun _ => [(a5, .inr (5, [.int (nI 1), .int (nI k), .int now, .ref mD, .ref mI, .ref mZ, .int nl5, .ref mK, .ref mO, .ref mB, .ref mR, .ref mF, .int kM, .int oM]))]) 0 0 := by
  refine xofWi (cc := cX5_plainCommon) (maxL := 5) (by decide) rfl (Nat.le_of_ble_eq_true rfl) (fun _ _ _ => rfl) ?_
  intro p e s m below meth c Q A ls hx hb hml hts hown hE hA H locs hP hD hl hS kret
  have hl : lv_has ls 5 [(0, .ref a5), (1, .int p0), (2, .int p1)] := hl
  refine lv_aload_n hx hb dX5_plainCommon_0 rfl (lv_at hl 0 rfl) ?_
  refine lv_iload_n hx hb dX5_plainCommon_1 rfl (lv_at hl 1 rfl) ?_
  refine xcRi (va_runS (As := [.int p0]) (rest := [.ref a5]) ⟨hx, hb, hml, hown, hts⟩ (m_isBasket l D cy t0 p0) (va_cwS 1 hts gX5_plainCommon_X5_isBasket rfl rfl rfl (by decide +kernel) ⟨Nat.le_of_ble_eq_true rfl, Nat.le_of_ble_eq_true rfl⟩) (xPr.give (wc := []) hE hS hP [] rfl) rfl rfl hl.1 rfl (lv_room (Nat.le_of_ble_eq_true rfl)) dX5_plainCommon_2 ⟨(Nat.zero_le _), (Nat.zero_le _)⟩) (fun r_1 hr_2 => ?_)
  obtain rfl : r_1 = nI 0 := by rw [hr_2, isBk_no hbi]; rfl
  refine xb_if_eq (tgt := 19) (a := 0) (by omega) hx hb dX5_plainCommon_5 (by decide) (fun c_3 => ?_) (fun c_3 => ?_)
  · refine lv_iconst (v := nI 1) hx hb dX5_plainCommon_19 (by decide) ?_
    refine xcWi (wr := []) (va_runV (As := [.int (nI 1)]) (rest := []) ⟨hx, hb, hml, hown, hts⟩ ((m_goesWell l D cy t0 a5 mD mI mZ mK mO mB mR mF k th now nl5 kM oM 1 (by omega)) H.size) (cwV 1 hts gX5_plainCommon_X5_goesWell rfl rfl rfl (by decide +kernel) ⟨Nat.le_of_ble_eq_true rfl, Nat.le_of_ble_eq_true rfl⟩) (xPw.giveV (wc := [(a5, .inr (5, [.int th, .int (nI k), .int now, .ref mD, .ref mI, .ref mZ, .int nl5, .ref mK, .ref mO, .ref mB, .ref mR, .ref mF, .int kM, .int oM]))]) hE hS hA hP hD [0] (by decide) rfl 0 5 rfl rfl) rfl rfl hl.1 rfl (lv_room (Nat.le_of_ble_eq_true rfl)) dX5_plainCommon_20 ⟨(Nat.zero_le _), (Nat.zero_le _)⟩) hP hD hS hA [0] [] rfl rfl (by decide) (by decide) (fun r_4 u_6 H locs hr_5 hP hD hS => ?_)
    obtain rfl : r_4 = nI 0 := by rw [hr_5]; rfl
    have hP := hP.sub (ws' := [(a5, .inr (5, [.int (nI 1), .int (nI k), .int now, .ref mD, .ref mI, .ref mZ, .int nl5, .ref mK, .ref mO, .ref mB, .ref mR, .ref mF, .int kM, .int oM]))]) [0] rfl
    have hD := hD.sub (ws' := [(a5, .inr (5, [.int (nI 1), .int (nI k), .int now, .ref mD, .ref mI, .ref mZ, .int nl5, .ref mK, .ref mO, .ref mB, .ref mR, .ref mF, .int kM, .int oM]))]) [0] (by decide) rfl
    refine xb_if_ne (tgt := 28) (a := 0) (by omega) hx hb dX5_plainCommon_23 (by decide) (fun c_7 => ?_) (fun c_7 => ?_)
    · exact absurd c_7 (by omega)
    · refine lv_iconst (v := nI 0) hx hb dX5_plainCommon_26 (by decide) ?_
      exact kret _ () _ _ _ _ _ _ dX5_plainCommon_27 trivial hP hD hS (Nat.le_of_ble_eq_true rfl) (Nat.le_of_ble_eq_true rfl)
  · exact absurd c_3 (by omega)
set_option maxHeartbeats 4000000 in
set_option maxRecDepth 100000 in
theorem m_togetherT (l : Launch) (D : va_G) (cy : Nat → ClassId) (t0 : Nat) (a5 mD mI mZ mK mO mB mR mF k : Nat) (th now nl5 kM oM : Int32) (p0 p1 : Int32) (hbi : p0 < 0 ∨ nI 6 ≤ p0) : xWi (S := Unit) l yX5_together wsX5_together ({ frames := 1, cells := 0, slots := 0, locals := 21 } : Room) D cy t0 ([.ref a5, .int p0, .int p1]) ([(a5, .inr (5, [.int th, .int (nI k), .int now, .ref mD, .ref mI, .ref mZ, .int nl5, .ref mK, .ref mO, .ref mB, .ref mR, .ref mF, .int kM, .int oM]))]) (fun _ _ => True) (fun _ => [(a5, .inr (5, [.int (nI 1), .int (nI k), .int now, .ref mD, .ref mI, .ref mZ, .int nl5, .ref mK, .ref mO, .ref mB, .ref mR, .ref mF, .int kM, .int oM]))]) 0 0 := by
  refine xofWi (cc := cX5_together) (maxL := 3) (by decide) rfl (Nat.le_of_ble_eq_true rfl) (fun _ _ _ => rfl) ?_
  intro p e s m below meth c Q A ls hx hb hml hts hown hE hA H locs hP hD hl hS kret
  have hl : lv_has ls 3 [(0, .ref a5), (1, .int p0), (2, .int p1)] := hl
  refine lv_aload_n hx hb dX5_together_0 rfl (lv_at hl 0 rfl) ?_
  refine lv_iload_n hx hb dX5_together_1 rfl (lv_at hl 1 rfl) ?_
  refine xcRi (va_runS (As := [.int p0]) (rest := [.ref a5]) ⟨hx, hb, hml, hown, hts⟩ (m_isBasket l D cy t0 p0) (va_cwS 1 hts gX5_together_X5_isBasket rfl rfl rfl (by decide +kernel) ⟨Nat.le_of_ble_eq_true rfl, Nat.le_of_ble_eq_true rfl⟩) (xPr.give (wc := []) hE hS hP [] rfl) rfl rfl hl.1 rfl (lv_room (Nat.le_of_ble_eq_true rfl)) dX5_together_2 ⟨(Nat.zero_le _), (Nat.zero_le _)⟩) (fun r_1 hr_2 => ?_)
  obtain rfl : r_1 = nI 0 := by rw [hr_2, isBk_no hbi]; rfl
  refine xb_if_eq (tgt := 19) (a := 0) (by omega) hx hb dX5_together_5 (by decide) (fun c_3 => ?_) (fun c_3 => ?_)
  · refine lv_iconst (v := nI 1) hx hb dX5_together_19 (by decide) ?_
    refine xcWi (wr := []) (va_runV (As := [.int (nI 1)]) (rest := []) ⟨hx, hb, hml, hown, hts⟩ ((m_goesWell l D cy t0 a5 mD mI mZ mK mO mB mR mF k th now nl5 kM oM 1 (by omega)) H.size) (cwV 1 hts gX5_together_X5_goesWell rfl rfl rfl (by decide +kernel) ⟨Nat.le_of_ble_eq_true rfl, Nat.le_of_ble_eq_true rfl⟩) (xPw.giveV (wc := [(a5, .inr (5, [.int th, .int (nI k), .int now, .ref mD, .ref mI, .ref mZ, .int nl5, .ref mK, .ref mO, .ref mB, .ref mR, .ref mF, .int kM, .int oM]))]) hE hS hA hP hD [0] (by decide) rfl 0 5 rfl rfl) rfl rfl hl.1 rfl (lv_room (Nat.le_of_ble_eq_true rfl)) dX5_together_20 ⟨(Nat.zero_le _), (Nat.zero_le _)⟩) hP hD hS hA [0] [] rfl rfl (by decide) (by decide) (fun r_4 u_6 H locs hr_5 hP hD hS => ?_)
    obtain rfl : r_4 = nI 0 := by rw [hr_5]; rfl
    have hP := hP.sub (ws' := [(a5, .inr (5, [.int (nI 1), .int (nI k), .int now, .ref mD, .ref mI, .ref mZ, .int nl5, .ref mK, .ref mO, .ref mB, .ref mR, .ref mF, .int kM, .int oM]))]) [0] rfl
    have hD := hD.sub (ws' := [(a5, .inr (5, [.int (nI 1), .int (nI k), .int now, .ref mD, .ref mI, .ref mZ, .int nl5, .ref mK, .ref mO, .ref mB, .ref mR, .ref mF, .int kM, .int oM]))]) [0] (by decide) rfl
    refine xb_if_eq (tgt := 36) (a := 0) (by omega) hx hb dX5_together_23 (by decide) (fun c_7 => ?_) (fun c_7 => ?_)
    · refine lv_iconst (v := nI 0) hx hb dX5_together_36 (by decide) ?_
      exact kret _ () _ _ _ _ _ _ dX5_together_37 trivial hP hD hS (Nat.le_of_ble_eq_true rfl) (Nat.le_of_ble_eq_true rfl)
    · exact absurd c_7 (by omega)
  · exact absurd c_3 (by omega)
set_option maxHeartbeats 4000000 in
set_option maxRecDepth 100000 in
theorem m_commonT (l : Launch) (D : va_G) (cy : Nat → ClassId) (t0 : Nat) (a5 mD mI mZ mK mO mB mR mF k : Nat) (th now nl5 kM oM : Int32) (p0 p1 : Int32) (hbi : p0 < 0 ∨ nI 6 ≤ p0) : xWi (S := Unit) l yX5_common wsX5_common ({ frames := 1, cells := 0, slots := 0, locals := 21 } : Room) D cy t0 ([.ref a5, .int p0, .int p1]) ([(a5, .inr (5, [.int th, .int (nI k), .int now, .ref mD, .ref mI, .ref mZ, .int nl5, .ref mK, .ref mO, .ref mB, .ref mR, .ref mF, .int kM, .int oM]))]) (fun _ _ => True) (fun _ => [(a5, .inr (5, [.int (nI 1), .int (nI k), .int now, .ref mD, .ref mI, .ref mZ, .int nl5, .ref mK, .ref mO, .ref mB, .ref mR, .ref mF, .int kM, .int oM]))]) 0 0 := by
  refine xofWi (cc := cX5_common) (maxL := 3) (by decide) rfl (Nat.le_of_ble_eq_true rfl) (fun _ _ _ => rfl) ?_
  intro p e s m below meth c Q A ls hx hb hml hts hown hE hA H locs hP hD hl hS kret
  have hl : lv_has ls 3 [(0, .ref a5), (1, .int p0), (2, .int p1)] := hl
  refine lv_aload_n hx hb dX5_common_0 rfl (lv_at hl 0 rfl) ?_
  refine lv_iload_n hx hb dX5_common_1 rfl (lv_at hl 1 rfl) ?_
  refine xcRi (va_runS (As := [.int p0]) (rest := [.ref a5]) ⟨hx, hb, hml, hown, hts⟩ (m_isBasket l D cy t0 p0) (va_cwS 1 hts gX5_common_X5_isBasket rfl rfl rfl (by decide +kernel) ⟨Nat.le_of_ble_eq_true rfl, Nat.le_of_ble_eq_true rfl⟩) (xPr.give (wc := []) hE hS hP [] rfl) rfl rfl hl.1 rfl (lv_room (Nat.le_of_ble_eq_true rfl)) dX5_common_2 ⟨(Nat.zero_le _), (Nat.zero_le _)⟩) (fun r_1 hr_2 => ?_)
  obtain rfl : r_1 = nI 0 := by rw [hr_2, isBk_no hbi]; rfl
  refine xb_if_eq (tgt := 19) (a := 0) (by omega) hx hb dX5_common_5 (by decide) (fun c_3 => ?_) (fun c_3 => ?_)
  · refine lv_iconst (v := nI 1) hx hb dX5_common_19 (by decide) ?_
    refine xcWi (wr := []) (va_runV (As := [.int (nI 1)]) (rest := []) ⟨hx, hb, hml, hown, hts⟩ ((m_goesWell l D cy t0 a5 mD mI mZ mK mO mB mR mF k th now nl5 kM oM 1 (by omega)) H.size) (cwV 1 hts gX5_common_X5_goesWell rfl rfl rfl (by decide +kernel) ⟨Nat.le_of_ble_eq_true rfl, Nat.le_of_ble_eq_true rfl⟩) (xPw.giveV (wc := [(a5, .inr (5, [.int th, .int (nI k), .int now, .ref mD, .ref mI, .ref mZ, .int nl5, .ref mK, .ref mO, .ref mB, .ref mR, .ref mF, .int kM, .int oM]))]) hE hS hA hP hD [0] (by decide) rfl 0 5 rfl rfl) rfl rfl hl.1 rfl (lv_room (Nat.le_of_ble_eq_true rfl)) dX5_common_20 ⟨(Nat.zero_le _), (Nat.zero_le _)⟩) hP hD hS hA [0] [] rfl rfl (by decide) (by decide) (fun r_4 u_6 H locs hr_5 hP hD hS => ?_)
    obtain rfl : r_4 = nI 0 := by rw [hr_5]; rfl
    have hP := hP.sub (ws' := [(a5, .inr (5, [.int (nI 1), .int (nI k), .int now, .ref mD, .ref mI, .ref mZ, .int nl5, .ref mK, .ref mO, .ref mB, .ref mR, .ref mF, .int kM, .int oM]))]) [0] rfl
    have hD := hD.sub (ws' := [(a5, .inr (5, [.int (nI 1), .int (nI k), .int now, .ref mD, .ref mI, .ref mZ, .int nl5, .ref mK, .ref mO, .ref mB, .ref mR, .ref mF, .int kM, .int oM]))]) [0] (by decide) rfl
    refine xb_if_eq (tgt := 36) (a := 0) (by omega) hx hb dX5_common_23 (by decide) (fun c_7 => ?_) (fun c_7 => ?_)
    · refine lv_iconst (v := nI 0) hx hb dX5_common_36 (by decide) ?_
      exact kret _ () _ _ _ _ _ _ dX5_common_37 trivial hP hD hS (Nat.le_of_ble_eq_true rfl) (Nat.le_of_ble_eq_true rfl)
    · exact absurd c_7 (by omega)
  · exact absurd c_3 (by omega)
set_option maxHeartbeats 4000000 in
set_option maxRecDepth 100000 in
theorem m_withoutT (l : Launch) (D : va_G) (cy : Nat → ClassId) (t0 : Nat) (a5 mD mI mZ mK mO mB mR mF k : Nat) (th now nl5 kM oM : Int32) (p0 p1 : Int32) (hbi : p0 < 0 ∨ nI 6 ≤ p0) : xWi (S := Unit) l yX5_without wsX5_without ({ frames := 1, cells := 0, slots := 0, locals := 21 } : Room) D cy t0 ([.ref a5, .int p0, .int p1]) ([(a5, .inr (5, [.int th, .int (nI k), .int now, .ref mD, .ref mI, .ref mZ, .int nl5, .ref mK, .ref mO, .ref mB, .ref mR, .ref mF, .int kM, .int oM]))]) (fun _ _ => True) (fun _ => [(a5, .inr (5, [.int (nI 1), .int (nI k), .int now, .ref mD, .ref mI, .ref mZ, .int nl5, .ref mK, .ref mO, .ref mB, .ref mR, .ref mF, .int kM, .int oM]))]) 0 0 := by
  refine xofWi (cc := cX5_without) (maxL := 3) (by decide) rfl (Nat.le_of_ble_eq_true rfl) (fun _ _ _ => rfl) ?_
  intro p e s m below meth c Q A ls hx hb hml hts hown hE hA H locs hP hD hl hS kret
  have hl : lv_has ls 3 [(0, .ref a5), (1, .int p0), (2, .int p1)] := hl
  refine lv_aload_n hx hb dX5_without_0 rfl (lv_at hl 0 rfl) ?_
  refine lv_iload_n hx hb dX5_without_1 rfl (lv_at hl 1 rfl) ?_
  refine xcRi (va_runS (As := [.int p0]) (rest := [.ref a5]) ⟨hx, hb, hml, hown, hts⟩ (m_isBasket l D cy t0 p0) (va_cwS 1 hts gX5_without_X5_isBasket rfl rfl rfl (by decide +kernel) ⟨Nat.le_of_ble_eq_true rfl, Nat.le_of_ble_eq_true rfl⟩) (xPr.give (wc := []) hE hS hP [] rfl) rfl rfl hl.1 rfl (lv_room (Nat.le_of_ble_eq_true rfl)) dX5_without_2 ⟨(Nat.zero_le _), (Nat.zero_le _)⟩) (fun r_1 hr_2 => ?_)
  obtain rfl : r_1 = nI 0 := by rw [hr_2, isBk_no hbi]; rfl
  refine xb_if_eq (tgt := 19) (a := 0) (by omega) hx hb dX5_without_5 (by decide) (fun c_3 => ?_) (fun c_3 => ?_)
  · refine lv_iconst (v := nI 1) hx hb dX5_without_19 (by decide) ?_
    refine xcWi (wr := []) (va_runV (As := [.int (nI 1)]) (rest := []) ⟨hx, hb, hml, hown, hts⟩ ((m_goesWell l D cy t0 a5 mD mI mZ mK mO mB mR mF k th now nl5 kM oM 1 (by omega)) H.size) (cwV 1 hts gX5_without_X5_goesWell rfl rfl rfl (by decide +kernel) ⟨Nat.le_of_ble_eq_true rfl, Nat.le_of_ble_eq_true rfl⟩) (xPw.giveV (wc := [(a5, .inr (5, [.int th, .int (nI k), .int now, .ref mD, .ref mI, .ref mZ, .int nl5, .ref mK, .ref mO, .ref mB, .ref mR, .ref mF, .int kM, .int oM]))]) hE hS hA hP hD [0] (by decide) rfl 0 5 rfl rfl) rfl rfl hl.1 rfl (lv_room (Nat.le_of_ble_eq_true rfl)) dX5_without_20 ⟨(Nat.zero_le _), (Nat.zero_le _)⟩) hP hD hS hA [0] [] rfl rfl (by decide) (by decide) (fun r_4 u_6 H locs hr_5 hP hD hS => ?_)
    obtain rfl : r_4 = nI 0 := by rw [hr_5]; rfl
    have hP := hP.sub (ws' := [(a5, .inr (5, [.int (nI 1), .int (nI k), .int now, .ref mD, .ref mI, .ref mZ, .int nl5, .ref mK, .ref mO, .ref mB, .ref mR, .ref mF, .int kM, .int oM]))]) [0] rfl
    have hD := hD.sub (ws' := [(a5, .inr (5, [.int (nI 1), .int (nI k), .int now, .ref mD, .ref mI, .ref mZ, .int nl5, .ref mK, .ref mO, .ref mB, .ref mR, .ref mF, .int kM, .int oM]))]) [0] (by decide) rfl
    refine xb_if_eq (tgt := 36) (a := 0) (by omega) hx hb dX5_without_23 (by decide) (fun c_7 => ?_) (fun c_7 => ?_)
    · refine lv_iconst (v := nI 0) hx hb dX5_without_36 (by decide) ?_
      exact kret _ () _ _ _ _ _ _ dX5_without_37 trivial hP hD hS (Nat.le_of_ble_eq_true rfl) (Nat.le_of_ble_eq_true rfl)
    · exact absurd c_7 (by omega)
  · exact absurd c_3 (by omega)
set_option maxHeartbeats 4000000 in
set_option maxRecDepth 100000 in
theorem m_mergeU (l : Launch) (D : va_G) (cy : Nat → ClassId) (t0 : Nat) (a5 mD mI mZ mK mO mB mR mF k : Nat) (th now nl5 kM oM : Int32) (b : Nat) (p1 : Int32) (hb6 : b < 6) (hbi : p1 < 0 ∨ nI 6 ≤ p1) : xWi (S := Unit) l yX5_merge wsX5_merge ({ frames := 1, cells := 0, slots := 0, locals := 21 } : Room) D cy t0 ([.ref a5, .int (nI b), .int p1]) ([(a5, .inr (5, [.int th, .int (nI k), .int now, .ref mD, .ref mI, .ref mZ, .int nl5, .ref mK, .ref mO, .ref mB, .ref mR, .ref mF, .int kM, .int oM]))]) (fun _ _ => True) (fun _ => [(a5, .inr (5, [.int (nI 1), .int (nI k), .int now, .ref mD, .ref mI, .ref mZ, .int nl5, .ref mK, .ref mO, .ref mB, .ref mR, .ref mF, .int kM, .int oM]))]) 0 0 := by
  refine xofWi (cc := cX5_merge) (maxL := 6) (by decide) rfl (Nat.le_of_ble_eq_true rfl) (fun _ _ _ => rfl) ?_
  intro p e s m below meth c Q A ls hx hb hml hts hown hE hA H locs hP hD hl hS kret
  have hl : lv_has ls 6 [(0, .ref a5), (1, .int (nI b)), (2, .int p1)] := hl
  refine lv_aload_n hx hb dX5_merge_0 rfl (lv_at hl 0 rfl) ?_
  refine lv_iload_n hx hb dX5_merge_1 rfl (lv_at hl 1 rfl) ?_
  refine xcRi (va_runS (As := [.int (nI b)]) (rest := [.ref a5]) ⟨hx, hb, hml, hown, hts⟩ (m_isBasket l D cy t0 (nI b)) (va_cwS 1 hts gX5_merge_X5_isBasket rfl rfl rfl (by decide +kernel) ⟨Nat.le_of_ble_eq_true rfl, Nat.le_of_ble_eq_true rfl⟩) (xPr.give (wc := []) hE hS hP [] rfl) rfl rfl hl.1 rfl (lv_room (Nat.le_of_ble_eq_true rfl)) dX5_merge_2 ⟨(Nat.zero_le _), (Nat.zero_le _)⟩) (fun r_1 hr_2 => ?_)
  obtain rfl : r_1 = nI 1 := by rw [hr_2, isBk_lt hb6]; rfl
  refine xb_if_eq (tgt := 19) (a := 1) (by omega) hx hb dX5_merge_5 (by decide) (fun c_3 => ?_) (fun c_3 => ?_)
  · exact absurd c_3 (by omega)
  · refine lv_iload_n hx hb dX5_merge_8 rfl (lv_at hl 2 rfl) ?_
    refine xcRi (va_runS (As := [.int p1]) (rest := [.ref a5]) ⟨hx, hb, hml, hown, hts⟩ (m_isBasket l D cy t0 p1) (va_cwS 1 hts gX5_merge_X5_isBasket rfl rfl rfl (by decide +kernel) ⟨Nat.le_of_ble_eq_true rfl, Nat.le_of_ble_eq_true rfl⟩) (xPr.give (wc := []) hE hS hP [] rfl) rfl rfl hl.1 rfl (lv_room (Nat.le_of_ble_eq_true rfl)) dX5_merge_9 ⟨(Nat.zero_le _), (Nat.zero_le _)⟩) (fun r_4 hr_5 => ?_)
    obtain rfl : r_4 = nI 0 := by rw [hr_5, isBk_no hbi]; rfl
    refine xb_if_eq (tgt := 19) (a := 0) (by omega) hx hb dX5_merge_12 (by decide) (fun c_6 => ?_) (fun c_6 => ?_)
    · refine lv_iconst (v := nI 1) hx hb dX5_merge_19 (by decide) ?_
      refine xcWi (wr := []) (va_runV (As := [.int (nI 1)]) (rest := []) ⟨hx, hb, hml, hown, hts⟩ ((m_goesWell l D cy t0 a5 mD mI mZ mK mO mB mR mF k th now nl5 kM oM 1 (by omega)) H.size) (cwV 1 hts gX5_merge_X5_goesWell rfl rfl rfl (by decide +kernel) ⟨Nat.le_of_ble_eq_true rfl, Nat.le_of_ble_eq_true rfl⟩) (xPw.giveV (wc := [(a5, .inr (5, [.int th, .int (nI k), .int now, .ref mD, .ref mI, .ref mZ, .int nl5, .ref mK, .ref mO, .ref mB, .ref mR, .ref mF, .int kM, .int oM]))]) hE hS hA hP hD [0] (by decide) rfl 0 5 rfl rfl) rfl rfl hl.1 rfl (lv_room (Nat.le_of_ble_eq_true rfl)) dX5_merge_20 ⟨(Nat.zero_le _), (Nat.zero_le _)⟩) hP hD hS hA [0] [] rfl rfl (by decide) (by decide) (fun r_7 u_9 H locs hr_8 hP hD hS => ?_)
      obtain rfl : r_7 = nI 0 := by rw [hr_8]; rfl
      have hP := hP.sub (ws' := [(a5, .inr (5, [.int (nI 1), .int (nI k), .int now, .ref mD, .ref mI, .ref mZ, .int nl5, .ref mK, .ref mO, .ref mB, .ref mR, .ref mF, .int kM, .int oM]))]) [0] rfl
      have hD := hD.sub (ws' := [(a5, .inr (5, [.int (nI 1), .int (nI k), .int now, .ref mD, .ref mI, .ref mZ, .int nl5, .ref mK, .ref mO, .ref mB, .ref mR, .ref mF, .int kM, .int oM]))]) [0] (by decide) rfl
      refine xb_if_ne (tgt := 28) (a := 0) (by omega) hx hb dX5_merge_23 (by decide) (fun c_10 => ?_) (fun c_10 => ?_)
      · exact absurd c_10 (by omega)
      · refine lv_iconst (v := nI 0) hx hb dX5_merge_26 (by decide) ?_
        exact kret _ () _ _ _ _ _ _ dX5_merge_27 trivial hP hD hS (Nat.le_of_ble_eq_true rfl) (Nat.le_of_ble_eq_true rfl)
    · exact absurd c_6 (by omega)
set_option maxHeartbeats 4000000 in
set_option maxRecDepth 100000 in
theorem m_plainCommonU (l : Launch) (D : va_G) (cy : Nat → ClassId) (t0 : Nat) (a5 mD mI mZ mK mO mB mR mF k : Nat) (th now nl5 kM oM : Int32) (b : Nat) (p1 : Int32) (hb6 : b < 6) (hbi : p1 < 0 ∨ nI 6 ≤ p1) : xWi (S := Unit) l yX5_plainCommon wsX5_plainCommon ({ frames := 1, cells := 0, slots := 0, locals := 21 } : Room) D cy t0 ([.ref a5, .int (nI b), .int p1]) ([(a5, .inr (5, [.int th, .int (nI k), .int now, .ref mD, .ref mI, .ref mZ, .int nl5, .ref mK, .ref mO, .ref mB, .ref mR, .ref mF, .int kM, .int oM]))]) (fun _ _ => True) (fun _ => [(a5, .inr (5, [.int (nI 1), .int (nI k), .int now, .ref mD, .ref mI, .ref mZ, .int nl5, .ref mK, .ref mO, .ref mB, .ref mR, .ref mF, .int kM, .int oM]))]) 0 0 := by
  refine xofWi (cc := cX5_plainCommon) (maxL := 5) (by decide) rfl (Nat.le_of_ble_eq_true rfl) (fun _ _ _ => rfl) ?_
  intro p e s m below meth c Q A ls hx hb hml hts hown hE hA H locs hP hD hl hS kret
  have hl : lv_has ls 5 [(0, .ref a5), (1, .int (nI b)), (2, .int p1)] := hl
  refine lv_aload_n hx hb dX5_plainCommon_0 rfl (lv_at hl 0 rfl) ?_
  refine lv_iload_n hx hb dX5_plainCommon_1 rfl (lv_at hl 1 rfl) ?_
  refine xcRi (va_runS (As := [.int (nI b)]) (rest := [.ref a5]) ⟨hx, hb, hml, hown, hts⟩ (m_isBasket l D cy t0 (nI b)) (va_cwS 1 hts gX5_plainCommon_X5_isBasket rfl rfl rfl (by decide +kernel) ⟨Nat.le_of_ble_eq_true rfl, Nat.le_of_ble_eq_true rfl⟩) (xPr.give (wc := []) hE hS hP [] rfl) rfl rfl hl.1 rfl (lv_room (Nat.le_of_ble_eq_true rfl)) dX5_plainCommon_2 ⟨(Nat.zero_le _), (Nat.zero_le _)⟩) (fun r_1 hr_2 => ?_)
  obtain rfl : r_1 = nI 1 := by rw [hr_2, isBk_lt hb6]; rfl
  refine xb_if_eq (tgt := 19) (a := 1) (by omega) hx hb dX5_plainCommon_5 (by decide) (fun c_3 => ?_) (fun c_3 => ?_)
  · exact absurd c_3 (by omega)
  · refine lv_iload_n hx hb dX5_plainCommon_8 rfl (lv_at hl 2 rfl) ?_
    refine xcRi (va_runS (As := [.int p1]) (rest := [.ref a5]) ⟨hx, hb, hml, hown, hts⟩ (m_isBasket l D cy t0 p1) (va_cwS 1 hts gX5_plainCommon_X5_isBasket rfl rfl rfl (by decide +kernel) ⟨Nat.le_of_ble_eq_true rfl, Nat.le_of_ble_eq_true rfl⟩) (xPr.give (wc := []) hE hS hP [] rfl) rfl rfl hl.1 rfl (lv_room (Nat.le_of_ble_eq_true rfl)) dX5_plainCommon_9 ⟨(Nat.zero_le _), (Nat.zero_le _)⟩) (fun r_4 hr_5 => ?_)
    obtain rfl : r_4 = nI 0 := by rw [hr_5, isBk_no hbi]; rfl
    refine xb_if_eq (tgt := 19) (a := 0) (by omega) hx hb dX5_plainCommon_12 (by decide) (fun c_6 => ?_) (fun c_6 => ?_)
    · refine lv_iconst (v := nI 1) hx hb dX5_plainCommon_19 (by decide) ?_
      refine xcWi (wr := []) (va_runV (As := [.int (nI 1)]) (rest := []) ⟨hx, hb, hml, hown, hts⟩ ((m_goesWell l D cy t0 a5 mD mI mZ mK mO mB mR mF k th now nl5 kM oM 1 (by omega)) H.size) (cwV 1 hts gX5_plainCommon_X5_goesWell rfl rfl rfl (by decide +kernel) ⟨Nat.le_of_ble_eq_true rfl, Nat.le_of_ble_eq_true rfl⟩) (xPw.giveV (wc := [(a5, .inr (5, [.int th, .int (nI k), .int now, .ref mD, .ref mI, .ref mZ, .int nl5, .ref mK, .ref mO, .ref mB, .ref mR, .ref mF, .int kM, .int oM]))]) hE hS hA hP hD [0] (by decide) rfl 0 5 rfl rfl) rfl rfl hl.1 rfl (lv_room (Nat.le_of_ble_eq_true rfl)) dX5_plainCommon_20 ⟨(Nat.zero_le _), (Nat.zero_le _)⟩) hP hD hS hA [0] [] rfl rfl (by decide) (by decide) (fun r_7 u_9 H locs hr_8 hP hD hS => ?_)
      obtain rfl : r_7 = nI 0 := by rw [hr_8]; rfl
      have hP := hP.sub (ws' := [(a5, .inr (5, [.int (nI 1), .int (nI k), .int now, .ref mD, .ref mI, .ref mZ, .int nl5, .ref mK, .ref mO, .ref mB, .ref mR, .ref mF, .int kM, .int oM]))]) [0] rfl
      have hD := hD.sub (ws' := [(a5, .inr (5, [.int (nI 1), .int (nI k), .int now, .ref mD, .ref mI, .ref mZ, .int nl5, .ref mK, .ref mO, .ref mB, .ref mR, .ref mF, .int kM, .int oM]))]) [0] (by decide) rfl
      refine xb_if_ne (tgt := 28) (a := 0) (by omega) hx hb dX5_plainCommon_23 (by decide) (fun c_10 => ?_) (fun c_10 => ?_)
      · exact absurd c_10 (by omega)
      · refine lv_iconst (v := nI 0) hx hb dX5_plainCommon_26 (by decide) ?_
        exact kret _ () _ _ _ _ _ _ dX5_plainCommon_27 trivial hP hD hS (Nat.le_of_ble_eq_true rfl) (Nat.le_of_ble_eq_true rfl)
    · exact absurd c_6 (by omega)
set_option maxHeartbeats 4000000 in
set_option maxRecDepth 100000 in
theorem m_togetherU (l : Launch) (D : va_G) (cy : Nat → ClassId) (t0 : Nat) (a5 mD mI mZ mK mO mB mR mF k : Nat) (th now nl5 kM oM : Int32) (b : Nat) (p1 : Int32) (hb6 : b < 6) (hbi : p1 < 0 ∨ nI 6 ≤ p1) : xWi (S := Unit) l yX5_together wsX5_together ({ frames := 1, cells := 0, slots := 0, locals := 21 } : Room) D cy t0 ([.ref a5, .int (nI b), .int p1]) ([(a5, .inr (5, [.int th, .int (nI k), .int now, .ref mD, .ref mI, .ref mZ, .int nl5, .ref mK, .ref mO, .ref mB, .ref mR, .ref mF, .int kM, .int oM]))]) (fun _ _ => True) (fun _ => [(a5, .inr (5, [.int (nI 1), .int (nI k), .int now, .ref mD, .ref mI, .ref mZ, .int nl5, .ref mK, .ref mO, .ref mB, .ref mR, .ref mF, .int kM, .int oM]))]) 0 0 := by
  refine xofWi (cc := cX5_together) (maxL := 3) (by decide) rfl (Nat.le_of_ble_eq_true rfl) (fun _ _ _ => rfl) ?_
  intro p e s m below meth c Q A ls hx hb hml hts hown hE hA H locs hP hD hl hS kret
  have hl : lv_has ls 3 [(0, .ref a5), (1, .int (nI b)), (2, .int p1)] := hl
  refine lv_aload_n hx hb dX5_together_0 rfl (lv_at hl 0 rfl) ?_
  refine lv_iload_n hx hb dX5_together_1 rfl (lv_at hl 1 rfl) ?_
  refine xcRi (va_runS (As := [.int (nI b)]) (rest := [.ref a5]) ⟨hx, hb, hml, hown, hts⟩ (m_isBasket l D cy t0 (nI b)) (va_cwS 1 hts gX5_together_X5_isBasket rfl rfl rfl (by decide +kernel) ⟨Nat.le_of_ble_eq_true rfl, Nat.le_of_ble_eq_true rfl⟩) (xPr.give (wc := []) hE hS hP [] rfl) rfl rfl hl.1 rfl (lv_room (Nat.le_of_ble_eq_true rfl)) dX5_together_2 ⟨(Nat.zero_le _), (Nat.zero_le _)⟩) (fun r_1 hr_2 => ?_)
  obtain rfl : r_1 = nI 1 := by rw [hr_2, isBk_lt hb6]; rfl
  refine xb_if_eq (tgt := 19) (a := 1) (by omega) hx hb dX5_together_5 (by decide) (fun c_3 => ?_) (fun c_3 => ?_)
  · exact absurd c_3 (by omega)
  · refine lv_iload_n hx hb dX5_together_8 rfl (lv_at hl 2 rfl) ?_
    refine xcRi (va_runS (As := [.int p1]) (rest := [.ref a5]) ⟨hx, hb, hml, hown, hts⟩ (m_isBasket l D cy t0 p1) (va_cwS 1 hts gX5_together_X5_isBasket rfl rfl rfl (by decide +kernel) ⟨Nat.le_of_ble_eq_true rfl, Nat.le_of_ble_eq_true rfl⟩) (xPr.give (wc := []) hE hS hP [] rfl) rfl rfl hl.1 rfl (lv_room (Nat.le_of_ble_eq_true rfl)) dX5_together_9 ⟨(Nat.zero_le _), (Nat.zero_le _)⟩) (fun r_4 hr_5 => ?_)
    obtain rfl : r_4 = nI 0 := by rw [hr_5, isBk_no hbi]; rfl
    refine xb_if_eq (tgt := 19) (a := 0) (by omega) hx hb dX5_together_12 (by decide) (fun c_6 => ?_) (fun c_6 => ?_)
    · refine lv_iconst (v := nI 1) hx hb dX5_together_19 (by decide) ?_
      refine xcWi (wr := []) (va_runV (As := [.int (nI 1)]) (rest := []) ⟨hx, hb, hml, hown, hts⟩ ((m_goesWell l D cy t0 a5 mD mI mZ mK mO mB mR mF k th now nl5 kM oM 1 (by omega)) H.size) (cwV 1 hts gX5_together_X5_goesWell rfl rfl rfl (by decide +kernel) ⟨Nat.le_of_ble_eq_true rfl, Nat.le_of_ble_eq_true rfl⟩) (xPw.giveV (wc := [(a5, .inr (5, [.int th, .int (nI k), .int now, .ref mD, .ref mI, .ref mZ, .int nl5, .ref mK, .ref mO, .ref mB, .ref mR, .ref mF, .int kM, .int oM]))]) hE hS hA hP hD [0] (by decide) rfl 0 5 rfl rfl) rfl rfl hl.1 rfl (lv_room (Nat.le_of_ble_eq_true rfl)) dX5_together_20 ⟨(Nat.zero_le _), (Nat.zero_le _)⟩) hP hD hS hA [0] [] rfl rfl (by decide) (by decide) (fun r_7 u_9 H locs hr_8 hP hD hS => ?_)
      obtain rfl : r_7 = nI 0 := by rw [hr_8]; rfl
      have hP := hP.sub (ws' := [(a5, .inr (5, [.int (nI 1), .int (nI k), .int now, .ref mD, .ref mI, .ref mZ, .int nl5, .ref mK, .ref mO, .ref mB, .ref mR, .ref mF, .int kM, .int oM]))]) [0] rfl
      have hD := hD.sub (ws' := [(a5, .inr (5, [.int (nI 1), .int (nI k), .int now, .ref mD, .ref mI, .ref mZ, .int nl5, .ref mK, .ref mO, .ref mB, .ref mR, .ref mF, .int kM, .int oM]))]) [0] (by decide) rfl
      refine xb_if_eq (tgt := 36) (a := 0) (by omega) hx hb dX5_together_23 (by decide) (fun c_10 => ?_) (fun c_10 => ?_)
      · refine lv_iconst (v := nI 0) hx hb dX5_together_36 (by decide) ?_
        exact kret _ () _ _ _ _ _ _ dX5_together_37 trivial hP hD hS (Nat.le_of_ble_eq_true rfl) (Nat.le_of_ble_eq_true rfl)
      · exact absurd c_10 (by omega)
    · exact absurd c_6 (by omega)
set_option maxHeartbeats 4000000 in
set_option maxRecDepth 100000 in
theorem m_commonU (l : Launch) (D : va_G) (cy : Nat → ClassId) (t0 : Nat) (a5 mD mI mZ mK mO mB mR mF k : Nat) (th now nl5 kM oM : Int32) (b : Nat) (p1 : Int32) (hb6 : b < 6) (hbi : p1 < 0 ∨ nI 6 ≤ p1) : xWi (S := Unit) l yX5_common wsX5_common ({ frames := 1, cells := 0, slots := 0, locals := 21 } : Room) D cy t0 ([.ref a5, .int (nI b), .int p1]) ([(a5, .inr (5, [.int th, .int (nI k), .int now, .ref mD, .ref mI, .ref mZ, .int nl5, .ref mK, .ref mO, .ref mB, .ref mR, .ref mF, .int kM, .int oM]))]) (fun _ _ => True) (fun _ => [(a5, .inr (5, [.int (nI 1), .int (nI k), .int now, .ref mD, .ref mI, .ref mZ, .int nl5, .ref mK, .ref mO, .ref mB, .ref mR, .ref mF, .int kM, .int oM]))]) 0 0 := by
  refine xofWi (cc := cX5_common) (maxL := 3) (by decide) rfl (Nat.le_of_ble_eq_true rfl) (fun _ _ _ => rfl) ?_
  intro p e s m below meth c Q A ls hx hb hml hts hown hE hA H locs hP hD hl hS kret
  have hl : lv_has ls 3 [(0, .ref a5), (1, .int (nI b)), (2, .int p1)] := hl
  refine lv_aload_n hx hb dX5_common_0 rfl (lv_at hl 0 rfl) ?_
  refine lv_iload_n hx hb dX5_common_1 rfl (lv_at hl 1 rfl) ?_
  refine xcRi (va_runS (As := [.int (nI b)]) (rest := [.ref a5]) ⟨hx, hb, hml, hown, hts⟩ (m_isBasket l D cy t0 (nI b)) (va_cwS 1 hts gX5_common_X5_isBasket rfl rfl rfl (by decide +kernel) ⟨Nat.le_of_ble_eq_true rfl, Nat.le_of_ble_eq_true rfl⟩) (xPr.give (wc := []) hE hS hP [] rfl) rfl rfl hl.1 rfl (lv_room (Nat.le_of_ble_eq_true rfl)) dX5_common_2 ⟨(Nat.zero_le _), (Nat.zero_le _)⟩) (fun r_1 hr_2 => ?_)
  obtain rfl : r_1 = nI 1 := by rw [hr_2, isBk_lt hb6]; rfl
  refine xb_if_eq (tgt := 19) (a := 1) (by omega) hx hb dX5_common_5 (by decide) (fun c_3 => ?_) (fun c_3 => ?_)
  · exact absurd c_3 (by omega)
  · refine lv_iload_n hx hb dX5_common_8 rfl (lv_at hl 2 rfl) ?_
    refine xcRi (va_runS (As := [.int p1]) (rest := [.ref a5]) ⟨hx, hb, hml, hown, hts⟩ (m_isBasket l D cy t0 p1) (va_cwS 1 hts gX5_common_X5_isBasket rfl rfl rfl (by decide +kernel) ⟨Nat.le_of_ble_eq_true rfl, Nat.le_of_ble_eq_true rfl⟩) (xPr.give (wc := []) hE hS hP [] rfl) rfl rfl hl.1 rfl (lv_room (Nat.le_of_ble_eq_true rfl)) dX5_common_9 ⟨(Nat.zero_le _), (Nat.zero_le _)⟩) (fun r_4 hr_5 => ?_)
    obtain rfl : r_4 = nI 0 := by rw [hr_5, isBk_no hbi]; rfl
    refine xb_if_eq (tgt := 19) (a := 0) (by omega) hx hb dX5_common_12 (by decide) (fun c_6 => ?_) (fun c_6 => ?_)
    · refine lv_iconst (v := nI 1) hx hb dX5_common_19 (by decide) ?_
      refine xcWi (wr := []) (va_runV (As := [.int (nI 1)]) (rest := []) ⟨hx, hb, hml, hown, hts⟩ ((m_goesWell l D cy t0 a5 mD mI mZ mK mO mB mR mF k th now nl5 kM oM 1 (by omega)) H.size) (cwV 1 hts gX5_common_X5_goesWell rfl rfl rfl (by decide +kernel) ⟨Nat.le_of_ble_eq_true rfl, Nat.le_of_ble_eq_true rfl⟩) (xPw.giveV (wc := [(a5, .inr (5, [.int th, .int (nI k), .int now, .ref mD, .ref mI, .ref mZ, .int nl5, .ref mK, .ref mO, .ref mB, .ref mR, .ref mF, .int kM, .int oM]))]) hE hS hA hP hD [0] (by decide) rfl 0 5 rfl rfl) rfl rfl hl.1 rfl (lv_room (Nat.le_of_ble_eq_true rfl)) dX5_common_20 ⟨(Nat.zero_le _), (Nat.zero_le _)⟩) hP hD hS hA [0] [] rfl rfl (by decide) (by decide) (fun r_7 u_9 H locs hr_8 hP hD hS => ?_)
      obtain rfl : r_7 = nI 0 := by rw [hr_8]; rfl
      have hP := hP.sub (ws' := [(a5, .inr (5, [.int (nI 1), .int (nI k), .int now, .ref mD, .ref mI, .ref mZ, .int nl5, .ref mK, .ref mO, .ref mB, .ref mR, .ref mF, .int kM, .int oM]))]) [0] rfl
      have hD := hD.sub (ws' := [(a5, .inr (5, [.int (nI 1), .int (nI k), .int now, .ref mD, .ref mI, .ref mZ, .int nl5, .ref mK, .ref mO, .ref mB, .ref mR, .ref mF, .int kM, .int oM]))]) [0] (by decide) rfl
      refine xb_if_eq (tgt := 36) (a := 0) (by omega) hx hb dX5_common_23 (by decide) (fun c_10 => ?_) (fun c_10 => ?_)
      · refine lv_iconst (v := nI 0) hx hb dX5_common_36 (by decide) ?_
        exact kret _ () _ _ _ _ _ _ dX5_common_37 trivial hP hD hS (Nat.le_of_ble_eq_true rfl) (Nat.le_of_ble_eq_true rfl)
      · exact absurd c_10 (by omega)
    · exact absurd c_6 (by omega)
set_option maxHeartbeats 4000000 in
set_option maxRecDepth 100000 in
theorem m_withoutU (l : Launch) (D : va_G) (cy : Nat → ClassId) (t0 : Nat) (a5 mD mI mZ mK mO mB mR mF k : Nat) (th now nl5 kM oM : Int32) (b : Nat) (p1 : Int32) (hb6 : b < 6) (hbi : p1 < 0 ∨ nI 6 ≤ p1) : xWi (S := Unit) l yX5_without wsX5_without ({ frames := 1, cells := 0, slots := 0, locals := 21 } : Room) D cy t0 ([.ref a5, .int (nI b), .int p1]) ([(a5, .inr (5, [.int th, .int (nI k), .int now, .ref mD, .ref mI, .ref mZ, .int nl5, .ref mK, .ref mO, .ref mB, .ref mR, .ref mF, .int kM, .int oM]))]) (fun _ _ => True) (fun _ => [(a5, .inr (5, [.int (nI 1), .int (nI k), .int now, .ref mD, .ref mI, .ref mZ, .int nl5, .ref mK, .ref mO, .ref mB, .ref mR, .ref mF, .int kM, .int oM]))]) 0 0 := by
  refine xofWi (cc := cX5_without) (maxL := 3) (by decide) rfl (Nat.le_of_ble_eq_true rfl) (fun _ _ _ => rfl) ?_
  intro p e s m below meth c Q A ls hx hb hml hts hown hE hA H locs hP hD hl hS kret
  have hl : lv_has ls 3 [(0, .ref a5), (1, .int (nI b)), (2, .int p1)] := hl
  refine lv_aload_n hx hb dX5_without_0 rfl (lv_at hl 0 rfl) ?_
  refine lv_iload_n hx hb dX5_without_1 rfl (lv_at hl 1 rfl) ?_
  refine xcRi (va_runS (As := [.int (nI b)]) (rest := [.ref a5]) ⟨hx, hb, hml, hown, hts⟩ (m_isBasket l D cy t0 (nI b)) (va_cwS 1 hts gX5_without_X5_isBasket rfl rfl rfl (by decide +kernel) ⟨Nat.le_of_ble_eq_true rfl, Nat.le_of_ble_eq_true rfl⟩) (xPr.give (wc := []) hE hS hP [] rfl) rfl rfl hl.1 rfl (lv_room (Nat.le_of_ble_eq_true rfl)) dX5_without_2 ⟨(Nat.zero_le _), (Nat.zero_le _)⟩) (fun r_1 hr_2 => ?_)
  obtain rfl : r_1 = nI 1 := by rw [hr_2, isBk_lt hb6]; rfl
  refine xb_if_eq (tgt := 19) (a := 1) (by omega) hx hb dX5_without_5 (by decide) (fun c_3 => ?_) (fun c_3 => ?_)
  · exact absurd c_3 (by omega)
  · refine lv_iload_n hx hb dX5_without_8 rfl (lv_at hl 2 rfl) ?_
    refine xcRi (va_runS (As := [.int p1]) (rest := [.ref a5]) ⟨hx, hb, hml, hown, hts⟩ (m_isBasket l D cy t0 p1) (va_cwS 1 hts gX5_without_X5_isBasket rfl rfl rfl (by decide +kernel) ⟨Nat.le_of_ble_eq_true rfl, Nat.le_of_ble_eq_true rfl⟩) (xPr.give (wc := []) hE hS hP [] rfl) rfl rfl hl.1 rfl (lv_room (Nat.le_of_ble_eq_true rfl)) dX5_without_9 ⟨(Nat.zero_le _), (Nat.zero_le _)⟩) (fun r_4 hr_5 => ?_)
    obtain rfl : r_4 = nI 0 := by rw [hr_5, isBk_no hbi]; rfl
    refine xb_if_eq (tgt := 19) (a := 0) (by omega) hx hb dX5_without_12 (by decide) (fun c_6 => ?_) (fun c_6 => ?_)
    · refine lv_iconst (v := nI 1) hx hb dX5_without_19 (by decide) ?_
      refine xcWi (wr := []) (va_runV (As := [.int (nI 1)]) (rest := []) ⟨hx, hb, hml, hown, hts⟩ ((m_goesWell l D cy t0 a5 mD mI mZ mK mO mB mR mF k th now nl5 kM oM 1 (by omega)) H.size) (cwV 1 hts gX5_without_X5_goesWell rfl rfl rfl (by decide +kernel) ⟨Nat.le_of_ble_eq_true rfl, Nat.le_of_ble_eq_true rfl⟩) (xPw.giveV (wc := [(a5, .inr (5, [.int th, .int (nI k), .int now, .ref mD, .ref mI, .ref mZ, .int nl5, .ref mK, .ref mO, .ref mB, .ref mR, .ref mF, .int kM, .int oM]))]) hE hS hA hP hD [0] (by decide) rfl 0 5 rfl rfl) rfl rfl hl.1 rfl (lv_room (Nat.le_of_ble_eq_true rfl)) dX5_without_20 ⟨(Nat.zero_le _), (Nat.zero_le _)⟩) hP hD hS hA [0] [] rfl rfl (by decide) (by decide) (fun r_7 u_9 H locs hr_8 hP hD hS => ?_)
      obtain rfl : r_7 = nI 0 := by rw [hr_8]; rfl
      have hP := hP.sub (ws' := [(a5, .inr (5, [.int (nI 1), .int (nI k), .int now, .ref mD, .ref mI, .ref mZ, .int nl5, .ref mK, .ref mO, .ref mB, .ref mR, .ref mF, .int kM, .int oM]))]) [0] rfl
      have hD := hD.sub (ws' := [(a5, .inr (5, [.int (nI 1), .int (nI k), .int now, .ref mD, .ref mI, .ref mZ, .int nl5, .ref mK, .ref mO, .ref mB, .ref mR, .ref mF, .int kM, .int oM]))]) [0] (by decide) rfl
      refine xb_if_eq (tgt := 36) (a := 0) (by omega) hx hb dX5_without_23 (by decide) (fun c_10 => ?_) (fun c_10 => ?_)
      · refine lv_iconst (v := nI 0) hx hb dX5_without_36 (by decide) ?_
        exact kret _ () _ _ _ _ _ _ dX5_without_37 trivial hP hD hS (Nat.le_of_ble_eq_true rfl) (Nat.le_of_ble_eq_true rfl)
      · exact absurd c_10 (by omega)
    · exact absurd c_6 (by omega)
set_option maxHeartbeats 4000000 in
set_option maxRecDepth 100000 in
theorem m_addV (l : Launch) (D : va_G) (cy : Nat → ClassId) (t0 : Nat) (a5 mD mI mZ mK mO mB mR mF k : Nat) (th now nl5 kM oM : Int32) (b : Nat) (p1 : Int32) (hb6 : b < 6) (hbad : isIt p1 = false) : xWi (S := Unit) l yX5_add wsX5_add ({ frames := 1, cells := 0, slots := 0, locals := 21 } : Room) D cy t0 ([.ref a5, .int (nI b), .int p1]) ([(a5, .inr (5, [.int th, .int (nI k), .int now, .ref mD, .ref mI, .ref mZ, .int nl5, .ref mK, .ref mO, .ref mB, .ref mR, .ref mF, .int kM, .int oM]))]) (fun r _ => r = nI 0) (fun _ => [(a5, .inr (5, [.int (nI 2), .int (nI k), .int now, .ref mD, .ref mI, .ref mZ, .int nl5, .ref mK, .ref mO, .ref mB, .ref mR, .ref mF, .int kM, .int oM]))]) 0 0 := by
  refine xofWi (cc := cX5_add) (maxL := 3) (by decide) rfl (Nat.le_of_ble_eq_true rfl) (fun r u h => by rw [h]; rfl) ?_
  intro p e s m below meth c Q A ls hx hb hml hts hown hE hA H locs hP hD hl hS kret
  have hl : lv_has ls 3 [(0, .ref a5), (1, .int (nI b)), (2, .int p1)] := hl
  refine lv_aload_n hx hb dX5_add_0 rfl (lv_at hl 0 rfl) ?_
  refine lv_iload_n hx hb dX5_add_1 rfl (lv_at hl 1 rfl) ?_
  refine xcRi (va_runS (As := [.int (nI b)]) (rest := [.ref a5]) ⟨hx, hb, hml, hown, hts⟩ (m_isBasket l D cy t0 (nI b)) (va_cwS 1 hts gX5_add_X5_isBasket rfl rfl rfl (by decide +kernel) ⟨Nat.le_of_ble_eq_true rfl, Nat.le_of_ble_eq_true rfl⟩) (xPr.give (wc := []) hE hS hP [] rfl) rfl rfl hl.1 rfl (lv_room (Nat.le_of_ble_eq_true rfl)) dX5_add_2 ⟨(Nat.zero_le _), (Nat.zero_le _)⟩) (fun r_1 hr_2 => ?_)
  obtain rfl : r_1 = nI 1 := by rw [hr_2, isBk_lt hb6]; rfl
  refine xb_if_ne (tgt := 12) (a := 1) (by omega) hx hb dX5_add_5 (by decide) (fun c_3 => ?_) (fun c_3 => ?_)
  · refine lv_iload_n hx hb dX5_add_12 rfl (lv_at hl 2 rfl) ?_
    refine xcRi (va_runS (As := [.int p1]) (rest := [.ref a5]) ⟨hx, hb, hml, hown, hts⟩ (m_isItem l D cy t0 p1) (va_cwS 1 hts gX5_add_X5_isItem rfl rfl rfl (by decide +kernel) ⟨Nat.le_of_ble_eq_true rfl, Nat.le_of_ble_eq_true rfl⟩) (xPr.give (wc := []) hE hS hP [] rfl) rfl rfl hl.1 rfl (lv_room (Nat.le_of_ble_eq_true rfl)) dX5_add_13 ⟨(Nat.zero_le _), (Nat.zero_le _)⟩) (fun r_4 hr_5 => ?_)
    obtain rfl : r_4 = nI 0 := by rw [hr_5, hbad]; rfl
    refine xb_if_eq (tgt := 23) (a := 0) (by omega) hx hb dX5_add_16 (by decide) (fun c_6 => ?_) (fun c_6 => ?_)
    · refine lv_iconst (v := nI 2) hx hb dX5_add_23 (by decide) ?_
      refine xcWi (wr := []) (va_runV (As := [.int (nI 2)]) (rest := []) ⟨hx, hb, hml, hown, hts⟩ ((m_goesWell l D cy t0 a5 mD mI mZ mK mO mB mR mF k th now nl5 kM oM 2 (by omega)) H.size) (cwV 1 hts gX5_add_X5_goesWell rfl rfl rfl (by decide +kernel) ⟨Nat.le_of_ble_eq_true rfl, Nat.le_of_ble_eq_true rfl⟩) (xPw.giveV (wc := [(a5, .inr (5, [.int th, .int (nI k), .int now, .ref mD, .ref mI, .ref mZ, .int nl5, .ref mK, .ref mO, .ref mB, .ref mR, .ref mF, .int kM, .int oM]))]) hE hS hA hP hD [0] (by decide) rfl 0 5 rfl rfl) rfl rfl hl.1 rfl (lv_room (Nat.le_of_ble_eq_true rfl)) dX5_add_24 ⟨(Nat.zero_le _), (Nat.zero_le _)⟩) hP hD hS hA [0] [] rfl rfl (by decide) (by decide) (fun r_7 u_9 H locs hr_8 hP hD hS => ?_)
      obtain rfl : r_7 = nI 0 := by rw [hr_8]; rfl
      have hP := hP.sub (ws' := [(a5, .inr (5, [.int (nI 2), .int (nI k), .int now, .ref mD, .ref mI, .ref mZ, .int nl5, .ref mK, .ref mO, .ref mB, .ref mR, .ref mF, .int kM, .int oM]))]) [0] rfl
      have hD := hD.sub (ws' := [(a5, .inr (5, [.int (nI 2), .int (nI k), .int now, .ref mD, .ref mI, .ref mZ, .int nl5, .ref mK, .ref mO, .ref mB, .ref mR, .ref mF, .int kM, .int oM]))]) [0] (by decide) rfl
      refine xb_if_eq (tgt := 47) (a := 0) (by omega) hx hb dX5_add_27 (by decide) (fun c_10 => ?_) (fun c_10 => ?_)
      · refine lv_iconst (v := nI 0) hx hb dX5_add_47 (by decide) ?_
        exact kret _ () _ _ _ _ _ _ dX5_add_48 rfl hP hD hS (Nat.le_of_ble_eq_true rfl) (Nat.le_of_ble_eq_true rfl)
      · exact absurd c_10 (by omega)
    · exact absurd c_6 (by omega)
  · exact absurd c_3 (by omega)
set_option maxHeartbeats 4000000 in
set_option maxRecDepth 100000 in
theorem m_dateOfV (l : Launch) (D : va_G) (cy : Nat → ClassId) (t0 : Nat) (a5 mD mI mZ mK mO mB mR mF k : Nat) (th now nl5 kM oM : Int32) (b : Nat) (p1 : Int32) (hb6 : b < 6) (hbad : isIt p1 = false) : xWi (S := Unit) l yX5_dateOf wsX5_dateOf ({ frames := 1, cells := 0, slots := 0, locals := 21 } : Room) D cy t0 ([.ref a5, .int (nI b), .int p1]) ([(a5, .inr (5, [.int th, .int (nI k), .int now, .ref mD, .ref mI, .ref mZ, .int nl5, .ref mK, .ref mO, .ref mB, .ref mR, .ref mF, .int kM, .int oM]))]) (fun _ _ => True) (fun _ => [(a5, .inr (5, [.int (nI 2), .int (nI k), .int now, .ref mD, .ref mI, .ref mZ, .int nl5, .ref mK, .ref mO, .ref mB, .ref mR, .ref mF, .int kM, .int oM]))]) 0 0 := by
  refine xofWi (cc := cX5_dateOf) (maxL := 3) (by decide) rfl (Nat.le_of_ble_eq_true rfl) (fun _ _ _ => rfl) ?_
  intro p e s m below meth c Q A ls hx hb hml hts hown hE hA H locs hP hD hl hS kret
  have hl : lv_has ls 3 [(0, .ref a5), (1, .int (nI b)), (2, .int p1)] := hl
  refine lv_aload_n hx hb dX5_dateOf_0 rfl (lv_at hl 0 rfl) ?_
  refine lv_iload_n hx hb dX5_dateOf_1 rfl (lv_at hl 1 rfl) ?_
  refine xcRi (va_runS (As := [.int (nI b)]) (rest := [.ref a5]) ⟨hx, hb, hml, hown, hts⟩ (m_isBasket l D cy t0 (nI b)) (va_cwS 1 hts gX5_dateOf_X5_isBasket rfl rfl rfl (by decide +kernel) ⟨Nat.le_of_ble_eq_true rfl, Nat.le_of_ble_eq_true rfl⟩) (xPr.give (wc := []) hE hS hP [] rfl) rfl rfl hl.1 rfl (lv_room (Nat.le_of_ble_eq_true rfl)) dX5_dateOf_2 ⟨(Nat.zero_le _), (Nat.zero_le _)⟩) (fun r_1 hr_2 => ?_)
  obtain rfl : r_1 = nI 1 := by rw [hr_2, isBk_lt hb6]; rfl
  refine xb_if_ne (tgt := 12) (a := 1) (by omega) hx hb dX5_dateOf_5 (by decide) (fun c_3 => ?_) (fun c_3 => ?_)
  · refine lv_iload_n hx hb dX5_dateOf_12 rfl (lv_at hl 2 rfl) ?_
    refine xcRi (va_runS (As := [.int p1]) (rest := [.ref a5]) ⟨hx, hb, hml, hown, hts⟩ (m_isItem l D cy t0 p1) (va_cwS 1 hts gX5_dateOf_X5_isItem rfl rfl rfl (by decide +kernel) ⟨Nat.le_of_ble_eq_true rfl, Nat.le_of_ble_eq_true rfl⟩) (xPr.give (wc := []) hE hS hP [] rfl) rfl rfl hl.1 rfl (lv_room (Nat.le_of_ble_eq_true rfl)) dX5_dateOf_13 ⟨(Nat.zero_le _), (Nat.zero_le _)⟩) (fun r_4 hr_5 => ?_)
    obtain rfl : r_4 = nI 0 := by rw [hr_5, hbad]; rfl
    refine xb_if_eq (tgt := 23) (a := 0) (by omega) hx hb dX5_dateOf_16 (by decide) (fun c_6 => ?_) (fun c_6 => ?_)
    · refine lv_iconst (v := nI 2) hx hb dX5_dateOf_23 (by decide) ?_
      refine xcWi (wr := []) (va_runV (As := [.int (nI 2)]) (rest := []) ⟨hx, hb, hml, hown, hts⟩ ((m_goesWell l D cy t0 a5 mD mI mZ mK mO mB mR mF k th now nl5 kM oM 2 (by omega)) H.size) (cwV 1 hts gX5_dateOf_X5_goesWell rfl rfl rfl (by decide +kernel) ⟨Nat.le_of_ble_eq_true rfl, Nat.le_of_ble_eq_true rfl⟩) (xPw.giveV (wc := [(a5, .inr (5, [.int th, .int (nI k), .int now, .ref mD, .ref mI, .ref mZ, .int nl5, .ref mK, .ref mO, .ref mB, .ref mR, .ref mF, .int kM, .int oM]))]) hE hS hA hP hD [0] (by decide) rfl 0 5 rfl rfl) rfl rfl hl.1 rfl (lv_room (Nat.le_of_ble_eq_true rfl)) dX5_dateOf_24 ⟨(Nat.zero_le _), (Nat.zero_le _)⟩) hP hD hS hA [0] [] rfl rfl (by decide) (by decide) (fun r_7 u_9 H locs hr_8 hP hD hS => ?_)
      obtain rfl : r_7 = nI 0 := by rw [hr_8]; rfl
      have hP := hP.sub (ws' := [(a5, .inr (5, [.int (nI 2), .int (nI k), .int now, .ref mD, .ref mI, .ref mZ, .int nl5, .ref mK, .ref mO, .ref mB, .ref mR, .ref mF, .int kM, .int oM]))]) [0] rfl
      have hD := hD.sub (ws' := [(a5, .inr (5, [.int (nI 2), .int (nI k), .int now, .ref mD, .ref mI, .ref mZ, .int nl5, .ref mK, .ref mO, .ref mB, .ref mR, .ref mF, .int kM, .int oM]))]) [0] (by decide) rfl
      refine xb_if_eq (tgt := 44) (a := 0) (by omega) hx hb dX5_dateOf_27 (by decide) (fun c_10 => ?_) (fun c_10 => ?_)
      · refine lv_iconst (v := nI 0) hx hb dX5_dateOf_44 (by decide) ?_
        exact kret _ () _ _ _ _ _ _ dX5_dateOf_45 trivial hP hD hS (Nat.le_of_ble_eq_true rfl) (Nat.le_of_ble_eq_true rfl)
      · exact absurd c_10 (by omega)
    · exact absurd c_6 (by omega)
  · exact absurd c_3 (by omega)
set_option maxHeartbeats 4000000 in
set_option maxRecDepth 100000 in
theorem m_hashV (l : Launch) (D : va_G) (cy : Nat → ClassId) (t0 : Nat) (a5 mD mI mZ mK mO mB mR mF k : Nat) (th now nl5 kM oM : Int32) (p0 : Int32) (hbad : isIt p0 = false) : xWi (S := Unit) l yX5_hash wsX5_hash ({ frames := 1, cells := 0, slots := 0, locals := 21 } : Room) D cy t0 ([.ref a5, .int p0]) ([(a5, .inr (5, [.int th, .int (nI k), .int now, .ref mD, .ref mI, .ref mZ, .int nl5, .ref mK, .ref mO, .ref mB, .ref mR, .ref mF, .int kM, .int oM]))]) (fun _ _ => True) (fun _ => [(a5, .inr (5, [.int (nI 1), .int (nI k), .int now, .ref mD, .ref mI, .ref mZ, .int nl5, .ref mK, .ref mO, .ref mB, .ref mR, .ref mF, .int kM, .int oM]))]) 0 0 := by
  refine xofWi (cc := cX5_hash) (maxL := 2) (by decide) rfl (Nat.le_of_ble_eq_true rfl) (fun _ _ _ => rfl) ?_
  intro p e s m below meth c Q A ls hx hb hml hts hown hE hA H locs hP hD hl hS kret
  have hl : lv_has ls 2 [(0, .ref a5), (1, .int p0)] := hl
  refine lv_aload_n hx hb dX5_hash_0 rfl (lv_at hl 0 rfl) ?_
  refine lv_iload_n hx hb dX5_hash_1 rfl (lv_at hl 1 rfl) ?_
  refine xcRi (va_runS (As := [.int p0]) (rest := [.ref a5]) ⟨hx, hb, hml, hown, hts⟩ (m_isItem l D cy t0 p0) (va_cwS 1 hts gX5_hash_X5_isItem rfl rfl rfl (by decide +kernel) ⟨Nat.le_of_ble_eq_true rfl, Nat.le_of_ble_eq_true rfl⟩) (xPr.give (wc := []) hE hS hP [] rfl) rfl rfl hl.1 rfl (lv_room (Nat.le_of_ble_eq_true rfl)) dX5_hash_2 ⟨(Nat.zero_le _), (Nat.zero_le _)⟩) (fun r_1 hr_2 => ?_)
  obtain rfl : r_1 = nI 0 := by rw [hr_2, hbad]; rfl
  refine xb_if_eq (tgt := 12) (a := 0) (by omega) hx hb dX5_hash_5 (by decide) (fun c_3 => ?_) (fun c_3 => ?_)
  · refine lv_iconst (v := nI 1) hx hb dX5_hash_12 (by decide) ?_
    refine xcWi (wr := []) (va_runV (As := [.int (nI 1)]) (rest := []) ⟨hx, hb, hml, hown, hts⟩ ((m_goesWell l D cy t0 a5 mD mI mZ mK mO mB mR mF k th now nl5 kM oM 1 (by omega)) H.size) (cwV 1 hts gX5_hash_X5_goesWell rfl rfl rfl (by decide +kernel) ⟨Nat.le_of_ble_eq_true rfl, Nat.le_of_ble_eq_true rfl⟩) (xPw.giveV (wc := [(a5, .inr (5, [.int th, .int (nI k), .int now, .ref mD, .ref mI, .ref mZ, .int nl5, .ref mK, .ref mO, .ref mB, .ref mR, .ref mF, .int kM, .int oM]))]) hE hS hA hP hD [0] (by decide) rfl 0 5 rfl rfl) rfl rfl hl.1 rfl (lv_room (Nat.le_of_ble_eq_true rfl)) dX5_hash_13 ⟨(Nat.zero_le _), (Nat.zero_le _)⟩) hP hD hS hA [0] [] rfl rfl (by decide) (by decide) (fun r_4 u_6 H locs hr_5 hP hD hS => ?_)
    obtain rfl : r_4 = nI 0 := by rw [hr_5]; rfl
    have hP := hP.sub (ws' := [(a5, .inr (5, [.int (nI 1), .int (nI k), .int now, .ref mD, .ref mI, .ref mZ, .int nl5, .ref mK, .ref mO, .ref mB, .ref mR, .ref mF, .int kM, .int oM]))]) [0] rfl
    have hD := hD.sub (ws' := [(a5, .inr (5, [.int (nI 1), .int (nI k), .int now, .ref mD, .ref mI, .ref mZ, .int nl5, .ref mK, .ref mO, .ref mB, .ref mR, .ref mF, .int kM, .int oM]))]) [0] (by decide) rfl
    refine xb_if_eq (tgt := 26) (a := 0) (by omega) hx hb dX5_hash_16 (by decide) (fun c_7 => ?_) (fun c_7 => ?_)
    · refine lv_iconst (v := nI 0) hx hb dX5_hash_26 (by decide) ?_
      exact kret _ () _ _ _ _ _ _ dX5_hash_27 trivial hP hD hS (Nat.le_of_ble_eq_true rfl) (Nat.le_of_ble_eq_true rfl)
    · exact absurd c_7 (by omega)
  · exact absurd c_3 (by omega)
set_option maxHeartbeats 4000000 in
set_option maxRecDepth 100000 in
theorem m_passV (l : Launch) (D : va_G) (cy : Nat → ClassId) (t0 : Nat) (a5 mD mI mZ mK mO mB mR mF k : Nat) (th now nl5 kM oM : Int32) (p0 : Int32) (hbad : p0 < nI 1 ∨ nI 1000 < p0) : xWi (S := Unit) l yX5_pass wsX5_pass ({ frames := 1, cells := 0, slots := 0, locals := 21 } : Room) D cy t0 ([.ref a5, .int p0]) ([(a5, .inr (5, [.int th, .int (nI k), .int now, .ref mD, .ref mI, .ref mZ, .int nl5, .ref mK, .ref mO, .ref mB, .ref mR, .ref mF, .int kM, .int oM]))]) (fun _ _ => True) (fun _ => [(a5, .inr (5, [.int (nI 1), .int (nI k), .int now, .ref mD, .ref mI, .ref mZ, .int nl5, .ref mK, .ref mO, .ref mB, .ref mR, .ref mF, .int kM, .int oM]))]) 0 0 := by
  refine xofWi (cc := cX5_pass) (maxL := 2) (by decide) rfl (Nat.le_of_ble_eq_true rfl) (fun _ _ _ => rfl) ?_
  intro p e s m below meth c Q A ls hx hb hml hts hown hE hA H locs hP hD hl hS kret
  have hl : lv_has ls 2 [(0, .ref a5), (1, .int p0)] := hl
  refine lv_aload_n hx hb dX5_pass_0 rfl (lv_at hl 0 rfl) ?_
  refine lv_iload_n hx hb dX5_pass_1 rfl (lv_at hl 1 rfl) ?_
  refine lv_iconst (v := nI 1) hx hb dX5_pass_2 (by decide) ?_
  refine lv_icmp_lt (tgt := 17) hx hb dX5_pass_3 (by decide) (fun c_1 => ?_) (fun c_1 => ?_)
  · refine lv_iconst (v := nI 1) hx hb dX5_pass_17 (by decide) ?_
    refine xcWi (wr := []) (va_runV (As := [.int (nI 1)]) (rest := []) ⟨hx, hb, hml, hown, hts⟩ ((m_goesWell l D cy t0 a5 mD mI mZ mK mO mB mR mF k th now nl5 kM oM 1 (by omega)) H.size) (cwV 1 hts gX5_pass_X5_goesWell rfl rfl rfl (by decide +kernel) ⟨Nat.le_of_ble_eq_true rfl, Nat.le_of_ble_eq_true rfl⟩) (xPw.giveV (wc := [(a5, .inr (5, [.int th, .int (nI k), .int now, .ref mD, .ref mI, .ref mZ, .int nl5, .ref mK, .ref mO, .ref mB, .ref mR, .ref mF, .int kM, .int oM]))]) hE hS hA hP hD [0] (by decide) rfl 0 5 rfl rfl) rfl rfl hl.1 rfl (lv_room (Nat.le_of_ble_eq_true rfl)) dX5_pass_18 ⟨(Nat.zero_le _), (Nat.zero_le _)⟩) hP hD hS hA [0] [] rfl rfl (by decide) (by decide) (fun r_2 u_4 H locs hr_3 hP hD hS => ?_)
    obtain rfl : r_2 = nI 0 := by rw [hr_3]; rfl
    have hP := hP.sub (ws' := [(a5, .inr (5, [.int (nI 1), .int (nI k), .int now, .ref mD, .ref mI, .ref mZ, .int nl5, .ref mK, .ref mO, .ref mB, .ref mR, .ref mF, .int kM, .int oM]))]) [0] rfl
    have hD := hD.sub (ws' := [(a5, .inr (5, [.int (nI 1), .int (nI k), .int now, .ref mD, .ref mI, .ref mZ, .int nl5, .ref mK, .ref mO, .ref mB, .ref mR, .ref mF, .int kM, .int oM]))]) [0] (by decide) rfl
    refine xb_if_ne (tgt := 26) (a := 0) (by omega) hx hb dX5_pass_21 (by decide) (fun c_5 => ?_) (fun c_5 => ?_)
    · exact absurd c_5 (by omega)
    · refine lv_iconst (v := nI 0) hx hb dX5_pass_24 (by decide) ?_
      exact kret _ () _ _ _ _ _ _ dX5_pass_25 trivial hP hD hS (Nat.le_of_ble_eq_true rfl) (Nat.le_of_ble_eq_true rfl)
  · refine lv_iload_n hx hb dX5_pass_6 rfl (lv_at hl 1 rfl) ?_
    refine lv_sipush (v := nI 1000) hx hb dX5_pass_7 (by decide) ?_
    refine lv_icmp_gt (tgt := 17) hx hb dX5_pass_10 (by decide) (fun c_6 => ?_) (fun c_6 => ?_)
    · refine lv_iconst (v := nI 1) hx hb dX5_pass_17 (by decide) ?_
      refine xcWi (wr := []) (va_runV (As := [.int (nI 1)]) (rest := []) ⟨hx, hb, hml, hown, hts⟩ ((m_goesWell l D cy t0 a5 mD mI mZ mK mO mB mR mF k th now nl5 kM oM 1 (by omega)) H.size) (cwV 1 hts gX5_pass_X5_goesWell rfl rfl rfl (by decide +kernel) ⟨Nat.le_of_ble_eq_true rfl, Nat.le_of_ble_eq_true rfl⟩) (xPw.giveV (wc := [(a5, .inr (5, [.int th, .int (nI k), .int now, .ref mD, .ref mI, .ref mZ, .int nl5, .ref mK, .ref mO, .ref mB, .ref mR, .ref mF, .int kM, .int oM]))]) hE hS hA hP hD [0] (by decide) rfl 0 5 rfl rfl) rfl rfl hl.1 rfl (lv_room (Nat.le_of_ble_eq_true rfl)) dX5_pass_18 ⟨(Nat.zero_le _), (Nat.zero_le _)⟩) hP hD hS hA [0] [] rfl rfl (by decide) (by decide) (fun r_7 u_9 H locs hr_8 hP hD hS => ?_)
      obtain rfl : r_7 = nI 0 := by rw [hr_8]; rfl
      have hP := hP.sub (ws' := [(a5, .inr (5, [.int (nI 1), .int (nI k), .int now, .ref mD, .ref mI, .ref mZ, .int nl5, .ref mK, .ref mO, .ref mB, .ref mR, .ref mF, .int kM, .int oM]))]) [0] rfl
      have hD := hD.sub (ws' := [(a5, .inr (5, [.int (nI 1), .int (nI k), .int now, .ref mD, .ref mI, .ref mZ, .int nl5, .ref mK, .ref mO, .ref mB, .ref mR, .ref mF, .int kM, .int oM]))]) [0] (by decide) rfl
      refine xb_if_ne (tgt := 26) (a := 0) (by omega) hx hb dX5_pass_21 (by decide) (fun c_10 => ?_) (fun c_10 => ?_)
      · exact absurd c_10 (by omega)
      · refine lv_iconst (v := nI 0) hx hb dX5_pass_24 (by decide) ?_
        exact kret _ () _ _ _ _ _ _ dX5_pass_25 trivial hP hD hS (Nat.le_of_ble_eq_true rfl) (Nat.le_of_ble_eq_true rfl)
    · exact absurd (hbad.resolve_left c_1) c_6
set_option maxHeartbeats 4000000 in
set_option maxRecDepth 100000 in
theorem m_recentV (l : Launch) (D : va_G) (cy : Nat → ClassId) (t0 : Nat) (a5 mD mI mZ mK mO mB mR mF k : Nat) (th now nl5 kM oM : Int32) (b : Nat) (p1 : Int32) (hb6 : b < 6) (hbad : p1 < nI 1 ∨ nI 100000 < p1) : xWl (S := Unit) l yX5_recent wsX5_recent ({ frames := 1, cells := 0, slots := 0, locals := 21 } : Room) D cy t0 ([.ref a5, .int (nI b), .int p1]) ([(a5, .inr (5, [.int th, .int (nI k), .int now, .ref mD, .ref mI, .ref mZ, .int nl5, .ref mK, .ref mO, .ref mB, .ref mR, .ref mF, .int kM, .int oM]))]) (fun _ _ => True) (fun _ => [(a5, .inr (5, [.int (nI 2), .int (nI k), .int now, .ref mD, .ref mI, .ref mZ, .int nl5, .ref mK, .ref mO, .ref mB, .ref mR, .ref mF, .int kM, .int oM]))]) 0 0 := by
  refine xofWl (cc := cX5_recent) (maxL := 4) (by decide) rfl (Nat.le_of_ble_eq_true rfl) ?_
  intro p e s m below meth c Q A ls hx hb hml hts hown hE hA H locs hP hD hl hS kret
  have hl : lv_has ls 4 [(0, .ref a5), (1, .int (nI b)), (2, .int p1)] := hl
  refine lv_aload_n hx hb dX5_recent_0 rfl (lv_at hl 0 rfl) ?_
  refine lv_iload_n hx hb dX5_recent_1 rfl (lv_at hl 1 rfl) ?_
  refine xcRi (va_runS (As := [.int (nI b)]) (rest := [.ref a5]) ⟨hx, hb, hml, hown, hts⟩ (m_isBasket l D cy t0 (nI b)) (va_cwS 1 hts gX5_recent_X5_isBasket rfl rfl rfl (by decide +kernel) ⟨Nat.le_of_ble_eq_true rfl, Nat.le_of_ble_eq_true rfl⟩) (xPr.give (wc := []) hE hS hP [] rfl) rfl rfl hl.1 rfl (lv_room (Nat.le_of_ble_eq_true rfl)) dX5_recent_2 ⟨(Nat.zero_le _), (Nat.zero_le _)⟩) (fun r_1 hr_2 => ?_)
  obtain rfl : r_1 = nI 1 := by rw [hr_2, isBk_lt hb6]; rfl
  refine xb_if_ne (tgt := 12) (a := 1) (by omega) hx hb dX5_recent_5 (by decide) (fun c_3 => ?_) (fun c_3 => ?_)
  · refine lv_iload_n hx hb dX5_recent_12 rfl (lv_at hl 2 rfl) ?_
    refine lv_iconst (v := nI 1) hx hb dX5_recent_13 (by decide) ?_
    refine lv_icmp_lt (tgt := 27) hx hb dX5_recent_14 (by decide) (fun c_4 => ?_) (fun c_4 => ?_)
    · refine lv_iconst (v := nI 2) hx hb dX5_recent_27 (by decide) ?_
      refine xcWi (wr := []) (va_runV (As := [.int (nI 2)]) (rest := []) ⟨hx, hb, hml, hown, hts⟩ ((m_goesWell l D cy t0 a5 mD mI mZ mK mO mB mR mF k th now nl5 kM oM 2 (by omega)) H.size) (cwV 1 hts gX5_recent_X5_goesWell rfl rfl rfl (by decide +kernel) ⟨Nat.le_of_ble_eq_true rfl, Nat.le_of_ble_eq_true rfl⟩) (xPw.giveV (wc := [(a5, .inr (5, [.int th, .int (nI k), .int now, .ref mD, .ref mI, .ref mZ, .int nl5, .ref mK, .ref mO, .ref mB, .ref mR, .ref mF, .int kM, .int oM]))]) hE hS hA hP hD [0] (by decide) rfl 0 5 rfl rfl) rfl rfl hl.1 rfl (lv_room (Nat.le_of_ble_eq_true rfl)) dX5_recent_28 ⟨(Nat.zero_le _), (Nat.zero_le _)⟩) hP hD hS hA [0] [] rfl rfl (by decide) (by decide) (fun r_5 u_7 H locs hr_6 hP hD hS => ?_)
      obtain rfl : r_5 = nI 0 := by rw [hr_6]; rfl
      have hP := hP.sub (ws' := [(a5, .inr (5, [.int (nI 2), .int (nI k), .int now, .ref mD, .ref mI, .ref mZ, .int nl5, .ref mK, .ref mO, .ref mB, .ref mR, .ref mF, .int kM, .int oM]))]) [0] rfl
      have hD := hD.sub (ws' := [(a5, .inr (5, [.int (nI 2), .int (nI k), .int now, .ref mD, .ref mI, .ref mZ, .int nl5, .ref mK, .ref mO, .ref mB, .ref mR, .ref mF, .int kM, .int oM]))]) [0] (by decide) rfl
      refine xb_if_ne (tgt := 36) (a := 0) (by omega) hx hb dX5_recent_31 (by decide) (fun c_8 => ?_) (fun c_8 => ?_)
      · exact absurd c_8 (by omega)
      · refine lv_lconst (v := lN 0) hx hb dX5_recent_34 (by decide) ?_
        exact kret _ () _ _ _ _ _ _ dX5_recent_35 trivial hP hD hS (Nat.le_of_ble_eq_true rfl) (Nat.le_of_ble_eq_true rfl)
    · refine lv_iload_n hx hb dX5_recent_17 rfl (lv_at hl 2 rfl) ?_
      refine lv_ldc (v := nI 100000) hx hb hown (hts (.constant RX5 14 (100000)) (by decide +kernel)) dX5_recent_18 ?_
      refine lv_icmp_gt (tgt := 27) hx hb dX5_recent_20 (by decide) (fun c_9 => ?_) (fun c_9 => ?_)
      · refine lv_iconst (v := nI 2) hx hb dX5_recent_27 (by decide) ?_
        refine xcWi (wr := []) (va_runV (As := [.int (nI 2)]) (rest := []) ⟨hx, hb, hml, hown, hts⟩ ((m_goesWell l D cy t0 a5 mD mI mZ mK mO mB mR mF k th now nl5 kM oM 2 (by omega)) H.size) (cwV 1 hts gX5_recent_X5_goesWell rfl rfl rfl (by decide +kernel) ⟨Nat.le_of_ble_eq_true rfl, Nat.le_of_ble_eq_true rfl⟩) (xPw.giveV (wc := [(a5, .inr (5, [.int th, .int (nI k), .int now, .ref mD, .ref mI, .ref mZ, .int nl5, .ref mK, .ref mO, .ref mB, .ref mR, .ref mF, .int kM, .int oM]))]) hE hS hA hP hD [0] (by decide) rfl 0 5 rfl rfl) rfl rfl hl.1 rfl (lv_room (Nat.le_of_ble_eq_true rfl)) dX5_recent_28 ⟨(Nat.zero_le _), (Nat.zero_le _)⟩) hP hD hS hA [0] [] rfl rfl (by decide) (by decide) (fun r_10 u_12 H locs hr_11 hP hD hS => ?_)
        obtain rfl : r_10 = nI 0 := by rw [hr_11]; rfl
        have hP := hP.sub (ws' := [(a5, .inr (5, [.int (nI 2), .int (nI k), .int now, .ref mD, .ref mI, .ref mZ, .int nl5, .ref mK, .ref mO, .ref mB, .ref mR, .ref mF, .int kM, .int oM]))]) [0] rfl
        have hD := hD.sub (ws' := [(a5, .inr (5, [.int (nI 2), .int (nI k), .int now, .ref mD, .ref mI, .ref mZ, .int nl5, .ref mK, .ref mO, .ref mB, .ref mR, .ref mF, .int kM, .int oM]))]) [0] (by decide) rfl
        refine xb_if_ne (tgt := 36) (a := 0) (by omega) hx hb dX5_recent_31 (by decide) (fun c_13 => ?_) (fun c_13 => ?_)
        · exact absurd c_13 (by omega)
        · refine lv_lconst (v := lN 0) hx hb dX5_recent_34 (by decide) ?_
          exact kret _ () _ _ _ _ _ _ dX5_recent_35 trivial hP hD hS (Nat.le_of_ble_eq_true rfl) (Nat.le_of_ble_eq_true rfl)
      · exact absurd (hbad.resolve_left c_4) c_9
  · exact absurd c_3 (by omega)
set_option maxHeartbeats 4000000 in
set_option maxRecDepth 100000 in
theorem m_registerV (l : Launch) (D : va_G) (cy : Nat → ClassId) (t0 : Nat) (a5 mD mI mZ mK mO mB mR mF k : Nat) (th now nl5 kM oM : Int32) (b : Nat) (p1 : Int32) (hb6 : b < 6) (hbad : p1 < 0 ∨ nI 16 ≤ p1) : xWi (S := Unit) l yX5_register wsX5_register ({ frames := 1, cells := 0, slots := 0, locals := 21 } : Room) D cy t0 ([.ref a5, .int (nI b), .int p1]) ([(a5, .inr (5, [.int th, .int (nI k), .int now, .ref mD, .ref mI, .ref mZ, .int nl5, .ref mK, .ref mO, .ref mB, .ref mR, .ref mF, .int kM, .int oM]))]) (fun _ _ => True) (fun _ => [(a5, .inr (5, [.int (nI 1), .int (nI k), .int now, .ref mD, .ref mI, .ref mZ, .int nl5, .ref mK, .ref mO, .ref mB, .ref mR, .ref mF, .int kM, .int oM]))]) 0 0 := by
  refine xofWi (cc := cX5_register) (maxL := 4) (by decide) rfl (Nat.le_of_ble_eq_true rfl) (fun _ _ _ => rfl) ?_
  intro p e s m below meth c Q A ls hx hb hml hts hown hE hA H locs hP hD hl hS kret
  have hl : lv_has ls 4 [(0, .ref a5), (1, .int (nI b)), (2, .int p1)] := hl
  refine lv_iload_n hx hb dX5_register_0 rfl (lv_at hl 1 rfl) ?_
  refine xcRi (va_runS (As := [.int (nI b)]) (rest := []) ⟨hx, hb, hml, hown, hts⟩ (m_isBasket l D cy t0 (nI b)) (va_cwS 1 hts gX5_register_X5_isBasket rfl rfl rfl (by decide +kernel) ⟨Nat.le_of_ble_eq_true rfl, Nat.le_of_ble_eq_true rfl⟩) (xPr.give (wc := []) hE hS hP [] rfl) rfl rfl hl.1 rfl (lv_room (Nat.le_of_ble_eq_true rfl)) dX5_register_1 ⟨(Nat.zero_le _), (Nat.zero_le _)⟩) (fun r_1 hr_2 => ?_)
  obtain rfl : r_1 = nI 1 := by rw [hr_2, isBk_lt hb6]; rfl
  refine xb_if_eq (tgt := 21) (a := 1) (by omega) hx hb dX5_register_4 (by decide) (fun c_3 => ?_) (fun c_3 => ?_)
  · exact absurd c_3 (by omega)
  · refine lv_iload_n hx hb dX5_register_7 rfl (lv_at hl 2 rfl) ?_
    refine lv_if_lt (tgt := 21) hx hb dX5_register_8 (by decide) (fun c_4 => ?_) (fun c_4 => ?_)
    · refine lv_iconst (v := nI 0) hx hb dX5_register_21 (by decide) ?_
      refine lv_istore_n (lv' := [(3, .int (nI 0)), (0, .ref a5), (1, .int (nI b)), (2, .int p1)]) hx hb dX5_register_22 rfl hl (by decide) rfl (fun ls hl => ?_)
      refine lv_aload_n hx hb dX5_register_23 rfl (lv_at hl 1 rfl) ?_
      refine lv_iload_n hx hb dX5_register_24 rfl (lv_at hl 0 rfl) ?_
      refine xb_if_eq (tgt := 32) (a := 0) (by omega) hx hb dX5_register_25 (by decide) (fun c_5 => ?_) (fun c_5 => ?_)
      · refine lv_iconst (v := nI 1) hx hb dX5_register_32 (by decide) ?_
        refine xcWi (wr := []) (va_runV (As := [.int (nI 1)]) (rest := []) ⟨hx, hb, hml, hown, hts⟩ ((m_goesWell l D cy t0 a5 mD mI mZ mK mO mB mR mF k th now nl5 kM oM 1 (by omega)) H.size) (cwV 1 hts gX5_register_X5_goesWell rfl rfl rfl (by decide +kernel) ⟨Nat.le_of_ble_eq_true rfl, Nat.le_of_ble_eq_true rfl⟩) (xPw.giveV (wc := [(a5, .inr (5, [.int th, .int (nI k), .int now, .ref mD, .ref mI, .ref mZ, .int nl5, .ref mK, .ref mO, .ref mB, .ref mR, .ref mF, .int kM, .int oM]))]) hE hS hA hP hD [0] (by decide) rfl 0 5 rfl rfl) rfl rfl hl.1 rfl (lv_room (Nat.le_of_ble_eq_true rfl)) dX5_register_33 ⟨(Nat.zero_le _), (Nat.zero_le _)⟩) hP hD hS hA [0] [] rfl rfl (by decide) (by decide) (fun r_6 u_8 H locs hr_7 hP hD hS => ?_)
        obtain rfl : r_6 = nI 0 := by rw [hr_7]; rfl
        have hP := hP.sub (ws' := [(a5, .inr (5, [.int (nI 1), .int (nI k), .int now, .ref mD, .ref mI, .ref mZ, .int nl5, .ref mK, .ref mO, .ref mB, .ref mR, .ref mF, .int kM, .int oM]))]) [0] rfl
        have hD := hD.sub (ws' := [(a5, .inr (5, [.int (nI 1), .int (nI k), .int now, .ref mD, .ref mI, .ref mZ, .int nl5, .ref mK, .ref mO, .ref mB, .ref mR, .ref mF, .int kM, .int oM]))]) [0] (by decide) rfl
        refine xb_if_ne (tgt := 41) (a := 0) (by omega) hx hb dX5_register_36 (by decide) (fun c_9 => ?_) (fun c_9 => ?_)
        · exact absurd c_9 (by omega)
        · refine lv_iconst (v := nI 0) hx hb dX5_register_39 (by decide) ?_
          exact kret _ () _ _ _ _ _ _ dX5_register_40 trivial hP hD hS (Nat.le_of_ble_eq_true rfl) (Nat.le_of_ble_eq_true rfl)
      · exact absurd c_5 (by omega)
    · refine lv_iload_n hx hb dX5_register_11 rfl (lv_at hl 2 rfl) ?_
      refine lv_bipush (v := nI 16) hx hb dX5_register_12 (by decide) ?_
      refine lv_icmp_ge (tgt := 21) hx hb dX5_register_14 (by decide) (fun c_10 => ?_) (fun c_10 => ?_)
      · refine lv_iconst (v := nI 0) hx hb dX5_register_21 (by decide) ?_
        refine lv_istore_n (lv' := [(3, .int (nI 0)), (0, .ref a5), (1, .int (nI b)), (2, .int p1)]) hx hb dX5_register_22 rfl hl (by decide) rfl (fun ls hl => ?_)
        refine lv_aload_n hx hb dX5_register_23 rfl (lv_at hl 1 rfl) ?_
        refine lv_iload_n hx hb dX5_register_24 rfl (lv_at hl 0 rfl) ?_
        refine xb_if_eq (tgt := 32) (a := 0) (by omega) hx hb dX5_register_25 (by decide) (fun c_11 => ?_) (fun c_11 => ?_)
        · refine lv_iconst (v := nI 1) hx hb dX5_register_32 (by decide) ?_
          refine xcWi (wr := []) (va_runV (As := [.int (nI 1)]) (rest := []) ⟨hx, hb, hml, hown, hts⟩ ((m_goesWell l D cy t0 a5 mD mI mZ mK mO mB mR mF k th now nl5 kM oM 1 (by omega)) H.size) (cwV 1 hts gX5_register_X5_goesWell rfl rfl rfl (by decide +kernel) ⟨Nat.le_of_ble_eq_true rfl, Nat.le_of_ble_eq_true rfl⟩) (xPw.giveV (wc := [(a5, .inr (5, [.int th, .int (nI k), .int now, .ref mD, .ref mI, .ref mZ, .int nl5, .ref mK, .ref mO, .ref mB, .ref mR, .ref mF, .int kM, .int oM]))]) hE hS hA hP hD [0] (by decide) rfl 0 5 rfl rfl) rfl rfl hl.1 rfl (lv_room (Nat.le_of_ble_eq_true rfl)) dX5_register_33 ⟨(Nat.zero_le _), (Nat.zero_le _)⟩) hP hD hS hA [0] [] rfl rfl (by decide) (by decide) (fun r_12 u_14 H locs hr_13 hP hD hS => ?_)
          obtain rfl : r_12 = nI 0 := by rw [hr_13]; rfl
          have hP := hP.sub (ws' := [(a5, .inr (5, [.int (nI 1), .int (nI k), .int now, .ref mD, .ref mI, .ref mZ, .int nl5, .ref mK, .ref mO, .ref mB, .ref mR, .ref mF, .int kM, .int oM]))]) [0] rfl
          have hD := hD.sub (ws' := [(a5, .inr (5, [.int (nI 1), .int (nI k), .int now, .ref mD, .ref mI, .ref mZ, .int nl5, .ref mK, .ref mO, .ref mB, .ref mR, .ref mF, .int kM, .int oM]))]) [0] (by decide) rfl
          refine xb_if_ne (tgt := 41) (a := 0) (by omega) hx hb dX5_register_36 (by decide) (fun c_15 => ?_) (fun c_15 => ?_)
          · exact absurd c_15 (by omega)
          · refine lv_iconst (v := nI 0) hx hb dX5_register_39 (by decide) ?_
            exact kret _ () _ _ _ _ _ _ dX5_register_40 trivial hP hD hS (Nat.le_of_ble_eq_true rfl) (Nat.le_of_ble_eq_true rfl)
        · exact absurd c_11 (by omega)
      · exact (c_10 (hbad.resolve_left c_4)).elim
set_option maxHeartbeats 4000000 in
set_option maxRecDepth 100000 in
theorem m_addLineV (l : Launch) (D : va_G) (cy : Nat → ClassId) (t0 : Nat) (a5 mD mI mZ mK mO mB mR mF k : Nat) (th now nl5 kM oM : Int32) (b : Nat) (p1 p2 p3 : Int32) (hb6 : b < 6) (hbad : lineOK p1 p2 p3 = false) : xWi (S := Unit) l yX5_addLine wsX5_addLine ({ frames := 1, cells := 0, slots := 0, locals := 21 } : Room) D cy t0 ([.ref a5, .int (nI b), .int p1, .int p2, .int p3]) ([(a5, .inr (5, [.int th, .int (nI k), .int now, .ref mD, .ref mI, .ref mZ, .int nl5, .ref mK, .ref mO, .ref mB, .ref mR, .ref mF, .int kM, .int oM]))]) (fun _ _ => True) (fun _ => [(a5, .inr (5, [.int (nI 2), .int (nI k), .int now, .ref mD, .ref mI, .ref mZ, .int nl5, .ref mK, .ref mO, .ref mB, .ref mR, .ref mF, .int kM, .int oM]))]) 0 0 := by
  refine xofWi (cc := cX5_addLine) (maxL := 8) (by decide) rfl (Nat.le_of_ble_eq_true rfl) (fun _ _ _ => rfl) ?_
  intro p e s m below meth c Q A ls hx hb hml hts hown hE hA H locs hP hD hl hS kret
  have hl : lv_has ls 8 [(0, .ref a5), (1, .int (nI b)), (2, .int p1), (3, .int p2), (4, .int p3)] := hl
  rcases Bool.eq_false_or_eq_true (isIt p1) with hit | hit
  · have h1t := hit
    refine lv_iload_n hx hb dX5_addLine_0 rfl (lv_at hl 2 rfl) ?_
    refine xcRi (va_runS (As := [.int p1]) (rest := []) ⟨hx, hb, hml, hown, hts⟩ (m_isItem l D cy t0 p1) (va_cwS 1 hts gX5_addLine_X5_isItem rfl rfl rfl (by decide +kernel) ⟨Nat.le_of_ble_eq_true rfl, Nat.le_of_ble_eq_true rfl⟩) (xPr.give (wc := []) hE hS hP [] rfl) rfl rfl hl.1 rfl (lv_room (Nat.le_of_ble_eq_true rfl)) dX5_addLine_1 ⟨(Nat.zero_le _), (Nat.zero_le _)⟩) (fun r_1 hr_2 => ?_)
    obtain rfl : r_1 = nI 1 := by rw [hr_2, hit]; rfl
    refine xb_if_eq (tgt := 50) (a := 1) (by omega) hx hb dX5_addLine_4 (by decide) (fun c_3 => ?_) (fun c_3 => ?_)
    · exact absurd c_3 (by omega)
    · refine lv_iload_n hx hb dX5_addLine_7 rfl (lv_at hl 3 rfl) ?_
      refine lv_iconst (v := nI 1) hx hb dX5_addLine_8 (by decide) ?_
      refine lv_icmp_lt (tgt := 50) hx hb dX5_addLine_9 (by decide) (fun c_4 => ?_) (fun c_4 => ?_)
      · refine lv_iconst (v := nI 0) hx hb dX5_addLine_50 (by decide) ?_
        refine lv_istore (lv' := [(5, .int (nI 0)), (0, .ref a5), (1, .int (nI b)), (2, .int p1), (3, .int p2), (4, .int p3)]) hx hb dX5_addLine_51 hl (by decide) rfl (fun ls hl => ?_)
        refine lv_aload_n hx hb dX5_addLine_53 rfl (lv_at hl 1 rfl) ?_
        refine lv_iload_n hx hb dX5_addLine_54 rfl (lv_at hl 2 rfl) ?_
        refine xcRi (va_runS (As := [.int (nI b)]) (rest := [.ref a5]) ⟨hx, hb, hml, hown, hts⟩ (m_isBasket l D cy t0 (nI b)) (va_cwS 1 hts gX5_addLine_X5_isBasket rfl rfl rfl (by decide +kernel) ⟨Nat.le_of_ble_eq_true rfl, Nat.le_of_ble_eq_true rfl⟩) (xPr.give (wc := []) hE hS hP [] rfl) rfl rfl hl.1 rfl (lv_room (Nat.le_of_ble_eq_true rfl)) dX5_addLine_55 ⟨(Nat.zero_le _), (Nat.zero_le _)⟩) (fun r_5 hr_6 => ?_)
        obtain rfl : r_5 = nI 1 := by rw [hr_6, isBk_lt hb6]; rfl
        refine xb_if_ne (tgt := 65) (a := 1) (by omega) hx hb dX5_addLine_58 (by decide) (fun c_7 => ?_) (fun c_7 => ?_)
        · refine lv_iload hx hb dX5_addLine_65 (lv_at hl 0 rfl) ?_
          refine xb_if_eq (tgt := 74) (a := 0) (by omega) hx hb dX5_addLine_67 (by decide) (fun c_8 => ?_) (fun c_8 => ?_)
          · refine lv_iconst (v := nI 2) hx hb dX5_addLine_74 (by decide) ?_
            refine xcWi (wr := []) (va_runV (As := [.int (nI 2)]) (rest := []) ⟨hx, hb, hml, hown, hts⟩ ((m_goesWell l D cy t0 a5 mD mI mZ mK mO mB mR mF k th now nl5 kM oM 2 (by omega)) H.size) (cwV 1 hts gX5_addLine_X5_goesWell rfl rfl rfl (by decide +kernel) ⟨Nat.le_of_ble_eq_true rfl, Nat.le_of_ble_eq_true rfl⟩) (xPw.giveV (wc := [(a5, .inr (5, [.int th, .int (nI k), .int now, .ref mD, .ref mI, .ref mZ, .int nl5, .ref mK, .ref mO, .ref mB, .ref mR, .ref mF, .int kM, .int oM]))]) hE hS hA hP hD [0] (by decide) rfl 0 5 rfl rfl) rfl rfl hl.1 rfl (lv_room (Nat.le_of_ble_eq_true rfl)) dX5_addLine_75 ⟨(Nat.zero_le _), (Nat.zero_le _)⟩) hP hD hS hA [0] [] rfl rfl (by decide) (by decide) (fun r_9 u_11 H locs hr_10 hP hD hS => ?_)
            obtain rfl : r_9 = nI 0 := by rw [hr_10]; rfl
            have hP := hP.sub (ws' := [(a5, .inr (5, [.int (nI 2), .int (nI k), .int now, .ref mD, .ref mI, .ref mZ, .int nl5, .ref mK, .ref mO, .ref mB, .ref mR, .ref mF, .int kM, .int oM]))]) [0] rfl
            have hD := hD.sub (ws' := [(a5, .inr (5, [.int (nI 2), .int (nI k), .int now, .ref mD, .ref mI, .ref mZ, .int nl5, .ref mK, .ref mO, .ref mB, .ref mR, .ref mF, .int kM, .int oM]))]) [0] (by decide) rfl
            refine xb_if_ne (tgt := 83) (a := 0) (by omega) hx hb dX5_addLine_78 (by decide) (fun c_12 => ?_) (fun c_12 => ?_)
            · exact absurd c_12 (by omega)
            · refine lv_iconst (v := nI 0) hx hb dX5_addLine_81 (by decide) ?_
              exact kret _ () _ _ _ _ _ _ dX5_addLine_82 trivial hP hD hS (Nat.le_of_ble_eq_true rfl) (Nat.le_of_ble_eq_true rfl)
          · exact absurd c_8 (by omega)
        · exact absurd c_7 (by omega)
      · refine lv_iload_n hx hb dX5_addLine_12 rfl (lv_at hl 3 rfl) ?_
        refine lv_sipush (v := nI 999) hx hb dX5_addLine_13 (by decide) ?_
        refine lv_icmp_gt (tgt := 50) hx hb dX5_addLine_16 (by decide) (fun c_13 => ?_) (fun c_13 => ?_)
        · refine lv_iconst (v := nI 0) hx hb dX5_addLine_50 (by decide) ?_
          refine lv_istore (lv' := [(5, .int (nI 0)), (0, .ref a5), (1, .int (nI b)), (2, .int p1), (3, .int p2), (4, .int p3)]) hx hb dX5_addLine_51 hl (by decide) rfl (fun ls hl => ?_)
          refine lv_aload_n hx hb dX5_addLine_53 rfl (lv_at hl 1 rfl) ?_
          refine lv_iload_n hx hb dX5_addLine_54 rfl (lv_at hl 2 rfl) ?_
          refine xcRi (va_runS (As := [.int (nI b)]) (rest := [.ref a5]) ⟨hx, hb, hml, hown, hts⟩ (m_isBasket l D cy t0 (nI b)) (va_cwS 1 hts gX5_addLine_X5_isBasket rfl rfl rfl (by decide +kernel) ⟨Nat.le_of_ble_eq_true rfl, Nat.le_of_ble_eq_true rfl⟩) (xPr.give (wc := []) hE hS hP [] rfl) rfl rfl hl.1 rfl (lv_room (Nat.le_of_ble_eq_true rfl)) dX5_addLine_55 ⟨(Nat.zero_le _), (Nat.zero_le _)⟩) (fun r_14 hr_15 => ?_)
          obtain rfl : r_14 = nI 1 := by rw [hr_15, isBk_lt hb6]; rfl
          refine xb_if_ne (tgt := 65) (a := 1) (by omega) hx hb dX5_addLine_58 (by decide) (fun c_16 => ?_) (fun c_16 => ?_)
          · refine lv_iload hx hb dX5_addLine_65 (lv_at hl 0 rfl) ?_
            refine xb_if_eq (tgt := 74) (a := 0) (by omega) hx hb dX5_addLine_67 (by decide) (fun c_17 => ?_) (fun c_17 => ?_)
            · refine lv_iconst (v := nI 2) hx hb dX5_addLine_74 (by decide) ?_
              refine xcWi (wr := []) (va_runV (As := [.int (nI 2)]) (rest := []) ⟨hx, hb, hml, hown, hts⟩ ((m_goesWell l D cy t0 a5 mD mI mZ mK mO mB mR mF k th now nl5 kM oM 2 (by omega)) H.size) (cwV 1 hts gX5_addLine_X5_goesWell rfl rfl rfl (by decide +kernel) ⟨Nat.le_of_ble_eq_true rfl, Nat.le_of_ble_eq_true rfl⟩) (xPw.giveV (wc := [(a5, .inr (5, [.int th, .int (nI k), .int now, .ref mD, .ref mI, .ref mZ, .int nl5, .ref mK, .ref mO, .ref mB, .ref mR, .ref mF, .int kM, .int oM]))]) hE hS hA hP hD [0] (by decide) rfl 0 5 rfl rfl) rfl rfl hl.1 rfl (lv_room (Nat.le_of_ble_eq_true rfl)) dX5_addLine_75 ⟨(Nat.zero_le _), (Nat.zero_le _)⟩) hP hD hS hA [0] [] rfl rfl (by decide) (by decide) (fun r_18 u_20 H locs hr_19 hP hD hS => ?_)
              obtain rfl : r_18 = nI 0 := by rw [hr_19]; rfl
              have hP := hP.sub (ws' := [(a5, .inr (5, [.int (nI 2), .int (nI k), .int now, .ref mD, .ref mI, .ref mZ, .int nl5, .ref mK, .ref mO, .ref mB, .ref mR, .ref mF, .int kM, .int oM]))]) [0] rfl
              have hD := hD.sub (ws' := [(a5, .inr (5, [.int (nI 2), .int (nI k), .int now, .ref mD, .ref mI, .ref mZ, .int nl5, .ref mK, .ref mO, .ref mB, .ref mR, .ref mF, .int kM, .int oM]))]) [0] (by decide) rfl
              refine xb_if_ne (tgt := 83) (a := 0) (by omega) hx hb dX5_addLine_78 (by decide) (fun c_21 => ?_) (fun c_21 => ?_)
              · exact absurd c_21 (by omega)
              · refine lv_iconst (v := nI 0) hx hb dX5_addLine_81 (by decide) ?_
                exact kret _ () _ _ _ _ _ _ dX5_addLine_82 trivial hP hD hS (Nat.le_of_ble_eq_true rfl) (Nat.le_of_ble_eq_true rfl)
            · exact absurd c_17 (by omega)
          · exact absurd c_16 (by omega)
        · refine lv_iload hx hb dX5_addLine_19 (lv_at hl 4 rfl) ?_
          refine lv_iconst (v := nI 1) hx hb dX5_addLine_21 (by decide) ?_
          refine lv_icmp_lt (tgt := 50) hx hb dX5_addLine_22 (by decide) (fun c_22 => ?_) (fun c_22 => ?_)
          · refine lv_iconst (v := nI 0) hx hb dX5_addLine_50 (by decide) ?_
            refine lv_istore (lv' := [(5, .int (nI 0)), (0, .ref a5), (1, .int (nI b)), (2, .int p1), (3, .int p2), (4, .int p3)]) hx hb dX5_addLine_51 hl (by decide) rfl (fun ls hl => ?_)
            refine lv_aload_n hx hb dX5_addLine_53 rfl (lv_at hl 1 rfl) ?_
            refine lv_iload_n hx hb dX5_addLine_54 rfl (lv_at hl 2 rfl) ?_
            refine xcRi (va_runS (As := [.int (nI b)]) (rest := [.ref a5]) ⟨hx, hb, hml, hown, hts⟩ (m_isBasket l D cy t0 (nI b)) (va_cwS 1 hts gX5_addLine_X5_isBasket rfl rfl rfl (by decide +kernel) ⟨Nat.le_of_ble_eq_true rfl, Nat.le_of_ble_eq_true rfl⟩) (xPr.give (wc := []) hE hS hP [] rfl) rfl rfl hl.1 rfl (lv_room (Nat.le_of_ble_eq_true rfl)) dX5_addLine_55 ⟨(Nat.zero_le _), (Nat.zero_le _)⟩) (fun r_23 hr_24 => ?_)
            obtain rfl : r_23 = nI 1 := by rw [hr_24, isBk_lt hb6]; rfl
            refine xb_if_ne (tgt := 65) (a := 1) (by omega) hx hb dX5_addLine_58 (by decide) (fun c_25 => ?_) (fun c_25 => ?_)
            · refine lv_iload hx hb dX5_addLine_65 (lv_at hl 0 rfl) ?_
              refine xb_if_eq (tgt := 74) (a := 0) (by omega) hx hb dX5_addLine_67 (by decide) (fun c_26 => ?_) (fun c_26 => ?_)
              · refine lv_iconst (v := nI 2) hx hb dX5_addLine_74 (by decide) ?_
                refine xcWi (wr := []) (va_runV (As := [.int (nI 2)]) (rest := []) ⟨hx, hb, hml, hown, hts⟩ ((m_goesWell l D cy t0 a5 mD mI mZ mK mO mB mR mF k th now nl5 kM oM 2 (by omega)) H.size) (cwV 1 hts gX5_addLine_X5_goesWell rfl rfl rfl (by decide +kernel) ⟨Nat.le_of_ble_eq_true rfl, Nat.le_of_ble_eq_true rfl⟩) (xPw.giveV (wc := [(a5, .inr (5, [.int th, .int (nI k), .int now, .ref mD, .ref mI, .ref mZ, .int nl5, .ref mK, .ref mO, .ref mB, .ref mR, .ref mF, .int kM, .int oM]))]) hE hS hA hP hD [0] (by decide) rfl 0 5 rfl rfl) rfl rfl hl.1 rfl (lv_room (Nat.le_of_ble_eq_true rfl)) dX5_addLine_75 ⟨(Nat.zero_le _), (Nat.zero_le _)⟩) hP hD hS hA [0] [] rfl rfl (by decide) (by decide) (fun r_27 u_29 H locs hr_28 hP hD hS => ?_)
                obtain rfl : r_27 = nI 0 := by rw [hr_28]; rfl
                have hP := hP.sub (ws' := [(a5, .inr (5, [.int (nI 2), .int (nI k), .int now, .ref mD, .ref mI, .ref mZ, .int nl5, .ref mK, .ref mO, .ref mB, .ref mR, .ref mF, .int kM, .int oM]))]) [0] rfl
                have hD := hD.sub (ws' := [(a5, .inr (5, [.int (nI 2), .int (nI k), .int now, .ref mD, .ref mI, .ref mZ, .int nl5, .ref mK, .ref mO, .ref mB, .ref mR, .ref mF, .int kM, .int oM]))]) [0] (by decide) rfl
                refine xb_if_ne (tgt := 83) (a := 0) (by omega) hx hb dX5_addLine_78 (by decide) (fun c_30 => ?_) (fun c_30 => ?_)
                · exact absurd c_30 (by omega)
                · refine lv_iconst (v := nI 0) hx hb dX5_addLine_81 (by decide) ?_
                  exact kret _ () _ _ _ _ _ _ dX5_addLine_82 trivial hP hD hS (Nat.le_of_ble_eq_true rfl) (Nat.le_of_ble_eq_true rfl)
              · exact absurd c_26 (by omega)
            · exact absurd c_25 (by omega)
          · refine lv_iload hx hb dX5_addLine_25 (lv_at hl 4 rfl) ?_
            refine lv_bipush (v := nI 60) hx hb dX5_addLine_27 (by decide) ?_
            refine lv_icmp_gt (tgt := 50) hx hb dX5_addLine_29 (by decide) (fun c_31 => ?_) (fun c_31 => ?_)
            · refine lv_iconst (v := nI 0) hx hb dX5_addLine_50 (by decide) ?_
              refine lv_istore (lv' := [(5, .int (nI 0)), (0, .ref a5), (1, .int (nI b)), (2, .int p1), (3, .int p2), (4, .int p3)]) hx hb dX5_addLine_51 hl (by decide) rfl (fun ls hl => ?_)
              refine lv_aload_n hx hb dX5_addLine_53 rfl (lv_at hl 1 rfl) ?_
              refine lv_iload_n hx hb dX5_addLine_54 rfl (lv_at hl 2 rfl) ?_
              refine xcRi (va_runS (As := [.int (nI b)]) (rest := [.ref a5]) ⟨hx, hb, hml, hown, hts⟩ (m_isBasket l D cy t0 (nI b)) (va_cwS 1 hts gX5_addLine_X5_isBasket rfl rfl rfl (by decide +kernel) ⟨Nat.le_of_ble_eq_true rfl, Nat.le_of_ble_eq_true rfl⟩) (xPr.give (wc := []) hE hS hP [] rfl) rfl rfl hl.1 rfl (lv_room (Nat.le_of_ble_eq_true rfl)) dX5_addLine_55 ⟨(Nat.zero_le _), (Nat.zero_le _)⟩) (fun r_32 hr_33 => ?_)
              obtain rfl : r_32 = nI 1 := by rw [hr_33, isBk_lt hb6]; rfl
              refine xb_if_ne (tgt := 65) (a := 1) (by omega) hx hb dX5_addLine_58 (by decide) (fun c_34 => ?_) (fun c_34 => ?_)
              · refine lv_iload hx hb dX5_addLine_65 (lv_at hl 0 rfl) ?_
                refine xb_if_eq (tgt := 74) (a := 0) (by omega) hx hb dX5_addLine_67 (by decide) (fun c_35 => ?_) (fun c_35 => ?_)
                · refine lv_iconst (v := nI 2) hx hb dX5_addLine_74 (by decide) ?_
                  refine xcWi (wr := []) (va_runV (As := [.int (nI 2)]) (rest := []) ⟨hx, hb, hml, hown, hts⟩ ((m_goesWell l D cy t0 a5 mD mI mZ mK mO mB mR mF k th now nl5 kM oM 2 (by omega)) H.size) (cwV 1 hts gX5_addLine_X5_goesWell rfl rfl rfl (by decide +kernel) ⟨Nat.le_of_ble_eq_true rfl, Nat.le_of_ble_eq_true rfl⟩) (xPw.giveV (wc := [(a5, .inr (5, [.int th, .int (nI k), .int now, .ref mD, .ref mI, .ref mZ, .int nl5, .ref mK, .ref mO, .ref mB, .ref mR, .ref mF, .int kM, .int oM]))]) hE hS hA hP hD [0] (by decide) rfl 0 5 rfl rfl) rfl rfl hl.1 rfl (lv_room (Nat.le_of_ble_eq_true rfl)) dX5_addLine_75 ⟨(Nat.zero_le _), (Nat.zero_le _)⟩) hP hD hS hA [0] [] rfl rfl (by decide) (by decide) (fun r_36 u_38 H locs hr_37 hP hD hS => ?_)
                  obtain rfl : r_36 = nI 0 := by rw [hr_37]; rfl
                  have hP := hP.sub (ws' := [(a5, .inr (5, [.int (nI 2), .int (nI k), .int now, .ref mD, .ref mI, .ref mZ, .int nl5, .ref mK, .ref mO, .ref mB, .ref mR, .ref mF, .int kM, .int oM]))]) [0] rfl
                  have hD := hD.sub (ws' := [(a5, .inr (5, [.int (nI 2), .int (nI k), .int now, .ref mD, .ref mI, .ref mZ, .int nl5, .ref mK, .ref mO, .ref mB, .ref mR, .ref mF, .int kM, .int oM]))]) [0] (by decide) rfl
                  refine xb_if_ne (tgt := 83) (a := 0) (by omega) hx hb dX5_addLine_78 (by decide) (fun c_39 => ?_) (fun c_39 => ?_)
                  · exact absurd c_39 (by omega)
                  · refine lv_iconst (v := nI 0) hx hb dX5_addLine_81 (by decide) ?_
                    exact kret _ () _ _ _ _ _ _ dX5_addLine_82 trivial hP hD hS (Nat.le_of_ble_eq_true rfl) (Nat.le_of_ble_eq_true rfl)
                · exact absurd c_35 (by omega)
              · exact absurd c_34 (by omega)
            · refine lv_iload_n hx hb dX5_addLine_32 rfl (lv_at hl 2 rfl) ?_
              refine lv_iload hx hb dX5_addLine_33 (lv_at hl 4 rfl) ?_
              refine lv_iconst (v := nI 1) hx hb dX5_addLine_35 (by decide) ?_
              refine lv_isub hx hb dX5_addLine_36 ?_
              refine lv_iload_n hx hb dX5_addLine_37 rfl (lv_at hl 3 rfl) ?_
              refine lv_imul hx hb dX5_addLine_38 ?_
              refine lv_iadd hx hb dX5_addLine_39 ?_
              refine xcRi (va_runS (As := [.int (p1 + ((p3 - (nI 1)) * p2))]) (rest := []) ⟨hx, hb, hml, hown, hts⟩ (m_isItem l D cy t0 (p1 + (p3 - nI 1) * p2)) (va_cwS 1 hts gX5_addLine_X5_isItem rfl rfl rfl (by decide +kernel) ⟨Nat.le_of_ble_eq_true rfl, Nat.le_of_ble_eq_true rfl⟩) (xPr.give (wc := []) hE hS hP [] rfl) rfl rfl hl.1 rfl (lv_room (Nat.le_of_ble_eq_true rfl)) dX5_addLine_40 ⟨(Nat.zero_le _), (Nat.zero_le _)⟩) (fun r_40 hr_41 => ?_)
              obtain rfl : r_40 = nI 0 := by rw [hr_41, Int32.mul_comm, line_last hbad h1t c_4 c_13 c_22 c_31]; rfl
              refine xb_if_eq (tgt := 50) (a := 0) (by omega) hx hb dX5_addLine_43 (by decide) (fun c_42 => ?_) (fun c_42 => ?_)
              · refine lv_iconst (v := nI 0) hx hb dX5_addLine_50 (by decide) ?_
                refine lv_istore (lv' := [(5, .int (nI 0)), (0, .ref a5), (1, .int (nI b)), (2, .int p1), (3, .int p2), (4, .int p3)]) hx hb dX5_addLine_51 hl (by decide) rfl (fun ls hl => ?_)
                refine lv_aload_n hx hb dX5_addLine_53 rfl (lv_at hl 1 rfl) ?_
                refine lv_iload_n hx hb dX5_addLine_54 rfl (lv_at hl 2 rfl) ?_
                refine xcRi (va_runS (As := [.int (nI b)]) (rest := [.ref a5]) ⟨hx, hb, hml, hown, hts⟩ (m_isBasket l D cy t0 (nI b)) (va_cwS 1 hts gX5_addLine_X5_isBasket rfl rfl rfl (by decide +kernel) ⟨Nat.le_of_ble_eq_true rfl, Nat.le_of_ble_eq_true rfl⟩) (xPr.give (wc := []) hE hS hP [] rfl) rfl rfl hl.1 rfl (lv_room (Nat.le_of_ble_eq_true rfl)) dX5_addLine_55 ⟨(Nat.zero_le _), (Nat.zero_le _)⟩) (fun r_43 hr_44 => ?_)
                obtain rfl : r_43 = nI 1 := by rw [hr_44, isBk_lt hb6]; rfl
                refine xb_if_ne (tgt := 65) (a := 1) (by omega) hx hb dX5_addLine_58 (by decide) (fun c_45 => ?_) (fun c_45 => ?_)
                · refine lv_iload hx hb dX5_addLine_65 (lv_at hl 0 rfl) ?_
                  refine xb_if_eq (tgt := 74) (a := 0) (by omega) hx hb dX5_addLine_67 (by decide) (fun c_46 => ?_) (fun c_46 => ?_)
                  · refine lv_iconst (v := nI 2) hx hb dX5_addLine_74 (by decide) ?_
                    refine xcWi (wr := []) (va_runV (As := [.int (nI 2)]) (rest := []) ⟨hx, hb, hml, hown, hts⟩ ((m_goesWell l D cy t0 a5 mD mI mZ mK mO mB mR mF k th now nl5 kM oM 2 (by omega)) H.size) (cwV 1 hts gX5_addLine_X5_goesWell rfl rfl rfl (by decide +kernel) ⟨Nat.le_of_ble_eq_true rfl, Nat.le_of_ble_eq_true rfl⟩) (xPw.giveV (wc := [(a5, .inr (5, [.int th, .int (nI k), .int now, .ref mD, .ref mI, .ref mZ, .int nl5, .ref mK, .ref mO, .ref mB, .ref mR, .ref mF, .int kM, .int oM]))]) hE hS hA hP hD [0] (by decide) rfl 0 5 rfl rfl) rfl rfl hl.1 rfl (lv_room (Nat.le_of_ble_eq_true rfl)) dX5_addLine_75 ⟨(Nat.zero_le _), (Nat.zero_le _)⟩) hP hD hS hA [0] [] rfl rfl (by decide) (by decide) (fun r_47 u_49 H locs hr_48 hP hD hS => ?_)
                    obtain rfl : r_47 = nI 0 := by rw [hr_48]; rfl
                    have hP := hP.sub (ws' := [(a5, .inr (5, [.int (nI 2), .int (nI k), .int now, .ref mD, .ref mI, .ref mZ, .int nl5, .ref mK, .ref mO, .ref mB, .ref mR, .ref mF, .int kM, .int oM]))]) [0] rfl
                    have hD := hD.sub (ws' := [(a5, .inr (5, [.int (nI 2), .int (nI k), .int now, .ref mD, .ref mI, .ref mZ, .int nl5, .ref mK, .ref mO, .ref mB, .ref mR, .ref mF, .int kM, .int oM]))]) [0] (by decide) rfl
                    refine xb_if_ne (tgt := 83) (a := 0) (by omega) hx hb dX5_addLine_78 (by decide) (fun c_50 => ?_) (fun c_50 => ?_)
                    · exact absurd c_50 (by omega)
                    · refine lv_iconst (v := nI 0) hx hb dX5_addLine_81 (by decide) ?_
                      exact kret _ () _ _ _ _ _ _ dX5_addLine_82 trivial hP hD hS (Nat.le_of_ble_eq_true rfl) (Nat.le_of_ble_eq_true rfl)
                  · exact absurd c_46 (by omega)
                · exact absurd c_45 (by omega)
              · exact absurd c_42 (by omega)
  · have h1f := hit
    refine lv_iload_n hx hb dX5_addLine_0 rfl (lv_at hl 2 rfl) ?_
    refine xcRi (va_runS (As := [.int p1]) (rest := []) ⟨hx, hb, hml, hown, hts⟩ (m_isItem l D cy t0 p1) (va_cwS 1 hts gX5_addLine_X5_isItem rfl rfl rfl (by decide +kernel) ⟨Nat.le_of_ble_eq_true rfl, Nat.le_of_ble_eq_true rfl⟩) (xPr.give (wc := []) hE hS hP [] rfl) rfl rfl hl.1 rfl (lv_room (Nat.le_of_ble_eq_true rfl)) dX5_addLine_1 ⟨(Nat.zero_le _), (Nat.zero_le _)⟩) (fun r_51 hr_52 => ?_)
    obtain rfl : r_51 = nI 0 := by rw [hr_52, hit]; rfl
    refine xb_if_eq (tgt := 50) (a := 0) (by omega) hx hb dX5_addLine_4 (by decide) (fun c_53 => ?_) (fun c_53 => ?_)
    · refine lv_iconst (v := nI 0) hx hb dX5_addLine_50 (by decide) ?_
      refine lv_istore (lv' := [(5, .int (nI 0)), (0, .ref a5), (1, .int (nI b)), (2, .int p1), (3, .int p2), (4, .int p3)]) hx hb dX5_addLine_51 hl (by decide) rfl (fun ls hl => ?_)
      refine lv_aload_n hx hb dX5_addLine_53 rfl (lv_at hl 1 rfl) ?_
      refine lv_iload_n hx hb dX5_addLine_54 rfl (lv_at hl 2 rfl) ?_
      refine xcRi (va_runS (As := [.int (nI b)]) (rest := [.ref a5]) ⟨hx, hb, hml, hown, hts⟩ (m_isBasket l D cy t0 (nI b)) (va_cwS 1 hts gX5_addLine_X5_isBasket rfl rfl rfl (by decide +kernel) ⟨Nat.le_of_ble_eq_true rfl, Nat.le_of_ble_eq_true rfl⟩) (xPr.give (wc := []) hE hS hP [] rfl) rfl rfl hl.1 rfl (lv_room (Nat.le_of_ble_eq_true rfl)) dX5_addLine_55 ⟨(Nat.zero_le _), (Nat.zero_le _)⟩) (fun r_54 hr_55 => ?_)
      obtain rfl : r_54 = nI 1 := by rw [hr_55, isBk_lt hb6]; rfl
      refine xb_if_ne (tgt := 65) (a := 1) (by omega) hx hb dX5_addLine_58 (by decide) (fun c_56 => ?_) (fun c_56 => ?_)
      · refine lv_iload hx hb dX5_addLine_65 (lv_at hl 0 rfl) ?_
        refine xb_if_eq (tgt := 74) (a := 0) (by omega) hx hb dX5_addLine_67 (by decide) (fun c_57 => ?_) (fun c_57 => ?_)
        · refine lv_iconst (v := nI 2) hx hb dX5_addLine_74 (by decide) ?_
          refine xcWi (wr := []) (va_runV (As := [.int (nI 2)]) (rest := []) ⟨hx, hb, hml, hown, hts⟩ ((m_goesWell l D cy t0 a5 mD mI mZ mK mO mB mR mF k th now nl5 kM oM 2 (by omega)) H.size) (cwV 1 hts gX5_addLine_X5_goesWell rfl rfl rfl (by decide +kernel) ⟨Nat.le_of_ble_eq_true rfl, Nat.le_of_ble_eq_true rfl⟩) (xPw.giveV (wc := [(a5, .inr (5, [.int th, .int (nI k), .int now, .ref mD, .ref mI, .ref mZ, .int nl5, .ref mK, .ref mO, .ref mB, .ref mR, .ref mF, .int kM, .int oM]))]) hE hS hA hP hD [0] (by decide) rfl 0 5 rfl rfl) rfl rfl hl.1 rfl (lv_room (Nat.le_of_ble_eq_true rfl)) dX5_addLine_75 ⟨(Nat.zero_le _), (Nat.zero_le _)⟩) hP hD hS hA [0] [] rfl rfl (by decide) (by decide) (fun r_58 u_60 H locs hr_59 hP hD hS => ?_)
          obtain rfl : r_58 = nI 0 := by rw [hr_59]; rfl
          have hP := hP.sub (ws' := [(a5, .inr (5, [.int (nI 2), .int (nI k), .int now, .ref mD, .ref mI, .ref mZ, .int nl5, .ref mK, .ref mO, .ref mB, .ref mR, .ref mF, .int kM, .int oM]))]) [0] rfl
          have hD := hD.sub (ws' := [(a5, .inr (5, [.int (nI 2), .int (nI k), .int now, .ref mD, .ref mI, .ref mZ, .int nl5, .ref mK, .ref mO, .ref mB, .ref mR, .ref mF, .int kM, .int oM]))]) [0] (by decide) rfl
          refine xb_if_ne (tgt := 83) (a := 0) (by omega) hx hb dX5_addLine_78 (by decide) (fun c_61 => ?_) (fun c_61 => ?_)
          · exact absurd c_61 (by omega)
          · refine lv_iconst (v := nI 0) hx hb dX5_addLine_81 (by decide) ?_
            exact kret _ () _ _ _ _ _ _ dX5_addLine_82 trivial hP hD hS (Nat.le_of_ble_eq_true rfl) (Nat.le_of_ble_eq_true rfl)
        · exact absurd c_57 (by omega)
      · exact absurd c_56 (by omega)
    · exact absurd c_53 (by omega)
set_option maxHeartbeats 4000000 in
set_option maxRecDepth 100000 in
theorem m_keptAtV (l : Launch) (D : va_G) (cy : Nat → ClassId) (t0 : Nat) (a5 mD mI mZ mK mO mB mR mF k : Nat) (th now kM oM : Int32) (nl : Nat) (b : Nat) (p1 : Int32) (fK : Nat → Int32) (G It Zt : Nat → Int32) (lst : Nat → Nat) (hML : ML lst nl It Zt) (hCV : CV G lst nl) (hb6 : b < 6) (hk2 : 2 ≤ k) (hk : k ≤ 32) (hbad : p1 < 0 ∨ nI (min k (cb (hs (Sm (mb G b)) 100000) 16777213)) ≤ p1) : xWi (S := Nat → Int32) l yX5_keptAt wsX5_keptAt ({ frames := 3, cells := 0, slots := 0, locals := 71 } : Room) D cy t0 ([.ref a5, .int (nI b), .int p1]) ([(a5, .inr (5, [.int th, .int (nI k), .int now, .ref mD, .ref mI, .ref mZ, .int (nI nl), .ref mK, .ref mO, .ref mB, .ref mR, .ref mF, .int kM, .int oM])), (mD, xI cy 600000 G), (mI, xI cy 100000 It), (mK, xI cy 32 fK)]) (fun _ _ => True) (fun u => [(a5, .inr (5, [.int (nI 1), .int (nI k), .int now, .ref mD, .ref mI, .ref mZ, .int (nI nl), .ref mK, .ref mO, .ref mB, .ref mR, .ref mF, .int kM, .int oM])), (mD, xI cy 600000 G), (mI, xI cy 100000 It), (mK, xI cy 32 u)]) 0 0 := by
  refine xofWi (cc := cX5_keptAt) (maxL := 4) (by decide) rfl (Nat.le_of_ble_eq_true rfl) (fun _ _ _ => rfl) ?_
  intro p e s m below meth c Q A ls hx hb hml hts hown hE hA H locs hP hD hl hS kret
  have hl : lv_has ls 4 [(0, .ref a5), (1, .int (nI b)), (2, .int p1)] := hl
  refine lv_iload_n hx hb dX5_keptAt_0 rfl (lv_at hl 1 rfl) ?_
  refine xcRi (va_runS (As := [.int (nI b)]) (rest := []) ⟨hx, hb, hml, hown, hts⟩ (m_isBasket l D cy t0 (nI b)) (va_cwS 1 hts gX5_keptAt_X5_isBasket rfl rfl rfl (by decide +kernel) ⟨Nat.le_of_ble_eq_true rfl, Nat.le_of_ble_eq_true rfl⟩) (xPr.give (wc := []) hE hS hP [] rfl) rfl rfl hl.1 rfl (lv_room (Nat.le_of_ble_eq_true rfl)) dX5_keptAt_1 ⟨(Nat.zero_le _), (Nat.zero_le _)⟩) (fun r_1 hr_2 => ?_)
  obtain rfl : r_1 = nI 1 := by rw [hr_2, isBk_lt hb6]; rfl
  refine xb_if_eq (tgt := 15) (a := 1) (by omega) hx hb dX5_keptAt_4 (by decide) (fun c_3 => ?_) (fun c_3 => ?_)
  · exact absurd c_3 (by omega)
  · refine lv_aload_n hx hb dX5_keptAt_7 rfl (lv_at hl 0 rfl) ?_
    refine lv_iload_n hx hb dX5_keptAt_8 rfl (lv_at hl 1 rfl) ?_
    refine xcWi (wr := []) (va_runV (As := [.int (nI b)]) (rest := []) ⟨hx, hb, hml, hown, hts⟩ ((m_layKept l D cy t0 a5 mD mI mZ mK mO mB mR mF k th now kM oM nl b fK G It Zt lst hML hCV hb6 hk2 hk) H.size) (cwV 1 hts gX5_keptAt_X5_layKept rfl rfl rfl (by decide +kernel) ⟨Nat.le_of_ble_eq_true rfl, Nat.le_of_ble_eq_true rfl⟩) (xPw.giveV (wc := [(a5, .inr (5, [.int th, .int (nI k), .int now, .ref mD, .ref mI, .ref mZ, .int (nI nl), .ref mK, .ref mO, .ref mB, .ref mR, .ref mF, .int kM, .int oM])), (mD, xI cy 600000 G), (mI, xI cy 100000 It), (mK, xI cy 32 fK)]) hE hS hA hP hD [0, 1, 2, 3] (by decide) rfl 0 5 rfl rfl) rfl rfl hl.1 rfl (lv_room (Nat.le_of_ble_eq_true rfl)) dX5_keptAt_9 ⟨(Nat.zero_le _), (Nat.zero_le _)⟩) hP hD hS hA [0, 1, 2, 3] [] rfl rfl (by decide) (by decide) (fun r_4 u_6 H locs hr_5 hP hD hS => ?_)
    obtain ⟨z, g⟩ := u_6
    obtain rfl : r_4 = nI z := hr_5.1
    have hL : LH k (hs (Sm (mb G b)) 100000) z g := hr_5.2
    have hL1 := hL.1
    have hP := hP.sub (ws' := [(a5, .inr (5, [.int th, .int (nI k), .int now, .ref mD, .ref mI, .ref mZ, .int (nI nl), .ref mK, .ref mO, .ref mB, .ref mR, .ref mF, .int kM, .int oM])), (mD, xI cy 600000 G), (mI, xI cy 100000 It), (mK, xI cy 32 g)]) [0, 1, 2, 3] rfl
    have hD := hD.sub (ws' := [(a5, .inr (5, [.int th, .int (nI k), .int now, .ref mD, .ref mI, .ref mZ, .int (nI nl), .ref mK, .ref mO, .ref mB, .ref mR, .ref mF, .int kM, .int oM])), (mD, xI cy 600000 G), (mI, xI cy 100000 It), (mK, xI cy 32 g)]) [0, 1, 2, 3] (by decide) rfl
    refine lv_goto (tgt := 16) hx hb dX5_keptAt_12 (by decide) ?_
    refine lv_istore_n (lv' := [(3, .int (nI z)), (0, .ref a5), (1, .int (nI b)), (2, .int p1)]) hx hb dX5_keptAt_16 rfl hl (by decide) rfl (fun ls hl => ?_)
    refine lv_aload_n hx hb dX5_keptAt_17 rfl (lv_at hl 1 rfl) ?_
    refine lv_iload_n hx hb dX5_keptAt_18 rfl (lv_at hl 3 rfl) ?_
    refine lv_if_lt (tgt := 31) hx hb dX5_keptAt_19 (by decide) (fun c_7 => ?_) (fun c_7 => ?_)
    · refine lv_iconst (v := nI 1) hx hb dX5_keptAt_31 (by decide) ?_
      refine xcWi (wr := [(mD, xI cy 600000 G), (mI, xI cy 100000 It), (mK, xI cy 32 g)]) (va_runV (As := [.int (nI 1)]) (rest := []) ⟨hx, hb, hml, hown, hts⟩ ((m_goesWell l D cy t0 a5 mD mI mZ mK mO mB mR mF k th now (nI nl) kM oM 1 (by omega)) H.size) (cwV 1 hts gX5_keptAt_X5_goesWell rfl rfl rfl (by decide +kernel) ⟨Nat.le_of_ble_eq_true rfl, Nat.le_of_ble_eq_true rfl⟩) (xPw.giveV (wc := [(a5, .inr (5, [.int th, .int (nI k), .int now, .ref mD, .ref mI, .ref mZ, .int (nI nl), .ref mK, .ref mO, .ref mB, .ref mR, .ref mF, .int kM, .int oM]))]) hE hS hA hP hD [0] (by decide) rfl 0 5 rfl rfl) rfl rfl hl.1 rfl (lv_room (Nat.le_of_ble_eq_true rfl)) dX5_keptAt_32 ⟨(Nat.zero_le _), (Nat.zero_le _)⟩) hP hD hS hA [0] [1, 2, 3] rfl rfl (by decide) (by decide) (fun r_8 u_10 H locs hr_9 hP hD hS => ?_)
      obtain rfl : r_8 = nI 0 := by rw [hr_9]; rfl
      have hP := hP.sub (ws' := [(a5, .inr (5, [.int (nI 1), .int (nI k), .int now, .ref mD, .ref mI, .ref mZ, .int (nI nl), .ref mK, .ref mO, .ref mB, .ref mR, .ref mF, .int kM, .int oM])), (mD, xI cy 600000 G), (mI, xI cy 100000 It), (mK, xI cy 32 g)]) [3, 0, 1, 2] rfl
      have hD := hD.sub (ws' := [(a5, .inr (5, [.int (nI 1), .int (nI k), .int now, .ref mD, .ref mI, .ref mZ, .int (nI nl), .ref mK, .ref mO, .ref mB, .ref mR, .ref mF, .int kM, .int oM])), (mD, xI cy 600000 G), (mI, xI cy 100000 It), (mK, xI cy 32 g)]) [3, 0, 1, 2] (by decide) rfl
      refine xb_if_eq (tgt := 47) (a := 0) (by omega) hx hb dX5_keptAt_35 (by decide) (fun c_11 => ?_) (fun c_11 => ?_)
      · refine lv_iconst (v := nI 0) hx hb dX5_keptAt_47 (by decide) ?_
        exact kret _ g _ _ _ _ _ _ dX5_keptAt_48 trivial hP hD hS (Nat.le_of_ble_eq_true rfl) (Nat.le_of_ble_eq_true rfl)
      · exact absurd c_11 (by omega)
    · refine lv_iload_n hx hb dX5_keptAt_22 rfl (lv_at hl 3 rfl) ?_
      refine lv_iload_n hx hb dX5_keptAt_23 rfl (lv_at hl 0 rfl) ?_
      refine lv_icmp_ge (tgt := 31) hx hb dX5_keptAt_24 (by decide) (fun c_12 => ?_) (fun c_12 => ?_)
      · refine lv_iconst (v := nI 1) hx hb dX5_keptAt_31 (by decide) ?_
        refine xcWi (wr := [(mD, xI cy 600000 G), (mI, xI cy 100000 It), (mK, xI cy 32 g)]) (va_runV (As := [.int (nI 1)]) (rest := []) ⟨hx, hb, hml, hown, hts⟩ ((m_goesWell l D cy t0 a5 mD mI mZ mK mO mB mR mF k th now (nI nl) kM oM 1 (by omega)) H.size) (cwV 1 hts gX5_keptAt_X5_goesWell rfl rfl rfl (by decide +kernel) ⟨Nat.le_of_ble_eq_true rfl, Nat.le_of_ble_eq_true rfl⟩) (xPw.giveV (wc := [(a5, .inr (5, [.int th, .int (nI k), .int now, .ref mD, .ref mI, .ref mZ, .int (nI nl), .ref mK, .ref mO, .ref mB, .ref mR, .ref mF, .int kM, .int oM]))]) hE hS hA hP hD [0] (by decide) rfl 0 5 rfl rfl) rfl rfl hl.1 rfl (lv_room (Nat.le_of_ble_eq_true rfl)) dX5_keptAt_32 ⟨(Nat.zero_le _), (Nat.zero_le _)⟩) hP hD hS hA [0] [1, 2, 3] rfl rfl (by decide) (by decide) (fun r_13 u_15 H locs hr_14 hP hD hS => ?_)
        obtain rfl : r_13 = nI 0 := by rw [hr_14]; rfl
        have hP := hP.sub (ws' := [(a5, .inr (5, [.int (nI 1), .int (nI k), .int now, .ref mD, .ref mI, .ref mZ, .int (nI nl), .ref mK, .ref mO, .ref mB, .ref mR, .ref mF, .int kM, .int oM])), (mD, xI cy 600000 G), (mI, xI cy 100000 It), (mK, xI cy 32 g)]) [3, 0, 1, 2] rfl
        have hD := hD.sub (ws' := [(a5, .inr (5, [.int (nI 1), .int (nI k), .int now, .ref mD, .ref mI, .ref mZ, .int (nI nl), .ref mK, .ref mO, .ref mB, .ref mR, .ref mF, .int kM, .int oM])), (mD, xI cy 600000 G), (mI, xI cy 100000 It), (mK, xI cy 32 g)]) [3, 0, 1, 2] (by decide) rfl
        refine xb_if_eq (tgt := 47) (a := 0) (by omega) hx hb dX5_keptAt_35 (by decide) (fun c_16 => ?_) (fun c_16 => ?_)
        · refine lv_iconst (v := nI 0) hx hb dX5_keptAt_47 (by decide) ?_
          exact kret _ g _ _ _ _ _ _ dX5_keptAt_48 trivial hP hD hS (Nat.le_of_ble_eq_true rfl) (Nat.le_of_ble_eq_true rfl)
        · exact absurd c_16 (by omega)
      · exact (c_12 (by rw [hL1]; exact hbad.resolve_left c_7)).elim
set_option maxHeartbeats 4000000 in
set_option maxRecDepth 100000 in
theorem m_sampledAtV (l : Launch) (D : va_G) (cy : Nat → ClassId) (t0 : Nat) (a5 mD mI mZ mK mO mB mR mF k : Nat) (th now kM oM : Int32) (nl : Nat) (b : Nat) (p1 : Int32) (G It Zt : Nat → Int32) (lst : Nat → Nat) (hML : ML lst nl It Zt) (hCV : CV G lst nl) (hb6 : b < 6) (hbad : p1 < 0 ∨ nI (cb (SL (Sm (mb G b)) (lvl (Sm (mb G b)))) 100000) ≤ p1) : xWi (S := Unit) l yX5_sampledAt wsX5_sampledAt ({ frames := 3, cells := 0, slots := 0, locals := 68 } : Room) D cy t0 ([.ref a5, .int (nI b), .int p1]) ([(a5, .inr (5, [.int th, .int (nI k), .int now, .ref mD, .ref mI, .ref mZ, .int (nI nl), .ref mK, .ref mO, .ref mB, .ref mR, .ref mF, .int kM, .int oM])), (mD, xI cy 600000 G), (mI, xI cy 100000 It)]) (fun _ _ => True) (fun _ => [(a5, .inr (5, [.int (nI 1), .int (nI k), .int now, .ref mD, .ref mI, .ref mZ, .int (nI nl), .ref mK, .ref mO, .ref mB, .ref mR, .ref mF, .int kM, .int oM])), (mD, xI cy 600000 G), (mI, xI cy 100000 It)]) 0 0 := by
  refine xofWi (cc := cX5_sampledAt) (maxL := 7) (by decide) rfl (Nat.le_of_ble_eq_true rfl) (fun _ _ _ => rfl) ?_
  intro p e s m below meth c Q A ls hx hb hml hts hown hE hA H locs hP hD hl hS kret
  have hl : lv_has ls 7 [(0, .ref a5), (1, .int (nI b)), (2, .int p1)] := hl
  have hlv : lvl (Sm (mb G b)) ≤ 24 := by have := lvF_le (Sm (mb G b)) 24 0; unfold lvl; omega
  refine lv_iload_n hx hb dX5_sampledAt_0 rfl (lv_at hl 1 rfl) ?_
  refine xcRi (va_runS (As := [.int (nI b)]) (rest := []) ⟨hx, hb, hml, hown, hts⟩ (m_isBasket l D cy t0 (nI b)) (va_cwS 1 hts gX5_sampledAt_X5_isBasket rfl rfl rfl (by decide +kernel) ⟨Nat.le_of_ble_eq_true rfl, Nat.le_of_ble_eq_true rfl⟩) (xPr.give (wc := []) hE hS hP [] rfl) rfl rfl hl.1 rfl (lv_room (Nat.le_of_ble_eq_true rfl)) dX5_sampledAt_1 ⟨(Nat.zero_le _), (Nat.zero_le _)⟩) (fun r_1 hr_2 => ?_)
  obtain rfl : r_1 = nI 1 := by rw [hr_2, isBk_lt hb6]; rfl
  refine xb_if_eq (tgt := 15) (a := 1) (by omega) hx hb dX5_sampledAt_4 (by decide) (fun c_3 => ?_) (fun c_3 => ?_)
  · exact absurd c_3 (by omega)
  · refine lv_aload_n hx hb dX5_sampledAt_7 rfl (lv_at hl 0 rfl) ?_
    refine lv_iload_n hx hb dX5_sampledAt_8 rfl (lv_at hl 1 rfl) ?_
    refine xcRi (va_runV (As := [.int (nI b)]) (rest := []) ⟨hx, hb, hml, hown, hts⟩ (m_levelOf l D cy t0 a5 mD mI mZ mK mO mB mR mF k th now kM oM nl b G It Zt lst hML hCV hb6) (cwV 1 hts gX5_sampledAt_X5_levelOf rfl rfl rfl (by decide +kernel) ⟨Nat.le_of_ble_eq_true rfl, Nat.le_of_ble_eq_true rfl⟩) (xPr.giveV (wc := [(a5, .inr (5, [.int th, .int (nI k), .int now, .ref mD, .ref mI, .ref mZ, .int (nI nl), .ref mK, .ref mO, .ref mB, .ref mR, .ref mF, .int kM, .int oM])), (mD, xI cy 600000 G), (mI, xI cy 100000 It)]) hE hS hP [0, 1, 2] rfl 0 5 rfl rfl) rfl rfl hl.1 rfl (lv_room (Nat.le_of_ble_eq_true rfl)) dX5_sampledAt_9 ⟨(Nat.zero_le _), (Nat.zero_le _)⟩) (fun r_4 hr_5 => ?_)
    obtain rfl : r_4 = nI (lvl (Sm (mb G b))) := hr_5
    refine lv_goto (tgt := 16) hx hb dX5_sampledAt_12 (by decide) ?_
    refine lv_istore_n (lv' := [(3, .int (nI (lvl (Sm (mb G b))))), (0, .ref a5), (1, .int (nI b)), (2, .int p1)]) hx hb dX5_sampledAt_16 rfl hl (by decide) rfl (fun ls hl => ?_)
    refine lv_iload_n hx hb dX5_sampledAt_17 rfl (lv_at hl 2 rfl) ?_
    refine xcRi (va_runS (As := [.int (nI b)]) (rest := []) ⟨hx, hb, hml, hown, hts⟩ (m_isBasket l D cy t0 (nI b)) (va_cwS 1 hts gX5_sampledAt_X5_isBasket rfl rfl rfl (by decide +kernel) ⟨Nat.le_of_ble_eq_true rfl, Nat.le_of_ble_eq_true rfl⟩) (xPr.give (wc := []) hE hS hP [] rfl) rfl rfl hl.1 rfl (lv_room (Nat.le_of_ble_eq_true rfl)) dX5_sampledAt_18 ⟨(Nat.zero_le _), (Nat.zero_le _)⟩) (fun r_6 hr_7 => ?_)
    obtain rfl : r_6 = nI 1 := by rw [hr_7, isBk_lt hb6]; rfl
    refine xb_if_eq (tgt := 33) (a := 1) (by omega) hx hb dX5_sampledAt_21 (by decide) (fun c_8 => ?_) (fun c_8 => ?_)
    · exact absurd c_8 (by omega)
    · refine lv_aload_n hx hb dX5_sampledAt_24 rfl (lv_at hl 1 rfl) ?_
      refine lv_iload_n hx hb dX5_sampledAt_25 rfl (lv_at hl 2 rfl) ?_
      refine lv_iload_n hx hb dX5_sampledAt_26 rfl (lv_at hl 0 rfl) ?_
      refine xcRi (va_runV (As := [.int (nI b), .int (nI (lvl (Sm (mb G b))))]) (rest := []) ⟨hx, hb, hml, hown, hts⟩ (m_countAt l D cy t0 a5 mD mI mZ mK mO mB mR mF k th now kM oM nl b (lvl (Sm (mb G b))) G It Zt lst hML hCV hb6 hlv) (cwV 2 hts gX5_sampledAt_X5_countAt rfl rfl rfl (by decide +kernel) ⟨Nat.le_of_ble_eq_true rfl, Nat.le_of_ble_eq_true rfl⟩) (xPr.giveV (wc := [(a5, .inr (5, [.int th, .int (nI k), .int now, .ref mD, .ref mI, .ref mZ, .int (nI nl), .ref mK, .ref mO, .ref mB, .ref mR, .ref mF, .int kM, .int oM])), (mD, xI cy 600000 G), (mI, xI cy 100000 It)]) hE hS hP [0, 1, 2] rfl 0 5 rfl rfl) rfl rfl hl.1 rfl (lv_room (Nat.le_of_ble_eq_true rfl)) dX5_sampledAt_27 ⟨(Nat.zero_le _), (Nat.zero_le _)⟩) (fun r_9 hr_10 => ?_)
      obtain rfl : r_9 = nI (cb (SL (Sm (mb G b)) (lvl (Sm (mb G b)))) 100000) := hr_10
      have hcb9 := cb_le (P := SL (Sm (mb G b)) (lvl (Sm (mb G b)))) (n := 100000)
      refine lv_goto (tgt := 34) hx hb dX5_sampledAt_30 (by decide) ?_
      refine lv_istore (lv' := [(4, .int (nI (cb (SL (Sm (mb G b)) (lvl (Sm (mb G b)))) 100000))), (3, .int (nI (lvl (Sm (mb G b))))), (0, .ref a5), (1, .int (nI b)), (2, .int p1)]) hx hb dX5_sampledAt_34 hl (by decide) rfl (fun ls hl => ?_)
      refine lv_aload_n hx hb dX5_sampledAt_36 rfl (lv_at hl 2 rfl) ?_
      refine lv_iload_n hx hb dX5_sampledAt_37 rfl (lv_at hl 4 rfl) ?_
      refine lv_if_lt (tgt := 51) hx hb dX5_sampledAt_38 (by decide) (fun c_11 => ?_) (fun c_11 => ?_)
      · refine lv_iconst (v := nI 1) hx hb dX5_sampledAt_51 (by decide) ?_
        refine xcWi (wr := [(mD, xI cy 600000 G), (mI, xI cy 100000 It)]) (va_runV (As := [.int (nI 1)]) (rest := []) ⟨hx, hb, hml, hown, hts⟩ ((m_goesWell l D cy t0 a5 mD mI mZ mK mO mB mR mF k th now (nI nl) kM oM 1 (by omega)) H.size) (cwV 1 hts gX5_sampledAt_X5_goesWell rfl rfl rfl (by decide +kernel) ⟨Nat.le_of_ble_eq_true rfl, Nat.le_of_ble_eq_true rfl⟩) (xPw.giveV (wc := [(a5, .inr (5, [.int th, .int (nI k), .int now, .ref mD, .ref mI, .ref mZ, .int (nI nl), .ref mK, .ref mO, .ref mB, .ref mR, .ref mF, .int kM, .int oM]))]) hE hS hA hP hD [0] (by decide) rfl 0 5 rfl rfl) rfl rfl hl.1 rfl (lv_room (Nat.le_of_ble_eq_true rfl)) dX5_sampledAt_52 ⟨(Nat.zero_le _), (Nat.zero_le _)⟩) hP hD hS hA [0] [1, 2] rfl rfl (by decide) (by decide) (fun r_12 u_14 H locs hr_13 hP hD hS => ?_)
        obtain rfl : r_12 = nI 0 := by rw [hr_13]; rfl
        have hP := hP.sub (ws' := [(a5, .inr (5, [.int (nI 1), .int (nI k), .int now, .ref mD, .ref mI, .ref mZ, .int (nI nl), .ref mK, .ref mO, .ref mB, .ref mR, .ref mF, .int kM, .int oM])), (mD, xI cy 600000 G), (mI, xI cy 100000 It)]) [2, 0, 1] rfl
        have hD := hD.sub (ws' := [(a5, .inr (5, [.int (nI 1), .int (nI k), .int now, .ref mD, .ref mI, .ref mZ, .int (nI nl), .ref mK, .ref mO, .ref mB, .ref mR, .ref mF, .int kM, .int oM])), (mD, xI cy 600000 G), (mI, xI cy 100000 It)]) [2, 0, 1] (by decide) rfl
        refine xb_if_ne (tgt := 60) (a := 0) (by omega) hx hb dX5_sampledAt_55 (by decide) (fun c_15 => ?_) (fun c_15 => ?_)
        · exact absurd c_15 (by omega)
        · refine lv_iconst (v := nI 0) hx hb dX5_sampledAt_58 (by decide) ?_
          exact kret _ () _ _ _ _ _ _ dX5_sampledAt_59 trivial hP hD hS (Nat.le_of_ble_eq_true rfl) (Nat.le_of_ble_eq_true rfl)
      · refine lv_iload_n hx hb dX5_sampledAt_41 rfl (lv_at hl 4 rfl) ?_
        refine lv_iload hx hb dX5_sampledAt_42 (lv_at hl 0 rfl) ?_
        refine lv_icmp_ge (tgt := 51) hx hb dX5_sampledAt_44 (by decide) (fun c_16 => ?_) (fun c_16 => ?_)
        · refine lv_iconst (v := nI 1) hx hb dX5_sampledAt_51 (by decide) ?_
          refine xcWi (wr := [(mD, xI cy 600000 G), (mI, xI cy 100000 It)]) (va_runV (As := [.int (nI 1)]) (rest := []) ⟨hx, hb, hml, hown, hts⟩ ((m_goesWell l D cy t0 a5 mD mI mZ mK mO mB mR mF k th now (nI nl) kM oM 1 (by omega)) H.size) (cwV 1 hts gX5_sampledAt_X5_goesWell rfl rfl rfl (by decide +kernel) ⟨Nat.le_of_ble_eq_true rfl, Nat.le_of_ble_eq_true rfl⟩) (xPw.giveV (wc := [(a5, .inr (5, [.int th, .int (nI k), .int now, .ref mD, .ref mI, .ref mZ, .int (nI nl), .ref mK, .ref mO, .ref mB, .ref mR, .ref mF, .int kM, .int oM]))]) hE hS hA hP hD [0] (by decide) rfl 0 5 rfl rfl) rfl rfl hl.1 rfl (lv_room (Nat.le_of_ble_eq_true rfl)) dX5_sampledAt_52 ⟨(Nat.zero_le _), (Nat.zero_le _)⟩) hP hD hS hA [0] [1, 2] rfl rfl (by decide) (by decide) (fun r_17 u_19 H locs hr_18 hP hD hS => ?_)
          obtain rfl : r_17 = nI 0 := by rw [hr_18]; rfl
          have hP := hP.sub (ws' := [(a5, .inr (5, [.int (nI 1), .int (nI k), .int now, .ref mD, .ref mI, .ref mZ, .int (nI nl), .ref mK, .ref mO, .ref mB, .ref mR, .ref mF, .int kM, .int oM])), (mD, xI cy 600000 G), (mI, xI cy 100000 It)]) [2, 0, 1] rfl
          have hD := hD.sub (ws' := [(a5, .inr (5, [.int (nI 1), .int (nI k), .int now, .ref mD, .ref mI, .ref mZ, .int (nI nl), .ref mK, .ref mO, .ref mB, .ref mR, .ref mF, .int kM, .int oM])), (mD, xI cy 600000 G), (mI, xI cy 100000 It)]) [2, 0, 1] (by decide) rfl
          refine xb_if_ne (tgt := 60) (a := 0) (by omega) hx hb dX5_sampledAt_55 (by decide) (fun c_20 => ?_) (fun c_20 => ?_)
          · exact absurd c_20 (by omega)
          · refine lv_iconst (v := nI 0) hx hb dX5_sampledAt_58 (by decide) ?_
            exact kret _ () _ _ _ _ _ _ dX5_sampledAt_59 trivial hP hD hS (Nat.le_of_ble_eq_true rfl) (Nat.le_of_ble_eq_true rfl)
        · exact (c_16 (hbad.resolve_left c_11)).elim
end XX5E
