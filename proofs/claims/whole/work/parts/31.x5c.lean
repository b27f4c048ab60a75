section XX5C
set_option maxHeartbeats 4000000 in
set_option maxRecDepth 100000 in
theorem m_rankOf (l : Launch) (D : va_G) (cy : Nat → ClassId) (t0 : Nat) (h : Nat) (hh : h < 16777213) : xRi l yX5_rankOf wsX5_rankOf ({ frames := 0, cells := 0, slots := 0, locals := 0 } : Room) D cy t0 ([.int (nI h)]) ([]) (fun r => r = nI (rnk h)) := by
  refine xofRi (cc := cX5_rankOf) (maxL := 3) (by decide) rfl (Nat.le_of_ble_eq_true rfl) (fun _ _ => rfl) ?_
  intro p e s m below meth c Q ls hx hb hml hts hown hE hP hl hS kret
  have hl : lv_has ls 3 [(0, .int (nI h))] := hl
  refine lv_iload_n hx hb dX5_rankOf_0 rfl (lv_at hl 0 rfl) ?_
  refine lv_bipush (v := nI 16) hx hb dX5_rankOf_1 (by decide) ?_
  refine lv_idiv hx hb dX5_rankOf_3 (by decide) ?_
  refine lv_eqi (z := nI (h / 16)) (pk_div (by omega) (by omega) (by omega)) ?_
  refine lv_istore_n (lv' := [(1, .int (nI (h / 16))), (0, .int (nI h))]) hx hb dX5_rankOf_4 rfl hl (by decide) rfl (fun ls hl => ?_)
  refine lv_iconst (v := nI 1) hx hb dX5_rankOf_5 (by decide) ?_
  refine lv_istore_n (lv' := [(2, .int (nI 1)), (1, .int (nI (h / 16))), (0, .int (nI h))]) hx hb dX5_rankOf_6 rfl hl (by decide) rfl (fun ls hl => ?_)
  rcases Nat.eq_zero_or_pos (h / 16) with hv0 | hv0
  · have hmid := hv0
    refine lv_iload_n hx hb dX5_rankOf_7 rfl (lv_at hl 1 rfl) ?_
    refine xb_if_eq (tgt := 27) (a := h / 16) (by omega) hx hb dX5_rankOf_8 (by decide) (fun c_1 => ?_) (fun c_1 => ?_)
    · refine lv_iload_n hx hb dX5_rankOf_27 rfl (lv_at hl 1 rfl) ?_
      refine xb_if_ne (tgt := 36) (a := h / 16) (by omega) hx hb dX5_rankOf_28 (by decide) (fun c_2 => ?_) (fun c_2 => ?_)
      · exact absurd hv0 c_2
      · refine lv_bipush (v := nI 21) hx hb dX5_rankOf_31 (by decide) ?_
        refine lv_goto (tgt := 37) hx hb dX5_rankOf_33 (by decide) ?_
        exact kret _ _ _ dX5_rankOf_37 (congrArg nI (rk0 hv0))
    · exact absurd hv0 c_1
  · have hmid := hv0
    have lp : ∀ (n9 : Nat), ∀ (rest : Nat) (z : Nat), (h0 : 0 < rest) → (hr : h / 16 = rest * 2 ^ z) → (he : lz (h / 16) 20 0 = lz (h / 16) (20 - z) z) → rest < n9 → ∀ (ls : Array Slot), lv_has ls 3 [(0, .int (nI h)), (1, .int (nI rest)), (2, .int (nI (1 + z)))] → W p l e ({ frames := 0, cells := 0, slots := 0, locals := 0 } : Room) s m [.int (nI h)].toArray below meth c s.heap [] 0 0 Q (F0 m 7 ls []) := by
      intro n9
      induction n9 with
      | zero => intro rest z h0 hr he hm; exact absurd hm (Nat.not_lt_zero _)
      | succ n9 ih_lp =>
        intro rest z h0 hr he hm ls hl
        have hz := rk_z hr h0 (by omega)
        have hrl : rest ≤ h / 16 := by rw [hr]; exact Nat.le_mul_of_pos_right _ (Nat.two_pow_pos z)
        refine lv_iload_n hx hb dX5_rankOf_7 rfl (lv_at hl 1 rfl) ?_
        refine xb_if_eq (tgt := 27) (a := rest) (by omega) hx hb dX5_rankOf_8 (by decide) (fun c_3 => ?_) (fun c_3 => ?_)
        · exact absurd c_3 (by omega)
        · refine lv_iload_n hx hb dX5_rankOf_11 rfl (lv_at hl 1 rfl) ?_
          refine lv_iconst (v := nI 2) hx hb dX5_rankOf_12 (by decide) ?_
          refine lv_irem hx hb dX5_rankOf_13 (by decide) ?_
          refine lv_eqi (z := nI (rest % 2)) (pk_rem (by omega) (by omega) (by omega)) ?_
          refine xb_if_ne (tgt := 27) (a := rest % 2) (by omega) hx hb dX5_rankOf_14 (by decide) (fun c_4 => ?_) (fun c_4 => ?_)
          · refine lv_iload_n hx hb dX5_rankOf_27 rfl (lv_at hl 1 rfl) ?_
            refine xb_if_ne (tgt := 36) (a := rest) (by omega) hx hb dX5_rankOf_28 (by decide) (fun c_5 => ?_) (fun c_5 => ?_)
            · refine lv_iload_n hx hb dX5_rankOf_36 rfl (lv_at hl 2 rfl) ?_
              exact kret _ _ _ dX5_rankOf_37 (congrArg nI (rk_hit rfl hr hz he c_4))
            · exact absurd c_5 (by omega)
          · refine lv_iload_n hx hb dX5_rankOf_17 rfl (lv_at hl 1 rfl) ?_
            refine lv_iconst (v := nI 2) hx hb dX5_rankOf_18 (by decide) ?_
            refine lv_idiv hx hb dX5_rankOf_19 (by decide) ?_
            refine lv_eqi (z := nI (rest / 2)) (pk_div (by omega) (by omega) (by omega)) ?_
            refine lv_istore_n (lv' := [(1, .int (nI (rest / 2))), (0, .int (nI h)), (2, .int (nI (1 + z)))]) hx hb dX5_rankOf_20 rfl hl (by decide) rfl (fun ls hl => ?_)
            refine lv_iinc (v := nI (1 + (z + 1))) (lv' := [(2, .int (nI (1 + (z + 1)))), (1, .int (nI (rest / 2))), (0, .int (nI h))]) hx hb dX5_rankOf_21 hl (k := 2) rfl (nI_add _ 1) (by decide) rfl (fun ls hl => ?_)
            refine lv_goto (tgt := 7) hx hb dX5_rankOf_24 (by decide) ?_
            have hs9 := rk_step hr hz c_4
            exact ih_lp (rest / 2) (z + 1) (by omega) hs9.1 (by rw [he]; exact hs9.2) (by omega) _ (lv_sub hl [2, 1, 0] rfl)
    exact lp (h / 16 + 1) (h / 16) 0 hv0 (by simp) rfl (by omega) _ (lv_sub hl [2, 1, 0] rfl)
set_option maxHeartbeats 4000000 in
set_option maxRecDepth 100000 in
theorem m_layRegs (l : Launch) (D : va_G) (cy : Nat → ClassId) (t0 : Nat) (a5 mD mI mZ mK mO mB mR mF k : Nat) (th now kM oM : Int32) (nl : Nat) (b : Nat) (bd : Int32) (fR : Nat → Int32) (G It Zt : Nat → Int32) (lst : Nat → Nat) (hML : ML lst nl It Zt) (hCV : CV G lst nl) (hb6 : b < 6) (hbd : (-1 : Int32) ≤ bd) : xWv (S := Nat → Int32) l yX5_layRegisters wsX5_layRegisters ({ frames := 1, cells := 0, slots := 0, locals := 22 } : Room) D cy t0 ([.ref a5, .int (nI b), .int bd]) ([(a5, .inr (5, [.int th, .int (nI k), .int now, .ref mD, .ref mI, .ref mZ, .int (nI nl), .ref mK, .ref mO, .ref mB, .ref mR, .ref mF, .int kM, .int oM])), (mD, xI cy 600000 G), (mI, xI cy 100000 It), (mR, xI cy 16 fR)]) (fun u => RG (Tm (mb G b) bd) 100000 u) (fun u => [(a5, .inr (5, [.int th, .int (nI k), .int now, .ref mD, .ref mI, .ref mZ, .int (nI nl), .ref mK, .ref mO, .ref mB, .ref mR, .ref mF, .int kM, .int oM])), (mD, xI cy 600000 G), (mI, xI cy 100000 It), (mR, xI cy 16 u)]) 0 0 := by
  refine xofWv (cc := cX5_layRegisters) (maxL := 6) (by decide) rfl (Nat.le_of_ble_eq_true rfl) ?_
  intro p e s m below meth c Q A ls hx hb hml hts hown hin hE hA H locs hP hD hl hS kret
  have hl : lv_has ls 6 [(0, .ref a5), (1, .int (nI b)), (2, .int bd)] := hl
  have hnle := hML.le
  refine lv_iconst (v := nI 0) hx hb dX5_layRegisters_0 (by decide) ?_
  refine lv_istore_n (lv' := [(3, .int (nI 0)), (0, .ref a5), (1, .int (nI b)), (2, .int bd)]) hx hb dX5_layRegisters_1 rfl hl (by decide) rfl (fun ls hl => ?_)
  have lz0 : ∀ (n9 : Nat), ∀ (j : Nat) (f2 : Nat → Int32), (hj : j ≤ 16) → (hz : ∀ r, r < j → f2 r = nI 0) → 16 - j < n9 → ∀ (H : Heap) (locs : List Loc), xP D [(a5, .inr (5, [.int th, .int (nI k), .int now, .ref mD, .ref mI, .ref mZ, .int (nI nl), .ref mK, .ref mO, .ref mB, .ref mR, .ref mF, .int kM, .int oM])), (mD, xI cy 600000 G), (mI, xI cy 100000 It), (mR, xI cy 16 f2)] H → va_D A [(a5, .inr (5, [.int th, .int (nI k), .int now, .ref mD, .ref mI, .ref mZ, .int (nI nl), .ref mK, .ref mO, .ref mB, .ref mR, .ref mF, .int kM, .int oM])), (mD, xI cy 600000 G), (mI, xI cy 100000 It), (mR, xI cy 16 f2)] → va_S A s.heap H locs → ∀ (ls : Array Slot), lv_has ls 6 [(0, .ref a5), (1, .int (nI b)), (2, .int bd), (3, .int (nI j))] → W p l e ({ frames := 1, cells := 0, slots := 0, locals := 22 } : Room) s m [.ref a5, .int (nI b), .int bd].toArray below meth c H locs 0 0 Q (F0 m 2 ls []) := by
    intro n9
    induction n9 with
    | zero => intro j f2 hj hz hm; exact absurd hm (Nat.not_lt_zero _)
    | succ n9 ih_lz0 =>
      intro j f2 hj hz hm H locs hP hD hS ls hl
      refine lv_iload_n hx hb dX5_layRegisters_2 rfl (lv_at hl 3 rfl) ?_
      refine lv_bipush (v := nI 16) hx hb dX5_layRegisters_3 (by decide) ?_
      refine xb_icmp_ge (tgt := 21) (a := j) (b := 16) (by omega) (by omega) hx hb dX5_layRegisters_5 (by decide) (fun c_1 => ?_) (fun c_1 => ?_)
      · refine lv_iconst (v := nI 0) hx hb dX5_layRegisters_21 (by decide) ?_
        refine lv_istore_n (lv' := [(3, .int (nI 0)), (0, .ref a5), (1, .int (nI b)), (2, .int bd)]) hx hb dX5_layRegisters_22 rfl hl (by decide) rfl (fun ls hl => ?_)
        have lp : ∀ (n9 : Nat), ∀ (j : Nat) (f3 : Nat → Int32), (hj : j ≤ nl) → (hR : RLs lst (Tm (mb G b) bd) j f3) → nl - j < n9 → ∀ (H : Heap) (locs : List Loc), xP D [(a5, .inr (5, [.int th, .int (nI k), .int now, .ref mD, .ref mI, .ref mZ, .int (nI nl), .ref mK, .ref mO, .ref mB, .ref mR, .ref mF, .int kM, .int oM])), (mD, xI cy 600000 G), (mI, xI cy 100000 It), (mR, xI cy 16 f3)] H → va_D A [(a5, .inr (5, [.int th, .int (nI k), .int now, .ref mD, .ref mI, .ref mZ, .int (nI nl), .ref mK, .ref mO, .ref mB, .ref mR, .ref mF, .int kM, .int oM])), (mD, xI cy 600000 G), (mI, xI cy 100000 It), (mR, xI cy 16 f3)] → va_S A s.heap H locs → ∀ (ls : Array Slot), lv_has ls 6 [(0, .ref a5), (1, .int (nI b)), (2, .int bd), (3, .int (nI j))] → W p l e ({ frames := 1, cells := 0, slots := 0, locals := 22 } : Room) s m [.ref a5, .int (nI b), .int bd].toArray below meth c H locs 0 0 Q (F0 m 23 ls []) := by
          intro n9
          induction n9 with
          | zero => intro j f3 hj hR hm; exact absurd hm (Nat.not_lt_zero _)
          | succ n9 ih_lp =>
            intro j f3 hj hR hm H locs hP hD hS ls hl
            refine lv_iload_n hx hb dX5_layRegisters_23 rfl (lv_at hl 3 rfl) ?_
            refine lv_aload_n hx hb dX5_layRegisters_24 rfl (lv_at hl 0 rfl) ?_
            refine va_get (D := D) (ci := 5) (v := .int (nI nl)) (C := RX5) (T := TX5) (N := 14) hx hb hts (by decide +kernel) hown hE.1 hP 0 rfl rfl 6 (by decide) (hts (.fieldLink RX5 58 "DistinctDaleModel" "listed" "I") (by decide +kernel)) (fun _ h9 => h9) rfl dX5_layRegisters_25 ?_
            refine xb_icmp_ge (tgt := 119) (a := j) (b := nl) (by omega) (by omega) hx hb dX5_layRegisters_28 (by decide) (fun c_2 => ?_) (fun c_2 => ?_)
            · obtain rfl : j = nl := by omega
              exact kret f3 _ _ _ _ _ _ dX5_layRegisters_119 (fun r hr => by rw [hR r hr, mxl_all hML (fun x hx h => hCV b hb6 x hx (by unfold Tm at h; simp at h; exact h.1))]) hP hD hS (Nat.le_of_ble_eq_true rfl) (Nat.le_of_ble_eq_true rfl)
            · refine lv_aload_n hx hb dX5_layRegisters_31 rfl (lv_at hl 0 rfl) ?_
              refine va_get (D := D) (ci := 5) (v := .ref mI) (C := RX5) (T := TX5) (N := 14) hx hb hts (by decide +kernel) hown hE.1 hP 0 rfl rfl 4 (by decide) (hts (.fieldLink RX5 15 "DistinctDaleModel" "items" "[I") (by decide +kernel)) (fun _ h9 => h9) rfl dX5_layRegisters_32 ?_
              refine lv_iload_n hx hb dX5_layRegisters_35 rfl (lv_at hl 3 rfl) ?_
              refine va_iald (D := D) hx hb hE.1 hP 2 0 rfl rfl (vp_in_nI (by omega) (by omega)) dX5_layRegisters_36 ?_
              refine lv_eqi (z := nI (lst j)) (by rw [nI_clamp (by omega)]; exact (hML.1 j (by omega)).2) ?_
              refine xcRi (va_runS (As := [.int (nI (lst j))]) (rest := []) ⟨hx, hb, hml, hown, hts⟩ (m_hashOf l D cy t0 (lst j) (hML.1 j (by omega)).1) (va_cwS 1 hts gX5_layRegisters_X5_hashOf rfl rfl rfl (by decide +kernel) ⟨Nat.le_of_ble_eq_true rfl, Nat.le_of_ble_eq_true rfl⟩) (xPr.give (wc := []) hE hS hP [] rfl) rfl rfl hl.1 rfl (lv_room (Nat.le_of_ble_eq_true rfl)) dX5_layRegisters_37 ⟨(Nat.zero_le _), (Nat.zero_le _)⟩) (fun r_3 hr_4 => ?_)
              obtain rfl : r_3 = nI (hsh (lst j)) := hr_4
              have hhl := hsh_lt (lst j)
              have hlj := (hML.1 j (by omega)).1
              have hrl := rnk_le (hsh (lst j))
              have hml9 := mxl_le (lst := lst) (T := (Tm (mb G b) bd)) (r := hsh (lst j) % 16) j
              refine lv_istore (lv' := [(4, .int (nI (hsh (lst j)))), (0, .ref a5), (1, .int (nI b)), (2, .int bd), (3, .int (nI j))]) hx hb dX5_layRegisters_40 hl (by decide) rfl (fun ls hl => ?_)
              refine lv_aload_n hx hb dX5_layRegisters_42 rfl (lv_at hl 1 rfl) ?_
              refine va_get (D := D) (ci := 5) (v := .ref mD) (C := RX5) (T := TX5) (N := 14) hx hb hts (by decide +kernel) hown hE.1 hP 0 rfl rfl 3 (by decide) (hts (.fieldLink RX5 8 "DistinctDaleModel" "dates" "[I") (by decide +kernel)) (fun _ h9 => h9) rfl dX5_layRegisters_43 ?_
              refine lv_ldc (v := nI 100000) hx hb hown (hts (.constant RX5 14 (100000)) (by decide +kernel)) dX5_layRegisters_46 ?_
              refine lv_iload_n hx hb dX5_layRegisters_48 rfl (lv_at hl 2 rfl) ?_
              refine lv_imul hx hb dX5_layRegisters_49 ?_
              refine lv_eqi (z := nI (100000 * b)) (pk_mul _ _) ?_
              refine lv_aload_n hx hb dX5_layRegisters_50 rfl (lv_at hl 1 rfl) ?_
              refine va_get (D := D) (ci := 5) (v := .ref mI) (C := RX5) (T := TX5) (N := 14) hx hb hts (by decide +kernel) hown hE.1 hP 0 rfl rfl 4 (by decide) (hts (.fieldLink RX5 15 "DistinctDaleModel" "items" "[I") (by decide +kernel)) (fun _ h9 => h9) rfl dX5_layRegisters_51 ?_
              refine lv_iload_n hx hb dX5_layRegisters_54 rfl (lv_at hl 4 rfl) ?_
              refine va_iald (D := D) hx hb hE.1 hP 2 0 rfl rfl (vp_in_nI (by omega) (by omega)) dX5_layRegisters_55 ?_
              refine lv_eqi (z := nI (lst j)) (by rw [nI_clamp (by omega)]; exact (hML.1 j (by omega)).2) ?_
              refine lv_iadd hx hb dX5_layRegisters_56 ?_
              refine lv_eqi (z := nI ((100000 * b) + (lst j))) (nI_add _ _) ?_
              refine va_iald (D := D) hx hb hE.1 hP 1 0 rfl rfl (vp_in_nI (by omega) (by omega)) dX5_layRegisters_57 ?_
              refine lv_eqi (z := mb G b (lst j)) (by rw [nI_clamp (by omega), mb_lt hlj]) ?_
              refine lv_iload_n hx hb dX5_layRegisters_58 rfl (lv_at hl 3 rfl) ?_
              refine lv_icmp_le (tgt := 70) hx hb dX5_layRegisters_59 (by decide) (fun c_5 => ?_) (fun c_5 => ?_)
              · have hT : (Tm (mb G b) bd) (lst j) = false := by
                  cases hq : (Tm (mb G b) bd) (lst j) with
                  | false => rfl
                  | true => exact absurd c_5 (Int32.not_le.mpr ((Tm_gt hbd).mp hq))
                refine lv_iconst (v := nI 0) hx hb dX5_layRegisters_70 (by decide) ?_
                refine lv_istore (lv' := [(5, .int (nI 0)), (4, .int (nI (hsh (lst j)))), (0, .ref a5), (1, .int (nI b)), (2, .int bd), (3, .int (nI j))]) hx hb dX5_layRegisters_71 hl (by decide) rfl (fun ls hl => ?_)
                refine lv_aload_n hx hb dX5_layRegisters_73 rfl (lv_at hl 2 rfl) ?_
                refine va_get (D := D) (ci := 5) (v := .ref mR) (C := RX5) (T := TX5) (N := 14) hx hb hts (by decide +kernel) hown hE.1 hP 0 rfl rfl 10 (by decide) (hts (.fieldLink RX5 31 "DistinctDaleModel" "registers" "[I") (by decide +kernel)) (fun _ h9 => h9) rfl dX5_layRegisters_74 ?_
                refine lv_iload hx hb dX5_layRegisters_77 (lv_at hl 1 rfl) ?_
                refine lv_bipush (v := nI 16) hx hb dX5_layRegisters_79 (by decide) ?_
                refine lv_irem hx hb dX5_layRegisters_81 (by decide) ?_
                refine lv_eqi (z := nI (hsh (lst j) % 16)) (pk_rem (by omega) (by omega) (by omega)) ?_
                refine lv_iload hx hb dX5_layRegisters_82 (lv_at hl 0 rfl) ?_
                refine lv_aload_n hx hb dX5_layRegisters_84 rfl (lv_at hl 2 rfl) ?_
                refine va_get (D := D) (ci := 5) (v := .ref mR) (C := RX5) (T := TX5) (N := 14) hx hb hts (by decide +kernel) hown hE.1 hP 0 rfl rfl 10 (by decide) (hts (.fieldLink RX5 31 "DistinctDaleModel" "registers" "[I") (by decide +kernel)) (fun _ h9 => h9) rfl dX5_layRegisters_85 ?_
                refine lv_iload hx hb dX5_layRegisters_88 (lv_at hl 1 rfl) ?_
                refine lv_bipush (v := nI 16) hx hb dX5_layRegisters_90 (by decide) ?_
                refine lv_irem hx hb dX5_layRegisters_92 (by decide) ?_
                refine lv_eqi (z := nI (hsh (lst j) % 16)) (pk_rem (by omega) (by omega) (by omega)) ?_
                refine va_iald (D := D) hx hb hE.1 hP 3 0 rfl rfl (vp_in_nI (by omega) (by omega)) dX5_layRegisters_93 ?_
                refine lv_eqi (z := nI (mxl lst (Tm (mb G b) bd) (hsh (lst j) % 16) j)) (by rw [nI_clamp (by omega)]; exact hR _ (by omega)) ?_
                refine xb_icmp_le (tgt := 102) (a := 0) (b := mxl lst (Tm (mb G b) bd) (hsh (lst j) % 16) j) (by omega) (by omega) hx hb dX5_layRegisters_94 (by decide) (fun c_6 => ?_) (fun c_6 => ?_)
                · refine lv_aload_n hx hb dX5_layRegisters_102 rfl (lv_at hl 2 rfl) ?_
                  refine va_get (D := D) (ci := 5) (v := .ref mR) (C := RX5) (T := TX5) (N := 14) hx hb hts (by decide +kernel) hown hE.1 hP 0 rfl rfl 10 (by decide) (hts (.fieldLink RX5 31 "DistinctDaleModel" "registers" "[I") (by decide +kernel)) (fun _ h9 => h9) rfl dX5_layRegisters_103 ?_
                  refine lv_iload hx hb dX5_layRegisters_106 (lv_at hl 1 rfl) ?_
                  refine lv_bipush (v := nI 16) hx hb dX5_layRegisters_108 (by decide) ?_
                  refine lv_irem hx hb dX5_layRegisters_110 (by decide) ?_
                  refine lv_eqi (z := nI (hsh (lst j) % 16)) (pk_rem (by omega) (by omega) (by omega)) ?_
                  refine va_iald (D := D) hx hb hE.1 hP 3 0 rfl rfl (vp_in_nI (by omega) (by omega)) dX5_layRegisters_111 ?_
                  refine lv_eqi (z := nI (mxl lst (Tm (mb G b) bd) (hsh (lst j) % 16) j)) (by rw [nI_clamp (by omega)]; exact hR _ (by omega)) ?_
                  refine lv_eqi (z := nI (max (mxl lst (Tm (mb G b) bd) (hsh (lst j) % 16) j) (0))) (congrArg nI (Nat.max_eq_left (by omega)).symm) ?_
                  refine va_iast (D := D) hx hb hE.1 hP hD hS 3 0 rfl rfl (vp_in_nI (by omega) (by omega)) dX5_layRegisters_112 (fun H locs hP hD hS => ?_)
                  rw [nI_clamp (by omega)] at hP hD
                  have hP : xP D [(a5, .inr (5, [.int th, .int (nI k), .int now, .ref mD, .ref mI, .ref mZ, .int (nI nl), .ref mK, .ref mO, .ref mB, .ref mR, .ref mF, .int kM, .int oM])), (mD, xI cy 600000 G), (mI, xI cy 100000 It), (mR, xI cy 16 (upd f3 (hsh (lst j) % 16) (nI (max (mxl lst (Tm (mb G b) bd) (hsh (lst j) % 16) j) (0)))))] H := hP
                  have hD : va_D A [(a5, .inr (5, [.int th, .int (nI k), .int now, .ref mD, .ref mI, .ref mZ, .int (nI nl), .ref mK, .ref mO, .ref mB, .ref mR, .ref mF, .int kM, .int oM])), (mD, xI cy 600000 G), (mI, xI cy 100000 It), (mR, xI cy 16 (upd f3 (hsh (lst j) % 16) (nI (max (mxl lst (Tm (mb G b) bd) (hsh (lst j) % 16) j) (0)))))] := hD
                  refine lv_iinc (v := nI (j + 1)) (lv' := [(3, .int (nI (j + 1))), (5, .int (nI 0)), (4, .int (nI (hsh (lst j)))), (0, .ref a5), (1, .int (nI b)), (2, .int bd)]) hx hb dX5_layRegisters_113 hl (k := 5) rfl (nI_add _ 1) (by decide) rfl (fun ls hl => ?_)
                  refine lv_goto (tgt := 23) hx hb dX5_layRegisters_116 (by decide) ?_
                  exact ih_lp (j + 1) (upd f3 (hsh (lst j) % 16) (nI (max (mxl lst (Tm (mb G b) bd) (hsh (lst j) % 16) j) (0)))) (by omega) (hR.step (rk := 0) ((if_neg (by rw [hT]; simp)).symm)) (by omega) _ _ hP hD hS _ (lv_sub hl [3, 4, 5, 0] rfl)
                · refine lv_iload hx hb dX5_layRegisters_97 (lv_at hl 0 rfl) ?_
                  refine lv_goto (tgt := 112) hx hb dX5_layRegisters_99 (by decide) ?_
                  refine lv_eqi (z := nI (max (mxl lst (Tm (mb G b) bd) (hsh (lst j) % 16) j) (0))) (congrArg nI (Nat.max_eq_right (by omega)).symm) ?_
                  refine va_iast (D := D) hx hb hE.1 hP hD hS 3 0 rfl rfl (vp_in_nI (by omega) (by omega)) dX5_layRegisters_112 (fun H locs hP hD hS => ?_)
                  rw [nI_clamp (by omega)] at hP hD
                  have hP : xP D [(a5, .inr (5, [.int th, .int (nI k), .int now, .ref mD, .ref mI, .ref mZ, .int (nI nl), .ref mK, .ref mO, .ref mB, .ref mR, .ref mF, .int kM, .int oM])), (mD, xI cy 600000 G), (mI, xI cy 100000 It), (mR, xI cy 16 (upd f3 (hsh (lst j) % 16) (nI (max (mxl lst (Tm (mb G b) bd) (hsh (lst j) % 16) j) (0)))))] H := hP
                  have hD : va_D A [(a5, .inr (5, [.int th, .int (nI k), .int now, .ref mD, .ref mI, .ref mZ, .int (nI nl), .ref mK, .ref mO, .ref mB, .ref mR, .ref mF, .int kM, .int oM])), (mD, xI cy 600000 G), (mI, xI cy 100000 It), (mR, xI cy 16 (upd f3 (hsh (lst j) % 16) (nI (max (mxl lst (Tm (mb G b) bd) (hsh (lst j) % 16) j) (0)))))] := hD
                  refine lv_iinc (v := nI (j + 1)) (lv' := [(3, .int (nI (j + 1))), (5, .int (nI 0)), (4, .int (nI (hsh (lst j)))), (0, .ref a5), (1, .int (nI b)), (2, .int bd)]) hx hb dX5_layRegisters_113 hl (k := 5) rfl (nI_add _ 1) (by decide) rfl (fun ls hl => ?_)
                  refine lv_goto (tgt := 23) hx hb dX5_layRegisters_116 (by decide) ?_
                  exact ih_lp (j + 1) (upd f3 (hsh (lst j) % 16) (nI (max (mxl lst (Tm (mb G b) bd) (hsh (lst j) % 16) j) (0)))) (by omega) (hR.step (rk := 0) ((if_neg (by rw [hT]; simp)).symm)) (by omega) _ _ hP hD hS _ (lv_sub hl [3, 4, 5, 0] rfl)
              · have hT : (Tm (mb G b) bd) (lst j) = true := (Tm_gt hbd).mpr (Int32.not_le.mp c_5)
                refine lv_iload hx hb dX5_layRegisters_62 (lv_at hl 0 rfl) ?_
                refine xcRi (va_runS (As := [.int (nI (hsh (lst j)))]) (rest := []) ⟨hx, hb, hml, hown, hts⟩ (m_rankOf l D cy t0 (hsh (lst j)) hhl) (va_cwS 1 hts gX5_layRegisters_X5_rankOf rfl rfl rfl (by decide +kernel) ⟨Nat.le_of_ble_eq_true rfl, Nat.le_of_ble_eq_true rfl⟩) (xPr.give (wc := []) hE hS hP [] rfl) rfl rfl hl.1 rfl (lv_room (Nat.le_of_ble_eq_true rfl)) dX5_layRegisters_64 ⟨(Nat.zero_le _), (Nat.zero_le _)⟩) (fun r_7 hr_8 => ?_)
                obtain rfl : r_7 = nI (rnk (hsh (lst j))) := hr_8
                refine lv_goto (tgt := 71) hx hb dX5_layRegisters_67 (by decide) ?_
                refine lv_istore (lv' := [(5, .int (nI (rnk (hsh (lst j))))), (4, .int (nI (hsh (lst j)))), (0, .ref a5), (1, .int (nI b)), (2, .int bd), (3, .int (nI j))]) hx hb dX5_layRegisters_71 hl (by decide) rfl (fun ls hl => ?_)
                refine lv_aload_n hx hb dX5_layRegisters_73 rfl (lv_at hl 2 rfl) ?_
                refine va_get (D := D) (ci := 5) (v := .ref mR) (C := RX5) (T := TX5) (N := 14) hx hb hts (by decide +kernel) hown hE.1 hP 0 rfl rfl 10 (by decide) (hts (.fieldLink RX5 31 "DistinctDaleModel" "registers" "[I") (by decide +kernel)) (fun _ h9 => h9) rfl dX5_layRegisters_74 ?_
                refine lv_iload hx hb dX5_layRegisters_77 (lv_at hl 1 rfl) ?_
                refine lv_bipush (v := nI 16) hx hb dX5_layRegisters_79 (by decide) ?_
                refine lv_irem hx hb dX5_layRegisters_81 (by decide) ?_
                refine lv_eqi (z := nI (hsh (lst j) % 16)) (pk_rem (by omega) (by omega) (by omega)) ?_
                refine lv_iload hx hb dX5_layRegisters_82 (lv_at hl 0 rfl) ?_
                refine lv_aload_n hx hb dX5_layRegisters_84 rfl (lv_at hl 2 rfl) ?_
                refine va_get (D := D) (ci := 5) (v := .ref mR) (C := RX5) (T := TX5) (N := 14) hx hb hts (by decide +kernel) hown hE.1 hP 0 rfl rfl 10 (by decide) (hts (.fieldLink RX5 31 "DistinctDaleModel" "registers" "[I") (by decide +kernel)) (fun _ h9 => h9) rfl dX5_layRegisters_85 ?_
                refine lv_iload hx hb dX5_layRegisters_88 (lv_at hl 1 rfl) ?_
                refine lv_bipush (v := nI 16) hx hb dX5_layRegisters_90 (by decide) ?_
                refine lv_irem hx hb dX5_layRegisters_92 (by decide) ?_
                refine lv_eqi (z := nI (hsh (lst j) % 16)) (pk_rem (by omega) (by omega) (by omega)) ?_
                refine va_iald (D := D) hx hb hE.1 hP 3 0 rfl rfl (vp_in_nI (by omega) (by omega)) dX5_layRegisters_93 ?_
                refine lv_eqi (z := nI (mxl lst (Tm (mb G b) bd) (hsh (lst j) % 16) j)) (by rw [nI_clamp (by omega)]; exact hR _ (by omega)) ?_
                refine xb_icmp_le (tgt := 102) (a := rnk (hsh (lst j))) (b := mxl lst (Tm (mb G b) bd) (hsh (lst j) % 16) j) (by omega) (by omega) hx hb dX5_layRegisters_94 (by decide) (fun c_9 => ?_) (fun c_9 => ?_)
                · refine lv_aload_n hx hb dX5_layRegisters_102 rfl (lv_at hl 2 rfl) ?_
                  refine va_get (D := D) (ci := 5) (v := .ref mR) (C := RX5) (T := TX5) (N := 14) hx hb hts (by decide +kernel) hown hE.1 hP 0 rfl rfl 10 (by decide) (hts (.fieldLink RX5 31 "DistinctDaleModel" "registers" "[I") (by decide +kernel)) (fun _ h9 => h9) rfl dX5_layRegisters_103 ?_
                  refine lv_iload hx hb dX5_layRegisters_106 (lv_at hl 1 rfl) ?_
                  refine lv_bipush (v := nI 16) hx hb dX5_layRegisters_108 (by decide) ?_
                  refine lv_irem hx hb dX5_layRegisters_110 (by decide) ?_
                  refine lv_eqi (z := nI (hsh (lst j) % 16)) (pk_rem (by omega) (by omega) (by omega)) ?_
                  refine va_iald (D := D) hx hb hE.1 hP 3 0 rfl rfl (vp_in_nI (by omega) (by omega)) dX5_layRegisters_111 ?_
                  refine lv_eqi (z := nI (mxl lst (Tm (mb G b) bd) (hsh (lst j) % 16) j)) (by rw [nI_clamp (by omega)]; exact hR _ (by omega)) ?_
                  refine lv_eqi (z := nI (max (mxl lst (Tm (mb G b) bd) (hsh (lst j) % 16) j) (rnk (hsh (lst j))))) (congrArg nI (Nat.max_eq_left (by omega)).symm) ?_
                  refine va_iast (D := D) hx hb hE.1 hP hD hS 3 0 rfl rfl (vp_in_nI (by omega) (by omega)) dX5_layRegisters_112 (fun H locs hP hD hS => ?_)
                  rw [nI_clamp (by omega)] at hP hD
                  have hP : xP D [(a5, .inr (5, [.int th, .int (nI k), .int now, .ref mD, .ref mI, .ref mZ, .int (nI nl), .ref mK, .ref mO, .ref mB, .ref mR, .ref mF, .int kM, .int oM])), (mD, xI cy 600000 G), (mI, xI cy 100000 It), (mR, xI cy 16 (upd f3 (hsh (lst j) % 16) (nI (max (mxl lst (Tm (mb G b) bd) (hsh (lst j) % 16) j) (rnk (hsh (lst j)))))))] H := hP
                  have hD : va_D A [(a5, .inr (5, [.int th, .int (nI k), .int now, .ref mD, .ref mI, .ref mZ, .int (nI nl), .ref mK, .ref mO, .ref mB, .ref mR, .ref mF, .int kM, .int oM])), (mD, xI cy 600000 G), (mI, xI cy 100000 It), (mR, xI cy 16 (upd f3 (hsh (lst j) % 16) (nI (max (mxl lst (Tm (mb G b) bd) (hsh (lst j) % 16) j) (rnk (hsh (lst j)))))))] := hD
                  refine lv_iinc (v := nI (j + 1)) (lv' := [(3, .int (nI (j + 1))), (5, .int (nI (rnk (hsh (lst j))))), (4, .int (nI (hsh (lst j)))), (0, .ref a5), (1, .int (nI b)), (2, .int bd)]) hx hb dX5_layRegisters_113 hl (k := 5) rfl (nI_add _ 1) (by decide) rfl (fun ls hl => ?_)
                  refine lv_goto (tgt := 23) hx hb dX5_layRegisters_116 (by decide) ?_
                  exact ih_lp (j + 1) (upd f3 (hsh (lst j) % 16) (nI (max (mxl lst (Tm (mb G b) bd) (hsh (lst j) % 16) j) (rnk (hsh (lst j)))))) (by omega) (hR.step (rk := rnk (hsh (lst j))) ((if_pos hT).symm)) (by omega) _ _ hP hD hS _ (lv_sub hl [3, 4, 5, 0] rfl)
                · refine lv_iload hx hb dX5_layRegisters_97 (lv_at hl 0 rfl) ?_
                  refine lv_goto (tgt := 112) hx hb dX5_layRegisters_99 (by decide) ?_
                  refine lv_eqi (z := nI (max (mxl lst (Tm (mb G b) bd) (hsh (lst j) % 16) j) (rnk (hsh (lst j))))) (congrArg nI (Nat.max_eq_right (by omega)).symm) ?_
                  refine va_iast (D := D) hx hb hE.1 hP hD hS 3 0 rfl rfl (vp_in_nI (by omega) (by omega)) dX5_layRegisters_112 (fun H locs hP hD hS => ?_)
                  rw [nI_clamp (by omega)] at hP hD
                  have hP : xP D [(a5, .inr (5, [.int th, .int (nI k), .int now, .ref mD, .ref mI, .ref mZ, .int (nI nl), .ref mK, .ref mO, .ref mB, .ref mR, .ref mF, .int kM, .int oM])), (mD, xI cy 600000 G), (mI, xI cy 100000 It), (mR, xI cy 16 (upd f3 (hsh (lst j) % 16) (nI (max (mxl lst (Tm (mb G b) bd) (hsh (lst j) % 16) j) (rnk (hsh (lst j)))))))] H := hP
                  have hD : va_D A [(a5, .inr (5, [.int th, .int (nI k), .int now, .ref mD, .ref mI, .ref mZ, .int (nI nl), .ref mK, .ref mO, .ref mB, .ref mR, .ref mF, .int kM, .int oM])), (mD, xI cy 600000 G), (mI, xI cy 100000 It), (mR, xI cy 16 (upd f3 (hsh (lst j) % 16) (nI (max (mxl lst (Tm (mb G b) bd) (hsh (lst j) % 16) j) (rnk (hsh (lst j)))))))] := hD
                  refine lv_iinc (v := nI (j + 1)) (lv' := [(3, .int (nI (j + 1))), (5, .int (nI (rnk (hsh (lst j))))), (4, .int (nI (hsh (lst j)))), (0, .ref a5), (1, .int (nI b)), (2, .int bd)]) hx hb dX5_layRegisters_113 hl (k := 5) rfl (nI_add _ 1) (by decide) rfl (fun ls hl => ?_)
                  refine lv_goto (tgt := 23) hx hb dX5_layRegisters_116 (by decide) ?_
                  exact ih_lp (j + 1) (upd f3 (hsh (lst j) % 16) (nI (max (mxl lst (Tm (mb G b) bd) (hsh (lst j) % 16) j) (rnk (hsh (lst j)))))) (by omega) (hR.step (rk := rnk (hsh (lst j))) ((if_pos hT).symm)) (by omega) _ _ hP hD hS _ (lv_sub hl [3, 4, 5, 0] rfl)
        exact lp (nl + 1) 0 f2 (Nat.zero_le _) (fun r hr => hz r (by omega)) (by omega) _ _ hP hD hS _ (lv_sub hl [1, 2, 3, 0] rfl)
      · refine lv_aload_n hx hb dX5_layRegisters_8 rfl (lv_at hl 0 rfl) ?_
        refine va_get (D := D) (ci := 5) (v := .ref mR) (C := RX5) (T := TX5) (N := 14) hx hb hts (by decide +kernel) hown hE.1 hP 0 rfl rfl 10 (by decide) (hts (.fieldLink RX5 31 "DistinctDaleModel" "registers" "[I") (by decide +kernel)) (fun _ h9 => h9) rfl dX5_layRegisters_9 ?_
        refine lv_iload_n hx hb dX5_layRegisters_12 rfl (lv_at hl 3 rfl) ?_
        refine lv_iconst (v := nI 0) hx hb dX5_layRegisters_13 (by decide) ?_
        refine va_iast (D := D) hx hb hE.1 hP hD hS 3 0 rfl rfl (vp_in_nI (by omega) (by omega)) dX5_layRegisters_14 (fun H locs hP hD hS => ?_)
        rw [nI_clamp (by omega)] at hP hD
        have hP : xP D [(a5, .inr (5, [.int th, .int (nI k), .int now, .ref mD, .ref mI, .ref mZ, .int (nI nl), .ref mK, .ref mO, .ref mB, .ref mR, .ref mF, .int kM, .int oM])), (mD, xI cy 600000 G), (mI, xI cy 100000 It), (mR, xI cy 16 (upd f2 j (nI 0)))] H := hP
        have hD : va_D A [(a5, .inr (5, [.int th, .int (nI k), .int now, .ref mD, .ref mI, .ref mZ, .int (nI nl), .ref mK, .ref mO, .ref mB, .ref mR, .ref mF, .int kM, .int oM])), (mD, xI cy 600000 G), (mI, xI cy 100000 It), (mR, xI cy 16 (upd f2 j (nI 0)))] := hD
        refine lv_iinc (v := nI (j + 1)) (lv' := [(3, .int (nI (j + 1))), (0, .ref a5), (1, .int (nI b)), (2, .int bd)]) hx hb dX5_layRegisters_15 hl (k := 3) rfl (nI_add _ 1) (by decide) rfl (fun ls hl => ?_)
        refine lv_goto (tgt := 2) hx hb dX5_layRegisters_18 (by decide) ?_
        exact ih_lz0 (j + 1) (upd f2 j (nI 0)) (by omega) (ln_up (v := fun _ => nI 0) hz rfl) (by omega) _ _ hP hD hS _ (lv_sub hl [1, 2, 3, 0] rfl)
  exact lz0 17 0 fR (Nat.zero_le _) (fun r hr => absurd hr (Nat.not_lt_zero _)) (by omega) _ _ hP hD hS _ (lv_sub hl [1, 2, 3, 0] rfl)
set_option maxHeartbeats 4000000 in
set_option maxRecDepth 100000 in
theorem m_ofRegs (l : Launch) (D : va_G) (cy : Nat → ClassId) (t0 : Nat) (a5 mD mI mZ mK mO mB mR mF k : Nat) (th now nl5 kM oM : Int32) (m9 : Nat → Nat) (f fF : Nat → Int32) (hm9 : ∀ r, m9 r ≤ 21) (hf : ∀ r, r < 16 → f r = nI (m9 r)) (hF9 : ∀ z, z < 17 → fF z = nI (tabN.getD z 0)) : xRl l yX5_ofRegisters wsX5_ofRegisters ({ frames := 0, cells := 0, slots := 0, locals := 0 } : Room) D cy t0 ([.ref a5]) ([(a5, .inr (5, [.int th, .int (nI k), .int now, .ref mD, .ref mI, .ref mZ, .int nl5, .ref mK, .ref mO, .ref mB, .ref mR, .ref mF, .int kM, .int oM])), (mR, xI cy 16 f), (mF, xI cy 17 fF)]) (fun r => r = lN (regE m9)) := by
  refine xofRl (cc := cX5_ofRegisters) (maxL := 6) (by decide) rfl (Nat.le_of_ble_eq_true rfl) ?_
  intro p e s m below meth c Q ls hx hb hml hts hown hE hP hl hS kret
  have hl : lv_has ls 6 [(0, .ref a5)] := hl
  refine lv_lconst (v := lN 0) hx hb dX5_ofRegisters_0 (by decide) ?_
  refine lv_lstore_n (lv' := [(1, .long (lN 0)), (0, .ref a5)]) hx hb dX5_ofRegisters_1 rfl hl (by decide) rfl (fun ls hl => ?_)
  refine lv_iconst (v := nI 0) hx hb dX5_ofRegisters_2 (by decide) ?_
  refine lv_istore_n (lv' := [(3, .int (nI 0)), (1, .long (lN 0)), (0, .ref a5)]) hx hb dX5_ofRegisters_3 rfl hl (by decide) rfl (fun ls hl => ?_)
  refine lv_iconst (v := nI 0) hx hb dX5_ofRegisters_4 (by decide) ?_
  refine lv_istore (lv' := [(4, .int (nI 0)), (3, .int (nI 0)), (1, .long (lN 0)), (0, .ref a5)]) hx hb dX5_ofRegisters_5 hl (by decide) rfl (fun ls hl => ?_)
  have lp : ∀ (n9 : Nat), ∀ (j : Nat), (hj : j ≤ 16) → 16 - j < n9 → ∀ (ls : Array Slot), lv_has ls 6 [(0, .ref a5), (1, .long (lN (sumR m9 j))), (3, .int (nI (cb (empR m9) j))), (4, .int (nI j))] → W p l e ({ frames := 0, cells := 0, slots := 0, locals := 0 } : Room) s m [.ref a5].toArray below meth c s.heap [] 0 0 Q (F0 m 7 ls []) := by
    intro n9
    induction n9 with
    | zero => intro j hj hm; exact absurd hm (Nat.not_lt_zero _)
    | succ n9 ih_lp =>
      intro j hj hm ls hl
      have hsl := sumR_le (m := m9) j
      have hcl := cb_le (P := empR m9) (n := j)
      have hmj := hm9 j
      refine lv_iload hx hb dX5_ofRegisters_7 (lv_at hl 3 rfl) ?_
      refine lv_bipush (v := nI 16) hx hb dX5_ofRegisters_9 (by decide) ?_
      refine xb_icmp_ge (tgt := 52) (a := j) (b := 16) (by omega) (by omega) hx hb dX5_ofRegisters_11 (by decide) (fun c_1 => ?_) (fun c_1 => ?_)
      · obtain rfl : j = 16 := by omega
        have hsp : 0 < sumR m9 16 := sumR_pos (hm9 15)
        refine lv_ldc2 (v := lN 2890512990208) hx hb hown (hts (.constantLong RX5 120 (2890512990208)) (by decide +kernel)) dX5_ofRegisters_52 ?_
        refine lv_lload_n hx hb dX5_ofRegisters_55 rfl (lv_at hl 1 rfl) ?_
        refine lv_ldiv hx hb dX5_ofRegisters_56 (fun q => by have := (pk_lEQ (a := sumR m9 16) (b := 0) (by omega) (by omega)).mp q; omega) ?_
        refine lv_eql (z := lN (2890512990208 / sumR m9 16)) (pk_lDiv (by omega) (by omega) (by omega)) ?_
        have hdv : 2890512990208 / sumR m9 16 ≤ 2890512990208 := Nat.div_le_self _ _
        refine lv_lstore (lv' := [(4, .long (lN (2890512990208 / sumR m9 16))), (0, .ref a5), (1, .long (lN (sumR m9 16))), (3, .int (nI (cb (empR m9) 16)))]) hx hb dX5_ofRegisters_57 hl (by decide) rfl (fun ls hl => ?_)
        refine lv_lload hx hb dX5_ofRegisters_59 (lv_at hl 0 rfl) ?_
        refine lv_ldc2 (v := lN 40000) hx hb hown (hts (.constantLong RX5 122 (40000)) (by decide +kernel)) dX5_ofRegisters_61 ?_
        refine W.lcmp hx hb dX5_ofRegisters_64 ?_
        refine xlc_gt (tgt := 82) (a := 2890512990208 / sumR m9 16) (b := 40000) (by omega) (by omega) hx hb dX5_ofRegisters_65 (by decide) (fun c_2 => ?_) (fun c_2 => ?_)
        · refine lv_lload hx hb dX5_ofRegisters_82 (lv_at hl 0 rfl) ?_
          exact kret _ _ _ dX5_ofRegisters_84 (by unfold regE; rw [if_neg (fun q => by omega)])
        · refine lv_iload_n hx hb dX5_ofRegisters_68 rfl (lv_at hl 3 rfl) ?_
          refine xb_if_le (tgt := 82) (a := cb (empR m9) 16) (by omega) hx hb dX5_ofRegisters_69 (by decide) (fun c_3 => ?_) (fun c_3 => ?_)
          · refine lv_lload hx hb dX5_ofRegisters_82 (lv_at hl 0 rfl) ?_
            exact kret _ _ _ dX5_ofRegisters_84 (by unfold regE; rw [if_neg (fun q => by omega)])
          · have htb := (tab_eq (cb (empR m9) 16) (by omega)).2
            refine lv_aload_n hx hb dX5_ofRegisters_72 rfl (lv_at hl 1 rfl) ?_
            refine va_get (D := D) (ci := 5) (v := .ref mF) (C := RX5) (T := TX5) (N := 14) hx hb hts (by decide +kernel) hown hE.1 hP 0 rfl rfl 11 (by decide) (hts (.fieldLink RX5 36 "DistinctDaleModel" "few" "[I") (by decide +kernel)) (fun _ h9 => h9) rfl dX5_ofRegisters_73 ?_
            refine lv_iload_n hx hb dX5_ofRegisters_76 rfl (lv_at hl 3 rfl) ?_
            refine va_iald (D := D) hx hb hE.1 hP 2 0 rfl rfl (vp_in_nI (by omega) (by omega)) dX5_ofRegisters_77 ?_
            refine lv_eqi (z := nI (tabN.getD (cb (empR m9) 16) 0)) (by rw [nI_clamp (by omega)]; exact hF9 _ (by omega)) ?_
            refine lv_i2l (v := lN (tabN.getD (cb (empR m9) 16) 0)) hx hb dX5_ofRegisters_78 (nI_l (by omega)) ?_
            refine lv_goto (tgt := 84) hx hb dX5_ofRegisters_79 (by decide) ?_
            exact kret _ _ _ dX5_ofRegisters_84 (by unfold regE; rw [if_pos ⟨c_2, c_3⟩])
      · refine lv_lload_n hx hb dX5_ofRegisters_14 rfl (lv_at hl 1 rfl) ?_
        refine lv_ldc (v := nI 16777216) hx hb hown (hts (.constant RX5 119 (16777216)) (by decide +kernel)) dX5_ofRegisters_15 ?_
        refine lv_aload_n hx hb dX5_ofRegisters_17 rfl (lv_at hl 0 rfl) ?_
        refine va_get (D := D) (ci := 5) (v := .ref mR) (C := RX5) (T := TX5) (N := 14) hx hb hts (by decide +kernel) hown hE.1 hP 0 rfl rfl 10 (by decide) (hts (.fieldLink RX5 31 "DistinctDaleModel" "registers" "[I") (by decide +kernel)) (fun _ h9 => h9) rfl dX5_ofRegisters_18 ?_
        refine lv_iload hx hb dX5_ofRegisters_21 (lv_at hl 3 rfl) ?_
        refine va_iald (D := D) hx hb hE.1 hP 1 0 rfl rfl (vp_in_nI (by omega) (by omega)) dX5_ofRegisters_23 ?_
        refine lv_eqi (z := nI (m9 j)) (by rw [nI_clamp (by omega)]; exact hf j (by omega)) ?_
        refine lv_ishr hx hb dX5_ofRegisters_24 ?_
        refine lv_eqi (z := nI (16777216 / 2 ^ m9 j)) (shrz (by omega) (by omega)) ?_
        refine lv_i2l (v := lN (16777216 / 2 ^ m9 j)) hx hb dX5_ofRegisters_25 (nI_l (Nat.lt_of_le_of_lt (Nat.div_le_self _ _) (by omega))) ?_
        refine lv_ladd hx hb dX5_ofRegisters_26 ?_
        refine lv_eql (z := lN (sumR m9 (j + 1))) (lN_add _ _) ?_
        refine lv_lstore_n (lv' := [(1, .long (lN (sumR m9 (j + 1)))), (0, .ref a5), (3, .int (nI (cb (empR m9) j))), (4, .int (nI j))]) hx hb dX5_ofRegisters_27 rfl hl (by decide) rfl (fun ls hl => ?_)
        refine lv_iload_n hx hb dX5_ofRegisters_28 rfl (lv_at hl 2 rfl) ?_
        refine lv_aload_n hx hb dX5_ofRegisters_29 rfl (lv_at hl 1 rfl) ?_
        refine va_get (D := D) (ci := 5) (v := .ref mR) (C := RX5) (T := TX5) (N := 14) hx hb hts (by decide +kernel) hown hE.1 hP 0 rfl rfl 10 (by decide) (hts (.fieldLink RX5 31 "DistinctDaleModel" "registers" "[I") (by decide +kernel)) (fun _ h9 => h9) rfl dX5_ofRegisters_30 ?_
        refine lv_iload hx hb dX5_ofRegisters_33 (lv_at hl 3 rfl) ?_
        refine va_iald (D := D) hx hb hE.1 hP 1 0 rfl rfl (vp_in_nI (by omega) (by omega)) dX5_ofRegisters_35 ?_
        refine lv_eqi (z := nI (m9 j)) (by rw [nI_clamp (by omega)]; exact hf j (by omega)) ?_
        refine xb_if_ne (tgt := 43) (a := m9 j) (by omega) hx hb dX5_ofRegisters_36 (by decide) (fun c_4 => ?_) (fun c_4 => ?_)
        · refine lv_iconst (v := nI 0) hx hb dX5_ofRegisters_43 (by decide) ?_
          refine lv_iadd hx hb dX5_ofRegisters_44 ?_
          refine lv_eqi (z := nI (cb (empR m9) j + 0)) (nI_add _ _) ?_
          refine lv_istore_n (lv' := [(3, .int (nI (cb (empR m9) j + 0))), (1, .long (lN (sumR m9 (j + 1)))), (0, .ref a5), (4, .int (nI j))]) hx hb dX5_ofRegisters_45 rfl hl (by decide) rfl (fun ls hl => ?_)
          refine lv_iinc (v := nI (j + 1)) (lv' := [(4, .int (nI (j + 1))), (3, .int (nI (cb (empR m9) j + 0))), (1, .long (lN (sumR m9 (j + 1)))), (0, .ref a5)]) hx hb dX5_ofRegisters_46 hl (k := 3) rfl (nI_add _ 1) (by decide) rfl (fun ls hl => ?_)
          refine lv_goto (tgt := 7) hx hb dX5_ofRegisters_49 (by decide) ?_
          have e1 : cb (empR m9) j + 0 = cb (empR m9) (j + 1) := by rw [cb_f (by unfold empR; simp; exact c_4)]; rfl
          rw [e1] at hl
          exact ih_lp (j + 1) (by omega) (by omega) _ (lv_sub hl [3, 2, 1, 0] rfl)
        · refine lv_iconst (v := nI 1) hx hb dX5_ofRegisters_39 (by decide) ?_
          refine lv_goto (tgt := 44) hx hb dX5_ofRegisters_40 (by decide) ?_
          refine lv_iadd hx hb dX5_ofRegisters_44 ?_
          refine lv_eqi (z := nI (cb (empR m9) j + 1)) (nI_add _ _) ?_
          refine lv_istore_n (lv' := [(3, .int (nI (cb (empR m9) j + 1))), (1, .long (lN (sumR m9 (j + 1)))), (0, .ref a5), (4, .int (nI j))]) hx hb dX5_ofRegisters_45 rfl hl (by decide) rfl (fun ls hl => ?_)
          refine lv_iinc (v := nI (j + 1)) (lv' := [(4, .int (nI (j + 1))), (3, .int (nI (cb (empR m9) j + 1))), (1, .long (lN (sumR m9 (j + 1)))), (0, .ref a5)]) hx hb dX5_ofRegisters_46 hl (k := 3) rfl (nI_add _ 1) (by decide) rfl (fun ls hl => ?_)
          refine lv_goto (tgt := 7) hx hb dX5_ofRegisters_49 (by decide) ?_
          have e1 : cb (empR m9) j + 1 = cb (empR m9) (j + 1) := by rw [cb_t (by unfold empR; simp; exact c_4)]
          rw [e1] at hl
          exact ih_lp (j + 1) (by omega) (by omega) _ (lv_sub hl [3, 2, 1, 0] rfl)
  exact lp 17 0 (Nat.zero_le _) (by omega) _ (lv_sub hl [3, 2, 1, 0] rfl)
set_option maxHeartbeats 4000000 in
set_option maxRecDepth 100000 in
theorem m_countAt (l : Launch) (D : va_G) (cy : Nat → ClassId) (t0 : Nat) (a5 mD mI mZ mK mO mB mR mF k : Nat) (th now kM oM : Int32) (nl : Nat) (b lv : Nat) (G It Zt : Nat → Int32) (lst : Nat → Nat) (hML : ML lst nl It Zt) (hCV : CV G lst nl) (hb6 : b < 6) (hlv : lv ≤ 24) : xRi l yX5_countAt wsX5_countAt ({ frames := 1, cells := 0, slots := 0, locals := 22 } : Room) D cy t0 ([.ref a5, .int (nI b), .int (nI lv)]) ([(a5, .inr (5, [.int th, .int (nI k), .int now, .ref mD, .ref mI, .ref mZ, .int (nI nl), .ref mK, .ref mO, .ref mB, .ref mR, .ref mF, .int kM, .int oM])), (mD, xI cy 600000 G), (mI, xI cy 100000 It)]) (fun r => r = nI (cb (SL (Sm (mb G b)) lv) 100000)) := by
  refine xofRi (cc := cX5_countAt) (maxL := 5) (by decide) rfl (Nat.le_of_ble_eq_true rfl) (fun _ _ => rfl) ?_
  intro p e s m below meth c Q ls hx hb hml hts hown hE hP hl hS kret
  have hl : lv_has ls 5 [(0, .ref a5), (1, .int (nI b)), (2, .int (nI lv))] := hl
  have hnle := hML.le
  have hpw : 2 ^ lv ≤ 2 ^ 24 := Nat.pow_le_pow_right (by omega) hlv
  have hpp := Nat.two_pow_pos lv
  refine lv_iconst (v := nI 0) hx hb dX5_countAt_0 (by decide) ?_
  refine lv_istore_n (lv' := [(3, .int (nI 0)), (0, .ref a5), (1, .int (nI b)), (2, .int (nI lv))]) hx hb dX5_countAt_1 rfl hl (by decide) rfl (fun ls hl => ?_)
  refine lv_iconst (v := nI 0) hx hb dX5_countAt_2 (by decide) ?_
  refine lv_istore (lv' := [(4, .int (nI 0)), (3, .int (nI 0)), (0, .ref a5), (1, .int (nI b)), (2, .int (nI lv))]) hx hb dX5_countAt_3 hl (by decide) rfl (fun ls hl => ?_)
  have lp : ∀ (n9 : Nat), ∀ (j : Nat), (hj : j ≤ nl) → nl - j < n9 → ∀ (ls : Array Slot), lv_has ls 5 [(0, .ref a5), (1, .int (nI b)), (2, .int (nI lv)), (3, .int (nI (cb (fun i => (SL (Sm (mb G b)) lv) (lst i)) j))), (4, .int (nI j))] → W p l e ({ frames := 1, cells := 0, slots := 0, locals := 22 } : Room) s m [.ref a5, .int (nI b), .int (nI lv)].toArray below meth c s.heap [] 0 0 Q (F0 m 5 ls []) := by
    intro n9
    induction n9 with
    | zero => intro j hj hm; exact absurd hm (Nat.not_lt_zero _)
    | succ n9 ih_lp =>
      intro j hj hm ls hl
      have hcj := cb_le (P := fun i => (SL (Sm (mb G b)) lv) (lst i)) (n := j)
      refine lv_iload hx hb dX5_countAt_5 (lv_at hl 4 rfl) ?_
      refine lv_aload_n hx hb dX5_countAt_7 rfl (lv_at hl 0 rfl) ?_
      refine va_get (D := D) (ci := 5) (v := .int (nI nl)) (C := RX5) (T := TX5) (N := 14) hx hb hts (by decide +kernel) hown hE.1 hP 0 rfl rfl 6 (by decide) (hts (.fieldLink RX5 58 "DistinctDaleModel" "listed" "I") (by decide +kernel)) (fun _ h9 => h9) rfl dX5_countAt_8 ?_
      refine xb_icmp_ge (tgt := 60) (a := j) (b := nl) (by omega) (by omega) hx hb dX5_countAt_11 (by decide) (fun c_1 => ?_) (fun c_1 => ?_)
      · obtain rfl : j = nl := by omega
        refine lv_iload_n hx hb dX5_countAt_60 rfl (lv_at hl 3 rfl) ?_
        exact kret _ _ _ dX5_countAt_61 (congrArg nI (hML.cnt (fun x hx h => hCV b hb6 x hx (by unfold SL at h; simp at h; exact h.1))))
      · refine lv_iload_n hx hb dX5_countAt_14 rfl (lv_at hl 3 rfl) ?_
        refine lv_aload_n hx hb dX5_countAt_15 rfl (lv_at hl 0 rfl) ?_
        refine lv_iload_n hx hb dX5_countAt_16 rfl (lv_at hl 1 rfl) ?_
        refine lv_aload_n hx hb dX5_countAt_17 rfl (lv_at hl 0 rfl) ?_
        refine va_get (D := D) (ci := 5) (v := .ref mI) (C := RX5) (T := TX5) (N := 14) hx hb hts (by decide +kernel) hown hE.1 hP 0 rfl rfl 4 (by decide) (hts (.fieldLink RX5 15 "DistinctDaleModel" "items" "[I") (by decide +kernel)) (fun _ h9 => h9) rfl dX5_countAt_18 ?_
        refine lv_iload hx hb dX5_countAt_21 (lv_at hl 4 rfl) ?_
        refine va_iald (D := D) hx hb hE.1 hP 2 0 rfl rfl (vp_in_nI (by omega) (by omega)) dX5_countAt_23 ?_
        refine lv_eqi (z := nI (lst j)) (by rw [nI_clamp (by omega)]; exact (hML.1 j (by omega)).2) ?_
        refine xcRi (va_runV (As := [.int (nI b), .int (nI (lst j))]) (rest := [.int (nI (cb (fun i => (SL (Sm (mb G b)) lv) (lst i)) j))]) ⟨hx, hb, hml, hown, hts⟩ (m_has l D cy t0 a5 mD mI mZ mK mO mB mR mF k th now (nI nl) kM oM b (lst j) G hb6 (hML.1 j (by omega)).1) (cwV 2 hts gX5_countAt_X5_has rfl rfl rfl (by decide +kernel) ⟨Nat.le_of_ble_eq_true rfl, Nat.le_of_ble_eq_true rfl⟩) (xPr.giveV (wc := [(a5, .inr (5, [.int th, .int (nI k), .int now, .ref mD, .ref mI, .ref mZ, .int (nI nl), .ref mK, .ref mO, .ref mB, .ref mR, .ref mF, .int kM, .int oM])), (mD, xI cy 600000 G)]) hE hS hP [0, 1] rfl 0 5 rfl rfl) rfl rfl hl.1 rfl (lv_room (Nat.le_of_ble_eq_true rfl)) dX5_countAt_24 ⟨(Nat.zero_le _), (Nat.zero_le _)⟩) (fun r_2 hr_3 => ?_)
        refine lv_eqi (z := xb (Sm (mb G b) (lst j))) hr_3 ?_
        refine xb_beq (tgt := 51) hx hb dX5_countAt_27 (by decide) (fun c_4 => ?_) (fun c_4 => ?_)
        · refine lv_iconst (v := nI 0) hx hb dX5_countAt_51 (by decide) ?_
          refine lv_iadd hx hb dX5_countAt_52 ?_
          refine lv_eqi (z := nI (cb (fun i => (SL (Sm (mb G b)) lv) (lst i)) j + 0)) (nI_add _ _) ?_
          refine lv_istore_n (lv' := [(3, .int (nI (cb (fun i => (SL (Sm (mb G b)) lv) (lst i)) j + 0))), (0, .ref a5), (1, .int (nI b)), (2, .int (nI lv)), (4, .int (nI j))]) hx hb dX5_countAt_53 rfl hl (by decide) rfl (fun ls hl => ?_)
          refine lv_iinc (v := nI (j + 1)) (lv' := [(4, .int (nI (j + 1))), (3, .int (nI (cb (fun i => (SL (Sm (mb G b)) lv) (lst i)) j + 0))), (0, .ref a5), (1, .int (nI b)), (2, .int (nI lv))]) hx hb dX5_countAt_54 hl (k := 4) rfl (nI_add _ 1) (by decide) rfl (fun ls hl => ?_)
          refine lv_goto (tgt := 5) hx hb dX5_countAt_57 (by decide) ?_
          have hS : (SL (Sm (mb G b)) lv) (lst j) = false := by unfold SL; rw [c_4]; rfl
          have e2 : cb (fun i => (SL (Sm (mb G b)) lv) (lst i)) j + 0 = cb (fun i => (SL (Sm (mb G b)) lv) (lst i)) (j + 1) := by rw [cb_f (P := fun i => (SL (Sm (mb G b)) lv) (lst i)) hS]; rfl
          rw [e2] at hl
          exact ih_lp (j + 1) (by omega) (by omega) _ (lv_sub hl [2, 3, 4, 1, 0] rfl)
        · refine lv_aload_n hx hb dX5_countAt_30 rfl (lv_at hl 0 rfl) ?_
          refine va_get (D := D) (ci := 5) (v := .ref mI) (C := RX5) (T := TX5) (N := 14) hx hb hts (by decide +kernel) hown hE.1 hP 0 rfl rfl 4 (by decide) (hts (.fieldLink RX5 15 "DistinctDaleModel" "items" "[I") (by decide +kernel)) (fun _ h9 => h9) rfl dX5_countAt_31 ?_
          refine lv_iload hx hb dX5_countAt_34 (lv_at hl 4 rfl) ?_
          refine va_iald (D := D) hx hb hE.1 hP 2 0 rfl rfl (vp_in_nI (by omega) (by omega)) dX5_countAt_36 ?_
          refine lv_eqi (z := nI (lst j)) (by rw [nI_clamp (by omega)]; exact (hML.1 j (by omega)).2) ?_
          refine xcRi (va_runS (As := [.int (nI (lst j))]) (rest := [.int (nI (cb (fun i => (SL (Sm (mb G b)) lv) (lst i)) j))]) ⟨hx, hb, hml, hown, hts⟩ (m_hashOf l D cy t0 (lst j) (hML.1 j (by omega)).1) (va_cwS 1 hts gX5_countAt_X5_hashOf rfl rfl rfl (by decide +kernel) ⟨Nat.le_of_ble_eq_true rfl, Nat.le_of_ble_eq_true rfl⟩) (xPr.give (wc := []) hE hS hP [] rfl) rfl rfl hl.1 rfl (lv_room (Nat.le_of_ble_eq_true rfl)) dX5_countAt_37 ⟨(Nat.zero_le _), (Nat.zero_le _)⟩) (fun r_5 hr_6 => ?_)
          obtain rfl : r_5 = nI (hsh (lst j)) := hr_6
          have hhl := hsh_lt (lst j)
          refine lv_iconst (v := nI 1) hx hb dX5_countAt_40 (by decide) ?_
          refine lv_iload_n hx hb dX5_countAt_41 rfl (lv_at hl 2 rfl) ?_
          refine lv_ishl hx hb dX5_countAt_42 ?_
          refine lv_eqi (z := nI (2 ^ lv)) ((shlz (v := 1) (by omega) (by omega)).trans (congrArg nI (Nat.one_mul _))) ?_
          refine lv_irem hx hb dX5_countAt_43 (nI_ne0 (by omega) (by omega)) ?_
          refine lv_eqi (z := nI (hsh (lst j) % 2 ^ lv)) (pk_rem (by omega) (by omega) (by omega)) ?_
          refine xb_if_ne (tgt := 51) (a := hsh (lst j) % 2 ^ lv) (by omega) hx hb dX5_countAt_44 (by decide) (fun c_7 => ?_) (fun c_7 => ?_)
          · refine lv_iconst (v := nI 0) hx hb dX5_countAt_51 (by decide) ?_
            refine lv_iadd hx hb dX5_countAt_52 ?_
            refine lv_eqi (z := nI (cb (fun i => (SL (Sm (mb G b)) lv) (lst i)) j + 0)) (nI_add _ _) ?_
            refine lv_istore_n (lv' := [(3, .int (nI (cb (fun i => (SL (Sm (mb G b)) lv) (lst i)) j + 0))), (0, .ref a5), (1, .int (nI b)), (2, .int (nI lv)), (4, .int (nI j))]) hx hb dX5_countAt_53 rfl hl (by decide) rfl (fun ls hl => ?_)
            refine lv_iinc (v := nI (j + 1)) (lv' := [(4, .int (nI (j + 1))), (3, .int (nI (cb (fun i => (SL (Sm (mb G b)) lv) (lst i)) j + 0))), (0, .ref a5), (1, .int (nI b)), (2, .int (nI lv))]) hx hb dX5_countAt_54 hl (k := 4) rfl (nI_add _ 1) (by decide) rfl (fun ls hl => ?_)
            refine lv_goto (tgt := 5) hx hb dX5_countAt_57 (by decide) ?_
            have hS : (SL (Sm (mb G b)) lv) (lst j) = false := by unfold SL; rw [c_4, decide_eq_false (fun q => c_7 ((zr_dvd hlv).mpr q))]; rfl
            have e2 : cb (fun i => (SL (Sm (mb G b)) lv) (lst i)) j + 0 = cb (fun i => (SL (Sm (mb G b)) lv) (lst i)) (j + 1) := by rw [cb_f (P := fun i => (SL (Sm (mb G b)) lv) (lst i)) hS]; rfl
            rw [e2] at hl
            exact ih_lp (j + 1) (by omega) (by omega) _ (lv_sub hl [2, 3, 4, 1, 0] rfl)
          · refine lv_iconst (v := nI 1) hx hb dX5_countAt_47 (by decide) ?_
            refine lv_goto (tgt := 52) hx hb dX5_countAt_48 (by decide) ?_
            refine lv_iadd hx hb dX5_countAt_52 ?_
            refine lv_eqi (z := nI (cb (fun i => (SL (Sm (mb G b)) lv) (lst i)) j + 1)) (nI_add _ _) ?_
            refine lv_istore_n (lv' := [(3, .int (nI (cb (fun i => (SL (Sm (mb G b)) lv) (lst i)) j + 1))), (0, .ref a5), (1, .int (nI b)), (2, .int (nI lv)), (4, .int (nI j))]) hx hb dX5_countAt_53 rfl hl (by decide) rfl (fun ls hl => ?_)
            refine lv_iinc (v := nI (j + 1)) (lv' := [(4, .int (nI (j + 1))), (3, .int (nI (cb (fun i => (SL (Sm (mb G b)) lv) (lst i)) j + 1))), (0, .ref a5), (1, .int (nI b)), (2, .int (nI lv))]) hx hb dX5_countAt_54 hl (k := 4) rfl (nI_add _ 1) (by decide) rfl (fun ls hl => ?_)
            refine lv_goto (tgt := 5) hx hb dX5_countAt_57 (by decide) ?_
            have hS : (SL (Sm (mb G b)) lv) (lst j) = true := by unfold SL; rw [c_4, decide_eq_true ((zr_dvd hlv).mp c_7)]; rfl
            have e2 : cb (fun i => (SL (Sm (mb G b)) lv) (lst i)) j + 1 = cb (fun i => (SL (Sm (mb G b)) lv) (lst i)) (j + 1) := by rw [cb_t (P := fun i => (SL (Sm (mb G b)) lv) (lst i)) hS]
            rw [e2] at hl
            exact ih_lp (j + 1) (by omega) (by omega) _ (lv_sub hl [2, 3, 4, 1, 0] rfl)
  exact lp (nl + 1) 0 (Nat.zero_le _) (by omega) _ (lv_sub hl [2, 3, 4, 1, 0] rfl)
set_option maxHeartbeats 4000000 in
set_option maxRecDepth 100000 in
theorem m_levelOf (l : Launch) (D : va_G) (cy : Nat → ClassId) (t0 : Nat) (a5 mD mI mZ mK mO mB mR mF k : Nat) (th now kM oM : Int32) (nl : Nat) (b : Nat) (G It Zt : Nat → Int32) (lst : Nat → Nat) (hML : ML lst nl It Zt) (hCV : CV G lst nl) (hb6 : b < 6) : xRi l yX5_levelOf wsX5_levelOf ({ frames := 2, cells := 0, slots := 0, locals := 46 } : Room) D cy t0 ([.ref a5, .int (nI b)]) ([(a5, .inr (5, [.int th, .int (nI k), .int now, .ref mD, .ref mI, .ref mZ, .int (nI nl), .ref mK, .ref mO, .ref mB, .ref mR, .ref mF, .int kM, .int oM])), (mD, xI cy 600000 G), (mI, xI cy 100000 It)]) (fun r => r = nI (lvl (Sm (mb G b)))) := by
  refine xofRi (cc := cX5_levelOf) (maxL := 3) (by decide) rfl (Nat.le_of_ble_eq_true rfl) (fun _ _ => rfl) ?_
  intro p e s m below meth c Q ls hx hb hml hts hown hE hP hl hS kret
  have hl : lv_has ls 3 [(0, .ref a5), (1, .int (nI b))] := hl
  refine lv_iconst (v := nI 0) hx hb dX5_levelOf_0 (by decide) ?_
  refine lv_istore_n (lv' := [(2, .int (nI 0)), (0, .ref a5), (1, .int (nI b))]) hx hb dX5_levelOf_1 rfl hl (by decide) rfl (fun ls hl => ?_)
  have lp : ∀ (n9 : Nat), ∀ (lv : Nat), (hlv : lv ≤ 24) → (hle : lvl (Sm (mb G b)) = lvF (Sm (mb G b)) (24 - lv) lv) → 24 - lv < n9 → ∀ (ls : Array Slot), lv_has ls 3 [(0, .ref a5), (1, .int (nI b)), (2, .int (nI lv))] → W p l e ({ frames := 2, cells := 0, slots := 0, locals := 46 } : Room) s m [.ref a5, .int (nI b)].toArray below meth c s.heap [] 0 0 Q (F0 m 2 ls []) := by
    intro n9
    induction n9 with
    | zero => intro lv hlv hle hm; exact absurd hm (Nat.not_lt_zero _)
    | succ n9 ih_lp =>
      intro lv hlv hle hm ls hl
      refine lv_iload_n hx hb dX5_levelOf_2 rfl (lv_at hl 2 rfl) ?_
      refine lv_bipush (v := nI 24) hx hb dX5_levelOf_3 (by decide) ?_
      refine xb_icmp_ge (tgt := 25) (a := lv) (b := 24) (by omega) (by omega) hx hb dX5_levelOf_5 (by decide) (fun c_1 => ?_) (fun c_1 => ?_)
      · refine lv_iload_n hx hb dX5_levelOf_25 rfl (lv_at hl 2 rfl) ?_
        exact kret _ _ _ dX5_levelOf_26 (congrArg nI (by rw [hle]; exact (lv_end (by omega)).symm))
      · refine lv_aload_n hx hb dX5_levelOf_8 rfl (lv_at hl 0 rfl) ?_
        refine lv_iload_n hx hb dX5_levelOf_9 rfl (lv_at hl 1 rfl) ?_
        refine lv_iload_n hx hb dX5_levelOf_10 rfl (lv_at hl 2 rfl) ?_
        refine xcRi (va_runV (As := [.int (nI b), .int (nI lv)]) (rest := []) ⟨hx, hb, hml, hown, hts⟩ (m_countAt l D cy t0 a5 mD mI mZ mK mO mB mR mF k th now kM oM nl b lv G It Zt lst hML hCV hb6 hlv) (cwV 2 hts gX5_levelOf_X5_countAt rfl rfl rfl (by decide +kernel) ⟨Nat.le_of_ble_eq_true rfl, Nat.le_of_ble_eq_true rfl⟩) (xPr.giveV (wc := [(a5, .inr (5, [.int th, .int (nI k), .int now, .ref mD, .ref mI, .ref mZ, .int (nI nl), .ref mK, .ref mO, .ref mB, .ref mR, .ref mF, .int kM, .int oM])), (mD, xI cy 600000 G), (mI, xI cy 100000 It)]) hE hS hP [0, 1, 2] rfl 0 5 rfl rfl) rfl rfl hl.1 rfl (lv_room (Nat.le_of_ble_eq_true rfl)) dX5_levelOf_11 ⟨(Nat.zero_le _), (Nat.zero_le _)⟩) (fun r_2 hr_3 => ?_)
        obtain rfl : r_2 = nI (cb (SL (Sm (mb G b)) (lv)) 100000) := hr_3
        have hcb9 := cb_le (P := SL (Sm (mb G b)) (lv)) (n := 100000)
        refine lv_bipush (v := nI 16) hx hb dX5_levelOf_14 (by decide) ?_
        refine xb_icmp_le (tgt := 25) (a := cb (SL (Sm (mb G b)) lv) 100000) (b := 16) (by omega) (by omega) hx hb dX5_levelOf_16 (by decide) (fun c_4 => ?_) (fun c_4 => ?_)
        · refine lv_iload_n hx hb dX5_levelOf_25 rfl (lv_at hl 2 rfl) ?_
          exact kret _ _ _ dX5_levelOf_26 (congrArg nI (by rw [hle]; exact (lv_stop (by omega) (by omega)).symm))
        · refine lv_iinc (v := nI (lv + 1)) (lv' := [(2, .int (nI (lv + 1))), (0, .ref a5), (1, .int (nI b))]) hx hb dX5_levelOf_19 hl (k := 2) rfl (nI_add _ 1) (by decide) rfl (fun ls hl => ?_)
          refine lv_goto (tgt := 2) hx hb dX5_levelOf_22 (by decide) ?_
          exact ih_lp (lv + 1) (by omega) (by rw [hle]; exact lv_step (by omega) (by omega)) (by omega) _ (lv_sub hl [1, 2, 0] rfl)
  exact lp 25 0 (Nat.zero_le _) rfl (by omega) _ (lv_sub hl [1, 2, 0] rfl)
end XX5C
