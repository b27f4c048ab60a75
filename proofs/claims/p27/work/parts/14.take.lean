section XTAKE
set_option maxHeartbeats 4000000 in
set_option maxRecDepth 100000 in
theorem c_take (l : Launch) (D : va_G) (cy : Nat → ClassId) (t0 : Nat) (M1 M2 : Nat → Int32) (h0 qi qd q1 q2 n cap many len1 len2 : Nat) (fi fd gi gd : Nat → Int32) (hM1 : MV M1) (hM2 : MV M2) (hV : BR M1 n cap fi fd) (hB : RW (Sm M2) 100000 many gi) (hBd : ∀ x, x < 100000 → Sm M2 x = true → gd (cb (Sm M2) x) = M2 x) (hlen1 : many ≤ len1) (hlen2 : many ≤ len2) (hl1 : len1 ≤ 100000) (hl2 : len2 ≤ 100000) : xWi (S := Nat × Nat × (Nat → Int32) × (Nat → Int32)) l yX0_take wsX0_take ({ frames := 3, cells := mcR (n + nwK M1 M2) cap, slots := msR (n + nwK M1 M2) cap, locals := 113 } : Room) D cy t0 ([.ref h0, .ref q1, .ref q2, .int (nI many)]) ([(h0, .inr (0, [.ref qi, .ref qd, .int (nI n)])), (qi, xI cy cap fi), (qd, xI cy cap fd), (q1, xI cy len1 gi), (q2, xI cy len2 gd)]) (fun r u => r = nI (nwK M1 M2) ∧ BR (mrg M1 M2) (n + nwK M1 M2) (capR (n + nwK M1 M2) cap) u.2.2.1 u.2.2.2) (fun u => [(h0, .inr (0, [.ref u.1, .ref u.2.1, .int (nI (n + nwK M1 M2))])), (u.1, xI cy (capR (n + nwK M1 M2) cap) u.2.2.1), (u.2.1, xI cy (capR (n + nwK M1 M2) cap) u.2.2.2), (q1, xI cy len1 gi), (q2, xI cy len2 gd)]) (mcR (n + nwK M1 M2) cap) (msR (n + nwK M1 M2) cap) := by
  refine xofWi (cc := cX0_take) (maxL := 12) (by decide) rfl (Nat.le_of_ble_eq_true rfl) (fun _ _ _ => rfl) ?_
  intro p e s m below meth c Q A ls hx hb hml hts hown hE hA H locs hP hD hl hS kret
  have hl : lv_has ls 12 [(0, .ref h0), (1, .ref q1), (2, .ref q2), (3, .int (nI many))] := hl
  have hA1 := hV.1.1
  have hB1 := hB.1
  obtain ⟨hK, hU⟩ := tk_cnt (M1 := M1) (M2 := M2)
  have hUN := cb_le (P := uS M1 M2) (n := 100000)
  have hA3 := hV.2.2.1
  have hA4 := hV.2.2.2
  have hsub : ∀ x, Sm M1 x = true → uS M1 M2 x = true := fun x h => by simp [uS, h]
  refine lv_iload_n hx hb dX0_take_0 rfl (lv_at hl 3 rfl) ?_
  refine lv_aload_n hx hb dX0_take_1 rfl (lv_at hl 0 rfl) ?_
  refine lv_aload_n hx hb dX0_take_2 rfl (lv_at hl 1 rfl) ?_
  refine lv_iload_n hx hb dX0_take_3 rfl (lv_at hl 3 rfl) ?_
  refine xcRi (va_runV (As := [.ref q1, .int (nI many)]) (rest := [.int (nI many)]) ⟨hx, hb, hml, hown, hts⟩ (c_countShared l D cy t0 (Sm M1) (Sm M2) h0 qi qd q1 n many cap len1 fi gi hV.1 hB hV.2.2.1 hlen1 hV.2.2.2 hl1) (cwV 2 hts gX0_take_X0_countShared rfl rfl rfl (by decide +kernel) ⟨Nat.le_of_ble_eq_true rfl, Nat.le_of_ble_eq_true rfl⟩) (xPr.giveV (wc := [(h0, .inr (0, [.ref qi, .ref qd, .int (nI n)])), (qi, xI cy cap fi), (q1, xI cy len1 gi)]) hE hS hP [0, 1, 3] rfl 0 0 rfl rfl) rfl rfl hl.1 rfl (lv_room (Nat.le_of_ble_eq_true rfl)) dX0_take_4 ⟨(Nat.zero_le _), (Nat.zero_le _)⟩) (fun r_1 hr_2 => ?_)
  obtain rfl : r_1 = nI (cb (fun x => Sm M1 x && Sm M2 x) 100000) := hr_2
  refine lv_isub hx hb dX0_take_7 ?_
  refine lv_eqi (z := nI (nwK M1 M2)) ((pk_sub (by omega)).trans (congrArg nI (by omega))) ?_
  refine lv_istore (lv' := [(4, .int (nI (nwK M1 M2))), (0, .ref h0), (1, .ref q1), (2, .ref q2), (3, .int (nI many))]) hx hb dX0_take_8 hl (by decide) rfl (fun ls hl => ?_)
  refine lv_aload_n hx hb dX0_take_10 rfl (lv_at hl 1 rfl) ?_
  refine lv_aload_n hx hb dX0_take_11 rfl (lv_at hl 1 rfl) ?_
  refine va_get (D := D) (ci := 0) (v := .int (nI n)) (C := RX0) (T := TX0) (N := 3) hx hb hts (by decide +kernel) hown hE.1 hP 0 rfl rfl 2 (by decide) (hts (.fieldLink RX0 18 "DistinctDale$Basket" "size" "I") (by decide +kernel)) (fun _ h9 => h9) rfl dX0_take_12 ?_
  refine lv_iload hx hb dX0_take_15 (lv_at hl 0 rfl) ?_
  refine lv_iadd hx hb dX0_take_17 ?_
  refine lv_eqi (z := nI (n + nwK M1 M2)) (nI_add _ _) ?_
  refine xcWv (wr := [(q1, xI cy len1 gi), (q2, xI cy len2 gd)]) (va_runV (As := [.int (nI (n + nwK M1 M2))]) (rest := []) ⟨hx, hb, hml, hown, hts⟩ ((c_makeRoom l D cy t0 h0 qi qd n cap (n + nwK M1 M2) fi fd hV.2.2.2 (by omega)) H.size) (cwV 1 hts gX0_take_X0_makeRoomFor rfl rfl rfl (by decide +kernel) ⟨Nat.le_of_ble_eq_true rfl, Nat.le_of_ble_eq_true rfl⟩) (xPw.giveV (wc := [(h0, .inr (0, [.ref qi, .ref qd, .int (nI n)])), (qi, xI cy cap fi), (qd, xI cy cap fd)]) hE hS hA hP hD [0, 1, 2] (by decide) rfl 0 0 rfl rfl) rfl rfl hl.1 rfl (lv_room (Nat.le_of_ble_eq_true rfl)) dX0_take_18 ⟨(Nat.le_of_eq (Nat.zero_add _)), (Nat.le_of_eq (Nat.zero_add _))⟩) hP hD hS hA [0, 1, 2] [3, 4] rfl rfl (by decide) (by decide) (fun u_5 H locs hr_4 hP hD hS => ?_)
  obtain ⟨qi2, qd2, fi2, fd2⟩ := u_5
  have hf1 : ∀ j, j < cap → fi2 j = fi j := hr_4.1
  have hf2 : ∀ j, j < cap → fd2 j = fd j := hr_4.2
  obtain ⟨hc1, hc2, hc3⟩ := capR_le (w := n + nwK M1 M2) (cap := cap) (by omega) hV.2.2.2
  have hfi2 : ∀ x, x < 100000 → Sm M1 x = true → fi2 (cb (Sm M1) x) = nI x := fun x hx hs => by
    have := cb_lt hx hs
    rw [hf1 _ (by omega)]; exact hV.1.2 x hx hs
  have hfd2 : ∀ x, x < 100000 → Sm M1 x = true → fd2 (cb (Sm M1) x) = M1 x := fun x hx hs => by
    have := cb_lt hx hs
    rw [hf2 _ (by omega)]; exact hV.2.1 x hx hs
  have hP := hP.sub (ws' := [(h0, .inr (0, [.ref qi2, .ref qd2, .int (nI n)])), (qi2, xI cy (capR (n + nwK M1 M2) cap) fi2), (qd2, xI cy (capR (n + nwK M1 M2) cap) fd2), (q1, xI cy len1 gi), (q2, xI cy len2 gd)]) [2, 3, 4, 0, 1] rfl
  have hD := hD.sub (ws' := [(h0, .inr (0, [.ref qi2, .ref qd2, .int (nI n)])), (qi2, xI cy (capR (n + nwK M1 M2) cap) fi2), (qd2, xI cy (capR (n + nwK M1 M2) cap) fd2), (q1, xI cy len1 gi), (q2, xI cy len2 gd)]) [2, 3, 4, 0, 1] (by decide) rfl
  refine lv_aload_n hx hb dX0_take_21 rfl (lv_at hl 1 rfl) ?_
  refine va_get (D := D) (ci := 0) (v := .int (nI n)) (C := RX0) (T := TX0) (N := 3) hx hb hts (by decide +kernel) hown hE.1 hP 0 rfl rfl 2 (by decide) (hts (.fieldLink RX0 18 "DistinctDale$Basket" "size" "I") (by decide +kernel)) (fun _ h9 => h9) rfl dX0_take_22 ?_
  refine lv_iconst (v := nI 1) hx hb dX0_take_25 (by decide) ?_
  refine lv_isub hx hb dX0_take_26 ?_
  refine lv_eqi (z := nI (cb (Sm M1) 100000) - nI 1) (by rw [← hA1]) ?_
  refine lv_istore (lv' := [(5, .int (nI (cb (Sm M1) 100000) - nI 1)), (4, .int (nI (nwK M1 M2))), (0, .ref h0), (1, .ref q1), (2, .ref q2), (3, .int (nI many))]) hx hb dX0_take_27 hl (by decide) rfl (fun ls hl => ?_)
  refine lv_iload_n hx hb dX0_take_29 rfl (lv_at hl 5 rfl) ?_
  refine lv_iconst (v := nI 1) hx hb dX0_take_30 (by decide) ?_
  refine lv_isub hx hb dX0_take_31 ?_
  refine lv_eqi (z := nI (cb (Sm M2) 100000) - nI 1) (by rw [← hB1]) ?_
  refine lv_istore (lv' := [(6, .int (nI (cb (Sm M2) 100000) - nI 1)), (5, .int (nI (cb (Sm M1) 100000) - nI 1)), (4, .int (nI (nwK M1 M2))), (0, .ref h0), (1, .ref q1), (2, .ref q2), (3, .int (nI many))]) hx hb dX0_take_32 hl (by decide) rfl (fun ls hl => ?_)
  refine lv_aload_n hx hb dX0_take_34 rfl (lv_at hl 3 rfl) ?_
  refine va_get (D := D) (ci := 0) (v := .int (nI n)) (C := RX0) (T := TX0) (N := 3) hx hb hts (by decide +kernel) hown hE.1 hP 0 rfl rfl 2 (by decide) (hts (.fieldLink RX0 18 "DistinctDale$Basket" "size" "I") (by decide +kernel)) (fun _ h9 => h9) rfl dX0_take_35 ?_
  refine lv_iload hx hb dX0_take_38 (lv_at hl 2 rfl) ?_
  refine lv_iadd hx hb dX0_take_40 ?_
  refine lv_eqi (z := nI (n + nwK M1 M2)) (nI_add _ _) ?_
  refine lv_iconst (v := nI 1) hx hb dX0_take_41 (by decide) ?_
  refine lv_isub hx hb dX0_take_42 ?_
  refine lv_eqi (z := nI (cb (uS M1 M2) 100000) - nI 1) (by rw [← hU, ← hA1]) ?_
  refine lv_istore (lv' := [(7, .int (nI (cb (uS M1 M2) 100000) - nI 1)), (6, .int (nI (cb (Sm M2) 100000) - nI 1)), (5, .int (nI (cb (Sm M1) 100000) - nI 1)), (4, .int (nI (nwK M1 M2))), (0, .ref h0), (1, .ref q1), (2, .ref q2), (3, .int (nI many))]) hx hb dX0_take_43 hl (by decide) rfl (fun ls hl => ?_)
  have lp : ∀ (n9 : Nat), ∀ (hi : Nat) (f : Nat → Int32) (d : Nat → Int32), (hhi : hi ≤ 100000) → (ht1 : TI (uS M1 M2) (Sm M1) fi2 (fun x => nI x) hi f) → (ht2 : TI (uS M1 M2) (Sm M1) fd2 (mrg M1 M2) hi d) → cb (uS M1 M2) hi < n9 → ∀ (H : Heap) (locs : List Loc), xP D [(h0, .inr (0, [.ref qi2, .ref qd2, .int (nI n)])), (qi2, xI cy (capR (n + nwK M1 M2) cap) f), (qd2, xI cy (capR (n + nwK M1 M2) cap) d), (q1, xI cy len1 gi), (q2, xI cy len2 gd)] H → va_D A [(h0, .inr (0, [.ref qi2, .ref qd2, .int (nI n)])), (qi2, xI cy (capR (n + nwK M1 M2) cap) f), (qd2, xI cy (capR (n + nwK M1 M2) cap) d), (q1, xI cy len1 gi), (q2, xI cy len2 gd)] → va_S A s.heap H locs → ∀ (ls : Array Slot), lv_has ls 12 [(0, .ref h0), (1, .ref q1), (2, .ref q2), (3, .int (nI many)), (4, .int (nI (nwK M1 M2))), (5, .int (nI (cb (Sm M1) hi) - nI 1)), (6, .int (nI (cb (Sm M2) hi) - nI 1)), (7, .int (nI (cb (uS M1 M2) hi) - nI 1))] → W p l e ({ frames := 3, cells := mcR (n + nwK M1 M2) cap, slots := msR (n + nwK M1 M2) cap, locals := 113 } : Room) s m [.ref h0, .ref q1, .ref q2, .int (nI many)].toArray below meth c H locs (0 + mcR (n + nwK M1 M2) cap) (0 + msR (n + nwK M1 M2) cap) Q (F0 m 45 ls []) := by
    intro n9
    induction n9 with
    | zero => intro hi f d hhi ht1 ht2 hm; exact absurd hm (Nat.not_lt_zero _)
    | succ n9 ih_lp =>
      intro hi f d hhi ht1 ht2 hm H locs hP hD hS ls hl
      have hm1 : cb (Sm M1) hi ≤ cb (Sm M1) 100000 := cb_mono hhi
      have hm2 : cb (Sm M2) hi ≤ cb (Sm M2) 100000 := cb_mono hhi
      have hm3 : cb (uS M1 M2) hi ≤ cb (uS M1 M2) 100000 := cb_mono hhi
      refine lv_iload hx hb dX0_take_45 (lv_at hl 7 rfl) ?_
      refine lv_if_lt (tgt := 187) hx hb dX0_take_47 (by decide) (fun c_6 => ?_) (fun c_6 => ?_)
      · have cp := (m1lt (by omega)).mp c_6
        have ht0 : cb (Sm M2) hi = 0 := by
          have := cb_sub (P := (Sm M2)) (R := (uS M1 M2)) (n := hi) (fun x _ h => by simp [uS, h])
          omega
        refine lv_aload_n hx hb dX0_take_187 rfl (lv_at hl 0 rfl) ?_
        refine lv_dup hx hb dX0_take_188 rfl ?_
        refine va_get (D := D) (ci := 0) (v := .int (nI n)) (C := RX0) (T := TX0) (N := 3) hx hb hts (by decide +kernel) hown hE.1 hP 0 rfl rfl 2 (by decide) (hts (.fieldLink RX0 18 "DistinctDale$Basket" "size" "I") (by decide +kernel)) (fun _ h9 => h9) rfl dX0_take_189 ?_
        refine lv_iload hx hb dX0_take_192 (lv_at hl 4 rfl) ?_
        refine lv_iadd hx hb dX0_take_194 ?_
        refine lv_eqi (z := nI (n + nwK M1 M2)) (nI_add _ _) ?_
        refine va_put (D := D) (ci := 0) (v := .int (nI (n + nwK M1 M2))) (ty := .int) (C := RX0) (T := TX0) (N := 3) hx hb hts (by decide +kernel) tyX0 tyX0_ok nmX0 hown hE.1 hP hD hS 0 rfl rfl 2 (by decide) (hts (.fieldLink RX0 18 "DistinctDale$Basket" "size" "I") (by decide +kernel)) (fun _ h9 => h9) rfl (by decide +kernel) rfl rfl (Nat.le_of_ble_eq_true rfl) dX0_take_195 (fun H locs hP hD hS => ?_)
        have hP : xP D [(h0, .inr (0, [.ref qi2, .ref qd2, .int (nI (n + nwK M1 M2))])), (qi2, xI cy (capR (n + nwK M1 M2) cap) f), (qd2, xI cy (capR (n + nwK M1 M2) cap) d), (q1, xI cy len1 gi), (q2, xI cy len2 gd)] H := hP
        have hD : va_D A [(h0, .inr (0, [.ref qi2, .ref qd2, .int (nI (n + nwK M1 M2))])), (qi2, xI cy (capR (n + nwK M1 M2) cap) f), (qd2, xI cy (capR (n + nwK M1 M2) cap) d), (q1, xI cy len1 gi), (q2, xI cy len2 gd)] := hD
        refine lv_iload hx hb dX0_take_198 (lv_at hl 4 rfl) ?_
        exact kret _ (qi2, qd2, f, d) _ _ _ _ _ _ dX0_take_200 ⟨rfl, BR_mrg hM1 hM2 hA1 hfi2 hfd2 hc1 hc3 ht0 ht1 ht2⟩ hP hD hS (Nat.le_of_eq (Nat.zero_add _)) (Nat.le_of_eq (Nat.zero_add _))
      · have cp := fun q => c_6 ((m1lt (by omega)).mpr q)
        refine lv_iload hx hb dX0_take_50 (lv_at hl 6 rfl) ?_
        refine lv_if_lt (tgt := 187) hx hb dX0_take_52 (by decide) (fun c_7 => ?_) (fun c_7 => ?_)
        · have ht0 := (m1lt (by omega)).mp c_7
          refine lv_aload_n hx hb dX0_take_187 rfl (lv_at hl 0 rfl) ?_
          refine lv_dup hx hb dX0_take_188 rfl ?_
          refine va_get (D := D) (ci := 0) (v := .int (nI n)) (C := RX0) (T := TX0) (N := 3) hx hb hts (by decide +kernel) hown hE.1 hP 0 rfl rfl 2 (by decide) (hts (.fieldLink RX0 18 "DistinctDale$Basket" "size" "I") (by decide +kernel)) (fun _ h9 => h9) rfl dX0_take_189 ?_
          refine lv_iload hx hb dX0_take_192 (lv_at hl 4 rfl) ?_
          refine lv_iadd hx hb dX0_take_194 ?_
          refine lv_eqi (z := nI (n + nwK M1 M2)) (nI_add _ _) ?_
          refine va_put (D := D) (ci := 0) (v := .int (nI (n + nwK M1 M2))) (ty := .int) (C := RX0) (T := TX0) (N := 3) hx hb hts (by decide +kernel) tyX0 tyX0_ok nmX0 hown hE.1 hP hD hS 0 rfl rfl 2 (by decide) (hts (.fieldLink RX0 18 "DistinctDale$Basket" "size" "I") (by decide +kernel)) (fun _ h9 => h9) rfl (by decide +kernel) rfl rfl (Nat.le_of_ble_eq_true rfl) dX0_take_195 (fun H locs hP hD hS => ?_)
          have hP : xP D [(h0, .inr (0, [.ref qi2, .ref qd2, .int (nI (n + nwK M1 M2))])), (qi2, xI cy (capR (n + nwK M1 M2) cap) f), (qd2, xI cy (capR (n + nwK M1 M2) cap) d), (q1, xI cy len1 gi), (q2, xI cy len2 gd)] H := hP
          have hD : va_D A [(h0, .inr (0, [.ref qi2, .ref qd2, .int (nI (n + nwK M1 M2))])), (qi2, xI cy (capR (n + nwK M1 M2) cap) f), (qd2, xI cy (capR (n + nwK M1 M2) cap) d), (q1, xI cy len1 gi), (q2, xI cy len2 gd)] := hD
          refine lv_iload hx hb dX0_take_198 (lv_at hl 4 rfl) ?_
          exact kret _ (qi2, qd2, f, d) _ _ _ _ _ _ dX0_take_200 ⟨rfl, BR_mrg hM1 hM2 hA1 hfi2 hfd2 hc1 hc3 ht0 ht1 ht2⟩ hP hD hS (Nat.le_of_eq (Nat.zero_add _)) (Nat.le_of_eq (Nat.zero_add _))
        · have ct := fun q => c_7 ((m1lt (by omega)).mpr q)
          obtain ⟨y, hy1, hy2, hy3, hy4⟩ := cb_top (P := (Sm M2)) (n := hi) (Nat.pos_of_ne_zero ct)
          have hyg : gi (cb (Sm M2) y) = nI y := hB.2 y (by omega) hy2
          have hyd : gd (cb (Sm M2) y) = M2 y := hBd y (by omega) hy2
          rcases Nat.eq_zero_or_pos (cb (Sm M1) hi) with hm | hm
          · obtain ⟨hz1, hz2, hz3, hz4, hz5, hz6⟩ := tk_y hy1 hy2 hy4 (cb0_none hm y)
            refine lv_aload_n hx hb dX0_take_55 rfl (lv_at hl 0 rfl) ?_
            refine va_get (D := D) (ci := 0) (v := .ref qi2) (C := RX0) (T := TX0) (N := 3) hx hb hts (by decide +kernel) hown hE.1 hP 0 rfl rfl 0 (by decide) (hts (.fieldLink RX0 11 "DistinctDale$Basket" "items" "[I") (by decide +kernel)) (fun _ h9 => h9) rfl dX0_take_56 ?_
            refine lv_iload hx hb dX0_take_59 (lv_at hl 5 rfl) ?_
            refine xcRi (va_runSN (As := [.ref qi2, .int (nI (cb (Sm M1) hi) - nI 1)]) (rest := []) ⟨hx, hb, hml, hown, hts⟩ (c_at l D cy t0 qi2 (capR (n + nwK M1 M2) cap) f (nI (cb (Sm M1) hi) - nI 1) (by omega)) ⟨va_cnB 2 hts ggX0_take_X4_at rfl rfl rfl (xN3 hE.2.1.1) (hts (.initialized RX4) (by decide +kernel)) (by decide +kernel) ⟨Nat.le_of_ble_eq_true rfl, Nat.le_of_ble_eq_true rfl⟩, (hts (.static yX4_at) (by decide +kernel)), trivial⟩ (xPr.give (wc := [(qi2, xI cy (capR (n + nwK M1 M2) cap) f)]) hE hS hP [1] rfl) rfl rfl hl.1 rfl (lv_room (Nat.le_of_ble_eq_true rfl)) dX0_take_61 ⟨(Nat.le_of_eq (by rw [Nat.zero_add]; rfl)), (Nat.le_of_eq (by rw [Nat.zero_add]; rfl))⟩) (fun r_8 hr_9 => ?_)
            obtain rfl : r_8 = -1 := by rw [hr_9, xat_mm0 hm]
            refine lv_istore (lv' := [(8, .int (-1)), (0, .ref h0), (1, .ref q1), (2, .ref q2), (3, .int (nI many)), (4, .int (nI (nwK M1 M2))), (5, .int (nI (cb (Sm M1) hi) - nI 1)), (6, .int (nI (cb (Sm M2) hi) - nI 1)), (7, .int (nI (cb (uS M1 M2) hi) - nI 1))]) hx hb dX0_take_64 hl (by decide) rfl (fun ls hl => ?_)
            refine lv_aload_n hx hb dX0_take_66 rfl (lv_at hl 2 rfl) ?_
            refine lv_iload hx hb dX0_take_67 (lv_at hl 7 rfl) ?_
            refine xcRi (va_runSN (As := [.ref q1, .int (nI (cb (Sm M2) hi) - nI 1)]) (rest := []) ⟨hx, hb, hml, hown, hts⟩ (c_at l D cy t0 q1 len1 gi (nI (cb (Sm M2) hi) - nI 1) (by omega)) ⟨va_cnB 2 hts ggX0_take_X4_at rfl rfl rfl (xN3 hE.2.1.1) (hts (.initialized RX4) (by decide +kernel)) (by decide +kernel) ⟨Nat.le_of_ble_eq_true rfl, Nat.le_of_ble_eq_true rfl⟩, (hts (.static yX4_at) (by decide +kernel)), trivial⟩ (xPr.give (wc := [(q1, xI cy len1 gi)]) hE hS hP [3] rfl) rfl rfl hl.1 rfl (lv_room (Nat.le_of_ble_eq_true rfl)) dX0_take_69 ⟨(Nat.le_of_eq (by rw [Nat.zero_add]; rfl)), (Nat.le_of_eq (by rw [Nat.zero_add]; rfl))⟩) (fun r_10 hr_11 => ?_)
            obtain rfl : r_10 = nI y := by rw [hr_11, xat_mm hy3 (by omega) (by omega), hyg]
            refine lv_istore (lv' := [(9, .int (nI y)), (8, .int (-1)), (0, .ref h0), (1, .ref q1), (2, .ref q2), (3, .int (nI many)), (4, .int (nI (nwK M1 M2))), (5, .int (nI (cb (Sm M1) hi) - nI 1)), (6, .int (nI (cb (Sm M2) hi) - nI 1)), (7, .int (nI (cb (uS M1 M2) hi) - nI 1))]) hx hb dX0_take_72 hl (by decide) rfl (fun ls hl => ?_)
            refine lv_iload hx hb dX0_take_74 (lv_at hl 1 rfl) ?_
            refine lv_iload hx hb dX0_take_76 (lv_at hl 0 rfl) ?_
            refine lv_icmp_lt (tgt := 93) hx hb dX0_take_78 (by decide) (fun c_12 => ?_) (fun c_12 => ?_)
            · refine lv_iconst (v := (-1)) hx hb dX0_take_93 (by decide) ?_
              refine lv_istore (lv' := [(10, .int (-1)), (9, .int (nI y)), (8, .int (-1)), (0, .ref h0), (1, .ref q1), (2, .ref q2), (3, .int (nI many)), (4, .int (nI (nwK M1 M2))), (5, .int (nI (cb (Sm M1) hi) - nI 1)), (6, .int (nI (cb (Sm M2) hi) - nI 1)), (7, .int (nI (cb (uS M1 M2) hi) - nI 1))]) hx hb dX0_take_94 hl (by decide) rfl (fun ls hl => ?_)
              refine lv_iload hx hb dX0_take_96 (lv_at hl 1 rfl) ?_
              refine lv_iload hx hb dX0_take_98 (lv_at hl 2 rfl) ?_
              refine lv_icmp_lt (tgt := 112) hx hb dX0_take_100 (by decide) (fun c_13 => ?_) (fun c_13 => ?_)
              · exact absurd c_13 (nlt_neg1 (by omega))
              · refine lv_aload_n hx hb dX0_take_103 rfl (lv_at hl 5 rfl) ?_
                refine lv_iload hx hb dX0_take_104 (lv_at hl 9 rfl) ?_
                refine xcRi (va_runSN (As := [.ref q2, .int (nI (cb (Sm M2) hi) - nI 1)]) (rest := []) ⟨hx, hb, hml, hown, hts⟩ (c_at l D cy t0 q2 len2 gd (nI (cb (Sm M2) hi) - nI 1) (by omega)) ⟨va_cnB 2 hts ggX0_take_X4_at rfl rfl rfl (xN3 hE.2.1.1) (hts (.initialized RX4) (by decide +kernel)) (by decide +kernel) ⟨Nat.le_of_ble_eq_true rfl, Nat.le_of_ble_eq_true rfl⟩, (hts (.static yX4_at) (by decide +kernel)), trivial⟩ (xPr.give (wc := [(q2, xI cy len2 gd)]) hE hS hP [4] rfl) rfl rfl hl.1 rfl (lv_room (Nat.le_of_ble_eq_true rfl)) dX0_take_106 ⟨(Nat.le_of_eq (by rw [Nat.zero_add]; rfl)), (Nat.le_of_eq (by rw [Nat.zero_add]; rfl))⟩) (fun r_14 hr_15 => ?_)
                obtain rfl : r_14 = M2 y := by rw [hr_15, xat_mm hy3 (by omega) (by omega), hyd]
                refine lv_goto (tgt := 113) hx hb dX0_take_109 (by decide) ?_
                refine lv_istore (lv' := [(11, .int (M2 y)), (10, .int (-1)), (9, .int (nI y)), (8, .int (-1)), (0, .ref h0), (1, .ref q1), (2, .ref q2), (3, .int (nI many)), (4, .int (nI (nwK M1 M2))), (5, .int (nI (cb (Sm M1) hi) - nI 1)), (6, .int (nI (cb (Sm M2) hi) - nI 1)), (7, .int (nI (cb (uS M1 M2) hi) - nI 1))]) hx hb dX0_take_113 hl (by decide) rfl (fun ls hl => ?_)
                refine lv_iload hx hb dX0_take_115 (lv_at hl 9 rfl) ?_
                refine lv_iload hx hb dX0_take_117 (lv_at hl 3 rfl) ?_
                refine lv_iload hx hb dX0_take_119 (lv_at hl 2 rfl) ?_
                refine lv_icmp_lt (tgt := 128) hx hb dX0_take_121 (by decide) (fun c_16 => ?_) (fun c_16 => ?_)
                · refine lv_iconst (v := nI 0) hx hb dX0_take_128 (by decide) ?_
                  refine lv_isub hx hb dX0_take_129 ?_
                  refine lv_eqi (z := nI (cb (Sm M1) y) - nI 1) (by rw [m1_s0, hz3]) ?_
                  refine lv_istore (lv' := [(5, .int (nI (cb (Sm M1) y) - nI 1)), (11, .int (M2 y)), (10, .int (-1)), (9, .int (nI y)), (8, .int (-1)), (0, .ref h0), (1, .ref q1), (2, .ref q2), (3, .int (nI many)), (4, .int (nI (nwK M1 M2))), (6, .int (nI (cb (Sm M2) hi) - nI 1)), (7, .int (nI (cb (uS M1 M2) hi) - nI 1))]) hx hb dX0_take_130 hl (by decide) rfl (fun ls hl => ?_)
                  refine lv_iload hx hb dX0_take_132 (lv_at hl 10 rfl) ?_
                  refine lv_iload hx hb dX0_take_134 (lv_at hl 3 rfl) ?_
                  refine lv_iload hx hb dX0_take_136 (lv_at hl 4 rfl) ?_
                  refine lv_icmp_lt (tgt := 145) hx hb dX0_take_138 (by decide) (fun c_17 => ?_) (fun c_17 => ?_)
                  · exact absurd c_17 (nlt_neg1 (by omega))
                  · refine lv_iconst (v := nI 1) hx hb dX0_take_141 (by decide) ?_
                    refine lv_goto (tgt := 146) hx hb dX0_take_142 (by decide) ?_
                    refine lv_isub hx hb dX0_take_146 ?_
                    refine lv_eqi (z := nI (cb (Sm M2) y) - nI 1) (m1_s1 hz4) ?_
                    refine lv_istore (lv' := [(6, .int (nI (cb (Sm M2) y) - nI 1)), (5, .int (nI (cb (Sm M1) y) - nI 1)), (11, .int (M2 y)), (10, .int (-1)), (9, .int (nI y)), (8, .int (-1)), (0, .ref h0), (1, .ref q1), (2, .ref q2), (3, .int (nI many)), (4, .int (nI (nwK M1 M2))), (7, .int (nI (cb (uS M1 M2) hi) - nI 1))]) hx hb dX0_take_147 hl (by decide) rfl (fun ls hl => ?_)
                    refine lv_aload_n hx hb dX0_take_149 rfl (lv_at hl 6 rfl) ?_
                    refine va_get (D := D) (ci := 0) (v := .ref qi2) (C := RX0) (T := TX0) (N := 3) hx hb hts (by decide +kernel) hown hE.1 hP 0 rfl rfl 0 (by decide) (hts (.fieldLink RX0 11 "DistinctDale$Basket" "items" "[I") (by decide +kernel)) (fun _ h9 => h9) rfl dX0_take_150 ?_
                    refine lv_iload hx hb dX0_take_153 (lv_at hl 11 rfl) ?_
                    refine lv_iload hx hb dX0_take_155 (lv_at hl 5 rfl) ?_
                    refine lv_iload hx hb dX0_take_157 (lv_at hl 4 rfl) ?_
                    refine va_mmax hx hb (hml.trans hl.1.symm) hown (hts (.methodLink RX0 33 Lib.Math.max.name) (by decide +kernel)) (hts (.static Lib.Math.max.name) (by decide +kernel)) (hts (.initialized "java/lang/Math") (by decide +kernel)) (hts (.code Lib.Math.max.name Lib.Math.max.code 2 (some .int)) (by decide +kernel)) (Nat.le_of_ble_eq_true rfl) (Nat.le_of_ble_eq_true rfl) (Nat.le_of_eq (Nat.zero_add _)) (Nat.le_of_eq (Nat.zero_add _)) dX0_take_159 ?_
                    refine lv_eqi (z := nI y) (ifneg1 (by omega)) ?_
                    refine xcWv (wr := [(h0, .inr (0, [.ref qi2, .ref qd2, .int (nI n)])), (qd2, xI cy (capR (n + nwK M1 M2) cap) d), (q1, xI cy len1 gi), (q2, xI cy len2 gd)]) (va_runSN (As := [.ref qi2, .int (nI (cb (uS M1 M2) hi) - nI 1), .int (nI y)]) (rest := []) ⟨hx, hb, hml, hown, hts⟩ ((c_put l D cy t0 qi2 (capR (n + nwK M1 M2) cap) f (nI (cb (uS M1 M2) hi) - nI 1) (nI y) (by omega)) H.size) ⟨va_cnB 3 hts ggX0_take_X4_put rfl rfl rfl (xN4 hE.2.1.1) (hts (.initialized RX4) (by decide +kernel)) (by decide +kernel) ⟨Nat.le_of_ble_eq_true rfl, Nat.le_of_ble_eq_true rfl⟩, (hts (.static yX4_put) (by decide +kernel)), trivial⟩ (xPw.give (wc := [(qi2, xI cy (capR (n + nwK M1 M2) cap) f)]) hE hS hA hP hD [1] (by decide) rfl) rfl rfl hl.1 rfl (lv_room (Nat.le_of_ble_eq_true rfl)) dX0_take_162 ⟨(Nat.le_of_eq (by rw [Nat.zero_add]; rfl)), (Nat.le_of_eq (by rw [Nat.zero_add]; rfl))⟩) hP hD hS hA [1] [0, 2, 3, 4] rfl rfl (by decide) (by decide) (fun u_20 H locs hr_19 hP hD hS => ?_)
                    obtain rfl : u_20 = upd f (cb (uS M1 M2) y) (nI y) := by rw [hr_19, xput_mm hz5 (by omega) (by omega)]
                    have hP := hP.sub (ws' := [(h0, .inr (0, [.ref qi2, .ref qd2, .int (nI n)])), (qi2, xI cy (capR (n + nwK M1 M2) cap) (upd f (cb (uS M1 M2) y) (nI y))), (qd2, xI cy (capR (n + nwK M1 M2) cap) d), (q1, xI cy len1 gi), (q2, xI cy len2 gd)]) [0, 4, 1, 2, 3] rfl
                    have hD := hD.sub (ws' := [(h0, .inr (0, [.ref qi2, .ref qd2, .int (nI n)])), (qi2, xI cy (capR (n + nwK M1 M2) cap) (upd f (cb (uS M1 M2) y) (nI y))), (qd2, xI cy (capR (n + nwK M1 M2) cap) d), (q1, xI cy len1 gi), (q2, xI cy len2 gd)]) [0, 4, 1, 2, 3] (by decide) rfl
                    refine lv_aload_n hx hb dX0_take_165 rfl (lv_at hl 6 rfl) ?_
                    refine va_get (D := D) (ci := 0) (v := .ref qd2) (C := RX0) (T := TX0) (N := 3) hx hb hts (by decide +kernel) hown hE.1 hP 0 rfl rfl 1 (by decide) (hts (.fieldLink RX0 15 "DistinctDale$Basket" "dates" "[I") (by decide +kernel)) (fun _ h9 => h9) rfl dX0_take_166 ?_
                    refine lv_iload hx hb dX0_take_169 (lv_at hl 11 rfl) ?_
                    refine lv_iload hx hb dX0_take_171 (lv_at hl 3 rfl) ?_
                    refine lv_iload hx hb dX0_take_173 (lv_at hl 2 rfl) ?_
                    refine va_mmax hx hb (hml.trans hl.1.symm) hown (hts (.methodLink RX0 33 Lib.Math.max.name) (by decide +kernel)) (hts (.static Lib.Math.max.name) (by decide +kernel)) (hts (.initialized "java/lang/Math") (by decide +kernel)) (hts (.code Lib.Math.max.name Lib.Math.max.code 2 (some .int)) (by decide +kernel)) (Nat.le_of_ble_eq_true rfl) (Nat.le_of_ble_eq_true rfl) (Nat.le_of_eq (Nat.zero_add _)) (Nat.le_of_eq (Nat.zero_add _)) dX0_take_175 ?_
                    refine lv_eqi (z := mrg M1 M2 y) (by show mrgI (-1) (M2 y) = mrgI (M1 y) (M2 y); rw [hz6]) ?_
                    refine xcWv (wr := [(h0, .inr (0, [.ref qi2, .ref qd2, .int (nI n)])), (qi2, xI cy (capR (n + nwK M1 M2) cap) (upd f (cb (uS M1 M2) y) (nI y))), (q1, xI cy len1 gi), (q2, xI cy len2 gd)]) (va_runSN (As := [.ref qd2, .int (nI (cb (uS M1 M2) hi) - nI 1), .int (mrg M1 M2 y)]) (rest := []) ⟨hx, hb, hml, hown, hts⟩ ((c_put l D cy t0 qd2 (capR (n + nwK M1 M2) cap) d (nI (cb (uS M1 M2) hi) - nI 1) (mrg M1 M2 y) (by omega)) H.size) ⟨va_cnB 3 hts ggX0_take_X4_put rfl rfl rfl (xN4 hE.2.1.1) (hts (.initialized RX4) (by decide +kernel)) (by decide +kernel) ⟨Nat.le_of_ble_eq_true rfl, Nat.le_of_ble_eq_true rfl⟩, (hts (.static yX4_put) (by decide +kernel)), trivial⟩ (xPw.give (wc := [(qd2, xI cy (capR (n + nwK M1 M2) cap) d)]) hE hS hA hP hD [2] (by decide) rfl) rfl rfl hl.1 rfl (lv_room (Nat.le_of_ble_eq_true rfl)) dX0_take_178 ⟨(Nat.le_of_eq (by rw [Nat.zero_add]; rfl)), (Nat.le_of_eq (by rw [Nat.zero_add]; rfl))⟩) hP hD hS hA [2] [0, 1, 3, 4] rfl rfl (by decide) (by decide) (fun u_23 H locs hr_22 hP hD hS => ?_)
                    obtain rfl : u_23 = upd d (cb (uS M1 M2) y) (mrg M1 M2 y) := by rw [hr_22, xput_mm hz5 (by omega) (by omega)]
                    have hP := hP.sub (ws' := [(h0, .inr (0, [.ref qi2, .ref qd2, .int (nI n)])), (qi2, xI cy (capR (n + nwK M1 M2) cap) (upd f (cb (uS M1 M2) y) (nI y))), (qd2, xI cy (capR (n + nwK M1 M2) cap) (upd d (cb (uS M1 M2) y) (mrg M1 M2 y))), (q1, xI cy len1 gi), (q2, xI cy len2 gd)]) [0, 1, 4, 2, 3] rfl
                    have hD := hD.sub (ws' := [(h0, .inr (0, [.ref qi2, .ref qd2, .int (nI n)])), (qi2, xI cy (capR (n + nwK M1 M2) cap) (upd f (cb (uS M1 M2) y) (nI y))), (qd2, xI cy (capR (n + nwK M1 M2) cap) (upd d (cb (uS M1 M2) y) (mrg M1 M2 y))), (q1, xI cy len1 gi), (q2, xI cy len2 gd)]) [0, 1, 4, 2, 3] (by decide) rfl
                    refine lv_iinc (v := nI (cb (uS M1 M2) y) - nI 1) (lv' := [(7, .int (nI (cb (uS M1 M2) y) - nI 1)), (6, .int (nI (cb (Sm M2) y) - nI 1)), (5, .int (nI (cb (Sm M1) y) - nI 1)), (11, .int (M2 y)), (10, .int (-1)), (9, .int (nI y)), (8, .int (-1)), (0, .ref h0), (1, .ref q1), (2, .ref q2), (3, .int (nI many)), (4, .int (nI (nwK M1 M2)))]) hx hb dX0_take_181 hl (k := 11) rfl (m1_inc hz5) (by decide) rfl (fun ls hl => ?_)
                    refine lv_goto (tgt := 45) hx hb dX0_take_184 (by decide) ?_
                    exact ih_lp y (upd f (cb (uS M1 M2) y) (nI y)) (upd d (cb (uS M1 M2) y) (mrg M1 M2 y)) (by omega) (ht1.step (by omega) hz1 hz2 hsub rfl) (ht2.step (by omega) hz1 hz2 hsub rfl) (by omega) _ _ hP hD hS _ (lv_sub hl [7, 8, 9, 10, 11, 2, 1, 0] rfl)
                · exact absurd (neg1lt (nI_pos' (by omega))) c_16
            · exact absurd (neg1lt (nI_pos' (by omega))) c_12
          · obtain ⟨x, hx1, hx2, hx3, hx4⟩ := cb_top (P := (Sm M1)) (n := hi) hm
            have hxf : f (cb (Sm M1) x) = nI x := by rw [ht1.1 _ (by omega)]; exact hfi2 x (by omega) hx2
            have hxd : d (cb (Sm M1) x) = M1 x := by rw [ht2.1 _ (by omega)]; exact hfd2 x (by omega) hx2
            rcases Nat.lt_trichotomy x y with hxy | hxy | hxy
            · obtain ⟨hz1, hz2, hz3, hz4, hz5, hz6⟩ := tk_y hy1 hy2 hy4 (fun w h1 h2 => hx4 w (by omega) h2)
              refine lv_aload_n hx hb dX0_take_55 rfl (lv_at hl 0 rfl) ?_
              refine va_get (D := D) (ci := 0) (v := .ref qi2) (C := RX0) (T := TX0) (N := 3) hx hb hts (by decide +kernel) hown hE.1 hP 0 rfl rfl 0 (by decide) (hts (.fieldLink RX0 11 "DistinctDale$Basket" "items" "[I") (by decide +kernel)) (fun _ h9 => h9) rfl dX0_take_56 ?_
              refine lv_iload hx hb dX0_take_59 (lv_at hl 5 rfl) ?_
              refine xcRi (va_runSN (As := [.ref qi2, .int (nI (cb (Sm M1) hi) - nI 1)]) (rest := []) ⟨hx, hb, hml, hown, hts⟩ (c_at l D cy t0 qi2 (capR (n + nwK M1 M2) cap) f (nI (cb (Sm M1) hi) - nI 1) (by omega)) ⟨va_cnB 2 hts ggX0_take_X4_at rfl rfl rfl (xN3 hE.2.1.1) (hts (.initialized RX4) (by decide +kernel)) (by decide +kernel) ⟨Nat.le_of_ble_eq_true rfl, Nat.le_of_ble_eq_true rfl⟩, (hts (.static yX4_at) (by decide +kernel)), trivial⟩ (xPr.give (wc := [(qi2, xI cy (capR (n + nwK M1 M2) cap) f)]) hE hS hP [1] rfl) rfl rfl hl.1 rfl (lv_room (Nat.le_of_ble_eq_true rfl)) dX0_take_61 ⟨(Nat.le_of_eq (by rw [Nat.zero_add]; rfl)), (Nat.le_of_eq (by rw [Nat.zero_add]; rfl))⟩) (fun r_24 hr_25 => ?_)
              obtain rfl : r_24 = nI x := by rw [hr_25, xat_mm hx3 (by omega) (by omega), hxf]
              refine lv_istore (lv' := [(8, .int (nI x)), (0, .ref h0), (1, .ref q1), (2, .ref q2), (3, .int (nI many)), (4, .int (nI (nwK M1 M2))), (5, .int (nI (cb (Sm M1) hi) - nI 1)), (6, .int (nI (cb (Sm M2) hi) - nI 1)), (7, .int (nI (cb (uS M1 M2) hi) - nI 1))]) hx hb dX0_take_64 hl (by decide) rfl (fun ls hl => ?_)
              refine lv_aload_n hx hb dX0_take_66 rfl (lv_at hl 2 rfl) ?_
              refine lv_iload hx hb dX0_take_67 (lv_at hl 7 rfl) ?_
              refine xcRi (va_runSN (As := [.ref q1, .int (nI (cb (Sm M2) hi) - nI 1)]) (rest := []) ⟨hx, hb, hml, hown, hts⟩ (c_at l D cy t0 q1 len1 gi (nI (cb (Sm M2) hi) - nI 1) (by omega)) ⟨va_cnB 2 hts ggX0_take_X4_at rfl rfl rfl (xN3 hE.2.1.1) (hts (.initialized RX4) (by decide +kernel)) (by decide +kernel) ⟨Nat.le_of_ble_eq_true rfl, Nat.le_of_ble_eq_true rfl⟩, (hts (.static yX4_at) (by decide +kernel)), trivial⟩ (xPr.give (wc := [(q1, xI cy len1 gi)]) hE hS hP [3] rfl) rfl rfl hl.1 rfl (lv_room (Nat.le_of_ble_eq_true rfl)) dX0_take_69 ⟨(Nat.le_of_eq (by rw [Nat.zero_add]; rfl)), (Nat.le_of_eq (by rw [Nat.zero_add]; rfl))⟩) (fun r_26 hr_27 => ?_)
              obtain rfl : r_26 = nI y := by rw [hr_27, xat_mm hy3 (by omega) (by omega), hyg]
              refine lv_istore (lv' := [(9, .int (nI y)), (8, .int (nI x)), (0, .ref h0), (1, .ref q1), (2, .ref q2), (3, .int (nI many)), (4, .int (nI (nwK M1 M2))), (5, .int (nI (cb (Sm M1) hi) - nI 1)), (6, .int (nI (cb (Sm M2) hi) - nI 1)), (7, .int (nI (cb (uS M1 M2) hi) - nI 1))]) hx hb dX0_take_72 hl (by decide) rfl (fun ls hl => ?_)
              refine lv_iload hx hb dX0_take_74 (lv_at hl 1 rfl) ?_
              refine lv_iload hx hb dX0_take_76 (lv_at hl 0 rfl) ?_
              refine xb_icmp_lt (tgt := 93) (a := x) (b := y) (by omega) (by omega) hx hb dX0_take_78 (by decide) (fun c_28 => ?_) (fun c_28 => ?_)
              · refine lv_iconst (v := (-1)) hx hb dX0_take_93 (by decide) ?_
                refine lv_istore (lv' := [(10, .int (-1)), (9, .int (nI y)), (8, .int (nI x)), (0, .ref h0), (1, .ref q1), (2, .ref q2), (3, .int (nI many)), (4, .int (nI (nwK M1 M2))), (5, .int (nI (cb (Sm M1) hi) - nI 1)), (6, .int (nI (cb (Sm M2) hi) - nI 1)), (7, .int (nI (cb (uS M1 M2) hi) - nI 1))]) hx hb dX0_take_94 hl (by decide) rfl (fun ls hl => ?_)
                refine lv_iload hx hb dX0_take_96 (lv_at hl 1 rfl) ?_
                refine lv_iload hx hb dX0_take_98 (lv_at hl 2 rfl) ?_
                refine xb_icmp_lt (tgt := 112) (a := y) (b := x) (by omega) (by omega) hx hb dX0_take_100 (by decide) (fun c_29 => ?_) (fun c_29 => ?_)
                · exact absurd c_29 (by omega)
                · refine lv_aload_n hx hb dX0_take_103 rfl (lv_at hl 5 rfl) ?_
                  refine lv_iload hx hb dX0_take_104 (lv_at hl 9 rfl) ?_
                  refine xcRi (va_runSN (As := [.ref q2, .int (nI (cb (Sm M2) hi) - nI 1)]) (rest := []) ⟨hx, hb, hml, hown, hts⟩ (c_at l D cy t0 q2 len2 gd (nI (cb (Sm M2) hi) - nI 1) (by omega)) ⟨va_cnB 2 hts ggX0_take_X4_at rfl rfl rfl (xN3 hE.2.1.1) (hts (.initialized RX4) (by decide +kernel)) (by decide +kernel) ⟨Nat.le_of_ble_eq_true rfl, Nat.le_of_ble_eq_true rfl⟩, (hts (.static yX4_at) (by decide +kernel)), trivial⟩ (xPr.give (wc := [(q2, xI cy len2 gd)]) hE hS hP [4] rfl) rfl rfl hl.1 rfl (lv_room (Nat.le_of_ble_eq_true rfl)) dX0_take_106 ⟨(Nat.le_of_eq (by rw [Nat.zero_add]; rfl)), (Nat.le_of_eq (by rw [Nat.zero_add]; rfl))⟩) (fun r_30 hr_31 => ?_)
                  obtain rfl : r_30 = M2 y := by rw [hr_31, xat_mm hy3 (by omega) (by omega), hyd]
                  refine lv_goto (tgt := 113) hx hb dX0_take_109 (by decide) ?_
                  refine lv_istore (lv' := [(11, .int (M2 y)), (10, .int (-1)), (9, .int (nI y)), (8, .int (nI x)), (0, .ref h0), (1, .ref q1), (2, .ref q2), (3, .int (nI many)), (4, .int (nI (nwK M1 M2))), (5, .int (nI (cb (Sm M1) hi) - nI 1)), (6, .int (nI (cb (Sm M2) hi) - nI 1)), (7, .int (nI (cb (uS M1 M2) hi) - nI 1))]) hx hb dX0_take_113 hl (by decide) rfl (fun ls hl => ?_)
                  refine lv_iload hx hb dX0_take_115 (lv_at hl 9 rfl) ?_
                  refine lv_iload hx hb dX0_take_117 (lv_at hl 3 rfl) ?_
                  refine lv_iload hx hb dX0_take_119 (lv_at hl 2 rfl) ?_
                  refine xb_icmp_lt (tgt := 128) (a := x) (b := y) (by omega) (by omega) hx hb dX0_take_121 (by decide) (fun c_32 => ?_) (fun c_32 => ?_)
                  · refine lv_iconst (v := nI 0) hx hb dX0_take_128 (by decide) ?_
                    refine lv_isub hx hb dX0_take_129 ?_
                    refine lv_eqi (z := nI (cb (Sm M1) y) - nI 1) (by rw [m1_s0, hz3]) ?_
                    refine lv_istore (lv' := [(5, .int (nI (cb (Sm M1) y) - nI 1)), (11, .int (M2 y)), (10, .int (-1)), (9, .int (nI y)), (8, .int (nI x)), (0, .ref h0), (1, .ref q1), (2, .ref q2), (3, .int (nI many)), (4, .int (nI (nwK M1 M2))), (6, .int (nI (cb (Sm M2) hi) - nI 1)), (7, .int (nI (cb (uS M1 M2) hi) - nI 1))]) hx hb dX0_take_130 hl (by decide) rfl (fun ls hl => ?_)
                    refine lv_iload hx hb dX0_take_132 (lv_at hl 10 rfl) ?_
                    refine lv_iload hx hb dX0_take_134 (lv_at hl 3 rfl) ?_
                    refine lv_iload hx hb dX0_take_136 (lv_at hl 4 rfl) ?_
                    refine xb_icmp_lt (tgt := 145) (a := y) (b := x) (by omega) (by omega) hx hb dX0_take_138 (by decide) (fun c_33 => ?_) (fun c_33 => ?_)
                    · exact absurd c_33 (by omega)
                    · refine lv_iconst (v := nI 1) hx hb dX0_take_141 (by decide) ?_
                      refine lv_goto (tgt := 146) hx hb dX0_take_142 (by decide) ?_
                      refine lv_isub hx hb dX0_take_146 ?_
                      refine lv_eqi (z := nI (cb (Sm M2) y) - nI 1) (m1_s1 hz4) ?_
                      refine lv_istore (lv' := [(6, .int (nI (cb (Sm M2) y) - nI 1)), (5, .int (nI (cb (Sm M1) y) - nI 1)), (11, .int (M2 y)), (10, .int (-1)), (9, .int (nI y)), (8, .int (nI x)), (0, .ref h0), (1, .ref q1), (2, .ref q2), (3, .int (nI many)), (4, .int (nI (nwK M1 M2))), (7, .int (nI (cb (uS M1 M2) hi) - nI 1))]) hx hb dX0_take_147 hl (by decide) rfl (fun ls hl => ?_)
                      refine lv_aload_n hx hb dX0_take_149 rfl (lv_at hl 6 rfl) ?_
                      refine va_get (D := D) (ci := 0) (v := .ref qi2) (C := RX0) (T := TX0) (N := 3) hx hb hts (by decide +kernel) hown hE.1 hP 0 rfl rfl 0 (by decide) (hts (.fieldLink RX0 11 "DistinctDale$Basket" "items" "[I") (by decide +kernel)) (fun _ h9 => h9) rfl dX0_take_150 ?_
                      refine lv_iload hx hb dX0_take_153 (lv_at hl 11 rfl) ?_
                      refine lv_iload hx hb dX0_take_155 (lv_at hl 5 rfl) ?_
                      refine lv_iload hx hb dX0_take_157 (lv_at hl 4 rfl) ?_
                      refine va_mmax hx hb (hml.trans hl.1.symm) hown (hts (.methodLink RX0 33 Lib.Math.max.name) (by decide +kernel)) (hts (.static Lib.Math.max.name) (by decide +kernel)) (hts (.initialized "java/lang/Math") (by decide +kernel)) (hts (.code Lib.Math.max.name Lib.Math.max.code 2 (some .int)) (by decide +kernel)) (Nat.le_of_ble_eq_true rfl) (Nat.le_of_ble_eq_true rfl) (Nat.le_of_eq (Nat.zero_add _)) (Nat.le_of_eq (Nat.zero_add _)) dX0_take_159 ?_
                      refine lv_eqi (z := nI y) ((xmax_nI (by omega) (by omega)).trans (congrArg nI (Nat.max_eq_right (by omega)))) ?_
                      refine xcWv (wr := [(h0, .inr (0, [.ref qi2, .ref qd2, .int (nI n)])), (qd2, xI cy (capR (n + nwK M1 M2) cap) d), (q1, xI cy len1 gi), (q2, xI cy len2 gd)]) (va_runSN (As := [.ref qi2, .int (nI (cb (uS M1 M2) hi) - nI 1), .int (nI y)]) (rest := []) ⟨hx, hb, hml, hown, hts⟩ ((c_put l D cy t0 qi2 (capR (n + nwK M1 M2) cap) f (nI (cb (uS M1 M2) hi) - nI 1) (nI y) (by omega)) H.size) ⟨va_cnB 3 hts ggX0_take_X4_put rfl rfl rfl (xN4 hE.2.1.1) (hts (.initialized RX4) (by decide +kernel)) (by decide +kernel) ⟨Nat.le_of_ble_eq_true rfl, Nat.le_of_ble_eq_true rfl⟩, (hts (.static yX4_put) (by decide +kernel)), trivial⟩ (xPw.give (wc := [(qi2, xI cy (capR (n + nwK M1 M2) cap) f)]) hE hS hA hP hD [1] (by decide) rfl) rfl rfl hl.1 rfl (lv_room (Nat.le_of_ble_eq_true rfl)) dX0_take_162 ⟨(Nat.le_of_eq (by rw [Nat.zero_add]; rfl)), (Nat.le_of_eq (by rw [Nat.zero_add]; rfl))⟩) hP hD hS hA [1] [0, 2, 3, 4] rfl rfl (by decide) (by decide) (fun u_36 H locs hr_35 hP hD hS => ?_)
                      obtain rfl : u_36 = upd f (cb (uS M1 M2) y) (nI y) := by rw [hr_35, xput_mm hz5 (by omega) (by omega)]
                      have hP := hP.sub (ws' := [(h0, .inr (0, [.ref qi2, .ref qd2, .int (nI n)])), (qi2, xI cy (capR (n + nwK M1 M2) cap) (upd f (cb (uS M1 M2) y) (nI y))), (qd2, xI cy (capR (n + nwK M1 M2) cap) d), (q1, xI cy len1 gi), (q2, xI cy len2 gd)]) [0, 4, 1, 2, 3] rfl
                      have hD := hD.sub (ws' := [(h0, .inr (0, [.ref qi2, .ref qd2, .int (nI n)])), (qi2, xI cy (capR (n + nwK M1 M2) cap) (upd f (cb (uS M1 M2) y) (nI y))), (qd2, xI cy (capR (n + nwK M1 M2) cap) d), (q1, xI cy len1 gi), (q2, xI cy len2 gd)]) [0, 4, 1, 2, 3] (by decide) rfl
                      refine lv_aload_n hx hb dX0_take_165 rfl (lv_at hl 6 rfl) ?_
                      refine va_get (D := D) (ci := 0) (v := .ref qd2) (C := RX0) (T := TX0) (N := 3) hx hb hts (by decide +kernel) hown hE.1 hP 0 rfl rfl 1 (by decide) (hts (.fieldLink RX0 15 "DistinctDale$Basket" "dates" "[I") (by decide +kernel)) (fun _ h9 => h9) rfl dX0_take_166 ?_
                      refine lv_iload hx hb dX0_take_169 (lv_at hl 11 rfl) ?_
                      refine lv_iload hx hb dX0_take_171 (lv_at hl 3 rfl) ?_
                      refine lv_iload hx hb dX0_take_173 (lv_at hl 2 rfl) ?_
                      refine va_mmax hx hb (hml.trans hl.1.symm) hown (hts (.methodLink RX0 33 Lib.Math.max.name) (by decide +kernel)) (hts (.static Lib.Math.max.name) (by decide +kernel)) (hts (.initialized "java/lang/Math") (by decide +kernel)) (hts (.code Lib.Math.max.name Lib.Math.max.code 2 (some .int)) (by decide +kernel)) (Nat.le_of_ble_eq_true rfl) (Nat.le_of_ble_eq_true rfl) (Nat.le_of_eq (Nat.zero_add _)) (Nat.le_of_eq (Nat.zero_add _)) dX0_take_175 ?_
                      refine lv_eqi (z := mrg M1 M2 y) (by show mrgI (-1) (M2 y) = mrgI (M1 y) (M2 y); rw [hz6]) ?_
                      refine xcWv (wr := [(h0, .inr (0, [.ref qi2, .ref qd2, .int (nI n)])), (qi2, xI cy (capR (n + nwK M1 M2) cap) (upd f (cb (uS M1 M2) y) (nI y))), (q1, xI cy len1 gi), (q2, xI cy len2 gd)]) (va_runSN (As := [.ref qd2, .int (nI (cb (uS M1 M2) hi) - nI 1), .int (mrg M1 M2 y)]) (rest := []) ⟨hx, hb, hml, hown, hts⟩ ((c_put l D cy t0 qd2 (capR (n + nwK M1 M2) cap) d (nI (cb (uS M1 M2) hi) - nI 1) (mrg M1 M2 y) (by omega)) H.size) ⟨va_cnB 3 hts ggX0_take_X4_put rfl rfl rfl (xN4 hE.2.1.1) (hts (.initialized RX4) (by decide +kernel)) (by decide +kernel) ⟨Nat.le_of_ble_eq_true rfl, Nat.le_of_ble_eq_true rfl⟩, (hts (.static yX4_put) (by decide +kernel)), trivial⟩ (xPw.give (wc := [(qd2, xI cy (capR (n + nwK M1 M2) cap) d)]) hE hS hA hP hD [2] (by decide) rfl) rfl rfl hl.1 rfl (lv_room (Nat.le_of_ble_eq_true rfl)) dX0_take_178 ⟨(Nat.le_of_eq (by rw [Nat.zero_add]; rfl)), (Nat.le_of_eq (by rw [Nat.zero_add]; rfl))⟩) hP hD hS hA [2] [0, 1, 3, 4] rfl rfl (by decide) (by decide) (fun u_39 H locs hr_38 hP hD hS => ?_)
                      obtain rfl : u_39 = upd d (cb (uS M1 M2) y) (mrg M1 M2 y) := by rw [hr_38, xput_mm hz5 (by omega) (by omega)]
                      have hP := hP.sub (ws' := [(h0, .inr (0, [.ref qi2, .ref qd2, .int (nI n)])), (qi2, xI cy (capR (n + nwK M1 M2) cap) (upd f (cb (uS M1 M2) y) (nI y))), (qd2, xI cy (capR (n + nwK M1 M2) cap) (upd d (cb (uS M1 M2) y) (mrg M1 M2 y))), (q1, xI cy len1 gi), (q2, xI cy len2 gd)]) [0, 1, 4, 2, 3] rfl
                      have hD := hD.sub (ws' := [(h0, .inr (0, [.ref qi2, .ref qd2, .int (nI n)])), (qi2, xI cy (capR (n + nwK M1 M2) cap) (upd f (cb (uS M1 M2) y) (nI y))), (qd2, xI cy (capR (n + nwK M1 M2) cap) (upd d (cb (uS M1 M2) y) (mrg M1 M2 y))), (q1, xI cy len1 gi), (q2, xI cy len2 gd)]) [0, 1, 4, 2, 3] (by decide) rfl
                      refine lv_iinc (v := nI (cb (uS M1 M2) y) - nI 1) (lv' := [(7, .int (nI (cb (uS M1 M2) y) - nI 1)), (6, .int (nI (cb (Sm M2) y) - nI 1)), (5, .int (nI (cb (Sm M1) y) - nI 1)), (11, .int (M2 y)), (10, .int (-1)), (9, .int (nI y)), (8, .int (nI x)), (0, .ref h0), (1, .ref q1), (2, .ref q2), (3, .int (nI many)), (4, .int (nI (nwK M1 M2)))]) hx hb dX0_take_181 hl (k := 11) rfl (m1_inc hz5) (by decide) rfl (fun ls hl => ?_)
                      refine lv_goto (tgt := 45) hx hb dX0_take_184 (by decide) ?_
                      exact ih_lp y (upd f (cb (uS M1 M2) y) (nI y)) (upd d (cb (uS M1 M2) y) (mrg M1 M2 y)) (by omega) (ht1.step (by omega) hz1 hz2 hsub rfl) (ht2.step (by omega) hz1 hz2 hsub rfl) (by omega) _ _ hP hD hS _ (lv_sub hl [7, 8, 9, 10, 11, 2, 1, 0] rfl)
                  · exact absurd c_32 (by omega)
              · exact absurd c_28 (by omega)
            · obtain ⟨hz1, hz2, hz3, hz4, hz5⟩ := tk_e hy1 (by rw [← hxy]; exact hx2) (fun w h1 h2 => hx4 w (by omega) h2) hy2 hy4
              refine lv_aload_n hx hb dX0_take_55 rfl (lv_at hl 0 rfl) ?_
              refine va_get (D := D) (ci := 0) (v := .ref qi2) (C := RX0) (T := TX0) (N := 3) hx hb hts (by decide +kernel) hown hE.1 hP 0 rfl rfl 0 (by decide) (hts (.fieldLink RX0 11 "DistinctDale$Basket" "items" "[I") (by decide +kernel)) (fun _ h9 => h9) rfl dX0_take_56 ?_
              refine lv_iload hx hb dX0_take_59 (lv_at hl 5 rfl) ?_
              refine xcRi (va_runSN (As := [.ref qi2, .int (nI (cb (Sm M1) hi) - nI 1)]) (rest := []) ⟨hx, hb, hml, hown, hts⟩ (c_at l D cy t0 qi2 (capR (n + nwK M1 M2) cap) f (nI (cb (Sm M1) hi) - nI 1) (by omega)) ⟨va_cnB 2 hts ggX0_take_X4_at rfl rfl rfl (xN3 hE.2.1.1) (hts (.initialized RX4) (by decide +kernel)) (by decide +kernel) ⟨Nat.le_of_ble_eq_true rfl, Nat.le_of_ble_eq_true rfl⟩, (hts (.static yX4_at) (by decide +kernel)), trivial⟩ (xPr.give (wc := [(qi2, xI cy (capR (n + nwK M1 M2) cap) f)]) hE hS hP [1] rfl) rfl rfl hl.1 rfl (lv_room (Nat.le_of_ble_eq_true rfl)) dX0_take_61 ⟨(Nat.le_of_eq (by rw [Nat.zero_add]; rfl)), (Nat.le_of_eq (by rw [Nat.zero_add]; rfl))⟩) (fun r_40 hr_41 => ?_)
              obtain rfl : r_40 = nI y := by rw [hr_41, xat_mm hx3 (by omega) (by omega), hxf, hxy]
              refine lv_istore (lv' := [(8, .int (nI y)), (0, .ref h0), (1, .ref q1), (2, .ref q2), (3, .int (nI many)), (4, .int (nI (nwK M1 M2))), (5, .int (nI (cb (Sm M1) hi) - nI 1)), (6, .int (nI (cb (Sm M2) hi) - nI 1)), (7, .int (nI (cb (uS M1 M2) hi) - nI 1))]) hx hb dX0_take_64 hl (by decide) rfl (fun ls hl => ?_)
              refine lv_aload_n hx hb dX0_take_66 rfl (lv_at hl 2 rfl) ?_
              refine lv_iload hx hb dX0_take_67 (lv_at hl 7 rfl) ?_
              refine xcRi (va_runSN (As := [.ref q1, .int (nI (cb (Sm M2) hi) - nI 1)]) (rest := []) ⟨hx, hb, hml, hown, hts⟩ (c_at l D cy t0 q1 len1 gi (nI (cb (Sm M2) hi) - nI 1) (by omega)) ⟨va_cnB 2 hts ggX0_take_X4_at rfl rfl rfl (xN3 hE.2.1.1) (hts (.initialized RX4) (by decide +kernel)) (by decide +kernel) ⟨Nat.le_of_ble_eq_true rfl, Nat.le_of_ble_eq_true rfl⟩, (hts (.static yX4_at) (by decide +kernel)), trivial⟩ (xPr.give (wc := [(q1, xI cy len1 gi)]) hE hS hP [3] rfl) rfl rfl hl.1 rfl (lv_room (Nat.le_of_ble_eq_true rfl)) dX0_take_69 ⟨(Nat.le_of_eq (by rw [Nat.zero_add]; rfl)), (Nat.le_of_eq (by rw [Nat.zero_add]; rfl))⟩) (fun r_42 hr_43 => ?_)
              obtain rfl : r_42 = nI y := by rw [hr_43, xat_mm hy3 (by omega) (by omega), hyg]
              refine lv_istore (lv' := [(9, .int (nI y)), (8, .int (nI y)), (0, .ref h0), (1, .ref q1), (2, .ref q2), (3, .int (nI many)), (4, .int (nI (nwK M1 M2))), (5, .int (nI (cb (Sm M1) hi) - nI 1)), (6, .int (nI (cb (Sm M2) hi) - nI 1)), (7, .int (nI (cb (uS M1 M2) hi) - nI 1))]) hx hb dX0_take_72 hl (by decide) rfl (fun ls hl => ?_)
              refine lv_iload hx hb dX0_take_74 (lv_at hl 1 rfl) ?_
              refine lv_iload hx hb dX0_take_76 (lv_at hl 0 rfl) ?_
              refine xb_icmp_lt (tgt := 93) (a := y) (b := y) (by omega) (by omega) hx hb dX0_take_78 (by decide) (fun c_44 => ?_) (fun c_44 => ?_)
              · exact absurd c_44 (by omega)
              · refine lv_aload_n hx hb dX0_take_81 rfl (lv_at hl 2 rfl) ?_
                refine va_get (D := D) (ci := 0) (v := .ref qd2) (C := RX0) (T := TX0) (N := 3) hx hb hts (by decide +kernel) hown hE.1 hP 0 rfl rfl 1 (by decide) (hts (.fieldLink RX0 15 "DistinctDale$Basket" "dates" "[I") (by decide +kernel)) (fun _ h9 => h9) rfl dX0_take_82 ?_
                refine lv_iload hx hb dX0_take_85 (lv_at hl 7 rfl) ?_
                refine xcRi (va_runSN (As := [.ref qd2, .int (nI (cb (Sm M1) hi) - nI 1)]) (rest := []) ⟨hx, hb, hml, hown, hts⟩ (c_at l D cy t0 qd2 (capR (n + nwK M1 M2) cap) d (nI (cb (Sm M1) hi) - nI 1) (by omega)) ⟨va_cnB 2 hts ggX0_take_X4_at rfl rfl rfl (xN3 hE.2.1.1) (hts (.initialized RX4) (by decide +kernel)) (by decide +kernel) ⟨Nat.le_of_ble_eq_true rfl, Nat.le_of_ble_eq_true rfl⟩, (hts (.static yX4_at) (by decide +kernel)), trivial⟩ (xPr.give (wc := [(qd2, xI cy (capR (n + nwK M1 M2) cap) d)]) hE hS hP [2] rfl) rfl rfl hl.1 rfl (lv_room (Nat.le_of_ble_eq_true rfl)) dX0_take_87 ⟨(Nat.le_of_eq (by rw [Nat.zero_add]; rfl)), (Nat.le_of_eq (by rw [Nat.zero_add]; rfl))⟩) (fun r_45 hr_46 => ?_)
                obtain rfl : r_45 = M1 y := by rw [hr_46, xat_mm hx3 (by omega) (by omega), hxd, hxy]
                refine lv_goto (tgt := 94) hx hb dX0_take_90 (by decide) ?_
                refine lv_istore (lv' := [(10, .int (M1 y)), (9, .int (nI y)), (8, .int (nI y)), (0, .ref h0), (1, .ref q1), (2, .ref q2), (3, .int (nI many)), (4, .int (nI (nwK M1 M2))), (5, .int (nI (cb (Sm M1) hi) - nI 1)), (6, .int (nI (cb (Sm M2) hi) - nI 1)), (7, .int (nI (cb (uS M1 M2) hi) - nI 1))]) hx hb dX0_take_94 hl (by decide) rfl (fun ls hl => ?_)
                refine lv_iload hx hb dX0_take_96 (lv_at hl 1 rfl) ?_
                refine lv_iload hx hb dX0_take_98 (lv_at hl 2 rfl) ?_
                refine xb_icmp_lt (tgt := 112) (a := y) (b := y) (by omega) (by omega) hx hb dX0_take_100 (by decide) (fun c_47 => ?_) (fun c_47 => ?_)
                · exact absurd c_47 (by omega)
                · refine lv_aload_n hx hb dX0_take_103 rfl (lv_at hl 5 rfl) ?_
                  refine lv_iload hx hb dX0_take_104 (lv_at hl 9 rfl) ?_
                  refine xcRi (va_runSN (As := [.ref q2, .int (nI (cb (Sm M2) hi) - nI 1)]) (rest := []) ⟨hx, hb, hml, hown, hts⟩ (c_at l D cy t0 q2 len2 gd (nI (cb (Sm M2) hi) - nI 1) (by omega)) ⟨va_cnB 2 hts ggX0_take_X4_at rfl rfl rfl (xN3 hE.2.1.1) (hts (.initialized RX4) (by decide +kernel)) (by decide +kernel) ⟨Nat.le_of_ble_eq_true rfl, Nat.le_of_ble_eq_true rfl⟩, (hts (.static yX4_at) (by decide +kernel)), trivial⟩ (xPr.give (wc := [(q2, xI cy len2 gd)]) hE hS hP [4] rfl) rfl rfl hl.1 rfl (lv_room (Nat.le_of_ble_eq_true rfl)) dX0_take_106 ⟨(Nat.le_of_eq (by rw [Nat.zero_add]; rfl)), (Nat.le_of_eq (by rw [Nat.zero_add]; rfl))⟩) (fun r_48 hr_49 => ?_)
                  obtain rfl : r_48 = M2 y := by rw [hr_49, xat_mm hy3 (by omega) (by omega), hyd]
                  refine lv_goto (tgt := 113) hx hb dX0_take_109 (by decide) ?_
                  refine lv_istore (lv' := [(11, .int (M2 y)), (10, .int (M1 y)), (9, .int (nI y)), (8, .int (nI y)), (0, .ref h0), (1, .ref q1), (2, .ref q2), (3, .int (nI many)), (4, .int (nI (nwK M1 M2))), (5, .int (nI (cb (Sm M1) hi) - nI 1)), (6, .int (nI (cb (Sm M2) hi) - nI 1)), (7, .int (nI (cb (uS M1 M2) hi) - nI 1))]) hx hb dX0_take_113 hl (by decide) rfl (fun ls hl => ?_)
                  refine lv_iload hx hb dX0_take_115 (lv_at hl 9 rfl) ?_
                  refine lv_iload hx hb dX0_take_117 (lv_at hl 3 rfl) ?_
                  refine lv_iload hx hb dX0_take_119 (lv_at hl 2 rfl) ?_
                  refine xb_icmp_lt (tgt := 128) (a := y) (b := y) (by omega) (by omega) hx hb dX0_take_121 (by decide) (fun c_50 => ?_) (fun c_50 => ?_)
                  · exact absurd c_50 (by omega)
                  · refine lv_iconst (v := nI 1) hx hb dX0_take_124 (by decide) ?_
                    refine lv_goto (tgt := 129) hx hb dX0_take_125 (by decide) ?_
                    refine lv_isub hx hb dX0_take_129 ?_
                    refine lv_eqi (z := nI (cb (Sm M1) y) - nI 1) (m1_s1 hz3) ?_
                    refine lv_istore (lv' := [(5, .int (nI (cb (Sm M1) y) - nI 1)), (11, .int (M2 y)), (10, .int (M1 y)), (9, .int (nI y)), (8, .int (nI y)), (0, .ref h0), (1, .ref q1), (2, .ref q2), (3, .int (nI many)), (4, .int (nI (nwK M1 M2))), (6, .int (nI (cb (Sm M2) hi) - nI 1)), (7, .int (nI (cb (uS M1 M2) hi) - nI 1))]) hx hb dX0_take_130 hl (by decide) rfl (fun ls hl => ?_)
                    refine lv_iload hx hb dX0_take_132 (lv_at hl 10 rfl) ?_
                    refine lv_iload hx hb dX0_take_134 (lv_at hl 3 rfl) ?_
                    refine lv_iload hx hb dX0_take_136 (lv_at hl 4 rfl) ?_
                    refine xb_icmp_lt (tgt := 145) (a := y) (b := y) (by omega) (by omega) hx hb dX0_take_138 (by decide) (fun c_51 => ?_) (fun c_51 => ?_)
                    · exact absurd c_51 (by omega)
                    · refine lv_iconst (v := nI 1) hx hb dX0_take_141 (by decide) ?_
                      refine lv_goto (tgt := 146) hx hb dX0_take_142 (by decide) ?_
                      refine lv_isub hx hb dX0_take_146 ?_
                      refine lv_eqi (z := nI (cb (Sm M2) y) - nI 1) (m1_s1 hz4) ?_
                      refine lv_istore (lv' := [(6, .int (nI (cb (Sm M2) y) - nI 1)), (5, .int (nI (cb (Sm M1) y) - nI 1)), (11, .int (M2 y)), (10, .int (M1 y)), (9, .int (nI y)), (8, .int (nI y)), (0, .ref h0), (1, .ref q1), (2, .ref q2), (3, .int (nI many)), (4, .int (nI (nwK M1 M2))), (7, .int (nI (cb (uS M1 M2) hi) - nI 1))]) hx hb dX0_take_147 hl (by decide) rfl (fun ls hl => ?_)
                      refine lv_aload_n hx hb dX0_take_149 rfl (lv_at hl 6 rfl) ?_
                      refine va_get (D := D) (ci := 0) (v := .ref qi2) (C := RX0) (T := TX0) (N := 3) hx hb hts (by decide +kernel) hown hE.1 hP 0 rfl rfl 0 (by decide) (hts (.fieldLink RX0 11 "DistinctDale$Basket" "items" "[I") (by decide +kernel)) (fun _ h9 => h9) rfl dX0_take_150 ?_
                      refine lv_iload hx hb dX0_take_153 (lv_at hl 11 rfl) ?_
                      refine lv_iload hx hb dX0_take_155 (lv_at hl 5 rfl) ?_
                      refine lv_iload hx hb dX0_take_157 (lv_at hl 4 rfl) ?_
                      refine va_mmax hx hb (hml.trans hl.1.symm) hown (hts (.methodLink RX0 33 Lib.Math.max.name) (by decide +kernel)) (hts (.static Lib.Math.max.name) (by decide +kernel)) (hts (.initialized "java/lang/Math") (by decide +kernel)) (hts (.code Lib.Math.max.name Lib.Math.max.code 2 (some .int)) (by decide +kernel)) (Nat.le_of_ble_eq_true rfl) (Nat.le_of_ble_eq_true rfl) (Nat.le_of_eq (Nat.zero_add _)) (Nat.le_of_eq (Nat.zero_add _)) dX0_take_159 ?_
                      refine lv_eqi (z := nI y) ((xmax_nI (by omega) (by omega)).trans (congrArg nI (Nat.max_self _))) ?_
                      refine xcWv (wr := [(h0, .inr (0, [.ref qi2, .ref qd2, .int (nI n)])), (qd2, xI cy (capR (n + nwK M1 M2) cap) d), (q1, xI cy len1 gi), (q2, xI cy len2 gd)]) (va_runSN (As := [.ref qi2, .int (nI (cb (uS M1 M2) hi) - nI 1), .int (nI y)]) (rest := []) ⟨hx, hb, hml, hown, hts⟩ ((c_put l D cy t0 qi2 (capR (n + nwK M1 M2) cap) f (nI (cb (uS M1 M2) hi) - nI 1) (nI y) (by omega)) H.size) ⟨va_cnB 3 hts ggX0_take_X4_put rfl rfl rfl (xN4 hE.2.1.1) (hts (.initialized RX4) (by decide +kernel)) (by decide +kernel) ⟨Nat.le_of_ble_eq_true rfl, Nat.le_of_ble_eq_true rfl⟩, (hts (.static yX4_put) (by decide +kernel)), trivial⟩ (xPw.give (wc := [(qi2, xI cy (capR (n + nwK M1 M2) cap) f)]) hE hS hA hP hD [1] (by decide) rfl) rfl rfl hl.1 rfl (lv_room (Nat.le_of_ble_eq_true rfl)) dX0_take_162 ⟨(Nat.le_of_eq (by rw [Nat.zero_add]; rfl)), (Nat.le_of_eq (by rw [Nat.zero_add]; rfl))⟩) hP hD hS hA [1] [0, 2, 3, 4] rfl rfl (by decide) (by decide) (fun u_54 H locs hr_53 hP hD hS => ?_)
                      obtain rfl : u_54 = upd f (cb (uS M1 M2) y) (nI y) := by rw [hr_53, xput_mm hz5 (by omega) (by omega)]
                      have hP := hP.sub (ws' := [(h0, .inr (0, [.ref qi2, .ref qd2, .int (nI n)])), (qi2, xI cy (capR (n + nwK M1 M2) cap) (upd f (cb (uS M1 M2) y) (nI y))), (qd2, xI cy (capR (n + nwK M1 M2) cap) d), (q1, xI cy len1 gi), (q2, xI cy len2 gd)]) [0, 4, 1, 2, 3] rfl
                      have hD := hD.sub (ws' := [(h0, .inr (0, [.ref qi2, .ref qd2, .int (nI n)])), (qi2, xI cy (capR (n + nwK M1 M2) cap) (upd f (cb (uS M1 M2) y) (nI y))), (qd2, xI cy (capR (n + nwK M1 M2) cap) d), (q1, xI cy len1 gi), (q2, xI cy len2 gd)]) [0, 4, 1, 2, 3] (by decide) rfl
                      refine lv_aload_n hx hb dX0_take_165 rfl (lv_at hl 6 rfl) ?_
                      refine va_get (D := D) (ci := 0) (v := .ref qd2) (C := RX0) (T := TX0) (N := 3) hx hb hts (by decide +kernel) hown hE.1 hP 0 rfl rfl 1 (by decide) (hts (.fieldLink RX0 15 "DistinctDale$Basket" "dates" "[I") (by decide +kernel)) (fun _ h9 => h9) rfl dX0_take_166 ?_
                      refine lv_iload hx hb dX0_take_169 (lv_at hl 11 rfl) ?_
                      refine lv_iload hx hb dX0_take_171 (lv_at hl 3 rfl) ?_
                      refine lv_iload hx hb dX0_take_173 (lv_at hl 2 rfl) ?_
                      refine va_mmax hx hb (hml.trans hl.1.symm) hown (hts (.methodLink RX0 33 Lib.Math.max.name) (by decide +kernel)) (hts (.static Lib.Math.max.name) (by decide +kernel)) (hts (.initialized "java/lang/Math") (by decide +kernel)) (hts (.code Lib.Math.max.name Lib.Math.max.code 2 (some .int)) (by decide +kernel)) (Nat.le_of_ble_eq_true rfl) (Nat.le_of_ble_eq_true rfl) (Nat.le_of_eq (Nat.zero_add _)) (Nat.le_of_eq (Nat.zero_add _)) dX0_take_175 ?_
                      refine lv_eqi (z := mrg M1 M2 y) rfl ?_
                      refine xcWv (wr := [(h0, .inr (0, [.ref qi2, .ref qd2, .int (nI n)])), (qi2, xI cy (capR (n + nwK M1 M2) cap) (upd f (cb (uS M1 M2) y) (nI y))), (q1, xI cy len1 gi), (q2, xI cy len2 gd)]) (va_runSN (As := [.ref qd2, .int (nI (cb (uS M1 M2) hi) - nI 1), .int (mrg M1 M2 y)]) (rest := []) ⟨hx, hb, hml, hown, hts⟩ ((c_put l D cy t0 qd2 (capR (n + nwK M1 M2) cap) d (nI (cb (uS M1 M2) hi) - nI 1) (mrg M1 M2 y) (by omega)) H.size) ⟨va_cnB 3 hts ggX0_take_X4_put rfl rfl rfl (xN4 hE.2.1.1) (hts (.initialized RX4) (by decide +kernel)) (by decide +kernel) ⟨Nat.le_of_ble_eq_true rfl, Nat.le_of_ble_eq_true rfl⟩, (hts (.static yX4_put) (by decide +kernel)), trivial⟩ (xPw.give (wc := [(qd2, xI cy (capR (n + nwK M1 M2) cap) d)]) hE hS hA hP hD [2] (by decide) rfl) rfl rfl hl.1 rfl (lv_room (Nat.le_of_ble_eq_true rfl)) dX0_take_178 ⟨(Nat.le_of_eq (by rw [Nat.zero_add]; rfl)), (Nat.le_of_eq (by rw [Nat.zero_add]; rfl))⟩) hP hD hS hA [2] [0, 1, 3, 4] rfl rfl (by decide) (by decide) (fun u_57 H locs hr_56 hP hD hS => ?_)
                      obtain rfl : u_57 = upd d (cb (uS M1 M2) y) (mrg M1 M2 y) := by rw [hr_56, xput_mm hz5 (by omega) (by omega)]
                      have hP := hP.sub (ws' := [(h0, .inr (0, [.ref qi2, .ref qd2, .int (nI n)])), (qi2, xI cy (capR (n + nwK M1 M2) cap) (upd f (cb (uS M1 M2) y) (nI y))), (qd2, xI cy (capR (n + nwK M1 M2) cap) (upd d (cb (uS M1 M2) y) (mrg M1 M2 y))), (q1, xI cy len1 gi), (q2, xI cy len2 gd)]) [0, 1, 4, 2, 3] rfl
                      have hD := hD.sub (ws' := [(h0, .inr (0, [.ref qi2, .ref qd2, .int (nI n)])), (qi2, xI cy (capR (n + nwK M1 M2) cap) (upd f (cb (uS M1 M2) y) (nI y))), (qd2, xI cy (capR (n + nwK M1 M2) cap) (upd d (cb (uS M1 M2) y) (mrg M1 M2 y))), (q1, xI cy len1 gi), (q2, xI cy len2 gd)]) [0, 1, 4, 2, 3] (by decide) rfl
                      refine lv_iinc (v := nI (cb (uS M1 M2) y) - nI 1) (lv' := [(7, .int (nI (cb (uS M1 M2) y) - nI 1)), (6, .int (nI (cb (Sm M2) y) - nI 1)), (5, .int (nI (cb (Sm M1) y) - nI 1)), (11, .int (M2 y)), (10, .int (M1 y)), (9, .int (nI y)), (8, .int (nI y)), (0, .ref h0), (1, .ref q1), (2, .ref q2), (3, .int (nI many)), (4, .int (nI (nwK M1 M2)))]) hx hb dX0_take_181 hl (k := 11) rfl (m1_inc hz5) (by decide) rfl (fun ls hl => ?_)
                      refine lv_goto (tgt := 45) hx hb dX0_take_184 (by decide) ?_
                      exact ih_lp y (upd f (cb (uS M1 M2) y) (nI y)) (upd d (cb (uS M1 M2) y) (mrg M1 M2 y)) (by omega) (ht1.step (by omega) hz1 hz2 hsub rfl) (ht2.step (by omega) hz1 hz2 hsub rfl) (by omega) _ _ hP hD hS _ (lv_sub hl [7, 8, 9, 10, 11, 2, 1, 0] rfl)
            · obtain ⟨hz1, hz2, hz3, hz4, hz5, hz6⟩ := tk_x hx1 hx2 hx4 (fun w h1 h2 => hy4 w (by omega) h2)
              refine lv_aload_n hx hb dX0_take_55 rfl (lv_at hl 0 rfl) ?_
              refine va_get (D := D) (ci := 0) (v := .ref qi2) (C := RX0) (T := TX0) (N := 3) hx hb hts (by decide +kernel) hown hE.1 hP 0 rfl rfl 0 (by decide) (hts (.fieldLink RX0 11 "DistinctDale$Basket" "items" "[I") (by decide +kernel)) (fun _ h9 => h9) rfl dX0_take_56 ?_
              refine lv_iload hx hb dX0_take_59 (lv_at hl 5 rfl) ?_
              refine xcRi (va_runSN (As := [.ref qi2, .int (nI (cb (Sm M1) hi) - nI 1)]) (rest := []) ⟨hx, hb, hml, hown, hts⟩ (c_at l D cy t0 qi2 (capR (n + nwK M1 M2) cap) f (nI (cb (Sm M1) hi) - nI 1) (by omega)) ⟨va_cnB 2 hts ggX0_take_X4_at rfl rfl rfl (xN3 hE.2.1.1) (hts (.initialized RX4) (by decide +kernel)) (by decide +kernel) ⟨Nat.le_of_ble_eq_true rfl, Nat.le_of_ble_eq_true rfl⟩, (hts (.static yX4_at) (by decide +kernel)), trivial⟩ (xPr.give (wc := [(qi2, xI cy (capR (n + nwK M1 M2) cap) f)]) hE hS hP [1] rfl) rfl rfl hl.1 rfl (lv_room (Nat.le_of_ble_eq_true rfl)) dX0_take_61 ⟨(Nat.le_of_eq (by rw [Nat.zero_add]; rfl)), (Nat.le_of_eq (by rw [Nat.zero_add]; rfl))⟩) (fun r_58 hr_59 => ?_)
              obtain rfl : r_58 = nI x := by rw [hr_59, xat_mm hx3 (by omega) (by omega), hxf]
              refine lv_istore (lv' := [(8, .int (nI x)), (0, .ref h0), (1, .ref q1), (2, .ref q2), (3, .int (nI many)), (4, .int (nI (nwK M1 M2))), (5, .int (nI (cb (Sm M1) hi) - nI 1)), (6, .int (nI (cb (Sm M2) hi) - nI 1)), (7, .int (nI (cb (uS M1 M2) hi) - nI 1))]) hx hb dX0_take_64 hl (by decide) rfl (fun ls hl => ?_)
              refine lv_aload_n hx hb dX0_take_66 rfl (lv_at hl 2 rfl) ?_
              refine lv_iload hx hb dX0_take_67 (lv_at hl 7 rfl) ?_
              refine xcRi (va_runSN (As := [.ref q1, .int (nI (cb (Sm M2) hi) - nI 1)]) (rest := []) ⟨hx, hb, hml, hown, hts⟩ (c_at l D cy t0 q1 len1 gi (nI (cb (Sm M2) hi) - nI 1) (by omega)) ⟨va_cnB 2 hts ggX0_take_X4_at rfl rfl rfl (xN3 hE.2.1.1) (hts (.initialized RX4) (by decide +kernel)) (by decide +kernel) ⟨Nat.le_of_ble_eq_true rfl, Nat.le_of_ble_eq_true rfl⟩, (hts (.static yX4_at) (by decide +kernel)), trivial⟩ (xPr.give (wc := [(q1, xI cy len1 gi)]) hE hS hP [3] rfl) rfl rfl hl.1 rfl (lv_room (Nat.le_of_ble_eq_true rfl)) dX0_take_69 ⟨(Nat.le_of_eq (by rw [Nat.zero_add]; rfl)), (Nat.le_of_eq (by rw [Nat.zero_add]; rfl))⟩) (fun r_60 hr_61 => ?_)
              obtain rfl : r_60 = nI y := by rw [hr_61, xat_mm hy3 (by omega) (by omega), hyg]
              refine lv_istore (lv' := [(9, .int (nI y)), (8, .int (nI x)), (0, .ref h0), (1, .ref q1), (2, .ref q2), (3, .int (nI many)), (4, .int (nI (nwK M1 M2))), (5, .int (nI (cb (Sm M1) hi) - nI 1)), (6, .int (nI (cb (Sm M2) hi) - nI 1)), (7, .int (nI (cb (uS M1 M2) hi) - nI 1))]) hx hb dX0_take_72 hl (by decide) rfl (fun ls hl => ?_)
              refine lv_iload hx hb dX0_take_74 (lv_at hl 1 rfl) ?_
              refine lv_iload hx hb dX0_take_76 (lv_at hl 0 rfl) ?_
              refine xb_icmp_lt (tgt := 93) (a := x) (b := y) (by omega) (by omega) hx hb dX0_take_78 (by decide) (fun c_62 => ?_) (fun c_62 => ?_)
              · exact absurd c_62 (by omega)
              · refine lv_aload_n hx hb dX0_take_81 rfl (lv_at hl 2 rfl) ?_
                refine va_get (D := D) (ci := 0) (v := .ref qd2) (C := RX0) (T := TX0) (N := 3) hx hb hts (by decide +kernel) hown hE.1 hP 0 rfl rfl 1 (by decide) (hts (.fieldLink RX0 15 "DistinctDale$Basket" "dates" "[I") (by decide +kernel)) (fun _ h9 => h9) rfl dX0_take_82 ?_
                refine lv_iload hx hb dX0_take_85 (lv_at hl 7 rfl) ?_
                refine xcRi (va_runSN (As := [.ref qd2, .int (nI (cb (Sm M1) hi) - nI 1)]) (rest := []) ⟨hx, hb, hml, hown, hts⟩ (c_at l D cy t0 qd2 (capR (n + nwK M1 M2) cap) d (nI (cb (Sm M1) hi) - nI 1) (by omega)) ⟨va_cnB 2 hts ggX0_take_X4_at rfl rfl rfl (xN3 hE.2.1.1) (hts (.initialized RX4) (by decide +kernel)) (by decide +kernel) ⟨Nat.le_of_ble_eq_true rfl, Nat.le_of_ble_eq_true rfl⟩, (hts (.static yX4_at) (by decide +kernel)), trivial⟩ (xPr.give (wc := [(qd2, xI cy (capR (n + nwK M1 M2) cap) d)]) hE hS hP [2] rfl) rfl rfl hl.1 rfl (lv_room (Nat.le_of_ble_eq_true rfl)) dX0_take_87 ⟨(Nat.le_of_eq (by rw [Nat.zero_add]; rfl)), (Nat.le_of_eq (by rw [Nat.zero_add]; rfl))⟩) (fun r_63 hr_64 => ?_)
                obtain rfl : r_63 = M1 x := by rw [hr_64, xat_mm hx3 (by omega) (by omega), hxd]
                refine lv_goto (tgt := 94) hx hb dX0_take_90 (by decide) ?_
                refine lv_istore (lv' := [(10, .int (M1 x)), (9, .int (nI y)), (8, .int (nI x)), (0, .ref h0), (1, .ref q1), (2, .ref q2), (3, .int (nI many)), (4, .int (nI (nwK M1 M2))), (5, .int (nI (cb (Sm M1) hi) - nI 1)), (6, .int (nI (cb (Sm M2) hi) - nI 1)), (7, .int (nI (cb (uS M1 M2) hi) - nI 1))]) hx hb dX0_take_94 hl (by decide) rfl (fun ls hl => ?_)
                refine lv_iload hx hb dX0_take_96 (lv_at hl 1 rfl) ?_
                refine lv_iload hx hb dX0_take_98 (lv_at hl 2 rfl) ?_
                refine xb_icmp_lt (tgt := 112) (a := y) (b := x) (by omega) (by omega) hx hb dX0_take_100 (by decide) (fun c_65 => ?_) (fun c_65 => ?_)
                · refine lv_iconst (v := (-1)) hx hb dX0_take_112 (by decide) ?_
                  refine lv_istore (lv' := [(11, .int (-1)), (10, .int (M1 x)), (9, .int (nI y)), (8, .int (nI x)), (0, .ref h0), (1, .ref q1), (2, .ref q2), (3, .int (nI many)), (4, .int (nI (nwK M1 M2))), (5, .int (nI (cb (Sm M1) hi) - nI 1)), (6, .int (nI (cb (Sm M2) hi) - nI 1)), (7, .int (nI (cb (uS M1 M2) hi) - nI 1))]) hx hb dX0_take_113 hl (by decide) rfl (fun ls hl => ?_)
                  refine lv_iload hx hb dX0_take_115 (lv_at hl 9 rfl) ?_
                  refine lv_iload hx hb dX0_take_117 (lv_at hl 3 rfl) ?_
                  refine lv_iload hx hb dX0_take_119 (lv_at hl 2 rfl) ?_
                  refine xb_icmp_lt (tgt := 128) (a := x) (b := y) (by omega) (by omega) hx hb dX0_take_121 (by decide) (fun c_66 => ?_) (fun c_66 => ?_)
                  · exact absurd c_66 (by omega)
                  · refine lv_iconst (v := nI 1) hx hb dX0_take_124 (by decide) ?_
                    refine lv_goto (tgt := 129) hx hb dX0_take_125 (by decide) ?_
                    refine lv_isub hx hb dX0_take_129 ?_
                    refine lv_eqi (z := nI (cb (Sm M1) x) - nI 1) (m1_s1 hz3) ?_
                    refine lv_istore (lv' := [(5, .int (nI (cb (Sm M1) x) - nI 1)), (11, .int (-1)), (10, .int (M1 x)), (9, .int (nI y)), (8, .int (nI x)), (0, .ref h0), (1, .ref q1), (2, .ref q2), (3, .int (nI many)), (4, .int (nI (nwK M1 M2))), (6, .int (nI (cb (Sm M2) hi) - nI 1)), (7, .int (nI (cb (uS M1 M2) hi) - nI 1))]) hx hb dX0_take_130 hl (by decide) rfl (fun ls hl => ?_)
                    refine lv_iload hx hb dX0_take_132 (lv_at hl 10 rfl) ?_
                    refine lv_iload hx hb dX0_take_134 (lv_at hl 3 rfl) ?_
                    refine lv_iload hx hb dX0_take_136 (lv_at hl 4 rfl) ?_
                    refine xb_icmp_lt (tgt := 145) (a := y) (b := x) (by omega) (by omega) hx hb dX0_take_138 (by decide) (fun c_67 => ?_) (fun c_67 => ?_)
                    · refine lv_iconst (v := nI 0) hx hb dX0_take_145 (by decide) ?_
                      refine lv_isub hx hb dX0_take_146 ?_
                      refine lv_eqi (z := nI (cb (Sm M2) x) - nI 1) (by rw [m1_s0, hz4]) ?_
                      refine lv_istore (lv' := [(6, .int (nI (cb (Sm M2) x) - nI 1)), (5, .int (nI (cb (Sm M1) x) - nI 1)), (11, .int (-1)), (10, .int (M1 x)), (9, .int (nI y)), (8, .int (nI x)), (0, .ref h0), (1, .ref q1), (2, .ref q2), (3, .int (nI many)), (4, .int (nI (nwK M1 M2))), (7, .int (nI (cb (uS M1 M2) hi) - nI 1))]) hx hb dX0_take_147 hl (by decide) rfl (fun ls hl => ?_)
                      refine lv_aload_n hx hb dX0_take_149 rfl (lv_at hl 6 rfl) ?_
                      refine va_get (D := D) (ci := 0) (v := .ref qi2) (C := RX0) (T := TX0) (N := 3) hx hb hts (by decide +kernel) hown hE.1 hP 0 rfl rfl 0 (by decide) (hts (.fieldLink RX0 11 "DistinctDale$Basket" "items" "[I") (by decide +kernel)) (fun _ h9 => h9) rfl dX0_take_150 ?_
                      refine lv_iload hx hb dX0_take_153 (lv_at hl 11 rfl) ?_
                      refine lv_iload hx hb dX0_take_155 (lv_at hl 5 rfl) ?_
                      refine lv_iload hx hb dX0_take_157 (lv_at hl 4 rfl) ?_
                      refine va_mmax hx hb (hml.trans hl.1.symm) hown (hts (.methodLink RX0 33 Lib.Math.max.name) (by decide +kernel)) (hts (.static Lib.Math.max.name) (by decide +kernel)) (hts (.initialized "java/lang/Math") (by decide +kernel)) (hts (.code Lib.Math.max.name Lib.Math.max.code 2 (some .int)) (by decide +kernel)) (Nat.le_of_ble_eq_true rfl) (Nat.le_of_ble_eq_true rfl) (Nat.le_of_eq (Nat.zero_add _)) (Nat.le_of_eq (Nat.zero_add _)) dX0_take_159 ?_
                      refine lv_eqi (z := nI x) ((xmax_nI (by omega) (by omega)).trans (congrArg nI (Nat.max_eq_left (by omega)))) ?_
                      refine xcWv (wr := [(h0, .inr (0, [.ref qi2, .ref qd2, .int (nI n)])), (qd2, xI cy (capR (n + nwK M1 M2) cap) d), (q1, xI cy len1 gi), (q2, xI cy len2 gd)]) (va_runSN (As := [.ref qi2, .int (nI (cb (uS M1 M2) hi) - nI 1), .int (nI x)]) (rest := []) ⟨hx, hb, hml, hown, hts⟩ ((c_put l D cy t0 qi2 (capR (n + nwK M1 M2) cap) f (nI (cb (uS M1 M2) hi) - nI 1) (nI x) (by omega)) H.size) ⟨va_cnB 3 hts ggX0_take_X4_put rfl rfl rfl (xN4 hE.2.1.1) (hts (.initialized RX4) (by decide +kernel)) (by decide +kernel) ⟨Nat.le_of_ble_eq_true rfl, Nat.le_of_ble_eq_true rfl⟩, (hts (.static yX4_put) (by decide +kernel)), trivial⟩ (xPw.give (wc := [(qi2, xI cy (capR (n + nwK M1 M2) cap) f)]) hE hS hA hP hD [1] (by decide) rfl) rfl rfl hl.1 rfl (lv_room (Nat.le_of_ble_eq_true rfl)) dX0_take_162 ⟨(Nat.le_of_eq (by rw [Nat.zero_add]; rfl)), (Nat.le_of_eq (by rw [Nat.zero_add]; rfl))⟩) hP hD hS hA [1] [0, 2, 3, 4] rfl rfl (by decide) (by decide) (fun u_70 H locs hr_69 hP hD hS => ?_)
                      obtain rfl : u_70 = upd f (cb (uS M1 M2) x) (nI x) := by rw [hr_69, xput_mm hz5 (by omega) (by omega)]
                      have hP := hP.sub (ws' := [(h0, .inr (0, [.ref qi2, .ref qd2, .int (nI n)])), (qi2, xI cy (capR (n + nwK M1 M2) cap) (upd f (cb (uS M1 M2) x) (nI x))), (qd2, xI cy (capR (n + nwK M1 M2) cap) d), (q1, xI cy len1 gi), (q2, xI cy len2 gd)]) [0, 4, 1, 2, 3] rfl
                      have hD := hD.sub (ws' := [(h0, .inr (0, [.ref qi2, .ref qd2, .int (nI n)])), (qi2, xI cy (capR (n + nwK M1 M2) cap) (upd f (cb (uS M1 M2) x) (nI x))), (qd2, xI cy (capR (n + nwK M1 M2) cap) d), (q1, xI cy len1 gi), (q2, xI cy len2 gd)]) [0, 4, 1, 2, 3] (by decide) rfl
                      refine lv_aload_n hx hb dX0_take_165 rfl (lv_at hl 6 rfl) ?_
                      refine va_get (D := D) (ci := 0) (v := .ref qd2) (C := RX0) (T := TX0) (N := 3) hx hb hts (by decide +kernel) hown hE.1 hP 0 rfl rfl 1 (by decide) (hts (.fieldLink RX0 15 "DistinctDale$Basket" "dates" "[I") (by decide +kernel)) (fun _ h9 => h9) rfl dX0_take_166 ?_
                      refine lv_iload hx hb dX0_take_169 (lv_at hl 11 rfl) ?_
                      refine lv_iload hx hb dX0_take_171 (lv_at hl 3 rfl) ?_
                      refine lv_iload hx hb dX0_take_173 (lv_at hl 2 rfl) ?_
                      refine va_mmax hx hb (hml.trans hl.1.symm) hown (hts (.methodLink RX0 33 Lib.Math.max.name) (by decide +kernel)) (hts (.static Lib.Math.max.name) (by decide +kernel)) (hts (.initialized "java/lang/Math") (by decide +kernel)) (hts (.code Lib.Math.max.name Lib.Math.max.code 2 (some .int)) (by decide +kernel)) (Nat.le_of_ble_eq_true rfl) (Nat.le_of_ble_eq_true rfl) (Nat.le_of_eq (Nat.zero_add _)) (Nat.le_of_eq (Nat.zero_add _)) dX0_take_175 ?_
                      refine lv_eqi (z := mrg M1 M2 x) (by show mrgI (M1 x) (-1) = mrgI (M1 x) (M2 x); rw [hz6]) ?_
                      refine xcWv (wr := [(h0, .inr (0, [.ref qi2, .ref qd2, .int (nI n)])), (qi2, xI cy (capR (n + nwK M1 M2) cap) (upd f (cb (uS M1 M2) x) (nI x))), (q1, xI cy len1 gi), (q2, xI cy len2 gd)]) (va_runSN (As := [.ref qd2, .int (nI (cb (uS M1 M2) hi) - nI 1), .int (mrg M1 M2 x)]) (rest := []) ⟨hx, hb, hml, hown, hts⟩ ((c_put l D cy t0 qd2 (capR (n + nwK M1 M2) cap) d (nI (cb (uS M1 M2) hi) - nI 1) (mrg M1 M2 x) (by omega)) H.size) ⟨va_cnB 3 hts ggX0_take_X4_put rfl rfl rfl (xN4 hE.2.1.1) (hts (.initialized RX4) (by decide +kernel)) (by decide +kernel) ⟨Nat.le_of_ble_eq_true rfl, Nat.le_of_ble_eq_true rfl⟩, (hts (.static yX4_put) (by decide +kernel)), trivial⟩ (xPw.give (wc := [(qd2, xI cy (capR (n + nwK M1 M2) cap) d)]) hE hS hA hP hD [2] (by decide) rfl) rfl rfl hl.1 rfl (lv_room (Nat.le_of_ble_eq_true rfl)) dX0_take_178 ⟨(Nat.le_of_eq (by rw [Nat.zero_add]; rfl)), (Nat.le_of_eq (by rw [Nat.zero_add]; rfl))⟩) hP hD hS hA [2] [0, 1, 3, 4] rfl rfl (by decide) (by decide) (fun u_73 H locs hr_72 hP hD hS => ?_)
                      obtain rfl : u_73 = upd d (cb (uS M1 M2) x) (mrg M1 M2 x) := by rw [hr_72, xput_mm hz5 (by omega) (by omega)]
                      have hP := hP.sub (ws' := [(h0, .inr (0, [.ref qi2, .ref qd2, .int (nI n)])), (qi2, xI cy (capR (n + nwK M1 M2) cap) (upd f (cb (uS M1 M2) x) (nI x))), (qd2, xI cy (capR (n + nwK M1 M2) cap) (upd d (cb (uS M1 M2) x) (mrg M1 M2 x))), (q1, xI cy len1 gi), (q2, xI cy len2 gd)]) [0, 1, 4, 2, 3] rfl
                      have hD := hD.sub (ws' := [(h0, .inr (0, [.ref qi2, .ref qd2, .int (nI n)])), (qi2, xI cy (capR (n + nwK M1 M2) cap) (upd f (cb (uS M1 M2) x) (nI x))), (qd2, xI cy (capR (n + nwK M1 M2) cap) (upd d (cb (uS M1 M2) x) (mrg M1 M2 x))), (q1, xI cy len1 gi), (q2, xI cy len2 gd)]) [0, 1, 4, 2, 3] (by decide) rfl
                      refine lv_iinc (v := nI (cb (uS M1 M2) x) - nI 1) (lv' := [(7, .int (nI (cb (uS M1 M2) x) - nI 1)), (6, .int (nI (cb (Sm M2) x) - nI 1)), (5, .int (nI (cb (Sm M1) x) - nI 1)), (11, .int (-1)), (10, .int (M1 x)), (9, .int (nI y)), (8, .int (nI x)), (0, .ref h0), (1, .ref q1), (2, .ref q2), (3, .int (nI many)), (4, .int (nI (nwK M1 M2)))]) hx hb dX0_take_181 hl (k := 11) rfl (m1_inc hz5) (by decide) rfl (fun ls hl => ?_)
                      refine lv_goto (tgt := 45) hx hb dX0_take_184 (by decide) ?_
                      exact ih_lp x (upd f (cb (uS M1 M2) x) (nI x)) (upd d (cb (uS M1 M2) x) (mrg M1 M2 x)) (by omega) (ht1.step (by omega) hz1 hz2 hsub rfl) (ht2.step (by omega) hz1 hz2 hsub rfl) (by omega) _ _ hP hD hS _ (lv_sub hl [7, 8, 9, 10, 11, 2, 1, 0] rfl)
                    · exact absurd c_67 (by omega)
                · exact absurd c_65 (by omega)
  exact lp (100000 + 1) 100000 fi2 fd2 (Nat.le_refl _) TI0 TI0 (by have := cb_le (P := (uS M1 M2)) (n := 100000); omega) _ _ hP hD hS _ (lv_sub hl [4, 5, 6, 7, 3, 2, 1, 0] rfl)
end XTAKE
