section XX5D
set_option maxHeartbeats 4000000 in
set_option maxRecDepth 100000 in
theorem m_layBoth (l : Launch) (D : va_G) (cy : Nat → ClassId) (t0 : Nat) (a5 mD mI mZ mK mO mB mR mF k : Nat) (th now kM oM : Int32) (nl : Nat) (b b2 : Nat) (fK fO fB : Nat → Int32) (G It Zt : Nat → Int32) (lst : Nat → Nat) (hML : ML lst nl It Zt) (hCV : CV G lst nl) (hb6 : b < 6) (hb62 : b2 < 6) (hk2 : 2 ≤ k) (hk : k ≤ 32) : xWi (S := Nat × (Nat → Int32) × Nat × (Nat → Int32) × Nat × (Nat → Int32)) l yX5_layBoth wsX5_layBoth ({ frames := 3, cells := 0, slots := 0, locals := 71 } : Room) D cy t0 ([.ref a5, .int (nI b), .int (nI b2)]) ([(a5, .inr (5, [.int th, .int (nI k), .int now, .ref mD, .ref mI, .ref mZ, .int (nI nl), .ref mK, .ref mO, .ref mB, .ref mR, .ref mF, .int kM, .int oM])), (mD, xI cy 600000 G), (mI, xI cy 100000 It), (mK, xI cy 32 fK), (mO, xI cy 32 fO), (mB, xI cy 32 fB)]) (fun r u => r = nI u.2.2.2.2.1 ∧ LH k (hs (Sm (mb G b)) 100000) u.1 u.2.1 ∧ LH k (hs (Sm (mb G b2)) 100000) u.2.2.1 u.2.2.2.1 ∧ LH k (uH k (hs (Sm (mb G b)) 100000) (hs (Sm (mb G b2)) 100000)) u.2.2.2.2.1 u.2.2.2.2.2) (fun u => [(a5, .inr (5, [.int th, .int (nI k), .int now, .ref mD, .ref mI, .ref mZ, .int (nI nl), .ref mK, .ref mO, .ref mB, .ref mR, .ref mF, .int (nI u.1), .int (nI u.2.2.1)])), (mD, xI cy 600000 G), (mI, xI cy 100000 It), (mK, xI cy 32 u.2.1), (mO, xI cy 32 u.2.2.2.1), (mB, xI cy 32 u.2.2.2.2.2)]) 0 0 := by
  refine xofWi (cc := cX5_layBoth) (maxL := 8) (by decide) rfl (Nat.le_of_ble_eq_true rfl) (fun _ _ _ => rfl) ?_
  intro p e s m below meth c Q A ls hx hb hml hts hown hE hA H locs hP hD hl hS kret
  have hl : lv_has ls 8 [(0, .ref a5), (1, .int (nI b)), (2, .int (nI b2))] := hl
  refine lv_aload_n hx hb dX5_layBoth_0 rfl (lv_at hl 0 rfl) ?_
  refine lv_aload_n hx hb dX5_layBoth_1 rfl (lv_at hl 0 rfl) ?_
  refine lv_iload_n hx hb dX5_layBoth_2 rfl (lv_at hl 2 rfl) ?_
  refine xcWi (wr := [(mO, xI cy 32 fO), (mB, xI cy 32 fB)]) (va_runV (As := [.int (nI b2)]) (rest := [.ref a5]) ⟨hx, hb, hml, hown, hts⟩ ((m_layKept l D cy t0 a5 mD mI mZ mK mO mB mR mF k th now kM oM nl b2 fK G It Zt lst hML hCV hb62 hk2 hk) H.size) (cwV 1 hts gX5_layBoth_X5_layKept rfl rfl rfl (by decide +kernel) ⟨Nat.le_of_ble_eq_true rfl, Nat.le_of_ble_eq_true rfl⟩) (xPw.giveV (wc := [(a5, .inr (5, [.int th, .int (nI k), .int now, .ref mD, .ref mI, .ref mZ, .int (nI nl), .ref mK, .ref mO, .ref mB, .ref mR, .ref mF, .int kM, .int oM])), (mD, xI cy 600000 G), (mI, xI cy 100000 It), (mK, xI cy 32 fK)]) hE hS hA hP hD [0, 1, 2, 3] (by decide) rfl 0 5 rfl rfl) rfl rfl hl.1 rfl (lv_room (Nat.le_of_ble_eq_true rfl)) dX5_layBoth_3 ⟨(Nat.zero_le _), (Nat.zero_le _)⟩) hP hD hS hA [0, 1, 2, 3] [4, 5] rfl rfl (by decide) (by decide) (fun r_1 u_3 H locs hr_2 hP hD hS => ?_)
  obtain ⟨z2, g2⟩ := u_3
  obtain rfl : r_1 = nI z2 := hr_2.1
  have hLz2 : LH k (hs (Sm (mb G b2)) 100000) z2 g2 := hr_2.2
  have h1z2 := hLz2.1
  have hP := hP.sub (ws' := [(a5, .inr (5, [.int th, .int (nI k), .int now, .ref mD, .ref mI, .ref mZ, .int (nI nl), .ref mK, .ref mO, .ref mB, .ref mR, .ref mF, .int kM, .int oM])), (mD, xI cy 600000 G), (mI, xI cy 100000 It), (mK, xI cy 32 g2), (mO, xI cy 32 fO), (mB, xI cy 32 fB)]) [2, 3, 4, 5, 0, 1] rfl
  have hD := hD.sub (ws' := [(a5, .inr (5, [.int th, .int (nI k), .int now, .ref mD, .ref mI, .ref mZ, .int (nI nl), .ref mK, .ref mO, .ref mB, .ref mR, .ref mF, .int kM, .int oM])), (mD, xI cy 600000 G), (mI, xI cy 100000 It), (mK, xI cy 32 g2), (mO, xI cy 32 fO), (mB, xI cy 32 fB)]) [2, 3, 4, 5, 0, 1] (by decide) rfl
  refine va_put (D := D) (ci := 5) (v := .int (nI z2)) (ty := .int) (C := RX5) (T := TX5) (N := 14) hx hb hts (by decide +kernel) tyX5 tyX5_ok nmX5 hown hE.1 hP hD hS 0 rfl rfl 13 (by decide) (hts (.fieldLink RX5 96 "DistinctDaleModel" "otherMany" "I") (by decide +kernel)) (fun _ h9 => h9) rfl (by decide +kernel) rfl rfl (Nat.le_of_ble_eq_true rfl) dX5_layBoth_6 (fun H locs hP hD hS => ?_)
  have hP : xP D [(a5, .inr (5, [.int th, .int (nI k), .int now, .ref mD, .ref mI, .ref mZ, .int (nI nl), .ref mK, .ref mO, .ref mB, .ref mR, .ref mF, .int kM, .int (nI z2)])), (mD, xI cy 600000 G), (mI, xI cy 100000 It), (mK, xI cy 32 g2), (mO, xI cy 32 fO), (mB, xI cy 32 fB)] H := hP
  have hD : va_D A [(a5, .inr (5, [.int th, .int (nI k), .int now, .ref mD, .ref mI, .ref mZ, .int (nI nl), .ref mK, .ref mO, .ref mB, .ref mR, .ref mF, .int kM, .int (nI z2)])), (mD, xI cy 600000 G), (mI, xI cy 100000 It), (mK, xI cy 32 g2), (mO, xI cy 32 fO), (mB, xI cy 32 fB)] := hD
  refine lv_iconst (v := nI 0) hx hb dX5_layBoth_9 (by decide) ?_
  refine lv_istore_n (lv' := [(3, .int (nI 0)), (0, .ref a5), (1, .int (nI b)), (2, .int (nI b2))]) hx hb dX5_layBoth_10 rfl hl (by decide) rfl (fun ls hl => ?_)
  have lc : ∀ (n9 : Nat), ∀ (j : Nat) (fO2 : Nat → Int32), (hj : j ≤ z2) → (hcp : ∀ i, i < j → fO2 i = g2 i) → z2 - j < n9 → ∀ (H : Heap) (locs : List Loc), xP D [(a5, .inr (5, [.int th, .int (nI k), .int now, .ref mD, .ref mI, .ref mZ, .int (nI nl), .ref mK, .ref mO, .ref mB, .ref mR, .ref mF, .int kM, .int (nI z2)])), (mD, xI cy 600000 G), (mI, xI cy 100000 It), (mK, xI cy 32 g2), (mO, xI cy 32 fO2), (mB, xI cy 32 fB)] H → va_D A [(a5, .inr (5, [.int th, .int (nI k), .int now, .ref mD, .ref mI, .ref mZ, .int (nI nl), .ref mK, .ref mO, .ref mB, .ref mR, .ref mF, .int kM, .int (nI z2)])), (mD, xI cy 600000 G), (mI, xI cy 100000 It), (mK, xI cy 32 g2), (mO, xI cy 32 fO2), (mB, xI cy 32 fB)] → va_S A s.heap H locs → ∀ (ls : Array Slot), lv_has ls 8 [(0, .ref a5), (1, .int (nI b)), (2, .int (nI b2)), (3, .int (nI j))] → W p l e ({ frames := 3, cells := 0, slots := 0, locals := 71 } : Room) s m [.ref a5, .int (nI b), .int (nI b2)].toArray below meth c H locs 0 0 Q (F0 m 11 ls []) := by
    intro n9
    induction n9 with
    | zero => intro j fO2 hj hcp hm; exact absurd hm (Nat.not_lt_zero _)
    | succ n9 ih_lc =>
      intro j fO2 hj hcp hm H locs hP hD hS ls hl
      refine lv_iload_n hx hb dX5_layBoth_11 rfl (lv_at hl 3 rfl) ?_
      refine lv_aload_n hx hb dX5_layBoth_12 rfl (lv_at hl 0 rfl) ?_
      refine va_get (D := D) (ci := 5) (v := .int (nI z2)) (C := RX5) (T := TX5) (N := 14) hx hb hts (by decide +kernel) hown hE.1 hP 0 rfl rfl 13 (by decide) (hts (.fieldLink RX5 96 "DistinctDaleModel" "otherMany" "I") (by decide +kernel)) (fun _ h9 => h9) rfl dX5_layBoth_13 ?_
      refine xb_icmp_ge (tgt := 37) (a := j) (b := z2) (by omega) (by omega) hx hb dX5_layBoth_16 (by decide) (fun c_4 => ?_) (fun c_4 => ?_)
      · have hLO : LH k (hs (Sm (mb G b2)) 100000) z2 fO2 := hLz2.copy (fun i hi => hcp i (by omega))
        refine lv_aload_n hx hb dX5_layBoth_37 rfl (lv_at hl 0 rfl) ?_
        refine lv_aload_n hx hb dX5_layBoth_38 rfl (lv_at hl 0 rfl) ?_
        refine lv_iload_n hx hb dX5_layBoth_39 rfl (lv_at hl 1 rfl) ?_
        refine xcWi (wr := [(mO, xI cy 32 fO2), (mB, xI cy 32 fB)]) (va_runV (As := [.int (nI b)]) (rest := [.ref a5]) ⟨hx, hb, hml, hown, hts⟩ ((m_layKept l D cy t0 a5 mD mI mZ mK mO mB mR mF k th now kM (nI z2) nl b g2 G It Zt lst hML hCV hb6 hk2 hk) H.size) (cwV 1 hts gX5_layBoth_X5_layKept rfl rfl rfl (by decide +kernel) ⟨Nat.le_of_ble_eq_true rfl, Nat.le_of_ble_eq_true rfl⟩) (xPw.giveV (wc := [(a5, .inr (5, [.int th, .int (nI k), .int now, .ref mD, .ref mI, .ref mZ, .int (nI nl), .ref mK, .ref mO, .ref mB, .ref mR, .ref mF, .int kM, .int (nI z2)])), (mD, xI cy 600000 G), (mI, xI cy 100000 It), (mK, xI cy 32 g2)]) hE hS hA hP hD [0, 1, 2, 3] (by decide) rfl 0 5 rfl rfl) rfl rfl hl.1 rfl (lv_room (Nat.le_of_ble_eq_true rfl)) dX5_layBoth_40 ⟨(Nat.zero_le _), (Nat.zero_le _)⟩) hP hD hS hA [0, 1, 2, 3] [4, 5] rfl rfl (by decide) (by decide) (fun r_5 u_7 H locs hr_6 hP hD hS => ?_)
        obtain ⟨z1, g1⟩ := u_7
        obtain rfl : r_5 = nI z1 := hr_6.1
        have hLz1 : LH k (hs (Sm (mb G b)) 100000) z1 g1 := hr_6.2
        have h1z1 := hLz1.1
        have hP := hP.sub (ws' := [(a5, .inr (5, [.int th, .int (nI k), .int now, .ref mD, .ref mI, .ref mZ, .int (nI nl), .ref mK, .ref mO, .ref mB, .ref mR, .ref mF, .int kM, .int (nI z2)])), (mD, xI cy 600000 G), (mI, xI cy 100000 It), (mK, xI cy 32 g1), (mO, xI cy 32 fO2), (mB, xI cy 32 fB)]) [2, 3, 4, 5, 0, 1] rfl
        have hD := hD.sub (ws' := [(a5, .inr (5, [.int th, .int (nI k), .int now, .ref mD, .ref mI, .ref mZ, .int (nI nl), .ref mK, .ref mO, .ref mB, .ref mR, .ref mF, .int kM, .int (nI z2)])), (mD, xI cy 600000 G), (mI, xI cy 100000 It), (mK, xI cy 32 g1), (mO, xI cy 32 fO2), (mB, xI cy 32 fB)]) [2, 3, 4, 5, 0, 1] (by decide) rfl
        refine va_put (D := D) (ci := 5) (v := .int (nI z1)) (ty := .int) (C := RX5) (T := TX5) (N := 14) hx hb hts (by decide +kernel) tyX5 tyX5_ok nmX5 hown hE.1 hP hD hS 0 rfl rfl 12 (by decide) (hts (.fieldLink RX5 99 "DistinctDaleModel" "keptMany" "I") (by decide +kernel)) (fun _ h9 => h9) rfl (by decide +kernel) rfl rfl (Nat.le_of_ble_eq_true rfl) dX5_layBoth_43 (fun H locs hP hD hS => ?_)
        have hP : xP D [(a5, .inr (5, [.int th, .int (nI k), .int now, .ref mD, .ref mI, .ref mZ, .int (nI nl), .ref mK, .ref mO, .ref mB, .ref mR, .ref mF, .int (nI z1), .int (nI z2)])), (mD, xI cy 600000 G), (mI, xI cy 100000 It), (mK, xI cy 32 g1), (mO, xI cy 32 fO2), (mB, xI cy 32 fB)] H := hP
        have hD : va_D A [(a5, .inr (5, [.int th, .int (nI k), .int now, .ref mD, .ref mI, .ref mZ, .int (nI nl), .ref mK, .ref mO, .ref mB, .ref mR, .ref mF, .int (nI z1), .int (nI z2)])), (mD, xI cy 600000 G), (mI, xI cy 100000 It), (mK, xI cy 32 g1), (mO, xI cy 32 fO2), (mB, xI cy 32 fB)] := hD
        refine lv_iconst (v := nI 0) hx hb dX5_layBoth_46 (by decide) ?_
        refine lv_istore_n (lv' := [(3, .int (nI 0)), (0, .ref a5), (1, .int (nI b)), (2, .int (nI b2))]) hx hb dX5_layBoth_47 rfl hl (by decide) rfl (fun ls hl => ?_)
        refine lv_iconst (v := nI 0) hx hb dX5_layBoth_48 (by decide) ?_
        refine lv_istore (lv' := [(4, .int (nI 0)), (3, .int (nI 0)), (0, .ref a5), (1, .int (nI b)), (2, .int (nI b2))]) hx hb dX5_layBoth_49 hl (by decide) rfl (fun ls hl => ?_)
        refine lv_iconst (v := nI 0) hx hb dX5_layBoth_51 (by decide) ?_
        refine lv_istore (lv' := [(5, .int (nI 0)), (4, .int (nI 0)), (3, .int (nI 0)), (0, .ref a5), (1, .int (nI b)), (2, .int (nI b2))]) hx hb dX5_layBoth_52 hl (by decide) rfl (fun ls hl => ?_)
        have lm : ∀ (n9 : Nat), ∀ (lo : Nat) (fB2 : Nat → Int32), (hlo : lo ≤ 16777213) → (hck : cb (uH k (hs (Sm (mb G b)) 100000) (hs (Sm (mb G b2)) 100000)) lo ≤ k) → (hLB : LK (uH k (hs (Sm (mb G b)) 100000) (hs (Sm (mb G b2)) 100000)) lo fB2) → k - cb (uH k (hs (Sm (mb G b)) 100000) (hs (Sm (mb G b2)) 100000)) lo < n9 → ∀ (H : Heap) (locs : List Loc), xP D [(a5, .inr (5, [.int th, .int (nI k), .int now, .ref mD, .ref mI, .ref mZ, .int (nI nl), .ref mK, .ref mO, .ref mB, .ref mR, .ref mF, .int (nI z1), .int (nI z2)])), (mD, xI cy 600000 G), (mI, xI cy 100000 It), (mK, xI cy 32 g1), (mO, xI cy 32 fO2), (mB, xI cy 32 fB2)] H → va_D A [(a5, .inr (5, [.int th, .int (nI k), .int now, .ref mD, .ref mI, .ref mZ, .int (nI nl), .ref mK, .ref mO, .ref mB, .ref mR, .ref mF, .int (nI z1), .int (nI z2)])), (mD, xI cy 600000 G), (mI, xI cy 100000 It), (mK, xI cy 32 g1), (mO, xI cy 32 fO2), (mB, xI cy 32 fB2)] → va_S A s.heap H locs → ∀ (ls : Array Slot), lv_has ls 8 [(0, .ref a5), (1, .int (nI b)), (2, .int (nI b2)), (3, .int (nI (cb (uH k (hs (Sm (mb G b)) 100000) (hs (Sm (mb G b2)) 100000)) lo))), (4, .int (nI (cb (kS k (hs (Sm (mb G b)) 100000)) lo))), (5, .int (nI (cb (kS k (hs (Sm (mb G b2)) 100000)) lo)))] → W p l e ({ frames := 3, cells := 0, slots := 0, locals := 71 } : Room) s m [.ref a5, .int (nI b), .int (nI b2)].toArray below meth c H locs 0 0 Q (F0 m 54 ls []) := by
          intro n9
          induction n9 with
          | zero => intro lo fB2 hlo hck hLB hm; exact absurd hm (Nat.not_lt_zero _)
          | succ n9 ih_lm =>
            intro lo fB2 hlo hck hLB hm H locs hP hD hS ls hl
            have hcl1 := hLz1.bnd hlo
            have hcl2 := hLO.bnd hlo
            obtain ⟨v1, ha1, ha2, ha3, ha4, ha5⟩ := hLz1.nxt hlo
            obtain ⟨v2, hb1, hb2, hb3, hb4, hb5⟩ := hLO.nxt hlo
            have j80 : (hne : v1 < 16777213 ∨ v2 < 16777213) → (hck2 : cb (uH k (hs (Sm (mb G b)) 100000) (hs (Sm (mb G b2)) 100000)) lo < k) → ∀ (H : Heap) (locs : List Loc), xP D [(a5, .inr (5, [.int th, .int (nI k), .int now, .ref mD, .ref mI, .ref mZ, .int (nI nl), .ref mK, .ref mO, .ref mB, .ref mR, .ref mF, .int (nI z1), .int (nI z2)])), (mD, xI cy 600000 G), (mI, xI cy 100000 It), (mK, xI cy 32 g1), (mO, xI cy 32 fO2), (mB, xI cy 32 fB2)] H → va_D A [(a5, .inr (5, [.int th, .int (nI k), .int now, .ref mD, .ref mI, .ref mZ, .int (nI nl), .ref mK, .ref mO, .ref mB, .ref mR, .ref mF, .int (nI z1), .int (nI z2)])), (mD, xI cy 600000 G), (mI, xI cy 100000 It), (mK, xI cy 32 g1), (mO, xI cy 32 fO2), (mB, xI cy 32 fB2)] → va_S A s.heap H locs → ∀ (ls : Array Slot), lv_has ls 8 [(0, .ref a5), (1, .int (nI b)), (2, .int (nI b2)), (3, .int (nI (cb (uH k (hs (Sm (mb G b)) 100000) (hs (Sm (mb G b2)) 100000)) lo))), (4, .int (nI (cb (kS k (hs (Sm (mb G b)) 100000)) lo))), (5, .int (nI (cb (kS k (hs (Sm (mb G b2)) 100000)) lo)))] → W p l e ({ frames := 3, cells := 0, slots := 0, locals := 71 } : Room) s m [.ref a5, .int (nI b), .int (nI b2)].toArray below meth c H locs 0 0 Q (F0 m 80 ls []) := by
              intro hne hck2 H locs hP hD hS ls hl
              have j101 : ∀ (H : Heap) (locs : List Loc), xP D [(a5, .inr (5, [.int th, .int (nI k), .int now, .ref mD, .ref mI, .ref mZ, .int (nI nl), .ref mK, .ref mO, .ref mB, .ref mR, .ref mF, .int (nI z1), .int (nI z2)])), (mD, xI cy 600000 G), (mI, xI cy 100000 It), (mK, xI cy 32 g1), (mO, xI cy 32 fO2), (mB, xI cy 32 fB2)] H → va_D A [(a5, .inr (5, [.int th, .int (nI k), .int now, .ref mD, .ref mI, .ref mZ, .int (nI nl), .ref mK, .ref mO, .ref mB, .ref mR, .ref mF, .int (nI z1), .int (nI z2)])), (mD, xI cy 600000 G), (mI, xI cy 100000 It), (mK, xI cy 32 g1), (mO, xI cy 32 fO2), (mB, xI cy 32 fB2)] → va_S A s.heap H locs → ∀ (ls : Array Slot), lv_has ls 8 [(0, .ref a5), (1, .int (nI b)), (2, .int (nI b2)), (3, .int (nI (cb (uH k (hs (Sm (mb G b)) 100000) (hs (Sm (mb G b2)) 100000)) lo))), (4, .int (nI (cb (kS k (hs (Sm (mb G b)) 100000)) lo))), (5, .int (nI (cb (kS k (hs (Sm (mb G b2)) 100000)) lo)))] → W p l e ({ frames := 3, cells := 0, slots := 0, locals := 71 } : Room) s m [.ref a5, .int (nI b), .int (nI b2)].toArray below meth c H locs 0 0 Q (F0 m 101 ls [.int (nI v1)]) := by
                intro H locs hP hD hS ls hl
                refine lv_istore (lv' := [(6, .int (nI v1)), (0, .ref a5), (1, .int (nI b)), (2, .int (nI b2)), (3, .int (nI (cb (uH k (hs (Sm (mb G b)) 100000) (hs (Sm (mb G b2)) 100000)) lo))), (4, .int (nI (cb (kS k (hs (Sm (mb G b)) 100000)) lo))), (5, .int (nI (cb (kS k (hs (Sm (mb G b2)) 100000)) lo)))]) hx hb dX5_layBoth_101 hl (by decide) rfl (fun ls hl => ?_)
                have j124 : ∀ (H : Heap) (locs : List Loc), xP D [(a5, .inr (5, [.int th, .int (nI k), .int now, .ref mD, .ref mI, .ref mZ, .int (nI nl), .ref mK, .ref mO, .ref mB, .ref mR, .ref mF, .int (nI z1), .int (nI z2)])), (mD, xI cy 600000 G), (mI, xI cy 100000 It), (mK, xI cy 32 g1), (mO, xI cy 32 fO2), (mB, xI cy 32 fB2)] H → va_D A [(a5, .inr (5, [.int th, .int (nI k), .int now, .ref mD, .ref mI, .ref mZ, .int (nI nl), .ref mK, .ref mO, .ref mB, .ref mR, .ref mF, .int (nI z1), .int (nI z2)])), (mD, xI cy 600000 G), (mI, xI cy 100000 It), (mK, xI cy 32 g1), (mO, xI cy 32 fO2), (mB, xI cy 32 fB2)] → va_S A s.heap H locs → ∀ (ls : Array Slot), lv_has ls 8 [(6, .int (nI v1)), (0, .ref a5), (1, .int (nI b)), (2, .int (nI b2)), (3, .int (nI (cb (uH k (hs (Sm (mb G b)) 100000) (hs (Sm (mb G b2)) 100000)) lo))), (4, .int (nI (cb (kS k (hs (Sm (mb G b)) 100000)) lo))), (5, .int (nI (cb (kS k (hs (Sm (mb G b2)) 100000)) lo)))] → W p l e ({ frames := 3, cells := 0, slots := 0, locals := 71 } : Room) s m [.ref a5, .int (nI b), .int (nI b2)].toArray below meth c H locs 0 0 Q (F0 m 124 ls [.int (nI v2)]) := by
                  intro H locs hP hD hS ls hl
                  refine lv_istore (lv' := [(7, .int (nI v2)), (6, .int (nI v1)), (0, .ref a5), (1, .int (nI b)), (2, .int (nI b2)), (3, .int (nI (cb (uH k (hs (Sm (mb G b)) 100000) (hs (Sm (mb G b2)) 100000)) lo))), (4, .int (nI (cb (kS k (hs (Sm (mb G b)) 100000)) lo))), (5, .int (nI (cb (kS k (hs (Sm (mb G b2)) 100000)) lo)))]) hx hb dX5_layBoth_124 hl (by decide) rfl (fun ls hl => ?_)
                  refine lv_aload_n hx hb dX5_layBoth_126 rfl (lv_at hl 2 rfl) ?_
                  refine va_get (D := D) (ci := 5) (v := .ref mB) (C := RX5) (T := TX5) (N := 14) hx hb hts (by decide +kernel) hown hE.1 hP 0 rfl rfl 9 (by decide) (hts (.fieldLink RX5 28 "DistinctDaleModel" "both" "[I") (by decide +kernel)) (fun _ h9 => h9) rfl dX5_layBoth_127 ?_
                  refine lv_iload_n hx hb dX5_layBoth_130 rfl (lv_at hl 5 rfl) ?_
                  refine lv_iload hx hb dX5_layBoth_131 (lv_at hl 1 rfl) ?_
                  refine lv_iload hx hb dX5_layBoth_133 (lv_at hl 0 rfl) ?_
                  refine xb_icmp_ge (tgt := 143) (a := v1) (b := v2) (by omega) (by omega) hx hb dX5_layBoth_135 (by decide) (fun c_8 => ?_) (fun c_8 => ?_)
                  · have hk2v : (kS k (hs (Sm (mb G b2)) 100000)) v2 = true := (hb4 (by
                      rcases Nat.lt_or_ge (cb (kS k (hs (Sm (mb G b2)) 100000)) lo) z2 with r | r
                      · exact r
                      · have := hb5 r; omega)).2.1
                    refine lv_iload hx hb dX5_layBoth_143 (lv_at hl 0 rfl) ?_
                    refine va_iast (D := D) hx hb hE.1 hP hD hS 5 0 rfl rfl (vp_in_nI (by omega) (by omega)) dX5_layBoth_145 (fun H locs hP hD hS => ?_)
                    rw [nI_clamp (by omega)] at hP hD
                    have hP : xP D [(a5, .inr (5, [.int th, .int (nI k), .int now, .ref mD, .ref mI, .ref mZ, .int (nI nl), .ref mK, .ref mO, .ref mB, .ref mR, .ref mF, .int (nI z1), .int (nI z2)])), (mD, xI cy 600000 G), (mI, xI cy 100000 It), (mK, xI cy 32 g1), (mO, xI cy 32 fO2), (mB, xI cy 32 (upd fB2 (cb (uH k (hs (Sm (mb G b)) 100000) (hs (Sm (mb G b2)) 100000)) lo) (nI v2)))] H := hP
                    have hD : va_D A [(a5, .inr (5, [.int th, .int (nI k), .int now, .ref mD, .ref mI, .ref mZ, .int (nI nl), .ref mK, .ref mO, .ref mB, .ref mR, .ref mF, .int (nI z1), .int (nI z2)])), (mD, xI cy 600000 G), (mI, xI cy 100000 It), (mK, xI cy 32 g1), (mO, xI cy 32 fO2), (mB, xI cy 32 (upd fB2 (cb (uH k (hs (Sm (mb G b)) 100000) (hs (Sm (mb G b2)) 100000)) lo) (nI v2)))] := hD
                    refine lv_iload hx hb dX5_layBoth_146 (lv_at hl 6 rfl) ?_
                    refine lv_iload hx hb dX5_layBoth_148 (lv_at hl 1 rfl) ?_
                    refine lv_aload_n hx hb dX5_layBoth_150 rfl (lv_at hl 2 rfl) ?_
                    refine va_get (D := D) (ci := 5) (v := .ref mB) (C := RX5) (T := TX5) (N := 14) hx hb hts (by decide +kernel) hown hE.1 hP 0 rfl rfl 9 (by decide) (hts (.fieldLink RX5 28 "DistinctDaleModel" "both" "[I") (by decide +kernel)) (fun _ h9 => h9) rfl dX5_layBoth_151 ?_
                    refine lv_iload_n hx hb dX5_layBoth_154 rfl (lv_at hl 5 rfl) ?_
                    refine va_iald (D := D) hx hb hE.1 hP 5 0 rfl rfl (vp_in_nI (by omega) (by omega)) dX5_layBoth_155 ?_
                    refine lv_eqi (z := nI v2) (by rw [nI_clamp (by omega)]; exact upd_s) ?_
                    refine xb_icmp_ne (tgt := 163) (a := v1) (b := v2) (by omega) (by omega) hx hb dX5_layBoth_156 (by decide) (fun c_9 => ?_) (fun c_9 => ?_)
                    · refine lv_iconst (v := nI 0) hx hb dX5_layBoth_163 (by decide) ?_
                      refine lv_iadd hx hb dX5_layBoth_164 ?_
                      refine lv_eqi (z := nI (cb (kS k (hs (Sm (mb G b)) 100000)) lo + 0)) (nI_add _ _) ?_
                      refine lv_istore (lv' := [(4, .int (nI (cb (kS k (hs (Sm (mb G b)) 100000)) lo + 0))), (7, .int (nI v2)), (6, .int (nI v1)), (0, .ref a5), (1, .int (nI b)), (2, .int (nI b2)), (3, .int (nI (cb (uH k (hs (Sm (mb G b)) 100000) (hs (Sm (mb G b2)) 100000)) lo))), (5, .int (nI (cb (kS k (hs (Sm (mb G b2)) 100000)) lo)))]) hx hb dX5_layBoth_165 hl (by decide) rfl (fun ls hl => ?_)
                      refine lv_iload hx hb dX5_layBoth_167 (lv_at hl 7 rfl) ?_
                      refine lv_iload hx hb dX5_layBoth_169 (lv_at hl 1 rfl) ?_
                      refine lv_aload_n hx hb dX5_layBoth_171 rfl (lv_at hl 3 rfl) ?_
                      refine va_get (D := D) (ci := 5) (v := .ref mB) (C := RX5) (T := TX5) (N := 14) hx hb hts (by decide +kernel) hown hE.1 hP 0 rfl rfl 9 (by decide) (hts (.fieldLink RX5 28 "DistinctDaleModel" "both" "[I") (by decide +kernel)) (fun _ h9 => h9) rfl dX5_layBoth_172 ?_
                      refine lv_iload_n hx hb dX5_layBoth_175 rfl (lv_at hl 6 rfl) ?_
                      refine va_iald (D := D) hx hb hE.1 hP 5 0 rfl rfl (vp_in_nI (by omega) (by omega)) dX5_layBoth_176 ?_
                      refine lv_eqi (z := nI v2) (by rw [nI_clamp (by omega)]; exact upd_s) ?_
                      refine xb_icmp_ne (tgt := 184) (a := v2) (b := v2) (by omega) (by omega) hx hb dX5_layBoth_177 (by decide) (fun c_10 => ?_) (fun c_10 => ?_)
                      · exact absurd rfl c_10
                      · refine lv_iconst (v := nI 1) hx hb dX5_layBoth_180 (by decide) ?_
                        refine lv_goto (tgt := 185) hx hb dX5_layBoth_181 (by decide) ?_
                        refine lv_iadd hx hb dX5_layBoth_185 ?_
                        refine lv_eqi (z := nI (cb (kS k (hs (Sm (mb G b2)) 100000)) lo + 1)) (nI_add _ _) ?_
                        refine lv_istore (lv' := [(5, .int (nI (cb (kS k (hs (Sm (mb G b2)) 100000)) lo + 1))), (4, .int (nI (cb (kS k (hs (Sm (mb G b)) 100000)) lo + 0))), (7, .int (nI v2)), (6, .int (nI v1)), (0, .ref a5), (1, .int (nI b)), (2, .int (nI b2)), (3, .int (nI (cb (uH k (hs (Sm (mb G b)) 100000) (hs (Sm (mb G b2)) 100000)) lo)))]) hx hb dX5_layBoth_186 hl (by decide) rfl (fun ls hl => ?_)
                        refine lv_iinc (v := nI (cb (uH k (hs (Sm (mb G b)) 100000) (hs (Sm (mb G b2)) 100000)) lo + 1)) (lv' := [(3, .int (nI (cb (uH k (hs (Sm (mb G b)) 100000) (hs (Sm (mb G b2)) 100000)) lo + 1))), (5, .int (nI (cb (kS k (hs (Sm (mb G b2)) 100000)) lo + 1))), (4, .int (nI (cb (kS k (hs (Sm (mb G b)) 100000)) lo + 0))), (7, .int (nI v2)), (6, .int (nI v1)), (0, .ref a5), (1, .int (nI b)), (2, .int (nI b2))]) hx hb dX5_layBoth_188 hl (k := 7) rfl (nI_add _ 1) (by decide) rfl (fun ls hl => ?_)
                        refine lv_goto (tgt := 54) hx hb dX5_layBoth_191 (by decide) ?_
                        have hU1 : (uH k (hs (Sm (mb G b)) 100000) (hs (Sm (mb G b2)) 100000)) v2 = true := by rw [uH_eq, hk2v]; simp
                        have hU2 : ∀ y, lo ≤ y → y < v2 → (uH k (hs (Sm (mb G b)) 100000) (hs (Sm (mb G b2)) 100000)) y = false := fun y h1 h2 => uH_none (ha3 y h1 (by omega)) (hb3 y h1 (by omega))
                        have e3 : cb (uH k (hs (Sm (mb G b)) 100000) (hs (Sm (mb G b2)) 100000)) lo + 1 = cb (uH k (hs (Sm (mb G b)) 100000) (hs (Sm (mb G b2)) 100000)) (v2 + 1) := cb_1 hb1 hU2 hU1
                        have e4 : cb (kS k (hs (Sm (mb G b)) 100000)) lo + 0 = cb (kS k (hs (Sm (mb G b)) 100000)) (v2 + 1) := cb_00 hb1 (Nat.lt_of_le_of_ne c_8 (fun q => c_9 q.symm)) ha3
                        have e5 : cb (kS k (hs (Sm (mb G b2)) 100000)) lo + 1 = cb (kS k (hs (Sm (mb G b2)) 100000)) (v2 + 1) := cb_1 hb1 hb3 hk2v
                        rw [e3, e4, e5] at hl
                        exact ih_lm (v2 + 1) (upd fB2 (cb (uH k (hs (Sm (mb G b)) 100000) (hs (Sm (mb G b2)) 100000)) lo) (nI v2)) (by omega) (by omega) (hLB.step hb1 hU1 hU2) (by omega) _ _ hP hD hS _ (lv_sub hl [5, 6, 7, 0, 2, 1] rfl)
                    · have hk1v : (kS k (hs (Sm (mb G b)) 100000)) v1 = true := (ha4 (by
                        rcases Nat.lt_or_ge (cb (kS k (hs (Sm (mb G b)) 100000)) lo) z1 with r | r
                        · exact r
                        · have := ha5 r; omega)).2.1
                      refine lv_iconst (v := nI 1) hx hb dX5_layBoth_159 (by decide) ?_
                      refine lv_goto (tgt := 164) hx hb dX5_layBoth_160 (by decide) ?_
                      refine lv_iadd hx hb dX5_layBoth_164 ?_
                      refine lv_eqi (z := nI (cb (kS k (hs (Sm (mb G b)) 100000)) lo + 1)) (nI_add _ _) ?_
                      refine lv_istore (lv' := [(4, .int (nI (cb (kS k (hs (Sm (mb G b)) 100000)) lo + 1))), (7, .int (nI v2)), (6, .int (nI v1)), (0, .ref a5), (1, .int (nI b)), (2, .int (nI b2)), (3, .int (nI (cb (uH k (hs (Sm (mb G b)) 100000) (hs (Sm (mb G b2)) 100000)) lo))), (5, .int (nI (cb (kS k (hs (Sm (mb G b2)) 100000)) lo)))]) hx hb dX5_layBoth_165 hl (by decide) rfl (fun ls hl => ?_)
                      refine lv_iload hx hb dX5_layBoth_167 (lv_at hl 7 rfl) ?_
                      refine lv_iload hx hb dX5_layBoth_169 (lv_at hl 1 rfl) ?_
                      refine lv_aload_n hx hb dX5_layBoth_171 rfl (lv_at hl 3 rfl) ?_
                      refine va_get (D := D) (ci := 5) (v := .ref mB) (C := RX5) (T := TX5) (N := 14) hx hb hts (by decide +kernel) hown hE.1 hP 0 rfl rfl 9 (by decide) (hts (.fieldLink RX5 28 "DistinctDaleModel" "both" "[I") (by decide +kernel)) (fun _ h9 => h9) rfl dX5_layBoth_172 ?_
                      refine lv_iload_n hx hb dX5_layBoth_175 rfl (lv_at hl 6 rfl) ?_
                      refine va_iald (D := D) hx hb hE.1 hP 5 0 rfl rfl (vp_in_nI (by omega) (by omega)) dX5_layBoth_176 ?_
                      refine lv_eqi (z := nI v2) (by rw [nI_clamp (by omega)]; exact upd_s) ?_
                      refine xb_icmp_ne (tgt := 184) (a := v2) (b := v2) (by omega) (by omega) hx hb dX5_layBoth_177 (by decide) (fun c_11 => ?_) (fun c_11 => ?_)
                      · exact absurd rfl c_11
                      · refine lv_iconst (v := nI 1) hx hb dX5_layBoth_180 (by decide) ?_
                        refine lv_goto (tgt := 185) hx hb dX5_layBoth_181 (by decide) ?_
                        refine lv_iadd hx hb dX5_layBoth_185 ?_
                        refine lv_eqi (z := nI (cb (kS k (hs (Sm (mb G b2)) 100000)) lo + 1)) (nI_add _ _) ?_
                        refine lv_istore (lv' := [(5, .int (nI (cb (kS k (hs (Sm (mb G b2)) 100000)) lo + 1))), (4, .int (nI (cb (kS k (hs (Sm (mb G b)) 100000)) lo + 1))), (7, .int (nI v2)), (6, .int (nI v1)), (0, .ref a5), (1, .int (nI b)), (2, .int (nI b2)), (3, .int (nI (cb (uH k (hs (Sm (mb G b)) 100000) (hs (Sm (mb G b2)) 100000)) lo)))]) hx hb dX5_layBoth_186 hl (by decide) rfl (fun ls hl => ?_)
                        refine lv_iinc (v := nI (cb (uH k (hs (Sm (mb G b)) 100000) (hs (Sm (mb G b2)) 100000)) lo + 1)) (lv' := [(3, .int (nI (cb (uH k (hs (Sm (mb G b)) 100000) (hs (Sm (mb G b2)) 100000)) lo + 1))), (5, .int (nI (cb (kS k (hs (Sm (mb G b2)) 100000)) lo + 1))), (4, .int (nI (cb (kS k (hs (Sm (mb G b)) 100000)) lo + 1))), (7, .int (nI v2)), (6, .int (nI v1)), (0, .ref a5), (1, .int (nI b)), (2, .int (nI b2))]) hx hb dX5_layBoth_188 hl (k := 7) rfl (nI_add _ 1) (by decide) rfl (fun ls hl => ?_)
                        refine lv_goto (tgt := 54) hx hb dX5_layBoth_191 (by decide) ?_
                        have hU1 : (uH k (hs (Sm (mb G b)) 100000) (hs (Sm (mb G b2)) 100000)) v2 = true := by rw [uH_eq, hk2v]; simp
                        have hU2 : ∀ y, lo ≤ y → y < v2 → (uH k (hs (Sm (mb G b)) 100000) (hs (Sm (mb G b2)) 100000)) y = false := fun y h1 h2 => uH_none (ha3 y h1 (by omega)) (hb3 y h1 (by omega))
                        have e3 : cb (uH k (hs (Sm (mb G b)) 100000) (hs (Sm (mb G b2)) 100000)) lo + 1 = cb (uH k (hs (Sm (mb G b)) 100000) (hs (Sm (mb G b2)) 100000)) (v2 + 1) := cb_1 hb1 hU2 hU1
                        have e4 : cb (kS k (hs (Sm (mb G b)) 100000)) lo + 1 = cb (kS k (hs (Sm (mb G b)) 100000)) (v2 + 1) := cb_1 hb1 (fun y h1 h2 => ha3 y h1 (by omega)) (by rw [← c_9]; exact hk1v)
                        have e5 : cb (kS k (hs (Sm (mb G b2)) 100000)) lo + 1 = cb (kS k (hs (Sm (mb G b2)) 100000)) (v2 + 1) := cb_1 hb1 hb3 hk2v
                        rw [e3, e4, e5] at hl
                        exact ih_lm (v2 + 1) (upd fB2 (cb (uH k (hs (Sm (mb G b)) 100000) (hs (Sm (mb G b2)) 100000)) lo) (nI v2)) (by omega) (by omega) (hLB.step hb1 hU1 hU2) (by omega) _ _ hP hD hS _ (lv_sub hl [5, 6, 7, 0, 2, 1] rfl)
                  · have hk1v : (kS k (hs (Sm (mb G b)) 100000)) v1 = true := (ha4 (by
                      rcases Nat.lt_or_ge (cb (kS k (hs (Sm (mb G b)) 100000)) lo) z1 with r | r
                      · exact r
                      · have := ha5 r; omega)).2.1
                    refine lv_iload hx hb dX5_layBoth_138 (lv_at hl 1 rfl) ?_
                    refine lv_goto (tgt := 145) hx hb dX5_layBoth_140 (by decide) ?_
                    refine va_iast (D := D) hx hb hE.1 hP hD hS 5 0 rfl rfl (vp_in_nI (by omega) (by omega)) dX5_layBoth_145 (fun H locs hP hD hS => ?_)
                    rw [nI_clamp (by omega)] at hP hD
                    have hP : xP D [(a5, .inr (5, [.int th, .int (nI k), .int now, .ref mD, .ref mI, .ref mZ, .int (nI nl), .ref mK, .ref mO, .ref mB, .ref mR, .ref mF, .int (nI z1), .int (nI z2)])), (mD, xI cy 600000 G), (mI, xI cy 100000 It), (mK, xI cy 32 g1), (mO, xI cy 32 fO2), (mB, xI cy 32 (upd fB2 (cb (uH k (hs (Sm (mb G b)) 100000) (hs (Sm (mb G b2)) 100000)) lo) (nI v1)))] H := hP
                    have hD : va_D A [(a5, .inr (5, [.int th, .int (nI k), .int now, .ref mD, .ref mI, .ref mZ, .int (nI nl), .ref mK, .ref mO, .ref mB, .ref mR, .ref mF, .int (nI z1), .int (nI z2)])), (mD, xI cy 600000 G), (mI, xI cy 100000 It), (mK, xI cy 32 g1), (mO, xI cy 32 fO2), (mB, xI cy 32 (upd fB2 (cb (uH k (hs (Sm (mb G b)) 100000) (hs (Sm (mb G b2)) 100000)) lo) (nI v1)))] := hD
                    refine lv_iload hx hb dX5_layBoth_146 (lv_at hl 6 rfl) ?_
                    refine lv_iload hx hb dX5_layBoth_148 (lv_at hl 1 rfl) ?_
                    refine lv_aload_n hx hb dX5_layBoth_150 rfl (lv_at hl 2 rfl) ?_
                    refine va_get (D := D) (ci := 5) (v := .ref mB) (C := RX5) (T := TX5) (N := 14) hx hb hts (by decide +kernel) hown hE.1 hP 0 rfl rfl 9 (by decide) (hts (.fieldLink RX5 28 "DistinctDaleModel" "both" "[I") (by decide +kernel)) (fun _ h9 => h9) rfl dX5_layBoth_151 ?_
                    refine lv_iload_n hx hb dX5_layBoth_154 rfl (lv_at hl 5 rfl) ?_
                    refine va_iald (D := D) hx hb hE.1 hP 5 0 rfl rfl (vp_in_nI (by omega) (by omega)) dX5_layBoth_155 ?_
                    refine lv_eqi (z := nI v1) (by rw [nI_clamp (by omega)]; exact upd_s) ?_
                    refine xb_icmp_ne (tgt := 163) (a := v1) (b := v1) (by omega) (by omega) hx hb dX5_layBoth_156 (by decide) (fun c_12 => ?_) (fun c_12 => ?_)
                    · exact absurd rfl c_12
                    · refine lv_iconst (v := nI 1) hx hb dX5_layBoth_159 (by decide) ?_
                      refine lv_goto (tgt := 164) hx hb dX5_layBoth_160 (by decide) ?_
                      refine lv_iadd hx hb dX5_layBoth_164 ?_
                      refine lv_eqi (z := nI (cb (kS k (hs (Sm (mb G b)) 100000)) lo + 1)) (nI_add _ _) ?_
                      refine lv_istore (lv' := [(4, .int (nI (cb (kS k (hs (Sm (mb G b)) 100000)) lo + 1))), (7, .int (nI v2)), (6, .int (nI v1)), (0, .ref a5), (1, .int (nI b)), (2, .int (nI b2)), (3, .int (nI (cb (uH k (hs (Sm (mb G b)) 100000) (hs (Sm (mb G b2)) 100000)) lo))), (5, .int (nI (cb (kS k (hs (Sm (mb G b2)) 100000)) lo)))]) hx hb dX5_layBoth_165 hl (by decide) rfl (fun ls hl => ?_)
                      refine lv_iload hx hb dX5_layBoth_167 (lv_at hl 7 rfl) ?_
                      refine lv_iload hx hb dX5_layBoth_169 (lv_at hl 1 rfl) ?_
                      refine lv_aload_n hx hb dX5_layBoth_171 rfl (lv_at hl 3 rfl) ?_
                      refine va_get (D := D) (ci := 5) (v := .ref mB) (C := RX5) (T := TX5) (N := 14) hx hb hts (by decide +kernel) hown hE.1 hP 0 rfl rfl 9 (by decide) (hts (.fieldLink RX5 28 "DistinctDaleModel" "both" "[I") (by decide +kernel)) (fun _ h9 => h9) rfl dX5_layBoth_172 ?_
                      refine lv_iload_n hx hb dX5_layBoth_175 rfl (lv_at hl 6 rfl) ?_
                      refine va_iald (D := D) hx hb hE.1 hP 5 0 rfl rfl (vp_in_nI (by omega) (by omega)) dX5_layBoth_176 ?_
                      refine lv_eqi (z := nI v1) (by rw [nI_clamp (by omega)]; exact upd_s) ?_
                      refine xb_icmp_ne (tgt := 184) (a := v2) (b := v1) (by omega) (by omega) hx hb dX5_layBoth_177 (by decide) (fun c_13 => ?_) (fun c_13 => ?_)
                      · refine lv_iconst (v := nI 0) hx hb dX5_layBoth_184 (by decide) ?_
                        refine lv_iadd hx hb dX5_layBoth_185 ?_
                        refine lv_eqi (z := nI (cb (kS k (hs (Sm (mb G b2)) 100000)) lo + 0)) (nI_add _ _) ?_
                        refine lv_istore (lv' := [(5, .int (nI (cb (kS k (hs (Sm (mb G b2)) 100000)) lo + 0))), (4, .int (nI (cb (kS k (hs (Sm (mb G b)) 100000)) lo + 1))), (7, .int (nI v2)), (6, .int (nI v1)), (0, .ref a5), (1, .int (nI b)), (2, .int (nI b2)), (3, .int (nI (cb (uH k (hs (Sm (mb G b)) 100000) (hs (Sm (mb G b2)) 100000)) lo)))]) hx hb dX5_layBoth_186 hl (by decide) rfl (fun ls hl => ?_)
                        refine lv_iinc (v := nI (cb (uH k (hs (Sm (mb G b)) 100000) (hs (Sm (mb G b2)) 100000)) lo + 1)) (lv' := [(3, .int (nI (cb (uH k (hs (Sm (mb G b)) 100000) (hs (Sm (mb G b2)) 100000)) lo + 1))), (5, .int (nI (cb (kS k (hs (Sm (mb G b2)) 100000)) lo + 0))), (4, .int (nI (cb (kS k (hs (Sm (mb G b)) 100000)) lo + 1))), (7, .int (nI v2)), (6, .int (nI v1)), (0, .ref a5), (1, .int (nI b)), (2, .int (nI b2))]) hx hb dX5_layBoth_188 hl (k := 7) rfl (nI_add _ 1) (by decide) rfl (fun ls hl => ?_)
                        refine lv_goto (tgt := 54) hx hb dX5_layBoth_191 (by decide) ?_
                        have hU1 : (uH k (hs (Sm (mb G b)) 100000) (hs (Sm (mb G b2)) 100000)) v1 = true := by rw [uH_eq, hk1v]; simp
                        have hU2 : ∀ y, lo ≤ y → y < v1 → (uH k (hs (Sm (mb G b)) 100000) (hs (Sm (mb G b2)) 100000)) y = false := fun y h1 h2 => uH_none (ha3 y h1 (by omega)) (hb3 y h1 (by omega))
                        have e3 : cb (uH k (hs (Sm (mb G b)) 100000) (hs (Sm (mb G b2)) 100000)) lo + 1 = cb (uH k (hs (Sm (mb G b)) 100000) (hs (Sm (mb G b2)) 100000)) (v1 + 1) := cb_1 ha1 hU2 hU1
                        have e4 : cb (kS k (hs (Sm (mb G b)) 100000)) lo + 1 = cb (kS k (hs (Sm (mb G b)) 100000)) (v1 + 1) := cb_1 ha1 ha3 hk1v
                        have e5 : cb (kS k (hs (Sm (mb G b2)) 100000)) lo + 0 = cb (kS k (hs (Sm (mb G b2)) 100000)) (v1 + 1) := cb_00 ha1 c_8 hb3
                        rw [e3, e4, e5] at hl
                        exact ih_lm (v1 + 1) (upd fB2 (cb (uH k (hs (Sm (mb G b)) 100000) (hs (Sm (mb G b2)) 100000)) lo) (nI v1)) (by omega) (by omega) (hLB.step ha1 hU1 hU2) (by omega) _ _ hP hD hS _ (lv_sub hl [5, 6, 7, 0, 2, 1] rfl)
                      · exact absurd c_13 (by omega)
                refine lv_iload hx hb dX5_layBoth_103 (lv_at hl 6 rfl) ?_
                refine lv_aload_n hx hb dX5_layBoth_105 rfl (lv_at hl 1 rfl) ?_
                refine va_get (D := D) (ci := 5) (v := .int (nI z2)) (C := RX5) (T := TX5) (N := 14) hx hb hts (by decide +kernel) hown hE.1 hP 0 rfl rfl 13 (by decide) (hts (.fieldLink RX5 96 "DistinctDaleModel" "otherMany" "I") (by decide +kernel)) (fun _ h9 => h9) rfl dX5_layBoth_106 ?_
                refine xb_icmp_ge (tgt := 122) (a := cb (kS k (hs (Sm (mb G b2)) 100000)) lo) (b := z2) (by omega) (by omega) hx hb dX5_layBoth_109 (by decide) (fun c_14 => ?_) (fun c_14 => ?_)
                · refine lv_ldc (v := nI 16777213) hx hb hown (hts (.constant RX5 102 (16777213)) (by decide +kernel)) dX5_layBoth_122 ?_
                  refine lv_eqi (z := nI v2) (congrArg nI (hb5 (by omega)).symm) ?_
                  exact j124    _ _ hP hD hS _ (lv_sub hl [0, 1, 2, 3, 4, 5, 6] rfl)
                · refine lv_aload_n hx hb dX5_layBoth_112 rfl (lv_at hl 1 rfl) ?_
                  refine va_get (D := D) (ci := 5) (v := .ref mO) (C := RX5) (T := TX5) (N := 14) hx hb hts (by decide +kernel) hown hE.1 hP 0 rfl rfl 8 (by decide) (hts (.fieldLink RX5 25 "DistinctDaleModel" "other" "[I") (by decide +kernel)) (fun _ h9 => h9) rfl dX5_layBoth_113 ?_
                  refine lv_iload hx hb dX5_layBoth_116 (lv_at hl 6 rfl) ?_
                  refine va_iald (D := D) hx hb hE.1 hP 4 0 rfl rfl (vp_in_nI (by omega) (by omega)) dX5_layBoth_118 ?_
                  refine lv_eqi (z := nI v2) (by rw [nI_clamp (by omega)]; exact (hb4 (by omega)).2.2) ?_
                  refine lv_goto (tgt := 124) hx hb dX5_layBoth_119 (by decide) ?_
                  exact j124    _ _ hP hD hS _ (lv_sub hl [0, 1, 2, 3, 4, 5, 6] rfl)
              refine lv_iload hx hb dX5_layBoth_80 (lv_at hl 4 rfl) ?_
              refine lv_aload_n hx hb dX5_layBoth_82 rfl (lv_at hl 0 rfl) ?_
              refine va_get (D := D) (ci := 5) (v := .int (nI z1)) (C := RX5) (T := TX5) (N := 14) hx hb hts (by decide +kernel) hown hE.1 hP 0 rfl rfl 12 (by decide) (hts (.fieldLink RX5 99 "DistinctDaleModel" "keptMany" "I") (by decide +kernel)) (fun _ h9 => h9) rfl dX5_layBoth_83 ?_
              refine xb_icmp_ge (tgt := 99) (a := cb (kS k (hs (Sm (mb G b)) 100000)) lo) (b := z1) (by omega) (by omega) hx hb dX5_layBoth_86 (by decide) (fun c_15 => ?_) (fun c_15 => ?_)
              · refine lv_ldc (v := nI 16777213) hx hb hown (hts (.constant RX5 102 (16777213)) (by decide +kernel)) dX5_layBoth_99 ?_
                refine lv_eqi (z := nI v1) (congrArg nI (ha5 (by omega)).symm) ?_
                exact j101    _ _ hP hD hS _ (lv_sub hl [0, 1, 2, 3, 4, 5] rfl)
              · refine lv_aload_n hx hb dX5_layBoth_89 rfl (lv_at hl 0 rfl) ?_
                refine va_get (D := D) (ci := 5) (v := .ref mK) (C := RX5) (T := TX5) (N := 14) hx hb hts (by decide +kernel) hown hE.1 hP 0 rfl rfl 7 (by decide) (hts (.fieldLink RX5 22 "DistinctDaleModel" "kept" "[I") (by decide +kernel)) (fun _ h9 => h9) rfl dX5_layBoth_90 ?_
                refine lv_iload hx hb dX5_layBoth_93 (lv_at hl 4 rfl) ?_
                refine va_iald (D := D) hx hb hE.1 hP 3 0 rfl rfl (vp_in_nI (by omega) (by omega)) dX5_layBoth_95 ?_
                refine lv_eqi (z := nI v1) (by rw [nI_clamp (by omega)]; exact (ha4 (by omega)).2.2) ?_
                refine lv_goto (tgt := 101) hx hb dX5_layBoth_96 (by decide) ?_
                exact j101    _ _ hP hD hS _ (lv_sub hl [0, 1, 2, 3, 4, 5] rfl)
            refine lv_iload_n hx hb dX5_layBoth_54 rfl (lv_at hl 3 rfl) ?_
            refine lv_aload_n hx hb dX5_layBoth_55 rfl (lv_at hl 0 rfl) ?_
            refine va_get (D := D) (ci := 5) (v := .int (nI k)) (C := RX5) (T := TX5) (N := 14) hx hb hts (by decide +kernel) hown hE.1 hP 0 rfl rfl 1 (by decide) (hts (.fieldLink RX5 39 "DistinctDaleModel" "k" "I") (by decide +kernel)) (fun _ h9 => h9) rfl dX5_layBoth_56 ?_
            refine xb_icmp_ge (tgt := 194) (a := cb (uH k (hs (Sm (mb G b)) 100000) (hs (Sm (mb G b2)) 100000)) lo) (b := k) (by omega) (by omega) hx hb dX5_layBoth_59 (by decide) (fun c_16 => ?_) (fun c_16 => ?_)
            · refine lv_iload_n hx hb dX5_layBoth_194 rfl (lv_at hl 3 rfl) ?_
              exact kret _ (z1, g1, z2, fO2, cb (uH k (hs (Sm (mb G b)) 100000) (hs (Sm (mb G b2)) 100000)) lo, fB2) _ _ _ _ _ _ dX5_layBoth_195 ⟨rfl, hLz1, hLO, hLB.done2 (by omega) hlo⟩ hP hD hS (Nat.le_of_ble_eq_true rfl) (Nat.le_of_ble_eq_true rfl)
            · refine lv_iload hx hb dX5_layBoth_62 (lv_at hl 4 rfl) ?_
              refine lv_aload_n hx hb dX5_layBoth_64 rfl (lv_at hl 0 rfl) ?_
              refine va_get (D := D) (ci := 5) (v := .int (nI z1)) (C := RX5) (T := TX5) (N := 14) hx hb hts (by decide +kernel) hown hE.1 hP 0 rfl rfl 12 (by decide) (hts (.fieldLink RX5 99 "DistinctDaleModel" "keptMany" "I") (by decide +kernel)) (fun _ h9 => h9) rfl dX5_layBoth_65 ?_
              refine xb_icmp_lt (tgt := 80) (a := cb (kS k (hs (Sm (mb G b)) 100000)) lo) (b := z1) (by omega) (by omega) hx hb dX5_layBoth_68 (by decide) (fun c_17 => ?_) (fun c_17 => ?_)
              · exact j80  (Or.inl (ha4 (by omega)).1) (by omega)  _ _ hP hD hS _ (lv_sub hl [0, 1, 2, 3, 4, 5] rfl)
              · refine lv_iload hx hb dX5_layBoth_71 (lv_at hl 5 rfl) ?_
                refine lv_aload_n hx hb dX5_layBoth_73 rfl (lv_at hl 0 rfl) ?_
                refine va_get (D := D) (ci := 5) (v := .int (nI z2)) (C := RX5) (T := TX5) (N := 14) hx hb hts (by decide +kernel) hown hE.1 hP 0 rfl rfl 13 (by decide) (hts (.fieldLink RX5 96 "DistinctDaleModel" "otherMany" "I") (by decide +kernel)) (fun _ h9 => h9) rfl dX5_layBoth_74 ?_
                refine xb_icmp_ge (tgt := 194) (a := cb (kS k (hs (Sm (mb G b2)) 100000)) lo) (b := z2) (by omega) (by omega) hx hb dX5_layBoth_77 (by decide) (fun c_18 => ?_) (fun c_18 => ?_)
                · refine lv_iload_n hx hb dX5_layBoth_194 rfl (lv_at hl 3 rfl) ?_
                  have hnn : ∀ y, lo ≤ y → (uH k (hs (Sm (mb G b)) 100000) (hs (Sm (mb G b2)) 100000)) y = false := fun y h1 => by
                    rcases Nat.lt_or_ge y 16777213 with q | q
                    · exact uH_none (hLz1.cnt (by omega) hlo y h1 q) (hLO.cnt (by omega) hlo y h1 q)
                    · exact uH_hi y q
                  exact kret _ (z1, g1, z2, fO2, cb (uH k (hs (Sm (mb G b)) 100000) (hs (Sm (mb G b2)) 100000)) lo, fB2) _ _ _ _ _ _ dX5_layBoth_195 ⟨rfl, hLz1, hLO, hLB.done1 hck hlo hnn⟩ hP hD hS (Nat.le_of_ble_eq_true rfl) (Nat.le_of_ble_eq_true rfl)
                · exact j80  (Or.inr (hb4 (by omega)).1) (by omega)  _ _ hP hD hS _ (lv_sub hl [0, 1, 2, 3, 4, 5] rfl)
        exact lm (k + 1) 0 fB (Nat.zero_le _) (Nat.zero_le _) (fun h hh => absurd hh (Nat.not_lt_zero _)) (by omega) _ _ hP hD hS _ (lv_sub hl [3, 4, 5, 2, 1, 0] rfl)
      · refine lv_aload_n hx hb dX5_layBoth_19 rfl (lv_at hl 0 rfl) ?_
        refine va_get (D := D) (ci := 5) (v := .ref mO) (C := RX5) (T := TX5) (N := 14) hx hb hts (by decide +kernel) hown hE.1 hP 0 rfl rfl 8 (by decide) (hts (.fieldLink RX5 25 "DistinctDaleModel" "other" "[I") (by decide +kernel)) (fun _ h9 => h9) rfl dX5_layBoth_20 ?_
        refine lv_iload_n hx hb dX5_layBoth_23 rfl (lv_at hl 3 rfl) ?_
        refine lv_aload_n hx hb dX5_layBoth_24 rfl (lv_at hl 0 rfl) ?_
        refine va_get (D := D) (ci := 5) (v := .ref mK) (C := RX5) (T := TX5) (N := 14) hx hb hts (by decide +kernel) hown hE.1 hP 0 rfl rfl 7 (by decide) (hts (.fieldLink RX5 22 "DistinctDaleModel" "kept" "[I") (by decide +kernel)) (fun _ h9 => h9) rfl dX5_layBoth_25 ?_
        refine lv_iload_n hx hb dX5_layBoth_28 rfl (lv_at hl 3 rfl) ?_
        refine va_iald (D := D) hx hb hE.1 hP 3 0 rfl rfl (vp_in_nI (by omega) (by omega)) dX5_layBoth_29 ?_
        refine lv_eqi (z := g2 j) (by rw [nI_clamp (by omega)]) ?_
        refine va_iast (D := D) hx hb hE.1 hP hD hS 4 0 rfl rfl (vp_in_nI (by omega) (by omega)) dX5_layBoth_30 (fun H locs hP hD hS => ?_)
        rw [nI_clamp (by omega)] at hP hD
        have hP : xP D [(a5, .inr (5, [.int th, .int (nI k), .int now, .ref mD, .ref mI, .ref mZ, .int (nI nl), .ref mK, .ref mO, .ref mB, .ref mR, .ref mF, .int kM, .int (nI z2)])), (mD, xI cy 600000 G), (mI, xI cy 100000 It), (mK, xI cy 32 g2), (mO, xI cy 32 (upd fO2 j (g2 j))), (mB, xI cy 32 fB)] H := hP
        have hD : va_D A [(a5, .inr (5, [.int th, .int (nI k), .int now, .ref mD, .ref mI, .ref mZ, .int (nI nl), .ref mK, .ref mO, .ref mB, .ref mR, .ref mF, .int kM, .int (nI z2)])), (mD, xI cy 600000 G), (mI, xI cy 100000 It), (mK, xI cy 32 g2), (mO, xI cy 32 (upd fO2 j (g2 j))), (mB, xI cy 32 fB)] := hD
        refine lv_iinc (v := nI (j + 1)) (lv' := [(3, .int (nI (j + 1))), (0, .ref a5), (1, .int (nI b)), (2, .int (nI b2))]) hx hb dX5_layBoth_31 hl (k := 3) rfl (nI_add _ 1) (by decide) rfl (fun ls hl => ?_)
        refine lv_goto (tgt := 11) hx hb dX5_layBoth_34 (by decide) ?_
        exact ih_lc (j + 1) (upd fO2 j (g2 j)) (by omega) (ln_up hcp rfl) (by omega) _ _ hP hD hS _ (lv_sub hl [1, 2, 3, 0] rfl)
  exact lc (z2 + 1) 0 fO (Nat.zero_le _) (fun i hi => absurd hi (Nat.not_lt_zero _)) (by omega) _ _ hP hD hS _ (lv_sub hl [1, 2, 3, 0] rfl)
set_option maxHeartbeats 4000000 in
set_option maxRecDepth 100000 in
theorem m_share0 (l : Launch) (D : va_G) (cy : Nat → ClassId) (t0 : Nat) (a5 mD mI mZ mK mO mB mR mF k : Nat) (th now kM oM : Int32) (nl : Nat) (b b2 : Nat) (fK fO fB : Nat → Int32) (G It Zt : Nat → Int32) (lst : Nat → Nat) (hML : ML lst nl It Zt) (hCV : CV G lst nl) (hb6 : b < 6) (hb62 : b2 < 6) (hk2 : 2 ≤ k) (hk : k ≤ 32) : xWi (S := Nat × (Nat → Int32) × Nat × (Nat → Int32) × Nat × (Nat → Int32)) l yX5_share wsX5_share ({ frames := 4, cells := 0, slots := 0, locals := 98 } : Room) D cy t0 ([.ref a5, .int (nI b), .int (nI b2), .int (nI 0)]) ([(a5, .inr (5, [.int th, .int (nI k), .int now, .ref mD, .ref mI, .ref mZ, .int (nI nl), .ref mK, .ref mO, .ref mB, .ref mR, .ref mF, .int kM, .int oM])), (mD, xI cy 600000 G), (mI, xI cy 100000 It), (mK, xI cy 32 fK), (mO, xI cy 32 fO), (mB, xI cy 32 fB)]) (fun r u => r = nI (estV k (uH k (hs (Sm (mb G b)) 100000) (hs (Sm (mb G b2)) 100000)))) (fun u => [(a5, .inr (5, [.int th, .int (nI k), .int now, .ref mD, .ref mI, .ref mZ, .int (nI nl), .ref mK, .ref mO, .ref mB, .ref mR, .ref mF, .int (nI u.1), .int (nI u.2.2.1)])), (mD, xI cy 600000 G), (mI, xI cy 100000 It), (mK, xI cy 32 u.2.1), (mO, xI cy 32 u.2.2.2.1), (mB, xI cy 32 u.2.2.2.2.2)]) 0 0 := by
  refine xofWi (cc := cX5_share) (maxL := 10) (by decide) rfl (Nat.le_of_ble_eq_true rfl) (fun _ _ _ => rfl) ?_
  intro p e s m below meth c Q A ls hx hb hml hts hown hE hA H locs hP hD hl hS kret
  have hl : lv_has ls 10 [(0, .ref a5), (1, .int (nI b)), (2, .int (nI b2)), (3, .int (nI 0))] := hl
  have hev := estV_le (Hs := (uH k (hs (Sm (mb G b)) 100000) (hs (Sm (mb G b2)) 100000))) hk
  refine lv_aload_n hx hb dX5_share_0 rfl (lv_at hl 0 rfl) ?_
  refine lv_iload_n hx hb dX5_share_1 rfl (lv_at hl 1 rfl) ?_
  refine lv_iload_n hx hb dX5_share_2 rfl (lv_at hl 2 rfl) ?_
  refine xcWi (wr := []) (va_runV (As := [.int (nI b), .int (nI b2)]) (rest := []) ⟨hx, hb, hml, hown, hts⟩ ((m_layBoth l D cy t0 a5 mD mI mZ mK mO mB mR mF k th now kM oM nl b b2 fK fO fB G It Zt lst hML hCV hb6 hb62 hk2 hk) H.size) (cwV 2 hts gX5_share_X5_layBoth rfl rfl rfl (by decide +kernel) ⟨Nat.le_of_ble_eq_true rfl, Nat.le_of_ble_eq_true rfl⟩) (xPw.giveV (wc := [(a5, .inr (5, [.int th, .int (nI k), .int now, .ref mD, .ref mI, .ref mZ, .int (nI nl), .ref mK, .ref mO, .ref mB, .ref mR, .ref mF, .int kM, .int oM])), (mD, xI cy 600000 G), (mI, xI cy 100000 It), (mK, xI cy 32 fK), (mO, xI cy 32 fO), (mB, xI cy 32 fB)]) hE hS hA hP hD [0, 1, 2, 3, 4, 5] (by decide) rfl 0 5 rfl rfl) rfl rfl hl.1 rfl (lv_room (Nat.le_of_ble_eq_true rfl)) dX5_share_3 ⟨(Nat.zero_le _), (Nat.zero_le _)⟩) hP hD hS hA [0, 1, 2, 3, 4, 5] [] rfl rfl (by decide) (by decide) (fun r_1 u_3 H locs hr_2 hP hD hS => ?_)
  obtain ⟨z1, g1, z2, g2, zB, gB⟩ := u_3
  obtain rfl : r_1 = nI zB := hr_2.1
  have hL1 : LH k (hs (Sm (mb G b)) 100000) z1 g1 := hr_2.2.1
  have hL2 : LH k (hs (Sm (mb G b2)) 100000) z2 g2 := hr_2.2.2.1
  have hLU : LH k (uH k (hs (Sm (mb G b)) 100000) (hs (Sm (mb G b2)) 100000)) zB gB := hr_2.2.2.2
  have hz1 := hL1.1
  have hz2 := hL2.1
  have hzU := hLU.1
  have hP := hP.sub (ws' := [(a5, .inr (5, [.int th, .int (nI k), .int now, .ref mD, .ref mI, .ref mZ, .int (nI nl), .ref mK, .ref mO, .ref mB, .ref mR, .ref mF, .int (nI z1), .int (nI z2)])), (mD, xI cy 600000 G), (mI, xI cy 100000 It), (mK, xI cy 32 g1), (mO, xI cy 32 g2), (mB, xI cy 32 gB)]) [0, 1, 2, 3, 4, 5] rfl
  have hD := hD.sub (ws' := [(a5, .inr (5, [.int th, .int (nI k), .int now, .ref mD, .ref mI, .ref mZ, .int (nI nl), .ref mK, .ref mO, .ref mB, .ref mR, .ref mF, .int (nI z1), .int (nI z2)])), (mD, xI cy 600000 G), (mI, xI cy 100000 It), (mK, xI cy 32 g1), (mO, xI cy 32 g2), (mB, xI cy 32 gB)]) [0, 1, 2, 3, 4, 5] (by decide) rfl
  refine lv_istore (lv' := [(4, .int (nI zB)), (0, .ref a5), (1, .int (nI b)), (2, .int (nI b2)), (3, .int (nI 0))]) hx hb dX5_share_6 hl (by decide) rfl (fun ls hl => ?_)
  refine lv_iload hx hb dX5_share_8 (lv_at hl 0 rfl) ?_
  refine xb_if_ne (tgt := 15) (a := zB) (by omega) hx hb dX5_share_10 (by decide) (fun c_4 => ?_) (fun c_4 => ?_)
  · obtain ⟨t0b, hs1, hs2, hs3, hs4⟩ := hLU.at (j := zB - 1) (by omega)
    refine lv_aload_n hx hb dX5_share_15 rfl (lv_at hl 1 rfl) ?_
    refine lv_iload hx hb dX5_share_16 (lv_at hl 0 rfl) ?_
    refine lv_aload_n hx hb dX5_share_18 rfl (lv_at hl 1 rfl) ?_
    refine va_get (D := D) (ci := 5) (v := .ref mB) (C := RX5) (T := TX5) (N := 14) hx hb hts (by decide +kernel) hown hE.1 hP 0 rfl rfl 9 (by decide) (hts (.fieldLink RX5 28 "DistinctDaleModel" "both" "[I") (by decide +kernel)) (fun _ h9 => h9) rfl dX5_share_19 ?_
    refine lv_iload hx hb dX5_share_22 (lv_at hl 0 rfl) ?_
    refine lv_iconst (v := nI 1) hx hb dX5_share_24 (by decide) ?_
    refine lv_isub hx hb dX5_share_25 ?_
    refine lv_eqi (z := nI (zB - 1)) (pk_sub (by omega)) ?_
    refine va_iald (D := D) hx hb hE.1 hP 5 0 rfl rfl (vp_in_nI (by omega) (by omega)) dX5_share_26 ?_
    refine lv_eqi (z := nI t0b) (by rw [nI_clamp (by omega)]; exact hs4) ?_
    refine xcRl (va_runV (As := [.int (nI zB), .int (nI t0b)]) (rest := []) ⟨hx, hb, hml, hown, hts⟩ (m_est l D cy t0 a5 mD mI mZ mK mO mB mR mF k th now (nI nl) (nI z1) (nI z2) zB t0b hk2 hk (by omega) (fun q => by have := cb_le (P := (uH k (hs (Sm (mb G b)) 100000) (hs (Sm (mb G b2)) 100000))) (n := t0b); omega) (by omega)) (cwV 2 hts gX5_share_X5_estimate rfl rfl rfl (by decide +kernel) ⟨Nat.le_of_ble_eq_true rfl, Nat.le_of_ble_eq_true rfl⟩) (xPr.giveV (wc := [(a5, .inr (5, [.int th, .int (nI k), .int now, .ref mD, .ref mI, .ref mZ, .int (nI nl), .ref mK, .ref mO, .ref mB, .ref mR, .ref mF, .int (nI z1), .int (nI z2)]))]) hE hS hP [0] rfl 0 5 rfl rfl) rfl rfl hl.1 rfl (lv_room (Nat.le_of_ble_eq_true rfl)) dX5_share_27 ⟨(Nat.zero_le _), (Nat.zero_le _)⟩) (fun r_5 hr_6 => ?_)
    refine lv_eql (z := lN (estV k (uH k (hs (Sm (mb G b)) 100000) (hs (Sm (mb G b2)) 100000)))) (hr_6.trans (congrArg lN (est_eq hLU (by omega) hs1 hs2 hs3))) ?_
    refine lv_lstore (lv' := [(5, .long (lN (estV k (uH k (hs (Sm (mb G b)) 100000) (hs (Sm (mb G b2)) 100000))))), (4, .int (nI zB)), (0, .ref a5), (1, .int (nI b)), (2, .int (nI b2)), (3, .int (nI 0))]) hx hb dX5_share_30 hl (by decide) rfl (fun ls hl => ?_)
    refine lv_iconst (v := nI 0) hx hb dX5_share_32 (by decide) ?_
    refine lv_istore (lv' := [(7, .int (nI 0)), (5, .long (lN (estV k (uH k (hs (Sm (mb G b)) 100000) (hs (Sm (mb G b2)) 100000))))), (4, .int (nI zB)), (0, .ref a5), (1, .int (nI b)), (2, .int (nI b2)), (3, .int (nI 0))]) hx hb dX5_share_33 hl (by decide) rfl (fun ls hl => ?_)
    refine lv_iconst (v := nI 0) hx hb dX5_share_35 (by decide) ?_
    refine lv_istore (lv' := [(8, .int (nI 0)), (7, .int (nI 0)), (5, .long (lN (estV k (uH k (hs (Sm (mb G b)) 100000) (hs (Sm (mb G b2)) 100000))))), (4, .int (nI zB)), (0, .ref a5), (1, .int (nI b)), (2, .int (nI b2)), (3, .int (nI 0))]) hx hb dX5_share_36 hl (by decide) rfl (fun ls hl => ?_)
    have lp : ∀ (n9 : Nat), ∀ (lo : Nat), (hlo : lo ≤ 16777213) → zB - cb (kS k (uH k (hs (Sm (mb G b)) 100000) (hs (Sm (mb G b2)) 100000))) lo < n9 → ∀ (H : Heap) (locs : List Loc), xP D [(a5, .inr (5, [.int th, .int (nI k), .int now, .ref mD, .ref mI, .ref mZ, .int (nI nl), .ref mK, .ref mO, .ref mB, .ref mR, .ref mF, .int (nI z1), .int (nI z2)])), (mD, xI cy 600000 G), (mI, xI cy 100000 It), (mK, xI cy 32 g1), (mO, xI cy 32 g2), (mB, xI cy 32 gB)] H → va_D A [(a5, .inr (5, [.int th, .int (nI k), .int now, .ref mD, .ref mI, .ref mZ, .int (nI nl), .ref mK, .ref mO, .ref mB, .ref mR, .ref mF, .int (nI z1), .int (nI z2)])), (mD, xI cy 600000 G), (mI, xI cy 100000 It), (mK, xI cy 32 g1), (mO, xI cy 32 g2), (mB, xI cy 32 gB)] → va_S A s.heap H locs → ∀ (ls : Array Slot), lv_has ls 10 [(0, .ref a5), (1, .int (nI b)), (2, .int (nI b2)), (3, .int (nI 0)), (4, .int (nI zB)), (5, .long (lN (estV k (uH k (hs (Sm (mb G b)) 100000) (hs (Sm (mb G b2)) 100000))))), (7, .int (nI (cb (cT k (uH k (hs (Sm (mb G b)) 100000) (hs (Sm (mb G b2)) 100000)) (noT k (hs (Sm (mb G b2)) 100000))) lo))), (8, .int (nI (cb (kS k (uH k (hs (Sm (mb G b)) 100000) (hs (Sm (mb G b2)) 100000))) lo)))] → W p l e ({ frames := 4, cells := 0, slots := 0, locals := 98 } : Room) s m [.ref a5, .int (nI b), .int (nI b2), .int (nI 0)].toArray below meth c H locs 0 0 Q (F0 m 38 ls []) := by
      intro n9
      induction n9 with
      | zero => intro lo hlo hm; exact absurd hm (Nat.not_lt_zero _)
      | succ n9 ih_lp =>
        intro lo hlo hm H locs hP hD hS ls hl
        have hcl := hLU.bnd hlo
        have hcl2 : cb (cT k (uH k (hs (Sm (mb G b)) 100000) (hs (Sm (mb G b2)) 100000)) (noT k (hs (Sm (mb G b2)) 100000))) lo ≤ cb (kS k (uH k (hs (Sm (mb G b)) 100000) (hs (Sm (mb G b2)) 100000))) lo := cb_sub (fun x _ h => cT_sub x h)
        refine lv_iload hx hb dX5_share_38 (lv_at hl 7 rfl) ?_
        refine lv_iload hx hb dX5_share_40 (lv_at hl 4 rfl) ?_
        refine xb_icmp_ge (tgt := 128) (a := cb (kS k (uH k (hs (Sm (mb G b)) 100000) (hs (Sm (mb G b2)) 100000))) lo) (b := zB) (by omega) (by omega) hx hb dX5_share_42 (by decide) (fun c_7 => ?_) (fun c_7 => ?_)
        · refine lv_iload_n hx hb dX5_share_128 rfl (lv_at hl 3 rfl) ?_
          refine xb_if_ne (tgt := 137) (a := 0) (by omega) hx hb dX5_share_129 (by decide) (fun c_8 => ?_) (fun c_8 => ?_)
          · exact absurd rfl c_8
          · refine lv_lload hx hb dX5_share_132 (lv_at hl 5 rfl) ?_
            refine lv_goto (tgt := 147) hx hb dX5_share_134 (by decide) ?_
            refine lv_l2i (v := nI (estV k (uH k (hs (Sm (mb G b)) 100000) (hs (Sm (mb G b2)) 100000)))) hx hb dX5_share_147 (lN_i _) ?_
            exact kret _ (z1, g1, z2, g2, zB, gB) _ _ _ _ _ _ dX5_share_148 rfl hP hD hS (Nat.le_of_ble_eq_true rfl) (Nat.le_of_ble_eq_true rfl)
        · obtain ⟨t, ht1, ht2, ht3, ht4, ht5, ht6⟩ := hLU.next hlo (by omega)
          refine lv_iload_n hx hb dX5_share_45 rfl (lv_at hl 3 rfl) ?_
          refine lv_iconst (v := nI 1) hx hb dX5_share_46 (by decide) ?_
          refine xb_icmp_ne (tgt := 86) (a := 0) (b := 1) (by omega) (by omega) hx hb dX5_share_47 (by decide) (fun c_9 => ?_) (fun c_9 => ?_)
          · refine lv_aload_n hx hb dX5_share_86 rfl (lv_at hl 0 rfl) ?_
            refine lv_aload_n hx hb dX5_share_87 rfl (lv_at hl 0 rfl) ?_
            refine va_get (D := D) (ci := 5) (v := .ref mB) (C := RX5) (T := TX5) (N := 14) hx hb hts (by decide +kernel) hown hE.1 hP 0 rfl rfl 9 (by decide) (hts (.fieldLink RX5 28 "DistinctDaleModel" "both" "[I") (by decide +kernel)) (fun _ h9 => h9) rfl dX5_share_88 ?_
            refine lv_iload hx hb dX5_share_91 (lv_at hl 7 rfl) ?_
            refine va_iald (D := D) hx hb hE.1 hP 5 0 rfl rfl (vp_in_nI (by omega) (by omega)) dX5_share_93 ?_
            refine lv_eqi (z := nI t) (by rw [nI_clamp (by omega)]; exact ht6) ?_
            refine xcRi (va_runV (As := [.int (nI t)]) (rest := []) ⟨hx, hb, hml, hown, hts⟩ (m_isOther l D cy t0 a5 mD mI mZ mK mO mB mR mF k th now (nI nl) (nI z1) (hs (Sm (mb G b2)) 100000) z2 t g2 hL2 (by omega) ht2) (cwV 1 hts gX5_share_X5_isOther rfl rfl rfl (by decide +kernel) ⟨Nat.le_of_ble_eq_true rfl, Nat.le_of_ble_eq_true rfl⟩) (xPr.giveV (wc := [(a5, .inr (5, [.int th, .int (nI k), .int now, .ref mD, .ref mI, .ref mZ, .int (nI nl), .ref mK, .ref mO, .ref mB, .ref mR, .ref mF, .int (nI z1), .int (nI z2)])), (mO, xI cy 32 g2)]) hE hS hP [0, 4] rfl 0 5 rfl rfl) rfl rfl hl.1 rfl (lv_room (Nat.le_of_ble_eq_true rfl)) dX5_share_94 ⟨(Nat.zero_le _), (Nat.zero_le _)⟩) (fun r_10 hr_11 => ?_)
            refine lv_eqi (z := xb ((kS k (hs (Sm (mb G b2)) 100000)) t)) hr_11 ?_
            refine xb_bne (tgt := 104) hx hb dX5_share_97 (by decide) (fun c_12 => ?_) (fun c_12 => ?_)
            · have hT : (noT k (hs (Sm (mb G b2)) 100000)) t = false := by unfold noT; rw [c_12]; rfl
              refine lv_iconst (v := nI 0) hx hb dX5_share_104 (by decide) ?_
              refine lv_istore (lv' := [(9, .int (nI 0)), (0, .ref a5), (1, .int (nI b)), (2, .int (nI b2)), (3, .int (nI 0)), (4, .int (nI zB)), (5, .long (lN (estV k (uH k (hs (Sm (mb G b)) 100000) (hs (Sm (mb G b2)) 100000))))), (7, .int (nI (cb (cT k (uH k (hs (Sm (mb G b)) 100000) (hs (Sm (mb G b2)) 100000)) (noT k (hs (Sm (mb G b2)) 100000))) lo))), (8, .int (nI (cb (kS k (uH k (hs (Sm (mb G b)) 100000) (hs (Sm (mb G b2)) 100000))) lo)))]) hx hb dX5_share_105 hl (by decide) rfl (fun ls hl => ?_)
              refine lv_iload hx hb dX5_share_107 (lv_at hl 7 rfl) ?_
              refine lv_iload hx hb dX5_share_109 (lv_at hl 0 rfl) ?_
              refine xb_if_eq (tgt := 118) (a := 0) (by omega) hx hb dX5_share_111 (by decide) (fun c_13 => ?_) (fun c_13 => ?_)
              · refine lv_iconst (v := nI 0) hx hb dX5_share_118 (by decide) ?_
                refine lv_iadd hx hb dX5_share_119 ?_
                refine lv_eqi (z := nI (cb (cT k (uH k (hs (Sm (mb G b)) 100000) (hs (Sm (mb G b2)) 100000)) (noT k (hs (Sm (mb G b2)) 100000))) lo + 0)) (nI_add _ _) ?_
                refine lv_istore (lv' := [(7, .int (nI (cb (cT k (uH k (hs (Sm (mb G b)) 100000) (hs (Sm (mb G b2)) 100000)) (noT k (hs (Sm (mb G b2)) 100000))) lo + 0))), (9, .int (nI 0)), (0, .ref a5), (1, .int (nI b)), (2, .int (nI b2)), (3, .int (nI 0)), (4, .int (nI zB)), (5, .long (lN (estV k (uH k (hs (Sm (mb G b)) 100000) (hs (Sm (mb G b2)) 100000))))), (8, .int (nI (cb (kS k (uH k (hs (Sm (mb G b)) 100000) (hs (Sm (mb G b2)) 100000))) lo)))]) hx hb dX5_share_120 hl (by decide) rfl (fun ls hl => ?_)
                refine lv_iinc (v := nI (cb (kS k (uH k (hs (Sm (mb G b)) 100000) (hs (Sm (mb G b2)) 100000))) lo + 1)) (lv' := [(8, .int (nI (cb (kS k (uH k (hs (Sm (mb G b)) 100000) (hs (Sm (mb G b2)) 100000))) lo + 1))), (7, .int (nI (cb (cT k (uH k (hs (Sm (mb G b)) 100000) (hs (Sm (mb G b2)) 100000)) (noT k (hs (Sm (mb G b2)) 100000))) lo + 0))), (9, .int (nI 0)), (0, .ref a5), (1, .int (nI b)), (2, .int (nI b2)), (3, .int (nI 0)), (4, .int (nI zB)), (5, .long (lN (estV k (uH k (hs (Sm (mb G b)) 100000) (hs (Sm (mb G b2)) 100000)))))]) hx hb dX5_share_122 hl (k := 8) rfl (nI_add _ 1) (by decide) rfl (fun ls hl => ?_)
                refine lv_goto (tgt := 38) hx hb dX5_share_125 (by decide) ?_
                have e1 : cb (kS k (uH k (hs (Sm (mb G b)) 100000) (hs (Sm (mb G b2)) 100000))) lo + 1 = cb (kS k (uH k (hs (Sm (mb G b)) 100000) (hs (Sm (mb G b2)) 100000))) (t + 1) := by rw [cb_t ht3]; omega
                have hce : cb (cT k (uH k (hs (Sm (mb G b)) 100000) (hs (Sm (mb G b2)) 100000)) (noT k (hs (Sm (mb G b2)) 100000))) t = cb (cT k (uH k (hs (Sm (mb G b)) 100000) (hs (Sm (mb G b2)) 100000)) (noT k (hs (Sm (mb G b2)) 100000))) lo := cb_to ht1 ht5 cT_sub
                have e2 : cb (cT k (uH k (hs (Sm (mb G b)) 100000) (hs (Sm (mb G b2)) 100000)) (noT k (hs (Sm (mb G b2)) 100000))) lo + 0 = cb (cT k (uH k (hs (Sm (mb G b)) 100000) (hs (Sm (mb G b2)) 100000)) (noT k (hs (Sm (mb G b2)) 100000))) (t + 1) := by rw [cb_f (by unfold cT; rw [hT, Bool.and_false]), hce]; rfl
                rw [e1, e2] at hl
                exact ih_lp (t + 1) (by omega) (by omega) _ _ hP hD hS _ (lv_sub hl [3, 4, 5, 6, 7, 8, 1, 0] rfl)
              · exact absurd rfl c_13
            · have hT : (noT k (hs (Sm (mb G b2)) 100000)) t = true := by unfold noT; rw [c_12]; rfl
              refine lv_iconst (v := nI 1) hx hb dX5_share_100 (by decide) ?_
              refine lv_goto (tgt := 105) hx hb dX5_share_101 (by decide) ?_
              refine lv_istore (lv' := [(9, .int (nI 1)), (0, .ref a5), (1, .int (nI b)), (2, .int (nI b2)), (3, .int (nI 0)), (4, .int (nI zB)), (5, .long (lN (estV k (uH k (hs (Sm (mb G b)) 100000) (hs (Sm (mb G b2)) 100000))))), (7, .int (nI (cb (cT k (uH k (hs (Sm (mb G b)) 100000) (hs (Sm (mb G b2)) 100000)) (noT k (hs (Sm (mb G b2)) 100000))) lo))), (8, .int (nI (cb (kS k (uH k (hs (Sm (mb G b)) 100000) (hs (Sm (mb G b2)) 100000))) lo)))]) hx hb dX5_share_105 hl (by decide) rfl (fun ls hl => ?_)
              refine lv_iload hx hb dX5_share_107 (lv_at hl 7 rfl) ?_
              refine lv_iload hx hb dX5_share_109 (lv_at hl 0 rfl) ?_
              refine xb_if_eq (tgt := 118) (a := 1) (by omega) hx hb dX5_share_111 (by decide) (fun c_14 => ?_) (fun c_14 => ?_)
              · exact absurd c_14 (by decide)
              · refine lv_iconst (v := nI 1) hx hb dX5_share_114 (by decide) ?_
                refine lv_goto (tgt := 119) hx hb dX5_share_115 (by decide) ?_
                refine lv_iadd hx hb dX5_share_119 ?_
                refine lv_eqi (z := nI (cb (cT k (uH k (hs (Sm (mb G b)) 100000) (hs (Sm (mb G b2)) 100000)) (noT k (hs (Sm (mb G b2)) 100000))) lo + 1)) (nI_add _ _) ?_
                refine lv_istore (lv' := [(7, .int (nI (cb (cT k (uH k (hs (Sm (mb G b)) 100000) (hs (Sm (mb G b2)) 100000)) (noT k (hs (Sm (mb G b2)) 100000))) lo + 1))), (9, .int (nI 1)), (0, .ref a5), (1, .int (nI b)), (2, .int (nI b2)), (3, .int (nI 0)), (4, .int (nI zB)), (5, .long (lN (estV k (uH k (hs (Sm (mb G b)) 100000) (hs (Sm (mb G b2)) 100000))))), (8, .int (nI (cb (kS k (uH k (hs (Sm (mb G b)) 100000) (hs (Sm (mb G b2)) 100000))) lo)))]) hx hb dX5_share_120 hl (by decide) rfl (fun ls hl => ?_)
                refine lv_iinc (v := nI (cb (kS k (uH k (hs (Sm (mb G b)) 100000) (hs (Sm (mb G b2)) 100000))) lo + 1)) (lv' := [(8, .int (nI (cb (kS k (uH k (hs (Sm (mb G b)) 100000) (hs (Sm (mb G b2)) 100000))) lo + 1))), (7, .int (nI (cb (cT k (uH k (hs (Sm (mb G b)) 100000) (hs (Sm (mb G b2)) 100000)) (noT k (hs (Sm (mb G b2)) 100000))) lo + 1))), (9, .int (nI 1)), (0, .ref a5), (1, .int (nI b)), (2, .int (nI b2)), (3, .int (nI 0)), (4, .int (nI zB)), (5, .long (lN (estV k (uH k (hs (Sm (mb G b)) 100000) (hs (Sm (mb G b2)) 100000)))))]) hx hb dX5_share_122 hl (k := 8) rfl (nI_add _ 1) (by decide) rfl (fun ls hl => ?_)
                refine lv_goto (tgt := 38) hx hb dX5_share_125 (by decide) ?_
                have e1 : cb (kS k (uH k (hs (Sm (mb G b)) 100000) (hs (Sm (mb G b2)) 100000))) lo + 1 = cb (kS k (uH k (hs (Sm (mb G b)) 100000) (hs (Sm (mb G b2)) 100000))) (t + 1) := by rw [cb_t ht3]; omega
                have hce : cb (cT k (uH k (hs (Sm (mb G b)) 100000) (hs (Sm (mb G b2)) 100000)) (noT k (hs (Sm (mb G b2)) 100000))) t = cb (cT k (uH k (hs (Sm (mb G b)) 100000) (hs (Sm (mb G b2)) 100000)) (noT k (hs (Sm (mb G b2)) 100000))) lo := cb_to ht1 ht5 cT_sub
                have e2 : cb (cT k (uH k (hs (Sm (mb G b)) 100000) (hs (Sm (mb G b2)) 100000)) (noT k (hs (Sm (mb G b2)) 100000))) lo + 1 = cb (cT k (uH k (hs (Sm (mb G b)) 100000) (hs (Sm (mb G b2)) 100000)) (noT k (hs (Sm (mb G b2)) 100000))) (t + 1) := by rw [cb_t (by unfold cT; rw [ht3, hT]; rfl), hce]
                rw [e1, e2] at hl
                exact ih_lp (t + 1) (by omega) (by omega) _ _ hP hD hS _ (lv_sub hl [3, 4, 5, 6, 7, 8, 1, 0] rfl)
          · exact absurd c_9 (by decide)
    exact lp (zB + 1) 0 (Nat.zero_le _) (by omega) _ _ hP hD hS _ (lv_sub hl [4, 5, 6, 7, 3, 2, 1, 0] rfl)
  · refine lv_iconst (v := nI 0) hx hb dX5_share_13 (by decide) ?_
    exact kret _ (z1, g1, z2, g2, zB, gB) _ _ _ _ _ _ dX5_share_14 (by rw [estV_z hLU (by omega) (by omega)]) hP hD hS (Nat.le_of_ble_eq_true rfl) (Nat.le_of_ble_eq_true rfl)
set_option maxHeartbeats 4000000 in
set_option maxRecDepth 100000 in
theorem m_share1 (l : Launch) (D : va_G) (cy : Nat → ClassId) (t0 : Nat) (a5 mD mI mZ mK mO mB mR mF k : Nat) (th now kM oM : Int32) (nl : Nat) (b b2 : Nat) (fK fO fB : Nat → Int32) (G It Zt : Nat → Int32) (lst : Nat → Nat) (hML : ML lst nl It Zt) (hCV : CV G lst nl) (hb6 : b < 6) (hb62 : b2 < 6) (hk2 : 2 ≤ k) (hk : k ≤ 32) : xWi (S := Nat × (Nat → Int32) × Nat × (Nat → Int32) × Nat × (Nat → Int32)) l yX5_share wsX5_share ({ frames := 4, cells := 0, slots := 0, locals := 98 } : Room) D cy t0 ([.ref a5, .int (nI b), .int (nI b2), .int (nI 1)]) ([(a5, .inr (5, [.int th, .int (nI k), .int now, .ref mD, .ref mI, .ref mZ, .int (nI nl), .ref mK, .ref mO, .ref mB, .ref mR, .ref mF, .int kM, .int oM])), (mD, xI cy 600000 G), (mI, xI cy 100000 It), (mK, xI cy 32 fK), (mO, xI cy 32 fO), (mB, xI cy 32 fB)]) (fun r u => r = nI (partV k (uH k (hs (Sm (mb G b)) 100000) (hs (Sm (mb G b2)) 100000)) (cntV k (uH k (hs (Sm (mb G b)) 100000) (hs (Sm (mb G b2)) 100000)) (inT k (hs (Sm (mb G b)) 100000) (hs (Sm (mb G b2)) 100000))))) (fun u => [(a5, .inr (5, [.int th, .int (nI k), .int now, .ref mD, .ref mI, .ref mZ, .int (nI nl), .ref mK, .ref mO, .ref mB, .ref mR, .ref mF, .int (nI u.1), .int (nI u.2.2.1)])), (mD, xI cy 600000 G), (mI, xI cy 100000 It), (mK, xI cy 32 u.2.1), (mO, xI cy 32 u.2.2.2.1), (mB, xI cy 32 u.2.2.2.2.2)]) 0 0 := by
  refine xofWi (cc := cX5_share) (maxL := 10) (by decide) rfl (Nat.le_of_ble_eq_true rfl) (fun _ _ _ => rfl) ?_
  intro p e s m below meth c Q A ls hx hb hml hts hown hE hA H locs hP hD hl hS kret
  have hl : lv_has ls 10 [(0, .ref a5), (1, .int (nI b)), (2, .int (nI b2)), (3, .int (nI 1))] := hl
  have hev := estV_le (Hs := (uH k (hs (Sm (mb G b)) 100000) (hs (Sm (mb G b2)) 100000))) hk
  refine lv_aload_n hx hb dX5_share_0 rfl (lv_at hl 0 rfl) ?_
  refine lv_iload_n hx hb dX5_share_1 rfl (lv_at hl 1 rfl) ?_
  refine lv_iload_n hx hb dX5_share_2 rfl (lv_at hl 2 rfl) ?_
  refine xcWi (wr := []) (va_runV (As := [.int (nI b), .int (nI b2)]) (rest := []) ⟨hx, hb, hml, hown, hts⟩ ((m_layBoth l D cy t0 a5 mD mI mZ mK mO mB mR mF k th now kM oM nl b b2 fK fO fB G It Zt lst hML hCV hb6 hb62 hk2 hk) H.size) (cwV 2 hts gX5_share_X5_layBoth rfl rfl rfl (by decide +kernel) ⟨Nat.le_of_ble_eq_true rfl, Nat.le_of_ble_eq_true rfl⟩) (xPw.giveV (wc := [(a5, .inr (5, [.int th, .int (nI k), .int now, .ref mD, .ref mI, .ref mZ, .int (nI nl), .ref mK, .ref mO, .ref mB, .ref mR, .ref mF, .int kM, .int oM])), (mD, xI cy 600000 G), (mI, xI cy 100000 It), (mK, xI cy 32 fK), (mO, xI cy 32 fO), (mB, xI cy 32 fB)]) hE hS hA hP hD [0, 1, 2, 3, 4, 5] (by decide) rfl 0 5 rfl rfl) rfl rfl hl.1 rfl (lv_room (Nat.le_of_ble_eq_true rfl)) dX5_share_3 ⟨(Nat.zero_le _), (Nat.zero_le _)⟩) hP hD hS hA [0, 1, 2, 3, 4, 5] [] rfl rfl (by decide) (by decide) (fun r_1 u_3 H locs hr_2 hP hD hS => ?_)
  obtain ⟨z1, g1, z2, g2, zB, gB⟩ := u_3
  obtain rfl : r_1 = nI zB := hr_2.1
  have hL1 : LH k (hs (Sm (mb G b)) 100000) z1 g1 := hr_2.2.1
  have hL2 : LH k (hs (Sm (mb G b2)) 100000) z2 g2 := hr_2.2.2.1
  have hLU : LH k (uH k (hs (Sm (mb G b)) 100000) (hs (Sm (mb G b2)) 100000)) zB gB := hr_2.2.2.2
  have hz1 := hL1.1
  have hz2 := hL2.1
  have hzU := hLU.1
  have hP := hP.sub (ws' := [(a5, .inr (5, [.int th, .int (nI k), .int now, .ref mD, .ref mI, .ref mZ, .int (nI nl), .ref mK, .ref mO, .ref mB, .ref mR, .ref mF, .int (nI z1), .int (nI z2)])), (mD, xI cy 600000 G), (mI, xI cy 100000 It), (mK, xI cy 32 g1), (mO, xI cy 32 g2), (mB, xI cy 32 gB)]) [0, 1, 2, 3, 4, 5] rfl
  have hD := hD.sub (ws' := [(a5, .inr (5, [.int th, .int (nI k), .int now, .ref mD, .ref mI, .ref mZ, .int (nI nl), .ref mK, .ref mO, .ref mB, .ref mR, .ref mF, .int (nI z1), .int (nI z2)])), (mD, xI cy 600000 G), (mI, xI cy 100000 It), (mK, xI cy 32 g1), (mO, xI cy 32 g2), (mB, xI cy 32 gB)]) [0, 1, 2, 3, 4, 5] (by decide) rfl
  refine lv_istore (lv' := [(4, .int (nI zB)), (0, .ref a5), (1, .int (nI b)), (2, .int (nI b2)), (3, .int (nI 1))]) hx hb dX5_share_6 hl (by decide) rfl (fun ls hl => ?_)
  refine lv_iload hx hb dX5_share_8 (lv_at hl 0 rfl) ?_
  refine xb_if_ne (tgt := 15) (a := zB) (by omega) hx hb dX5_share_10 (by decide) (fun c_4 => ?_) (fun c_4 => ?_)
  · obtain ⟨t0b, hs1, hs2, hs3, hs4⟩ := hLU.at (j := zB - 1) (by omega)
    refine lv_aload_n hx hb dX5_share_15 rfl (lv_at hl 1 rfl) ?_
    refine lv_iload hx hb dX5_share_16 (lv_at hl 0 rfl) ?_
    refine lv_aload_n hx hb dX5_share_18 rfl (lv_at hl 1 rfl) ?_
    refine va_get (D := D) (ci := 5) (v := .ref mB) (C := RX5) (T := TX5) (N := 14) hx hb hts (by decide +kernel) hown hE.1 hP 0 rfl rfl 9 (by decide) (hts (.fieldLink RX5 28 "DistinctDaleModel" "both" "[I") (by decide +kernel)) (fun _ h9 => h9) rfl dX5_share_19 ?_
    refine lv_iload hx hb dX5_share_22 (lv_at hl 0 rfl) ?_
    refine lv_iconst (v := nI 1) hx hb dX5_share_24 (by decide) ?_
    refine lv_isub hx hb dX5_share_25 ?_
    refine lv_eqi (z := nI (zB - 1)) (pk_sub (by omega)) ?_
    refine va_iald (D := D) hx hb hE.1 hP 5 0 rfl rfl (vp_in_nI (by omega) (by omega)) dX5_share_26 ?_
    refine lv_eqi (z := nI t0b) (by rw [nI_clamp (by omega)]; exact hs4) ?_
    refine xcRl (va_runV (As := [.int (nI zB), .int (nI t0b)]) (rest := []) ⟨hx, hb, hml, hown, hts⟩ (m_est l D cy t0 a5 mD mI mZ mK mO mB mR mF k th now (nI nl) (nI z1) (nI z2) zB t0b hk2 hk (by omega) (fun q => by have := cb_le (P := (uH k (hs (Sm (mb G b)) 100000) (hs (Sm (mb G b2)) 100000))) (n := t0b); omega) (by omega)) (cwV 2 hts gX5_share_X5_estimate rfl rfl rfl (by decide +kernel) ⟨Nat.le_of_ble_eq_true rfl, Nat.le_of_ble_eq_true rfl⟩) (xPr.giveV (wc := [(a5, .inr (5, [.int th, .int (nI k), .int now, .ref mD, .ref mI, .ref mZ, .int (nI nl), .ref mK, .ref mO, .ref mB, .ref mR, .ref mF, .int (nI z1), .int (nI z2)]))]) hE hS hP [0] rfl 0 5 rfl rfl) rfl rfl hl.1 rfl (lv_room (Nat.le_of_ble_eq_true rfl)) dX5_share_27 ⟨(Nat.zero_le _), (Nat.zero_le _)⟩) (fun r_5 hr_6 => ?_)
    refine lv_eql (z := lN (estV k (uH k (hs (Sm (mb G b)) 100000) (hs (Sm (mb G b2)) 100000)))) (hr_6.trans (congrArg lN (est_eq hLU (by omega) hs1 hs2 hs3))) ?_
    refine lv_lstore (lv' := [(5, .long (lN (estV k (uH k (hs (Sm (mb G b)) 100000) (hs (Sm (mb G b2)) 100000))))), (4, .int (nI zB)), (0, .ref a5), (1, .int (nI b)), (2, .int (nI b2)), (3, .int (nI 1))]) hx hb dX5_share_30 hl (by decide) rfl (fun ls hl => ?_)
    refine lv_iconst (v := nI 0) hx hb dX5_share_32 (by decide) ?_
    refine lv_istore (lv' := [(7, .int (nI 0)), (5, .long (lN (estV k (uH k (hs (Sm (mb G b)) 100000) (hs (Sm (mb G b2)) 100000))))), (4, .int (nI zB)), (0, .ref a5), (1, .int (nI b)), (2, .int (nI b2)), (3, .int (nI 1))]) hx hb dX5_share_33 hl (by decide) rfl (fun ls hl => ?_)
    refine lv_iconst (v := nI 0) hx hb dX5_share_35 (by decide) ?_
    refine lv_istore (lv' := [(8, .int (nI 0)), (7, .int (nI 0)), (5, .long (lN (estV k (uH k (hs (Sm (mb G b)) 100000) (hs (Sm (mb G b2)) 100000))))), (4, .int (nI zB)), (0, .ref a5), (1, .int (nI b)), (2, .int (nI b2)), (3, .int (nI 1))]) hx hb dX5_share_36 hl (by decide) rfl (fun ls hl => ?_)
    have lp : ∀ (n9 : Nat), ∀ (lo : Nat), (hlo : lo ≤ 16777213) → zB - cb (kS k (uH k (hs (Sm (mb G b)) 100000) (hs (Sm (mb G b2)) 100000))) lo < n9 → ∀ (H : Heap) (locs : List Loc), xP D [(a5, .inr (5, [.int th, .int (nI k), .int now, .ref mD, .ref mI, .ref mZ, .int (nI nl), .ref mK, .ref mO, .ref mB, .ref mR, .ref mF, .int (nI z1), .int (nI z2)])), (mD, xI cy 600000 G), (mI, xI cy 100000 It), (mK, xI cy 32 g1), (mO, xI cy 32 g2), (mB, xI cy 32 gB)] H → va_D A [(a5, .inr (5, [.int th, .int (nI k), .int now, .ref mD, .ref mI, .ref mZ, .int (nI nl), .ref mK, .ref mO, .ref mB, .ref mR, .ref mF, .int (nI z1), .int (nI z2)])), (mD, xI cy 600000 G), (mI, xI cy 100000 It), (mK, xI cy 32 g1), (mO, xI cy 32 g2), (mB, xI cy 32 gB)] → va_S A s.heap H locs → ∀ (ls : Array Slot), lv_has ls 10 [(0, .ref a5), (1, .int (nI b)), (2, .int (nI b2)), (3, .int (nI 1)), (4, .int (nI zB)), (5, .long (lN (estV k (uH k (hs (Sm (mb G b)) 100000) (hs (Sm (mb G b2)) 100000))))), (7, .int (nI (cb (cT k (uH k (hs (Sm (mb G b)) 100000) (hs (Sm (mb G b2)) 100000)) (inT k (hs (Sm (mb G b)) 100000) (hs (Sm (mb G b2)) 100000))) lo))), (8, .int (nI (cb (kS k (uH k (hs (Sm (mb G b)) 100000) (hs (Sm (mb G b2)) 100000))) lo)))] → W p l e ({ frames := 4, cells := 0, slots := 0, locals := 98 } : Room) s m [.ref a5, .int (nI b), .int (nI b2), .int (nI 1)].toArray below meth c H locs 0 0 Q (F0 m 38 ls []) := by
      intro n9
      induction n9 with
      | zero => intro lo hlo hm; exact absurd hm (Nat.not_lt_zero _)
      | succ n9 ih_lp =>
        intro lo hlo hm H locs hP hD hS ls hl
        have hcl := hLU.bnd hlo
        have hcl2 : cb (cT k (uH k (hs (Sm (mb G b)) 100000) (hs (Sm (mb G b2)) 100000)) (inT k (hs (Sm (mb G b)) 100000) (hs (Sm (mb G b2)) 100000))) lo ≤ cb (kS k (uH k (hs (Sm (mb G b)) 100000) (hs (Sm (mb G b2)) 100000))) lo := cb_sub (fun x _ h => cT_sub x h)
        refine lv_iload hx hb dX5_share_38 (lv_at hl 7 rfl) ?_
        refine lv_iload hx hb dX5_share_40 (lv_at hl 4 rfl) ?_
        refine xb_icmp_ge (tgt := 128) (a := cb (kS k (uH k (hs (Sm (mb G b)) 100000) (hs (Sm (mb G b2)) 100000))) lo) (b := zB) (by omega) (by omega) hx hb dX5_share_42 (by decide) (fun c_7 => ?_) (fun c_7 => ?_)
        · have hcn : cb (cT k (uH k (hs (Sm (mb G b)) 100000) (hs (Sm (mb G b2)) 100000)) (inT k (hs (Sm (mb G b)) 100000) (hs (Sm (mb G b2)) 100000))) lo = cntV k (uH k (hs (Sm (mb G b)) 100000) (hs (Sm (mb G b2)) 100000)) (inT k (hs (Sm (mb G b)) 100000) (hs (Sm (mb G b2)) 100000)) := (cb_stop hlo (cb_mono_of (hLU.cnt (by omega) hlo) hlo) cT_sub).symm
          have hc32 : cntV k (uH k (hs (Sm (mb G b)) 100000) (hs (Sm (mb G b2)) 100000)) (inT k (hs (Sm (mb G b)) 100000) (hs (Sm (mb G b2)) 100000)) ≤ 32 := by omega
          have hmul : estV k (uH k (hs (Sm (mb G b)) 100000) (hs (Sm (mb G b2)) 100000)) * cntV k (uH k (hs (Sm (mb G b)) 100000) (hs (Sm (mb G b2)) 100000)) (inT k (hs (Sm (mb G b)) 100000) (hs (Sm (mb G b2)) 100000)) ≤ estV k (uH k (hs (Sm (mb G b)) 100000) (hs (Sm (mb G b2)) 100000)) * 32 := Nat.mul_le_mul (Nat.le_refl _) hc32
          rw [hcn] at hl
          refine lv_iload_n hx hb dX5_share_128 rfl (lv_at hl 3 rfl) ?_
          refine xb_if_ne (tgt := 137) (a := 1) (by omega) hx hb dX5_share_129 (by decide) (fun c_8 => ?_) (fun c_8 => ?_)
          · refine lv_lload hx hb dX5_share_137 (lv_at hl 5 rfl) ?_
            refine lv_iload hx hb dX5_share_139 (lv_at hl 6 rfl) ?_
            refine lv_i2l (v := lN (cntV k (uH k (hs (Sm (mb G b)) 100000) (hs (Sm (mb G b2)) 100000)) (inT k (hs (Sm (mb G b)) 100000) (hs (Sm (mb G b2)) 100000)))) hx hb dX5_share_141 (nI_l (by omega)) ?_
            refine lv_lmul hx hb dX5_share_142 ?_
            refine lv_eql (z := lN ((estV k (uH k (hs (Sm (mb G b)) 100000) (hs (Sm (mb G b2)) 100000))) * (cntV k (uH k (hs (Sm (mb G b)) 100000) (hs (Sm (mb G b2)) 100000)) (inT k (hs (Sm (mb G b)) 100000) (hs (Sm (mb G b2)) 100000))))) (lN_mul _ _) ?_
            refine lv_iload hx hb dX5_share_143 (lv_at hl 4 rfl) ?_
            refine lv_i2l (v := lN zB) hx hb dX5_share_145 (nI_l (by omega)) ?_
            refine lv_ldiv hx hb dX5_share_146 (fun q => by have := (pk_lEQ (a := zB) (b := 0) (by omega) (by omega)).mp q; omega) ?_
            refine lv_eql (z := lN (estV k (uH k (hs (Sm (mb G b)) 100000) (hs (Sm (mb G b2)) 100000)) * cntV k (uH k (hs (Sm (mb G b)) 100000) (hs (Sm (mb G b2)) 100000)) (inT k (hs (Sm (mb G b)) 100000) (hs (Sm (mb G b2)) 100000)) / zB)) (pk_lDiv (by omega) (by omega) (by omega)) ?_
            refine lv_l2i (v := nI (estV k (uH k (hs (Sm (mb G b)) 100000) (hs (Sm (mb G b2)) 100000)) * cntV k (uH k (hs (Sm (mb G b)) 100000) (hs (Sm (mb G b2)) 100000)) (inT k (hs (Sm (mb G b)) 100000) (hs (Sm (mb G b2)) 100000)) / zB)) hx hb dX5_share_147 (lN_i _) ?_
            exact kret _ (z1, g1, z2, g2, zB, gB) _ _ _ _ _ _ dX5_share_148 (by unfold partV; rw [← hzU]) hP hD hS (Nat.le_of_ble_eq_true rfl) (Nat.le_of_ble_eq_true rfl)
          · exact absurd c_8 (by decide)
        · obtain ⟨t, ht1, ht2, ht3, ht4, ht5, ht6⟩ := hLU.next hlo (by omega)
          refine lv_iload_n hx hb dX5_share_45 rfl (lv_at hl 3 rfl) ?_
          refine lv_iconst (v := nI 1) hx hb dX5_share_46 (by decide) ?_
          refine xb_icmp_ne (tgt := 86) (a := 1) (b := 1) (by omega) (by omega) hx hb dX5_share_47 (by decide) (fun c_9 => ?_) (fun c_9 => ?_)
          · exact absurd rfl c_9
          · refine lv_aload_n hx hb dX5_share_50 rfl (lv_at hl 0 rfl) ?_
            refine lv_aload_n hx hb dX5_share_51 rfl (lv_at hl 0 rfl) ?_
            refine va_get (D := D) (ci := 5) (v := .ref mB) (C := RX5) (T := TX5) (N := 14) hx hb hts (by decide +kernel) hown hE.1 hP 0 rfl rfl 9 (by decide) (hts (.fieldLink RX5 28 "DistinctDaleModel" "both" "[I") (by decide +kernel)) (fun _ h9 => h9) rfl dX5_share_52 ?_
            refine lv_iload hx hb dX5_share_55 (lv_at hl 7 rfl) ?_
            refine va_iald (D := D) hx hb hE.1 hP 5 0 rfl rfl (vp_in_nI (by omega) (by omega)) dX5_share_57 ?_
            refine lv_eqi (z := nI t) (by rw [nI_clamp (by omega)]; exact ht6) ?_
            refine xcRi (va_runV (As := [.int (nI t)]) (rest := []) ⟨hx, hb, hml, hown, hts⟩ (m_isKept l D cy t0 a5 mD mI mZ mK mO mB mR mF k th now (nI nl) (nI z2) (hs (Sm (mb G b)) 100000) z1 t g1 hL1 (by omega) ht2) (cwV 1 hts gX5_share_X5_isKept rfl rfl rfl (by decide +kernel) ⟨Nat.le_of_ble_eq_true rfl, Nat.le_of_ble_eq_true rfl⟩) (xPr.giveV (wc := [(a5, .inr (5, [.int th, .int (nI k), .int now, .ref mD, .ref mI, .ref mZ, .int (nI nl), .ref mK, .ref mO, .ref mB, .ref mR, .ref mF, .int (nI z1), .int (nI z2)])), (mK, xI cy 32 g1)]) hE hS hP [0, 3] rfl 0 5 rfl rfl) rfl rfl hl.1 rfl (lv_room (Nat.le_of_ble_eq_true rfl)) dX5_share_58 ⟨(Nat.zero_le _), (Nat.zero_le _)⟩) (fun r_10 hr_11 => ?_)
            refine lv_eqi (z := xb ((kS k (hs (Sm (mb G b)) 100000)) t)) hr_11 ?_
            refine xb_beq (tgt := 82) hx hb dX5_share_61 (by decide) (fun c_12 => ?_) (fun c_12 => ?_)
            · have hT : (inT k (hs (Sm (mb G b)) 100000) (hs (Sm (mb G b2)) 100000)) t = false := by unfold inT; rw [c_12, Bool.false_and]
              refine lv_iconst (v := nI 0) hx hb dX5_share_82 (by decide) ?_
              refine lv_goto (tgt := 105) hx hb dX5_share_83 (by decide) ?_
              refine lv_istore (lv' := [(9, .int (nI 0)), (0, .ref a5), (1, .int (nI b)), (2, .int (nI b2)), (3, .int (nI 1)), (4, .int (nI zB)), (5, .long (lN (estV k (uH k (hs (Sm (mb G b)) 100000) (hs (Sm (mb G b2)) 100000))))), (7, .int (nI (cb (cT k (uH k (hs (Sm (mb G b)) 100000) (hs (Sm (mb G b2)) 100000)) (inT k (hs (Sm (mb G b)) 100000) (hs (Sm (mb G b2)) 100000))) lo))), (8, .int (nI (cb (kS k (uH k (hs (Sm (mb G b)) 100000) (hs (Sm (mb G b2)) 100000))) lo)))]) hx hb dX5_share_105 hl (by decide) rfl (fun ls hl => ?_)
              refine lv_iload hx hb dX5_share_107 (lv_at hl 7 rfl) ?_
              refine lv_iload hx hb dX5_share_109 (lv_at hl 0 rfl) ?_
              refine xb_if_eq (tgt := 118) (a := 0) (by omega) hx hb dX5_share_111 (by decide) (fun c_13 => ?_) (fun c_13 => ?_)
              · refine lv_iconst (v := nI 0) hx hb dX5_share_118 (by decide) ?_
                refine lv_iadd hx hb dX5_share_119 ?_
                refine lv_eqi (z := nI (cb (cT k (uH k (hs (Sm (mb G b)) 100000) (hs (Sm (mb G b2)) 100000)) (inT k (hs (Sm (mb G b)) 100000) (hs (Sm (mb G b2)) 100000))) lo + 0)) (nI_add _ _) ?_
                refine lv_istore (lv' := [(7, .int (nI (cb (cT k (uH k (hs (Sm (mb G b)) 100000) (hs (Sm (mb G b2)) 100000)) (inT k (hs (Sm (mb G b)) 100000) (hs (Sm (mb G b2)) 100000))) lo + 0))), (9, .int (nI 0)), (0, .ref a5), (1, .int (nI b)), (2, .int (nI b2)), (3, .int (nI 1)), (4, .int (nI zB)), (5, .long (lN (estV k (uH k (hs (Sm (mb G b)) 100000) (hs (Sm (mb G b2)) 100000))))), (8, .int (nI (cb (kS k (uH k (hs (Sm (mb G b)) 100000) (hs (Sm (mb G b2)) 100000))) lo)))]) hx hb dX5_share_120 hl (by decide) rfl (fun ls hl => ?_)
                refine lv_iinc (v := nI (cb (kS k (uH k (hs (Sm (mb G b)) 100000) (hs (Sm (mb G b2)) 100000))) lo + 1)) (lv' := [(8, .int (nI (cb (kS k (uH k (hs (Sm (mb G b)) 100000) (hs (Sm (mb G b2)) 100000))) lo + 1))), (7, .int (nI (cb (cT k (uH k (hs (Sm (mb G b)) 100000) (hs (Sm (mb G b2)) 100000)) (inT k (hs (Sm (mb G b)) 100000) (hs (Sm (mb G b2)) 100000))) lo + 0))), (9, .int (nI 0)), (0, .ref a5), (1, .int (nI b)), (2, .int (nI b2)), (3, .int (nI 1)), (4, .int (nI zB)), (5, .long (lN (estV k (uH k (hs (Sm (mb G b)) 100000) (hs (Sm (mb G b2)) 100000)))))]) hx hb dX5_share_122 hl (k := 8) rfl (nI_add _ 1) (by decide) rfl (fun ls hl => ?_)
                refine lv_goto (tgt := 38) hx hb dX5_share_125 (by decide) ?_
                have e1 : cb (kS k (uH k (hs (Sm (mb G b)) 100000) (hs (Sm (mb G b2)) 100000))) lo + 1 = cb (kS k (uH k (hs (Sm (mb G b)) 100000) (hs (Sm (mb G b2)) 100000))) (t + 1) := by rw [cb_t ht3]; omega
                have hce : cb (cT k (uH k (hs (Sm (mb G b)) 100000) (hs (Sm (mb G b2)) 100000)) (inT k (hs (Sm (mb G b)) 100000) (hs (Sm (mb G b2)) 100000))) t = cb (cT k (uH k (hs (Sm (mb G b)) 100000) (hs (Sm (mb G b2)) 100000)) (inT k (hs (Sm (mb G b)) 100000) (hs (Sm (mb G b2)) 100000))) lo := cb_to ht1 ht5 cT_sub
                have e2 : cb (cT k (uH k (hs (Sm (mb G b)) 100000) (hs (Sm (mb G b2)) 100000)) (inT k (hs (Sm (mb G b)) 100000) (hs (Sm (mb G b2)) 100000))) lo + 0 = cb (cT k (uH k (hs (Sm (mb G b)) 100000) (hs (Sm (mb G b2)) 100000)) (inT k (hs (Sm (mb G b)) 100000) (hs (Sm (mb G b2)) 100000))) (t + 1) := by rw [cb_f (by unfold cT; rw [hT, Bool.and_false]), hce]; rfl
                rw [e1, e2] at hl
                exact ih_lp (t + 1) (by omega) (by omega) _ _ hP hD hS _ (lv_sub hl [3, 4, 5, 6, 7, 8, 1, 0] rfl)
              · exact absurd rfl c_13
            · refine lv_aload_n hx hb dX5_share_64 rfl (lv_at hl 0 rfl) ?_
              refine lv_aload_n hx hb dX5_share_65 rfl (lv_at hl 0 rfl) ?_
              refine va_get (D := D) (ci := 5) (v := .ref mB) (C := RX5) (T := TX5) (N := 14) hx hb hts (by decide +kernel) hown hE.1 hP 0 rfl rfl 9 (by decide) (hts (.fieldLink RX5 28 "DistinctDaleModel" "both" "[I") (by decide +kernel)) (fun _ h9 => h9) rfl dX5_share_66 ?_
              refine lv_iload hx hb dX5_share_69 (lv_at hl 7 rfl) ?_
              refine va_iald (D := D) hx hb hE.1 hP 5 0 rfl rfl (vp_in_nI (by omega) (by omega)) dX5_share_71 ?_
              refine lv_eqi (z := nI t) (by rw [nI_clamp (by omega)]; exact ht6) ?_
              refine xcRi (va_runV (As := [.int (nI t)]) (rest := []) ⟨hx, hb, hml, hown, hts⟩ (m_isOther l D cy t0 a5 mD mI mZ mK mO mB mR mF k th now (nI nl) (nI z1) (hs (Sm (mb G b2)) 100000) z2 t g2 hL2 (by omega) ht2) (cwV 1 hts gX5_share_X5_isOther rfl rfl rfl (by decide +kernel) ⟨Nat.le_of_ble_eq_true rfl, Nat.le_of_ble_eq_true rfl⟩) (xPr.giveV (wc := [(a5, .inr (5, [.int th, .int (nI k), .int now, .ref mD, .ref mI, .ref mZ, .int (nI nl), .ref mK, .ref mO, .ref mB, .ref mR, .ref mF, .int (nI z1), .int (nI z2)])), (mO, xI cy 32 g2)]) hE hS hP [0, 4] rfl 0 5 rfl rfl) rfl rfl hl.1 rfl (lv_room (Nat.le_of_ble_eq_true rfl)) dX5_share_72 ⟨(Nat.zero_le _), (Nat.zero_le _)⟩) (fun r_14 hr_15 => ?_)
              refine lv_eqi (z := xb ((kS k (hs (Sm (mb G b2)) 100000)) t)) hr_15 ?_
              refine xb_beq (tgt := 82) hx hb dX5_share_75 (by decide) (fun c_16 => ?_) (fun c_16 => ?_)
              · have hT : (inT k (hs (Sm (mb G b)) 100000) (hs (Sm (mb G b2)) 100000)) t = false := by unfold inT; rw [c_16, Bool.and_false]
                refine lv_iconst (v := nI 0) hx hb dX5_share_82 (by decide) ?_
                refine lv_goto (tgt := 105) hx hb dX5_share_83 (by decide) ?_
                refine lv_istore (lv' := [(9, .int (nI 0)), (0, .ref a5), (1, .int (nI b)), (2, .int (nI b2)), (3, .int (nI 1)), (4, .int (nI zB)), (5, .long (lN (estV k (uH k (hs (Sm (mb G b)) 100000) (hs (Sm (mb G b2)) 100000))))), (7, .int (nI (cb (cT k (uH k (hs (Sm (mb G b)) 100000) (hs (Sm (mb G b2)) 100000)) (inT k (hs (Sm (mb G b)) 100000) (hs (Sm (mb G b2)) 100000))) lo))), (8, .int (nI (cb (kS k (uH k (hs (Sm (mb G b)) 100000) (hs (Sm (mb G b2)) 100000))) lo)))]) hx hb dX5_share_105 hl (by decide) rfl (fun ls hl => ?_)
                refine lv_iload hx hb dX5_share_107 (lv_at hl 7 rfl) ?_
                refine lv_iload hx hb dX5_share_109 (lv_at hl 0 rfl) ?_
                refine xb_if_eq (tgt := 118) (a := 0) (by omega) hx hb dX5_share_111 (by decide) (fun c_17 => ?_) (fun c_17 => ?_)
                · refine lv_iconst (v := nI 0) hx hb dX5_share_118 (by decide) ?_
                  refine lv_iadd hx hb dX5_share_119 ?_
                  refine lv_eqi (z := nI (cb (cT k (uH k (hs (Sm (mb G b)) 100000) (hs (Sm (mb G b2)) 100000)) (inT k (hs (Sm (mb G b)) 100000) (hs (Sm (mb G b2)) 100000))) lo + 0)) (nI_add _ _) ?_
                  refine lv_istore (lv' := [(7, .int (nI (cb (cT k (uH k (hs (Sm (mb G b)) 100000) (hs (Sm (mb G b2)) 100000)) (inT k (hs (Sm (mb G b)) 100000) (hs (Sm (mb G b2)) 100000))) lo + 0))), (9, .int (nI 0)), (0, .ref a5), (1, .int (nI b)), (2, .int (nI b2)), (3, .int (nI 1)), (4, .int (nI zB)), (5, .long (lN (estV k (uH k (hs (Sm (mb G b)) 100000) (hs (Sm (mb G b2)) 100000))))), (8, .int (nI (cb (kS k (uH k (hs (Sm (mb G b)) 100000) (hs (Sm (mb G b2)) 100000))) lo)))]) hx hb dX5_share_120 hl (by decide) rfl (fun ls hl => ?_)
                  refine lv_iinc (v := nI (cb (kS k (uH k (hs (Sm (mb G b)) 100000) (hs (Sm (mb G b2)) 100000))) lo + 1)) (lv' := [(8, .int (nI (cb (kS k (uH k (hs (Sm (mb G b)) 100000) (hs (Sm (mb G b2)) 100000))) lo + 1))), (7, .int (nI (cb (cT k (uH k (hs (Sm (mb G b)) 100000) (hs (Sm (mb G b2)) 100000)) (inT k (hs (Sm (mb G b)) 100000) (hs (Sm (mb G b2)) 100000))) lo + 0))), (9, .int (nI 0)), (0, .ref a5), (1, .int (nI b)), (2, .int (nI b2)), (3, .int (nI 1)), (4, .int (nI zB)), (5, .long (lN (estV k (uH k (hs (Sm (mb G b)) 100000) (hs (Sm (mb G b2)) 100000)))))]) hx hb dX5_share_122 hl (k := 8) rfl (nI_add _ 1) (by decide) rfl (fun ls hl => ?_)
                  refine lv_goto (tgt := 38) hx hb dX5_share_125 (by decide) ?_
                  have e1 : cb (kS k (uH k (hs (Sm (mb G b)) 100000) (hs (Sm (mb G b2)) 100000))) lo + 1 = cb (kS k (uH k (hs (Sm (mb G b)) 100000) (hs (Sm (mb G b2)) 100000))) (t + 1) := by rw [cb_t ht3]; omega
                  have hce : cb (cT k (uH k (hs (Sm (mb G b)) 100000) (hs (Sm (mb G b2)) 100000)) (inT k (hs (Sm (mb G b)) 100000) (hs (Sm (mb G b2)) 100000))) t = cb (cT k (uH k (hs (Sm (mb G b)) 100000) (hs (Sm (mb G b2)) 100000)) (inT k (hs (Sm (mb G b)) 100000) (hs (Sm (mb G b2)) 100000))) lo := cb_to ht1 ht5 cT_sub
                  have e2 : cb (cT k (uH k (hs (Sm (mb G b)) 100000) (hs (Sm (mb G b2)) 100000)) (inT k (hs (Sm (mb G b)) 100000) (hs (Sm (mb G b2)) 100000))) lo + 0 = cb (cT k (uH k (hs (Sm (mb G b)) 100000) (hs (Sm (mb G b2)) 100000)) (inT k (hs (Sm (mb G b)) 100000) (hs (Sm (mb G b2)) 100000))) (t + 1) := by rw [cb_f (by unfold cT; rw [hT, Bool.and_false]), hce]; rfl
                  rw [e1, e2] at hl
                  exact ih_lp (t + 1) (by omega) (by omega) _ _ hP hD hS _ (lv_sub hl [3, 4, 5, 6, 7, 8, 1, 0] rfl)
                · exact absurd rfl c_17
              · have hT : (inT k (hs (Sm (mb G b)) 100000) (hs (Sm (mb G b2)) 100000)) t = true := by unfold inT; simp [c_12, c_16]
                refine lv_iconst (v := nI 1) hx hb dX5_share_78 (by decide) ?_
                refine lv_goto (tgt := 105) hx hb dX5_share_79 (by decide) ?_
                refine lv_istore (lv' := [(9, .int (nI 1)), (0, .ref a5), (1, .int (nI b)), (2, .int (nI b2)), (3, .int (nI 1)), (4, .int (nI zB)), (5, .long (lN (estV k (uH k (hs (Sm (mb G b)) 100000) (hs (Sm (mb G b2)) 100000))))), (7, .int (nI (cb (cT k (uH k (hs (Sm (mb G b)) 100000) (hs (Sm (mb G b2)) 100000)) (inT k (hs (Sm (mb G b)) 100000) (hs (Sm (mb G b2)) 100000))) lo))), (8, .int (nI (cb (kS k (uH k (hs (Sm (mb G b)) 100000) (hs (Sm (mb G b2)) 100000))) lo)))]) hx hb dX5_share_105 hl (by decide) rfl (fun ls hl => ?_)
                refine lv_iload hx hb dX5_share_107 (lv_at hl 7 rfl) ?_
                refine lv_iload hx hb dX5_share_109 (lv_at hl 0 rfl) ?_
                refine xb_if_eq (tgt := 118) (a := 1) (by omega) hx hb dX5_share_111 (by decide) (fun c_18 => ?_) (fun c_18 => ?_)
                · exact absurd c_18 (by decide)
                · refine lv_iconst (v := nI 1) hx hb dX5_share_114 (by decide) ?_
                  refine lv_goto (tgt := 119) hx hb dX5_share_115 (by decide) ?_
                  refine lv_iadd hx hb dX5_share_119 ?_
                  refine lv_eqi (z := nI (cb (cT k (uH k (hs (Sm (mb G b)) 100000) (hs (Sm (mb G b2)) 100000)) (inT k (hs (Sm (mb G b)) 100000) (hs (Sm (mb G b2)) 100000))) lo + 1)) (nI_add _ _) ?_
                  refine lv_istore (lv' := [(7, .int (nI (cb (cT k (uH k (hs (Sm (mb G b)) 100000) (hs (Sm (mb G b2)) 100000)) (inT k (hs (Sm (mb G b)) 100000) (hs (Sm (mb G b2)) 100000))) lo + 1))), (9, .int (nI 1)), (0, .ref a5), (1, .int (nI b)), (2, .int (nI b2)), (3, .int (nI 1)), (4, .int (nI zB)), (5, .long (lN (estV k (uH k (hs (Sm (mb G b)) 100000) (hs (Sm (mb G b2)) 100000))))), (8, .int (nI (cb (kS k (uH k (hs (Sm (mb G b)) 100000) (hs (Sm (mb G b2)) 100000))) lo)))]) hx hb dX5_share_120 hl (by decide) rfl (fun ls hl => ?_)
                  refine lv_iinc (v := nI (cb (kS k (uH k (hs (Sm (mb G b)) 100000) (hs (Sm (mb G b2)) 100000))) lo + 1)) (lv' := [(8, .int (nI (cb (kS k (uH k (hs (Sm (mb G b)) 100000) (hs (Sm (mb G b2)) 100000))) lo + 1))), (7, .int (nI (cb (cT k (uH k (hs (Sm (mb G b)) 100000) (hs (Sm (mb G b2)) 100000)) (inT k (hs (Sm (mb G b)) 100000) (hs (Sm (mb G b2)) 100000))) lo + 1))), (9, .int (nI 1)), (0, .ref a5), (1, .int (nI b)), (2, .int (nI b2)), (3, .int (nI 1)), (4, .int (nI zB)), (5, .long (lN (estV k (uH k (hs (Sm (mb G b)) 100000) (hs (Sm (mb G b2)) 100000)))))]) hx hb dX5_share_122 hl (k := 8) rfl (nI_add _ 1) (by decide) rfl (fun ls hl => ?_)
                  refine lv_goto (tgt := 38) hx hb dX5_share_125 (by decide) ?_
                  have e1 : cb (kS k (uH k (hs (Sm (mb G b)) 100000) (hs (Sm (mb G b2)) 100000))) lo + 1 = cb (kS k (uH k (hs (Sm (mb G b)) 100000) (hs (Sm (mb G b2)) 100000))) (t + 1) := by rw [cb_t ht3]; omega
                  have hce : cb (cT k (uH k (hs (Sm (mb G b)) 100000) (hs (Sm (mb G b2)) 100000)) (inT k (hs (Sm (mb G b)) 100000) (hs (Sm (mb G b2)) 100000))) t = cb (cT k (uH k (hs (Sm (mb G b)) 100000) (hs (Sm (mb G b2)) 100000)) (inT k (hs (Sm (mb G b)) 100000) (hs (Sm (mb G b2)) 100000))) lo := cb_to ht1 ht5 cT_sub
                  have e2 : cb (cT k (uH k (hs (Sm (mb G b)) 100000) (hs (Sm (mb G b2)) 100000)) (inT k (hs (Sm (mb G b)) 100000) (hs (Sm (mb G b2)) 100000))) lo + 1 = cb (cT k (uH k (hs (Sm (mb G b)) 100000) (hs (Sm (mb G b2)) 100000)) (inT k (hs (Sm (mb G b)) 100000) (hs (Sm (mb G b2)) 100000))) (t + 1) := by rw [cb_t (by unfold cT; rw [ht3, hT]; rfl), hce]
                  rw [e1, e2] at hl
                  exact ih_lp (t + 1) (by omega) (by omega) _ _ hP hD hS _ (lv_sub hl [3, 4, 5, 6, 7, 8, 1, 0] rfl)
    exact lp (zB + 1) 0 (Nat.zero_le _) (by omega) _ _ hP hD hS _ (lv_sub hl [4, 5, 6, 7, 3, 2, 1, 0] rfl)
  · refine lv_iconst (v := nI 0) hx hb dX5_share_13 (by decide) ?_
    exact kret _ (z1, g1, z2, g2, zB, gB) _ _ _ _ _ _ dX5_share_14 (by rw [partV_z hLU (by omega)]) hP hD hS (Nat.le_of_ble_eq_true rfl) (Nat.le_of_ble_eq_true rfl)
set_option maxHeartbeats 4000000 in
set_option maxRecDepth 100000 in
theorem m_share2 (l : Launch) (D : va_G) (cy : Nat → ClassId) (t0 : Nat) (a5 mD mI mZ mK mO mB mR mF k : Nat) (th now kM oM : Int32) (nl : Nat) (b b2 : Nat) (fK fO fB : Nat → Int32) (G It Zt : Nat → Int32) (lst : Nat → Nat) (hML : ML lst nl It Zt) (hCV : CV G lst nl) (hb6 : b < 6) (hb62 : b2 < 6) (hk2 : 2 ≤ k) (hk : k ≤ 32) : xWi (S := Nat × (Nat → Int32) × Nat × (Nat → Int32) × Nat × (Nat → Int32)) l yX5_share wsX5_share ({ frames := 4, cells := 0, slots := 0, locals := 98 } : Room) D cy t0 ([.ref a5, .int (nI b), .int (nI b2), .int (nI 2)]) ([(a5, .inr (5, [.int th, .int (nI k), .int now, .ref mD, .ref mI, .ref mZ, .int (nI nl), .ref mK, .ref mO, .ref mB, .ref mR, .ref mF, .int kM, .int oM])), (mD, xI cy 600000 G), (mI, xI cy 100000 It), (mK, xI cy 32 fK), (mO, xI cy 32 fO), (mB, xI cy 32 fB)]) (fun r u => r = nI (partV k (uH k (hs (Sm (mb G b)) 100000) (hs (Sm (mb G b2)) 100000)) (cntV k (uH k (hs (Sm (mb G b)) 100000) (hs (Sm (mb G b2)) 100000)) (noT k (hs (Sm (mb G b2)) 100000))))) (fun u => [(a5, .inr (5, [.int th, .int (nI k), .int now, .ref mD, .ref mI, .ref mZ, .int (nI nl), .ref mK, .ref mO, .ref mB, .ref mR, .ref mF, .int (nI u.1), .int (nI u.2.2.1)])), (mD, xI cy 600000 G), (mI, xI cy 100000 It), (mK, xI cy 32 u.2.1), (mO, xI cy 32 u.2.2.2.1), (mB, xI cy 32 u.2.2.2.2.2)]) 0 0 := by
  refine xofWi (cc := cX5_share) (maxL := 10) (by decide) rfl (Nat.le_of_ble_eq_true rfl) (fun _ _ _ => rfl) ?_
  intro p e s m below meth c Q A ls hx hb hml hts hown hE hA H locs hP hD hl hS kret
  have hl : lv_has ls 10 [(0, .ref a5), (1, .int (nI b)), (2, .int (nI b2)), (3, .int (nI 2))] := hl
  have hev := estV_le (Hs := (uH k (hs (Sm (mb G b)) 100000) (hs (Sm (mb G b2)) 100000))) hk
  refine lv_aload_n hx hb dX5_share_0 rfl (lv_at hl 0 rfl) ?_
  refine lv_iload_n hx hb dX5_share_1 rfl (lv_at hl 1 rfl) ?_
  refine lv_iload_n hx hb dX5_share_2 rfl (lv_at hl 2 rfl) ?_
  refine xcWi (wr := []) (va_runV (As := [.int (nI b), .int (nI b2)]) (rest := []) ⟨hx, hb, hml, hown, hts⟩ ((m_layBoth l D cy t0 a5 mD mI mZ mK mO mB mR mF k th now kM oM nl b b2 fK fO fB G It Zt lst hML hCV hb6 hb62 hk2 hk) H.size) (cwV 2 hts gX5_share_X5_layBoth rfl rfl rfl (by decide +kernel) ⟨Nat.le_of_ble_eq_true rfl, Nat.le_of_ble_eq_true rfl⟩) (xPw.giveV (wc := [(a5, .inr (5, [.int th, .int (nI k), .int now, .ref mD, .ref mI, .ref mZ, .int (nI nl), .ref mK, .ref mO, .ref mB, .ref mR, .ref mF, .int kM, .int oM])), (mD, xI cy 600000 G), (mI, xI cy 100000 It), (mK, xI cy 32 fK), (mO, xI cy 32 fO), (mB, xI cy 32 fB)]) hE hS hA hP hD [0, 1, 2, 3, 4, 5] (by decide) rfl 0 5 rfl rfl) rfl rfl hl.1 rfl (lv_room (Nat.le_of_ble_eq_true rfl)) dX5_share_3 ⟨(Nat.zero_le _), (Nat.zero_le _)⟩) hP hD hS hA [0, 1, 2, 3, 4, 5] [] rfl rfl (by decide) (by decide) (fun r_1 u_3 H locs hr_2 hP hD hS => ?_)
  obtain ⟨z1, g1, z2, g2, zB, gB⟩ := u_3
  obtain rfl : r_1 = nI zB := hr_2.1
  have hL1 : LH k (hs (Sm (mb G b)) 100000) z1 g1 := hr_2.2.1
  have hL2 : LH k (hs (Sm (mb G b2)) 100000) z2 g2 := hr_2.2.2.1
  have hLU : LH k (uH k (hs (Sm (mb G b)) 100000) (hs (Sm (mb G b2)) 100000)) zB gB := hr_2.2.2.2
  have hz1 := hL1.1
  have hz2 := hL2.1
  have hzU := hLU.1
  have hP := hP.sub (ws' := [(a5, .inr (5, [.int th, .int (nI k), .int now, .ref mD, .ref mI, .ref mZ, .int (nI nl), .ref mK, .ref mO, .ref mB, .ref mR, .ref mF, .int (nI z1), .int (nI z2)])), (mD, xI cy 600000 G), (mI, xI cy 100000 It), (mK, xI cy 32 g1), (mO, xI cy 32 g2), (mB, xI cy 32 gB)]) [0, 1, 2, 3, 4, 5] rfl
  have hD := hD.sub (ws' := [(a5, .inr (5, [.int th, .int (nI k), .int now, .ref mD, .ref mI, .ref mZ, .int (nI nl), .ref mK, .ref mO, .ref mB, .ref mR, .ref mF, .int (nI z1), .int (nI z2)])), (mD, xI cy 600000 G), (mI, xI cy 100000 It), (mK, xI cy 32 g1), (mO, xI cy 32 g2), (mB, xI cy 32 gB)]) [0, 1, 2, 3, 4, 5] (by decide) rfl
  refine lv_istore (lv' := [(4, .int (nI zB)), (0, .ref a5), (1, .int (nI b)), (2, .int (nI b2)), (3, .int (nI 2))]) hx hb dX5_share_6 hl (by decide) rfl (fun ls hl => ?_)
  refine lv_iload hx hb dX5_share_8 (lv_at hl 0 rfl) ?_
  refine xb_if_ne (tgt := 15) (a := zB) (by omega) hx hb dX5_share_10 (by decide) (fun c_4 => ?_) (fun c_4 => ?_)
  · obtain ⟨t0b, hs1, hs2, hs3, hs4⟩ := hLU.at (j := zB - 1) (by omega)
    refine lv_aload_n hx hb dX5_share_15 rfl (lv_at hl 1 rfl) ?_
    refine lv_iload hx hb dX5_share_16 (lv_at hl 0 rfl) ?_
    refine lv_aload_n hx hb dX5_share_18 rfl (lv_at hl 1 rfl) ?_
    refine va_get (D := D) (ci := 5) (v := .ref mB) (C := RX5) (T := TX5) (N := 14) hx hb hts (by decide +kernel) hown hE.1 hP 0 rfl rfl 9 (by decide) (hts (.fieldLink RX5 28 "DistinctDaleModel" "both" "[I") (by decide +kernel)) (fun _ h9 => h9) rfl dX5_share_19 ?_
    refine lv_iload hx hb dX5_share_22 (lv_at hl 0 rfl) ?_
    refine lv_iconst (v := nI 1) hx hb dX5_share_24 (by decide) ?_
    refine lv_isub hx hb dX5_share_25 ?_
    refine lv_eqi (z := nI (zB - 1)) (pk_sub (by omega)) ?_
    refine va_iald (D := D) hx hb hE.1 hP 5 0 rfl rfl (vp_in_nI (by omega) (by omega)) dX5_share_26 ?_
    refine lv_eqi (z := nI t0b) (by rw [nI_clamp (by omega)]; exact hs4) ?_
    refine xcRl (va_runV (As := [.int (nI zB), .int (nI t0b)]) (rest := []) ⟨hx, hb, hml, hown, hts⟩ (m_est l D cy t0 a5 mD mI mZ mK mO mB mR mF k th now (nI nl) (nI z1) (nI z2) zB t0b hk2 hk (by omega) (fun q => by have := cb_le (P := (uH k (hs (Sm (mb G b)) 100000) (hs (Sm (mb G b2)) 100000))) (n := t0b); omega) (by omega)) (cwV 2 hts gX5_share_X5_estimate rfl rfl rfl (by decide +kernel) ⟨Nat.le_of_ble_eq_true rfl, Nat.le_of_ble_eq_true rfl⟩) (xPr.giveV (wc := [(a5, .inr (5, [.int th, .int (nI k), .int now, .ref mD, .ref mI, .ref mZ, .int (nI nl), .ref mK, .ref mO, .ref mB, .ref mR, .ref mF, .int (nI z1), .int (nI z2)]))]) hE hS hP [0] rfl 0 5 rfl rfl) rfl rfl hl.1 rfl (lv_room (Nat.le_of_ble_eq_true rfl)) dX5_share_27 ⟨(Nat.zero_le _), (Nat.zero_le _)⟩) (fun r_5 hr_6 => ?_)
    refine lv_eql (z := lN (estV k (uH k (hs (Sm (mb G b)) 100000) (hs (Sm (mb G b2)) 100000)))) (hr_6.trans (congrArg lN (est_eq hLU (by omega) hs1 hs2 hs3))) ?_
    refine lv_lstore (lv' := [(5, .long (lN (estV k (uH k (hs (Sm (mb G b)) 100000) (hs (Sm (mb G b2)) 100000))))), (4, .int (nI zB)), (0, .ref a5), (1, .int (nI b)), (2, .int (nI b2)), (3, .int (nI 2))]) hx hb dX5_share_30 hl (by decide) rfl (fun ls hl => ?_)
    refine lv_iconst (v := nI 0) hx hb dX5_share_32 (by decide) ?_
    refine lv_istore (lv' := [(7, .int (nI 0)), (5, .long (lN (estV k (uH k (hs (Sm (mb G b)) 100000) (hs (Sm (mb G b2)) 100000))))), (4, .int (nI zB)), (0, .ref a5), (1, .int (nI b)), (2, .int (nI b2)), (3, .int (nI 2))]) hx hb dX5_share_33 hl (by decide) rfl (fun ls hl => ?_)
    refine lv_iconst (v := nI 0) hx hb dX5_share_35 (by decide) ?_
    refine lv_istore (lv' := [(8, .int (nI 0)), (7, .int (nI 0)), (5, .long (lN (estV k (uH k (hs (Sm (mb G b)) 100000) (hs (Sm (mb G b2)) 100000))))), (4, .int (nI zB)), (0, .ref a5), (1, .int (nI b)), (2, .int (nI b2)), (3, .int (nI 2))]) hx hb dX5_share_36 hl (by decide) rfl (fun ls hl => ?_)
    have lp : ∀ (n9 : Nat), ∀ (lo : Nat), (hlo : lo ≤ 16777213) → zB - cb (kS k (uH k (hs (Sm (mb G b)) 100000) (hs (Sm (mb G b2)) 100000))) lo < n9 → ∀ (H : Heap) (locs : List Loc), xP D [(a5, .inr (5, [.int th, .int (nI k), .int now, .ref mD, .ref mI, .ref mZ, .int (nI nl), .ref mK, .ref mO, .ref mB, .ref mR, .ref mF, .int (nI z1), .int (nI z2)])), (mD, xI cy 600000 G), (mI, xI cy 100000 It), (mK, xI cy 32 g1), (mO, xI cy 32 g2), (mB, xI cy 32 gB)] H → va_D A [(a5, .inr (5, [.int th, .int (nI k), .int now, .ref mD, .ref mI, .ref mZ, .int (nI nl), .ref mK, .ref mO, .ref mB, .ref mR, .ref mF, .int (nI z1), .int (nI z2)])), (mD, xI cy 600000 G), (mI, xI cy 100000 It), (mK, xI cy 32 g1), (mO, xI cy 32 g2), (mB, xI cy 32 gB)] → va_S A s.heap H locs → ∀ (ls : Array Slot), lv_has ls 10 [(0, .ref a5), (1, .int (nI b)), (2, .int (nI b2)), (3, .int (nI 2)), (4, .int (nI zB)), (5, .long (lN (estV k (uH k (hs (Sm (mb G b)) 100000) (hs (Sm (mb G b2)) 100000))))), (7, .int (nI (cb (cT k (uH k (hs (Sm (mb G b)) 100000) (hs (Sm (mb G b2)) 100000)) (noT k (hs (Sm (mb G b2)) 100000))) lo))), (8, .int (nI (cb (kS k (uH k (hs (Sm (mb G b)) 100000) (hs (Sm (mb G b2)) 100000))) lo)))] → W p l e ({ frames := 4, cells := 0, slots := 0, locals := 98 } : Room) s m [.ref a5, .int (nI b), .int (nI b2), .int (nI 2)].toArray below meth c H locs 0 0 Q (F0 m 38 ls []) := by
      intro n9
      induction n9 with
      | zero => intro lo hlo hm; exact absurd hm (Nat.not_lt_zero _)
      | succ n9 ih_lp =>
        intro lo hlo hm H locs hP hD hS ls hl
        have hcl := hLU.bnd hlo
        have hcl2 : cb (cT k (uH k (hs (Sm (mb G b)) 100000) (hs (Sm (mb G b2)) 100000)) (noT k (hs (Sm (mb G b2)) 100000))) lo ≤ cb (kS k (uH k (hs (Sm (mb G b)) 100000) (hs (Sm (mb G b2)) 100000))) lo := cb_sub (fun x _ h => cT_sub x h)
        refine lv_iload hx hb dX5_share_38 (lv_at hl 7 rfl) ?_
        refine lv_iload hx hb dX5_share_40 (lv_at hl 4 rfl) ?_
        refine xb_icmp_ge (tgt := 128) (a := cb (kS k (uH k (hs (Sm (mb G b)) 100000) (hs (Sm (mb G b2)) 100000))) lo) (b := zB) (by omega) (by omega) hx hb dX5_share_42 (by decide) (fun c_7 => ?_) (fun c_7 => ?_)
        · have hcn : cb (cT k (uH k (hs (Sm (mb G b)) 100000) (hs (Sm (mb G b2)) 100000)) (noT k (hs (Sm (mb G b2)) 100000))) lo = cntV k (uH k (hs (Sm (mb G b)) 100000) (hs (Sm (mb G b2)) 100000)) (noT k (hs (Sm (mb G b2)) 100000)) := (cb_stop hlo (cb_mono_of (hLU.cnt (by omega) hlo) hlo) cT_sub).symm
          have hc32 : cntV k (uH k (hs (Sm (mb G b)) 100000) (hs (Sm (mb G b2)) 100000)) (noT k (hs (Sm (mb G b2)) 100000)) ≤ 32 := by omega
          have hmul : estV k (uH k (hs (Sm (mb G b)) 100000) (hs (Sm (mb G b2)) 100000)) * cntV k (uH k (hs (Sm (mb G b)) 100000) (hs (Sm (mb G b2)) 100000)) (noT k (hs (Sm (mb G b2)) 100000)) ≤ estV k (uH k (hs (Sm (mb G b)) 100000) (hs (Sm (mb G b2)) 100000)) * 32 := Nat.mul_le_mul (Nat.le_refl _) hc32
          rw [hcn] at hl
          refine lv_iload_n hx hb dX5_share_128 rfl (lv_at hl 3 rfl) ?_
          refine xb_if_ne (tgt := 137) (a := 2) (by omega) hx hb dX5_share_129 (by decide) (fun c_8 => ?_) (fun c_8 => ?_)
          · refine lv_lload hx hb dX5_share_137 (lv_at hl 5 rfl) ?_
            refine lv_iload hx hb dX5_share_139 (lv_at hl 6 rfl) ?_
            refine lv_i2l (v := lN (cntV k (uH k (hs (Sm (mb G b)) 100000) (hs (Sm (mb G b2)) 100000)) (noT k (hs (Sm (mb G b2)) 100000)))) hx hb dX5_share_141 (nI_l (by omega)) ?_
            refine lv_lmul hx hb dX5_share_142 ?_
            refine lv_eql (z := lN ((estV k (uH k (hs (Sm (mb G b)) 100000) (hs (Sm (mb G b2)) 100000))) * (cntV k (uH k (hs (Sm (mb G b)) 100000) (hs (Sm (mb G b2)) 100000)) (noT k (hs (Sm (mb G b2)) 100000))))) (lN_mul _ _) ?_
            refine lv_iload hx hb dX5_share_143 (lv_at hl 4 rfl) ?_
            refine lv_i2l (v := lN zB) hx hb dX5_share_145 (nI_l (by omega)) ?_
            refine lv_ldiv hx hb dX5_share_146 (fun q => by have := (pk_lEQ (a := zB) (b := 0) (by omega) (by omega)).mp q; omega) ?_
            refine lv_eql (z := lN (estV k (uH k (hs (Sm (mb G b)) 100000) (hs (Sm (mb G b2)) 100000)) * cntV k (uH k (hs (Sm (mb G b)) 100000) (hs (Sm (mb G b2)) 100000)) (noT k (hs (Sm (mb G b2)) 100000)) / zB)) (pk_lDiv (by omega) (by omega) (by omega)) ?_
            refine lv_l2i (v := nI (estV k (uH k (hs (Sm (mb G b)) 100000) (hs (Sm (mb G b2)) 100000)) * cntV k (uH k (hs (Sm (mb G b)) 100000) (hs (Sm (mb G b2)) 100000)) (noT k (hs (Sm (mb G b2)) 100000)) / zB)) hx hb dX5_share_147 (lN_i _) ?_
            exact kret _ (z1, g1, z2, g2, zB, gB) _ _ _ _ _ _ dX5_share_148 (by unfold partV; rw [← hzU]) hP hD hS (Nat.le_of_ble_eq_true rfl) (Nat.le_of_ble_eq_true rfl)
          · exact absurd c_8 (by decide)
        · obtain ⟨t, ht1, ht2, ht3, ht4, ht5, ht6⟩ := hLU.next hlo (by omega)
          refine lv_iload_n hx hb dX5_share_45 rfl (lv_at hl 3 rfl) ?_
          refine lv_iconst (v := nI 1) hx hb dX5_share_46 (by decide) ?_
          refine xb_icmp_ne (tgt := 86) (a := 2) (b := 1) (by omega) (by omega) hx hb dX5_share_47 (by decide) (fun c_9 => ?_) (fun c_9 => ?_)
          · refine lv_aload_n hx hb dX5_share_86 rfl (lv_at hl 0 rfl) ?_
            refine lv_aload_n hx hb dX5_share_87 rfl (lv_at hl 0 rfl) ?_
            refine va_get (D := D) (ci := 5) (v := .ref mB) (C := RX5) (T := TX5) (N := 14) hx hb hts (by decide +kernel) hown hE.1 hP 0 rfl rfl 9 (by decide) (hts (.fieldLink RX5 28 "DistinctDaleModel" "both" "[I") (by decide +kernel)) (fun _ h9 => h9) rfl dX5_share_88 ?_
            refine lv_iload hx hb dX5_share_91 (lv_at hl 7 rfl) ?_
            refine va_iald (D := D) hx hb hE.1 hP 5 0 rfl rfl (vp_in_nI (by omega) (by omega)) dX5_share_93 ?_
            refine lv_eqi (z := nI t) (by rw [nI_clamp (by omega)]; exact ht6) ?_
            refine xcRi (va_runV (As := [.int (nI t)]) (rest := []) ⟨hx, hb, hml, hown, hts⟩ (m_isOther l D cy t0 a5 mD mI mZ mK mO mB mR mF k th now (nI nl) (nI z1) (hs (Sm (mb G b2)) 100000) z2 t g2 hL2 (by omega) ht2) (cwV 1 hts gX5_share_X5_isOther rfl rfl rfl (by decide +kernel) ⟨Nat.le_of_ble_eq_true rfl, Nat.le_of_ble_eq_true rfl⟩) (xPr.giveV (wc := [(a5, .inr (5, [.int th, .int (nI k), .int now, .ref mD, .ref mI, .ref mZ, .int (nI nl), .ref mK, .ref mO, .ref mB, .ref mR, .ref mF, .int (nI z1), .int (nI z2)])), (mO, xI cy 32 g2)]) hE hS hP [0, 4] rfl 0 5 rfl rfl) rfl rfl hl.1 rfl (lv_room (Nat.le_of_ble_eq_true rfl)) dX5_share_94 ⟨(Nat.zero_le _), (Nat.zero_le _)⟩) (fun r_10 hr_11 => ?_)
            refine lv_eqi (z := xb ((kS k (hs (Sm (mb G b2)) 100000)) t)) hr_11 ?_
            refine xb_bne (tgt := 104) hx hb dX5_share_97 (by decide) (fun c_12 => ?_) (fun c_12 => ?_)
            · have hT : (noT k (hs (Sm (mb G b2)) 100000)) t = false := by unfold noT; rw [c_12]; rfl
              refine lv_iconst (v := nI 0) hx hb dX5_share_104 (by decide) ?_
              refine lv_istore (lv' := [(9, .int (nI 0)), (0, .ref a5), (1, .int (nI b)), (2, .int (nI b2)), (3, .int (nI 2)), (4, .int (nI zB)), (5, .long (lN (estV k (uH k (hs (Sm (mb G b)) 100000) (hs (Sm (mb G b2)) 100000))))), (7, .int (nI (cb (cT k (uH k (hs (Sm (mb G b)) 100000) (hs (Sm (mb G b2)) 100000)) (noT k (hs (Sm (mb G b2)) 100000))) lo))), (8, .int (nI (cb (kS k (uH k (hs (Sm (mb G b)) 100000) (hs (Sm (mb G b2)) 100000))) lo)))]) hx hb dX5_share_105 hl (by decide) rfl (fun ls hl => ?_)
              refine lv_iload hx hb dX5_share_107 (lv_at hl 7 rfl) ?_
              refine lv_iload hx hb dX5_share_109 (lv_at hl 0 rfl) ?_
              refine xb_if_eq (tgt := 118) (a := 0) (by omega) hx hb dX5_share_111 (by decide) (fun c_13 => ?_) (fun c_13 => ?_)
              · refine lv_iconst (v := nI 0) hx hb dX5_share_118 (by decide) ?_
                refine lv_iadd hx hb dX5_share_119 ?_
                refine lv_eqi (z := nI (cb (cT k (uH k (hs (Sm (mb G b)) 100000) (hs (Sm (mb G b2)) 100000)) (noT k (hs (Sm (mb G b2)) 100000))) lo + 0)) (nI_add _ _) ?_
                refine lv_istore (lv' := [(7, .int (nI (cb (cT k (uH k (hs (Sm (mb G b)) 100000) (hs (Sm (mb G b2)) 100000)) (noT k (hs (Sm (mb G b2)) 100000))) lo + 0))), (9, .int (nI 0)), (0, .ref a5), (1, .int (nI b)), (2, .int (nI b2)), (3, .int (nI 2)), (4, .int (nI zB)), (5, .long (lN (estV k (uH k (hs (Sm (mb G b)) 100000) (hs (Sm (mb G b2)) 100000))))), (8, .int (nI (cb (kS k (uH k (hs (Sm (mb G b)) 100000) (hs (Sm (mb G b2)) 100000))) lo)))]) hx hb dX5_share_120 hl (by decide) rfl (fun ls hl => ?_)
                refine lv_iinc (v := nI (cb (kS k (uH k (hs (Sm (mb G b)) 100000) (hs (Sm (mb G b2)) 100000))) lo + 1)) (lv' := [(8, .int (nI (cb (kS k (uH k (hs (Sm (mb G b)) 100000) (hs (Sm (mb G b2)) 100000))) lo + 1))), (7, .int (nI (cb (cT k (uH k (hs (Sm (mb G b)) 100000) (hs (Sm (mb G b2)) 100000)) (noT k (hs (Sm (mb G b2)) 100000))) lo + 0))), (9, .int (nI 0)), (0, .ref a5), (1, .int (nI b)), (2, .int (nI b2)), (3, .int (nI 2)), (4, .int (nI zB)), (5, .long (lN (estV k (uH k (hs (Sm (mb G b)) 100000) (hs (Sm (mb G b2)) 100000)))))]) hx hb dX5_share_122 hl (k := 8) rfl (nI_add _ 1) (by decide) rfl (fun ls hl => ?_)
                refine lv_goto (tgt := 38) hx hb dX5_share_125 (by decide) ?_
                have e1 : cb (kS k (uH k (hs (Sm (mb G b)) 100000) (hs (Sm (mb G b2)) 100000))) lo + 1 = cb (kS k (uH k (hs (Sm (mb G b)) 100000) (hs (Sm (mb G b2)) 100000))) (t + 1) := by rw [cb_t ht3]; omega
                have hce : cb (cT k (uH k (hs (Sm (mb G b)) 100000) (hs (Sm (mb G b2)) 100000)) (noT k (hs (Sm (mb G b2)) 100000))) t = cb (cT k (uH k (hs (Sm (mb G b)) 100000) (hs (Sm (mb G b2)) 100000)) (noT k (hs (Sm (mb G b2)) 100000))) lo := cb_to ht1 ht5 cT_sub
                have e2 : cb (cT k (uH k (hs (Sm (mb G b)) 100000) (hs (Sm (mb G b2)) 100000)) (noT k (hs (Sm (mb G b2)) 100000))) lo + 0 = cb (cT k (uH k (hs (Sm (mb G b)) 100000) (hs (Sm (mb G b2)) 100000)) (noT k (hs (Sm (mb G b2)) 100000))) (t + 1) := by rw [cb_f (by unfold cT; rw [hT, Bool.and_false]), hce]; rfl
                rw [e1, e2] at hl
                exact ih_lp (t + 1) (by omega) (by omega) _ _ hP hD hS _ (lv_sub hl [3, 4, 5, 6, 7, 8, 1, 0] rfl)
              · exact absurd rfl c_13
            · have hT : (noT k (hs (Sm (mb G b2)) 100000)) t = true := by unfold noT; rw [c_12]; rfl
              refine lv_iconst (v := nI 1) hx hb dX5_share_100 (by decide) ?_
              refine lv_goto (tgt := 105) hx hb dX5_share_101 (by decide) ?_
              refine lv_istore (lv' := [(9, .int (nI 1)), (0, .ref a5), (1, .int (nI b)), (2, .int (nI b2)), (3, .int (nI 2)), (4, .int (nI zB)), (5, .long (lN (estV k (uH k (hs (Sm (mb G b)) 100000) (hs (Sm (mb G b2)) 100000))))), (7, .int (nI (cb (cT k (uH k (hs (Sm (mb G b)) 100000) (hs (Sm (mb G b2)) 100000)) (noT k (hs (Sm (mb G b2)) 100000))) lo))), (8, .int (nI (cb (kS k (uH k (hs (Sm (mb G b)) 100000) (hs (Sm (mb G b2)) 100000))) lo)))]) hx hb dX5_share_105 hl (by decide) rfl (fun ls hl => ?_)
              refine lv_iload hx hb dX5_share_107 (lv_at hl 7 rfl) ?_
              refine lv_iload hx hb dX5_share_109 (lv_at hl 0 rfl) ?_
              refine xb_if_eq (tgt := 118) (a := 1) (by omega) hx hb dX5_share_111 (by decide) (fun c_14 => ?_) (fun c_14 => ?_)
              · exact absurd c_14 (by decide)
              · refine lv_iconst (v := nI 1) hx hb dX5_share_114 (by decide) ?_
                refine lv_goto (tgt := 119) hx hb dX5_share_115 (by decide) ?_
                refine lv_iadd hx hb dX5_share_119 ?_
                refine lv_eqi (z := nI (cb (cT k (uH k (hs (Sm (mb G b)) 100000) (hs (Sm (mb G b2)) 100000)) (noT k (hs (Sm (mb G b2)) 100000))) lo + 1)) (nI_add _ _) ?_
                refine lv_istore (lv' := [(7, .int (nI (cb (cT k (uH k (hs (Sm (mb G b)) 100000) (hs (Sm (mb G b2)) 100000)) (noT k (hs (Sm (mb G b2)) 100000))) lo + 1))), (9, .int (nI 1)), (0, .ref a5), (1, .int (nI b)), (2, .int (nI b2)), (3, .int (nI 2)), (4, .int (nI zB)), (5, .long (lN (estV k (uH k (hs (Sm (mb G b)) 100000) (hs (Sm (mb G b2)) 100000))))), (8, .int (nI (cb (kS k (uH k (hs (Sm (mb G b)) 100000) (hs (Sm (mb G b2)) 100000))) lo)))]) hx hb dX5_share_120 hl (by decide) rfl (fun ls hl => ?_)
                refine lv_iinc (v := nI (cb (kS k (uH k (hs (Sm (mb G b)) 100000) (hs (Sm (mb G b2)) 100000))) lo + 1)) (lv' := [(8, .int (nI (cb (kS k (uH k (hs (Sm (mb G b)) 100000) (hs (Sm (mb G b2)) 100000))) lo + 1))), (7, .int (nI (cb (cT k (uH k (hs (Sm (mb G b)) 100000) (hs (Sm (mb G b2)) 100000)) (noT k (hs (Sm (mb G b2)) 100000))) lo + 1))), (9, .int (nI 1)), (0, .ref a5), (1, .int (nI b)), (2, .int (nI b2)), (3, .int (nI 2)), (4, .int (nI zB)), (5, .long (lN (estV k (uH k (hs (Sm (mb G b)) 100000) (hs (Sm (mb G b2)) 100000)))))]) hx hb dX5_share_122 hl (k := 8) rfl (nI_add _ 1) (by decide) rfl (fun ls hl => ?_)
                refine lv_goto (tgt := 38) hx hb dX5_share_125 (by decide) ?_
                have e1 : cb (kS k (uH k (hs (Sm (mb G b)) 100000) (hs (Sm (mb G b2)) 100000))) lo + 1 = cb (kS k (uH k (hs (Sm (mb G b)) 100000) (hs (Sm (mb G b2)) 100000))) (t + 1) := by rw [cb_t ht3]; omega
                have hce : cb (cT k (uH k (hs (Sm (mb G b)) 100000) (hs (Sm (mb G b2)) 100000)) (noT k (hs (Sm (mb G b2)) 100000))) t = cb (cT k (uH k (hs (Sm (mb G b)) 100000) (hs (Sm (mb G b2)) 100000)) (noT k (hs (Sm (mb G b2)) 100000))) lo := cb_to ht1 ht5 cT_sub
                have e2 : cb (cT k (uH k (hs (Sm (mb G b)) 100000) (hs (Sm (mb G b2)) 100000)) (noT k (hs (Sm (mb G b2)) 100000))) lo + 1 = cb (cT k (uH k (hs (Sm (mb G b)) 100000) (hs (Sm (mb G b2)) 100000)) (noT k (hs (Sm (mb G b2)) 100000))) (t + 1) := by rw [cb_t (by unfold cT; rw [ht3, hT]; rfl), hce]
                rw [e1, e2] at hl
                exact ih_lp (t + 1) (by omega) (by omega) _ _ hP hD hS _ (lv_sub hl [3, 4, 5, 6, 7, 8, 1, 0] rfl)
          · exact absurd c_9 (by decide)
    exact lp (zB + 1) 0 (Nat.zero_le _) (by omega) _ _ hP hD hS _ (lv_sub hl [4, 5, 6, 7, 3, 2, 1, 0] rfl)
  · refine lv_iconst (v := nI 0) hx hb dX5_share_13 (by decide) ?_
    exact kret _ (z1, g1, z2, g2, zB, gB) _ _ _ _ _ _ dX5_share_14 (by rw [partV_z hLU (by omega)]) hP hD hS (Nat.le_of_ble_eq_true rfl) (Nat.le_of_ble_eq_true rfl)
end XX5D
