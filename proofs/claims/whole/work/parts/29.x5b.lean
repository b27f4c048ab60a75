section XX5B
set_option maxHeartbeats 4000000 in
set_option maxRecDepth 100000 in
theorem m_above (l : Launch) (D : va_G) (cy : Nat → ClassId) (t0 : Nat) (a5 mD mI mZ mK mO mB mR mF k : Nat) (th now kM oM : Int32) (nl : Nat) (b lo : Nat) (hv : Int32) (G It Zt : Nat → Int32) (lst : Nat → Nat) (hML : ML lst nl It Zt) (hCV : CV G lst nl) (hb6 : b < 6) (hlo : ∀ t, t < 16777213 → (hv < nI t ↔ lo ≤ t)) : xRi l yX5_above wsX5_above ({ frames := 1, cells := 0, slots := 0, locals := 22 } : Room) D cy t0 ([.ref a5, .int (nI b), .int hv]) ([(a5, .inr (5, [.int th, .int (nI k), .int now, .ref mD, .ref mI, .ref mZ, .int (nI nl), .ref mK, .ref mO, .ref mB, .ref mR, .ref mF, .int kM, .int oM])), (mD, xI cy 600000 G), (mI, xI cy 100000 It)]) (fun r => FD r lo (hs (Sm (mb G b)) 100000)) := by
  refine xofRi (cc := cX5_above) (maxL := 7) (by decide) rfl (Nat.le_of_ble_eq_true rfl) (fun _ _ => rfl) ?_
  intro p e s m below meth c Q ls hx hb hml hts hown hE hP hl hS kret
  have hl : lv_has ls 7 [(0, .ref a5), (1, .int (nI b)), (2, .int hv)] := hl
  have hnle := hML.le
  refine lv_iconst (v := (-1)) hx hb dX5_above_0 (by decide) ?_
  refine lv_istore_n (lv' := [(3, .int (-1)), (0, .ref a5), (1, .int (nI b)), (2, .int hv)]) hx hb dX5_above_1 rfl hl (by decide) rfl (fun ls hl => ?_)
  refine lv_iconst (v := nI 0) hx hb dX5_above_2 (by decide) ?_
  refine lv_istore (lv' := [(4, .int (nI 0)), (3, .int (-1)), (0, .ref a5), (1, .int (nI b)), (2, .int hv)]) hx hb dX5_above_3 hl (by decide) rfl (fun ls hl => ?_)
  have lp : ∀ (n9 : Nat), ∀ (j : Nat) (f9 : Int32), (hj : j ≤ nl) → (hF : FD f9 lo ((hlS lst (Sm (mb G b))) j)) → nl - j < n9 → ∀ (ls : Array Slot), lv_has ls 7 [(0, .ref a5), (1, .int (nI b)), (2, .int hv), (3, .int f9), (4, .int (nI j))] → W p l e ({ frames := 1, cells := 0, slots := 0, locals := 22 } : Room) s m [.ref a5, .int (nI b), .int hv].toArray below meth c s.heap [] 0 0 Q (F0 m 5 ls []) := by
    intro n9
    induction n9 with
    | zero => intro j f9 hj hF hm; exact absurd hm (Nat.not_lt_zero _)
    | succ n9 ih_lp =>
      intro j f9 hj hF hm ls hl
      refine lv_iload hx hb dX5_above_5 (lv_at hl 4 rfl) ?_
      refine lv_aload_n hx hb dX5_above_7 rfl (lv_at hl 0 rfl) ?_
      refine va_get (D := D) (ci := 5) (v := .int (nI nl)) (C := RX5) (T := TX5) (N := 14) hx hb hts (by decide +kernel) hown hE.1 hP 0 rfl rfl 6 (by decide) (hts (.fieldLink RX5 58 "DistinctDaleModel" "listed" "I") (by decide +kernel)) (fun _ h9 => h9) rfl dX5_above_8 ?_
      refine xb_icmp_ge (tgt := 83) (a := j) (b := nl) (by omega) (by omega) hx hb dX5_above_11 (by decide) (fun c_1 => ?_) (fun c_1 => ?_)
      · refine lv_iload_n hx hb dX5_above_83 rfl (lv_at hl 3 rfl) ?_
        obtain rfl : j = nl := by omega
        exact kret _ _ _ dX5_above_84 (hF.congr (fun y => ((hlS_all hML (hCV b hb6)) y).symm))
      · rcases hF with ⟨hf, hno⟩ | ⟨t, hf, ht2, ht3, ht4, ht5⟩
        · rw [hf] at hl
          refine lv_aload_n hx hb dX5_above_14 rfl (lv_at hl 0 rfl) ?_
          refine va_get (D := D) (ci := 5) (v := .ref mI) (C := RX5) (T := TX5) (N := 14) hx hb hts (by decide +kernel) hown hE.1 hP 0 rfl rfl 4 (by decide) (hts (.fieldLink RX5 15 "DistinctDaleModel" "items" "[I") (by decide +kernel)) (fun _ h9 => h9) rfl dX5_above_15 ?_
          refine lv_iload hx hb dX5_above_18 (lv_at hl 4 rfl) ?_
          refine va_iald (D := D) hx hb hE.1 hP 2 0 rfl rfl (vp_in_nI (by omega) (by omega)) dX5_above_20 ?_
          refine lv_eqi (z := nI (lst j)) (by rw [nI_clamp (by omega)]; exact (hML.1 j (by omega)).2) ?_
          refine xcRi (va_runS (As := [.int (nI (lst j))]) (rest := []) ⟨hx, hb, hml, hown, hts⟩ (m_hashOf l D cy t0 (lst j) (hML.1 j (by omega)).1) (va_cwS 1 hts gX5_above_X5_hashOf rfl rfl rfl (by decide +kernel) ⟨Nat.le_of_ble_eq_true rfl, Nat.le_of_ble_eq_true rfl⟩) (xPr.give (wc := []) hE hS hP [] rfl) rfl rfl hl.1 rfl (lv_room (Nat.le_of_ble_eq_true rfl)) dX5_above_21 ⟨(Nat.zero_le _), (Nat.zero_le _)⟩) (fun r_2 hr_3 => ?_)
          obtain rfl : r_2 = nI (hsh (lst j)) := hr_3
          have hhl := hsh_lt (lst j)
          refine lv_istore (lv' := [(5, .int (nI (hsh (lst j)))), (0, .ref a5), (1, .int (nI b)), (2, .int hv), (3, .int (-1)), (4, .int (nI j))]) hx hb dX5_above_24 hl (by decide) rfl (fun ls hl => ?_)
          refine lv_aload_n hx hb dX5_above_26 rfl (lv_at hl 1 rfl) ?_
          refine lv_iload_n hx hb dX5_above_27 rfl (lv_at hl 2 rfl) ?_
          refine lv_aload_n hx hb dX5_above_28 rfl (lv_at hl 1 rfl) ?_
          refine va_get (D := D) (ci := 5) (v := .ref mI) (C := RX5) (T := TX5) (N := 14) hx hb hts (by decide +kernel) hown hE.1 hP 0 rfl rfl 4 (by decide) (hts (.fieldLink RX5 15 "DistinctDaleModel" "items" "[I") (by decide +kernel)) (fun _ h9 => h9) rfl dX5_above_29 ?_
          refine lv_iload hx hb dX5_above_32 (lv_at hl 5 rfl) ?_
          refine va_iald (D := D) hx hb hE.1 hP 2 0 rfl rfl (vp_in_nI (by omega) (by omega)) dX5_above_34 ?_
          refine lv_eqi (z := nI (lst j)) (by rw [nI_clamp (by omega)]; exact (hML.1 j (by omega)).2) ?_
          refine xcRi (va_runV (As := [.int (nI b), .int (nI (lst j))]) (rest := []) ⟨hx, hb, hml, hown, hts⟩ (m_has l D cy t0 a5 mD mI mZ mK mO mB mR mF k th now (nI nl) kM oM b (lst j) G hb6 (hML.1 j (by omega)).1) (cwV 2 hts gX5_above_X5_has rfl rfl rfl (by decide +kernel) ⟨Nat.le_of_ble_eq_true rfl, Nat.le_of_ble_eq_true rfl⟩) (xPr.giveV (wc := [(a5, .inr (5, [.int th, .int (nI k), .int now, .ref mD, .ref mI, .ref mZ, .int (nI nl), .ref mK, .ref mO, .ref mB, .ref mR, .ref mF, .int kM, .int oM])), (mD, xI cy 600000 G)]) hE hS hP [0, 1] rfl 0 5 rfl rfl) rfl rfl hl.1 rfl (lv_room (Nat.le_of_ble_eq_true rfl)) dX5_above_35 ⟨(Nat.zero_le _), (Nat.zero_le _)⟩) (fun r_4 hr_5 => ?_)
          refine lv_eqi (z := xb (Sm (mb G b) (lst j))) hr_5 ?_
          refine xb_beq (tgt := 62) hx hb dX5_above_38 (by decide) (fun c_6 => ?_) (fun c_6 => ?_)
          · refine lv_iconst (v := nI 0) hx hb dX5_above_62 (by decide) ?_
            refine lv_istore (lv' := [(6, .int (nI 0)), (5, .int (nI (hsh (lst j)))), (0, .ref a5), (1, .int (nI b)), (2, .int hv), (3, .int (-1)), (4, .int (nI j))]) hx hb dX5_above_63 hl (by decide) rfl (fun ls hl => ?_)
            refine lv_iload hx hb dX5_above_65 (lv_at hl 0 rfl) ?_
            refine xb_if_eq (tgt := 75) (a := 0) (by omega) hx hb dX5_above_67 (by decide) (fun c_7 => ?_) (fun c_7 => ?_)
            · refine lv_iload_n hx hb dX5_above_75 rfl (lv_at hl 5 rfl) ?_
              refine lv_istore_n (lv' := [(3, .int (-1)), (6, .int (nI 0)), (5, .int (nI (hsh (lst j)))), (0, .ref a5), (1, .int (nI b)), (2, .int hv), (4, .int (nI j))]) hx hb dX5_above_76 rfl hl (by decide) rfl (fun ls hl => ?_)
              refine lv_iinc (v := nI (j + 1)) (lv' := [(4, .int (nI (j + 1))), (3, .int (-1)), (6, .int (nI 0)), (5, .int (nI (hsh (lst j)))), (0, .ref a5), (1, .int (nI b)), (2, .int hv)]) hx hb dX5_above_77 hl (k := 6) rfl (nI_add _ 1) (by decide) rfl (fun ls hl => ?_)
              refine lv_goto (tgt := 5) hx hb dX5_above_80 (by decide) ?_
              exact ih_lp (j + 1) (-1) (by omega) (FD.skip (Or.inl ⟨rfl, hno⟩) (Or.inl c_6)) (by omega) _ (lv_sub hl [4, 5, 6, 1, 0] rfl)
            · exact absurd rfl c_7
          · refine lv_iload hx hb dX5_above_41 (lv_at hl 0 rfl) ?_
            refine lv_iload_n hx hb dX5_above_43 rfl (lv_at hl 3 rfl) ?_
            refine lv_icmp_le (tgt := 62) hx hb dX5_above_44 (by decide) (fun c_8 => ?_) (fun c_8 => ?_)
            · have hlw : hsh (lst j) < lo := Nat.lt_of_not_le (fun q => absurd ((hlo _ hhl).mpr q) (Int32.not_lt.mpr c_8))
              refine lv_iconst (v := nI 0) hx hb dX5_above_62 (by decide) ?_
              refine lv_istore (lv' := [(6, .int (nI 0)), (5, .int (nI (hsh (lst j)))), (0, .ref a5), (1, .int (nI b)), (2, .int hv), (3, .int (-1)), (4, .int (nI j))]) hx hb dX5_above_63 hl (by decide) rfl (fun ls hl => ?_)
              refine lv_iload hx hb dX5_above_65 (lv_at hl 0 rfl) ?_
              refine xb_if_eq (tgt := 75) (a := 0) (by omega) hx hb dX5_above_67 (by decide) (fun c_9 => ?_) (fun c_9 => ?_)
              · refine lv_iload_n hx hb dX5_above_75 rfl (lv_at hl 5 rfl) ?_
                refine lv_istore_n (lv' := [(3, .int (-1)), (6, .int (nI 0)), (5, .int (nI (hsh (lst j)))), (0, .ref a5), (1, .int (nI b)), (2, .int hv), (4, .int (nI j))]) hx hb dX5_above_76 rfl hl (by decide) rfl (fun ls hl => ?_)
                refine lv_iinc (v := nI (j + 1)) (lv' := [(4, .int (nI (j + 1))), (3, .int (-1)), (6, .int (nI 0)), (5, .int (nI (hsh (lst j)))), (0, .ref a5), (1, .int (nI b)), (2, .int hv)]) hx hb dX5_above_77 hl (k := 6) rfl (nI_add _ 1) (by decide) rfl (fun ls hl => ?_)
                refine lv_goto (tgt := 5) hx hb dX5_above_80 (by decide) ?_
                exact ih_lp (j + 1) (-1) (by omega) (FD.skip (Or.inl ⟨rfl, hno⟩) (Or.inr hlw)) (by omega) _ (lv_sub hl [4, 5, 6, 1, 0] rfl)
              · exact absurd rfl c_9
            · have hlw : lo ≤ hsh (lst j) := (hlo _ hhl).mp (Int32.not_le.mp c_8)
              refine lv_iload_n hx hb dX5_above_47 rfl (lv_at hl 4 rfl) ?_
              refine lv_iconst (v := (-1)) hx hb dX5_above_48 (by decide) ?_
              refine lv_icmp_eq (tgt := 58) hx hb dX5_above_49 (by decide) (fun c_10 => ?_) (fun c_10 => ?_)
              · refine lv_iconst (v := nI 1) hx hb dX5_above_58 (by decide) ?_
                refine lv_goto (tgt := 63) hx hb dX5_above_59 (by decide) ?_
                refine lv_istore (lv' := [(6, .int (nI 1)), (5, .int (nI (hsh (lst j)))), (0, .ref a5), (1, .int (nI b)), (2, .int hv), (3, .int (-1)), (4, .int (nI j))]) hx hb dX5_above_63 hl (by decide) rfl (fun ls hl => ?_)
                refine lv_iload hx hb dX5_above_65 (lv_at hl 0 rfl) ?_
                refine xb_if_eq (tgt := 75) (a := 1) (by omega) hx hb dX5_above_67 (by decide) (fun c_11 => ?_) (fun c_11 => ?_)
                · exact absurd c_11 (by decide)
                · refine lv_iload hx hb dX5_above_70 (lv_at hl 1 rfl) ?_
                  refine lv_goto (tgt := 76) hx hb dX5_above_72 (by decide) ?_
                  refine lv_istore_n (lv' := [(3, .int (nI (hsh (lst j)))), (6, .int (nI 1)), (5, .int (nI (hsh (lst j)))), (0, .ref a5), (1, .int (nI b)), (2, .int hv), (4, .int (nI j))]) hx hb dX5_above_76 rfl hl (by decide) rfl (fun ls hl => ?_)
                  refine lv_iinc (v := nI (j + 1)) (lv' := [(4, .int (nI (j + 1))), (3, .int (nI (hsh (lst j)))), (6, .int (nI 1)), (5, .int (nI (hsh (lst j)))), (0, .ref a5), (1, .int (nI b)), (2, .int hv)]) hx hb dX5_above_77 hl (k := 6) rfl (nI_add _ 1) (by decide) rfl (fun ls hl => ?_)
                  refine lv_goto (tgt := 5) hx hb dX5_above_80 (by decide) ?_
                  exact ih_lp (j + 1) (nI (hsh (lst j))) (by omega) (FD.take c_6 hlw (fun y h1 _ => hno y h1)) (by omega) _ (lv_sub hl [4, 5, 6, 1, 0] rfl)
              · exact absurd rfl c_10
        · rw [hf] at hl
          refine lv_aload_n hx hb dX5_above_14 rfl (lv_at hl 0 rfl) ?_
          refine va_get (D := D) (ci := 5) (v := .ref mI) (C := RX5) (T := TX5) (N := 14) hx hb hts (by decide +kernel) hown hE.1 hP 0 rfl rfl 4 (by decide) (hts (.fieldLink RX5 15 "DistinctDaleModel" "items" "[I") (by decide +kernel)) (fun _ h9 => h9) rfl dX5_above_15 ?_
          refine lv_iload hx hb dX5_above_18 (lv_at hl 4 rfl) ?_
          refine va_iald (D := D) hx hb hE.1 hP 2 0 rfl rfl (vp_in_nI (by omega) (by omega)) dX5_above_20 ?_
          refine lv_eqi (z := nI (lst j)) (by rw [nI_clamp (by omega)]; exact (hML.1 j (by omega)).2) ?_
          refine xcRi (va_runS (As := [.int (nI (lst j))]) (rest := []) ⟨hx, hb, hml, hown, hts⟩ (m_hashOf l D cy t0 (lst j) (hML.1 j (by omega)).1) (va_cwS 1 hts gX5_above_X5_hashOf rfl rfl rfl (by decide +kernel) ⟨Nat.le_of_ble_eq_true rfl, Nat.le_of_ble_eq_true rfl⟩) (xPr.give (wc := []) hE hS hP [] rfl) rfl rfl hl.1 rfl (lv_room (Nat.le_of_ble_eq_true rfl)) dX5_above_21 ⟨(Nat.zero_le _), (Nat.zero_le _)⟩) (fun r_12 hr_13 => ?_)
          obtain rfl : r_12 = nI (hsh (lst j)) := hr_13
          have hhl := hsh_lt (lst j)
          refine lv_istore (lv' := [(5, .int (nI (hsh (lst j)))), (0, .ref a5), (1, .int (nI b)), (2, .int hv), (3, .int (nI t)), (4, .int (nI j))]) hx hb dX5_above_24 hl (by decide) rfl (fun ls hl => ?_)
          refine lv_aload_n hx hb dX5_above_26 rfl (lv_at hl 1 rfl) ?_
          refine lv_iload_n hx hb dX5_above_27 rfl (lv_at hl 2 rfl) ?_
          refine lv_aload_n hx hb dX5_above_28 rfl (lv_at hl 1 rfl) ?_
          refine va_get (D := D) (ci := 5) (v := .ref mI) (C := RX5) (T := TX5) (N := 14) hx hb hts (by decide +kernel) hown hE.1 hP 0 rfl rfl 4 (by decide) (hts (.fieldLink RX5 15 "DistinctDaleModel" "items" "[I") (by decide +kernel)) (fun _ h9 => h9) rfl dX5_above_29 ?_
          refine lv_iload hx hb dX5_above_32 (lv_at hl 5 rfl) ?_
          refine va_iald (D := D) hx hb hE.1 hP 2 0 rfl rfl (vp_in_nI (by omega) (by omega)) dX5_above_34 ?_
          refine lv_eqi (z := nI (lst j)) (by rw [nI_clamp (by omega)]; exact (hML.1 j (by omega)).2) ?_
          refine xcRi (va_runV (As := [.int (nI b), .int (nI (lst j))]) (rest := []) ⟨hx, hb, hml, hown, hts⟩ (m_has l D cy t0 a5 mD mI mZ mK mO mB mR mF k th now (nI nl) kM oM b (lst j) G hb6 (hML.1 j (by omega)).1) (cwV 2 hts gX5_above_X5_has rfl rfl rfl (by decide +kernel) ⟨Nat.le_of_ble_eq_true rfl, Nat.le_of_ble_eq_true rfl⟩) (xPr.giveV (wc := [(a5, .inr (5, [.int th, .int (nI k), .int now, .ref mD, .ref mI, .ref mZ, .int (nI nl), .ref mK, .ref mO, .ref mB, .ref mR, .ref mF, .int kM, .int oM])), (mD, xI cy 600000 G)]) hE hS hP [0, 1] rfl 0 5 rfl rfl) rfl rfl hl.1 rfl (lv_room (Nat.le_of_ble_eq_true rfl)) dX5_above_35 ⟨(Nat.zero_le _), (Nat.zero_le _)⟩) (fun r_14 hr_15 => ?_)
          refine lv_eqi (z := xb (Sm (mb G b) (lst j))) hr_15 ?_
          refine xb_beq (tgt := 62) hx hb dX5_above_38 (by decide) (fun c_16 => ?_) (fun c_16 => ?_)
          · refine lv_iconst (v := nI 0) hx hb dX5_above_62 (by decide) ?_
            refine lv_istore (lv' := [(6, .int (nI 0)), (5, .int (nI (hsh (lst j)))), (0, .ref a5), (1, .int (nI b)), (2, .int hv), (3, .int (nI t)), (4, .int (nI j))]) hx hb dX5_above_63 hl (by decide) rfl (fun ls hl => ?_)
            refine lv_iload hx hb dX5_above_65 (lv_at hl 0 rfl) ?_
            refine xb_if_eq (tgt := 75) (a := 0) (by omega) hx hb dX5_above_67 (by decide) (fun c_17 => ?_) (fun c_17 => ?_)
            · refine lv_iload_n hx hb dX5_above_75 rfl (lv_at hl 5 rfl) ?_
              refine lv_istore_n (lv' := [(3, .int (nI t)), (6, .int (nI 0)), (5, .int (nI (hsh (lst j)))), (0, .ref a5), (1, .int (nI b)), (2, .int hv), (4, .int (nI j))]) hx hb dX5_above_76 rfl hl (by decide) rfl (fun ls hl => ?_)
              refine lv_iinc (v := nI (j + 1)) (lv' := [(4, .int (nI (j + 1))), (3, .int (nI t)), (6, .int (nI 0)), (5, .int (nI (hsh (lst j)))), (0, .ref a5), (1, .int (nI b)), (2, .int hv)]) hx hb dX5_above_77 hl (k := 6) rfl (nI_add _ 1) (by decide) rfl (fun ls hl => ?_)
              refine lv_goto (tgt := 5) hx hb dX5_above_80 (by decide) ?_
              exact ih_lp (j + 1) (nI t) (by omega) (FD.skip (Or.inr ⟨t, rfl, ht2, ht3, ht4, ht5⟩) (Or.inl c_16)) (by omega) _ (lv_sub hl [4, 5, 6, 1, 0] rfl)
            · exact absurd rfl c_17
          · refine lv_iload hx hb dX5_above_41 (lv_at hl 0 rfl) ?_
            refine lv_iload_n hx hb dX5_above_43 rfl (lv_at hl 3 rfl) ?_
            refine lv_icmp_le (tgt := 62) hx hb dX5_above_44 (by decide) (fun c_18 => ?_) (fun c_18 => ?_)
            · have hlw : hsh (lst j) < lo := Nat.lt_of_not_le (fun q => absurd ((hlo _ hhl).mpr q) (Int32.not_lt.mpr c_18))
              refine lv_iconst (v := nI 0) hx hb dX5_above_62 (by decide) ?_
              refine lv_istore (lv' := [(6, .int (nI 0)), (5, .int (nI (hsh (lst j)))), (0, .ref a5), (1, .int (nI b)), (2, .int hv), (3, .int (nI t)), (4, .int (nI j))]) hx hb dX5_above_63 hl (by decide) rfl (fun ls hl => ?_)
              refine lv_iload hx hb dX5_above_65 (lv_at hl 0 rfl) ?_
              refine xb_if_eq (tgt := 75) (a := 0) (by omega) hx hb dX5_above_67 (by decide) (fun c_19 => ?_) (fun c_19 => ?_)
              · refine lv_iload_n hx hb dX5_above_75 rfl (lv_at hl 5 rfl) ?_
                refine lv_istore_n (lv' := [(3, .int (nI t)), (6, .int (nI 0)), (5, .int (nI (hsh (lst j)))), (0, .ref a5), (1, .int (nI b)), (2, .int hv), (4, .int (nI j))]) hx hb dX5_above_76 rfl hl (by decide) rfl (fun ls hl => ?_)
                refine lv_iinc (v := nI (j + 1)) (lv' := [(4, .int (nI (j + 1))), (3, .int (nI t)), (6, .int (nI 0)), (5, .int (nI (hsh (lst j)))), (0, .ref a5), (1, .int (nI b)), (2, .int hv)]) hx hb dX5_above_77 hl (k := 6) rfl (nI_add _ 1) (by decide) rfl (fun ls hl => ?_)
                refine lv_goto (tgt := 5) hx hb dX5_above_80 (by decide) ?_
                exact ih_lp (j + 1) (nI t) (by omega) (FD.skip (Or.inr ⟨t, rfl, ht2, ht3, ht4, ht5⟩) (Or.inr hlw)) (by omega) _ (lv_sub hl [4, 5, 6, 1, 0] rfl)
              · exact absurd rfl c_19
            · have hlw : lo ≤ hsh (lst j) := (hlo _ hhl).mp (Int32.not_le.mp c_18)
              refine lv_iload_n hx hb dX5_above_47 rfl (lv_at hl 4 rfl) ?_
              refine lv_iconst (v := (-1)) hx hb dX5_above_48 (by decide) ?_
              refine lv_icmp_eq (tgt := 58) hx hb dX5_above_49 (by decide) (fun c_20 => ?_) (fun c_20 => ?_)
              · exact absurd c_20 (by rw [xneg1 (by omega)]; exact id)
              · refine lv_iload hx hb dX5_above_52 (lv_at hl 0 rfl) ?_
                refine lv_iload_n hx hb dX5_above_54 rfl (lv_at hl 4 rfl) ?_
                refine xb_icmp_ge (tgt := 62) (a := hsh (lst j)) (b := t) (by omega) (by omega) hx hb dX5_above_55 (by decide) (fun c_21 => ?_) (fun c_21 => ?_)
                · refine lv_iconst (v := nI 0) hx hb dX5_above_62 (by decide) ?_
                  refine lv_istore (lv' := [(6, .int (nI 0)), (5, .int (nI (hsh (lst j)))), (0, .ref a5), (1, .int (nI b)), (2, .int hv), (3, .int (nI t)), (4, .int (nI j))]) hx hb dX5_above_63 hl (by decide) rfl (fun ls hl => ?_)
                  refine lv_iload hx hb dX5_above_65 (lv_at hl 0 rfl) ?_
                  refine xb_if_eq (tgt := 75) (a := 0) (by omega) hx hb dX5_above_67 (by decide) (fun c_22 => ?_) (fun c_22 => ?_)
                  · refine lv_iload_n hx hb dX5_above_75 rfl (lv_at hl 5 rfl) ?_
                    refine lv_istore_n (lv' := [(3, .int (nI t)), (6, .int (nI 0)), (5, .int (nI (hsh (lst j)))), (0, .ref a5), (1, .int (nI b)), (2, .int hv), (4, .int (nI j))]) hx hb dX5_above_76 rfl hl (by decide) rfl (fun ls hl => ?_)
                    refine lv_iinc (v := nI (j + 1)) (lv' := [(4, .int (nI (j + 1))), (3, .int (nI t)), (6, .int (nI 0)), (5, .int (nI (hsh (lst j)))), (0, .ref a5), (1, .int (nI b)), (2, .int hv)]) hx hb dX5_above_77 hl (k := 6) rfl (nI_add _ 1) (by decide) rfl (fun ls hl => ?_)
                    refine lv_goto (tgt := 5) hx hb dX5_above_80 (by decide) ?_
                    exact ih_lp (j + 1) (nI t) (by omega) (FD.keep ht2 ht3 ht4 ht5 c_21) (by omega) _ (lv_sub hl [4, 5, 6, 1, 0] rfl)
                  · exact absurd rfl c_22
                · refine lv_iconst (v := nI 1) hx hb dX5_above_58 (by decide) ?_
                  refine lv_goto (tgt := 63) hx hb dX5_above_59 (by decide) ?_
                  refine lv_istore (lv' := [(6, .int (nI 1)), (5, .int (nI (hsh (lst j)))), (0, .ref a5), (1, .int (nI b)), (2, .int hv), (3, .int (nI t)), (4, .int (nI j))]) hx hb dX5_above_63 hl (by decide) rfl (fun ls hl => ?_)
                  refine lv_iload hx hb dX5_above_65 (lv_at hl 0 rfl) ?_
                  refine xb_if_eq (tgt := 75) (a := 1) (by omega) hx hb dX5_above_67 (by decide) (fun c_23 => ?_) (fun c_23 => ?_)
                  · exact absurd c_23 (by decide)
                  · refine lv_iload hx hb dX5_above_70 (lv_at hl 1 rfl) ?_
                    refine lv_goto (tgt := 76) hx hb dX5_above_72 (by decide) ?_
                    refine lv_istore_n (lv' := [(3, .int (nI (hsh (lst j)))), (6, .int (nI 1)), (5, .int (nI (hsh (lst j)))), (0, .ref a5), (1, .int (nI b)), (2, .int hv), (4, .int (nI j))]) hx hb dX5_above_76 rfl hl (by decide) rfl (fun ls hl => ?_)
                    refine lv_iinc (v := nI (j + 1)) (lv' := [(4, .int (nI (j + 1))), (3, .int (nI (hsh (lst j)))), (6, .int (nI 1)), (5, .int (nI (hsh (lst j)))), (0, .ref a5), (1, .int (nI b)), (2, .int hv)]) hx hb dX5_above_77 hl (k := 6) rfl (nI_add _ 1) (by decide) rfl (fun ls hl => ?_)
                    refine lv_goto (tgt := 5) hx hb dX5_above_80 (by decide) ?_
                    exact ih_lp (j + 1) (nI (hsh (lst j))) (by omega) (FD.take c_16 hlw (fun y h1 h2 => ht5 y h1 (by omega))) (by omega) _ (lv_sub hl [4, 5, 6, 1, 0] rfl)
  exact lp (nl + 1) 0 (-1) (Nat.zero_le _) FD0 (by omega) _ (lv_sub hl [2, 3, 4, 1, 0] rfl)
set_option maxHeartbeats 4000000 in
set_option maxRecDepth 100000 in
theorem m_layKept (l : Launch) (D : va_G) (cy : Nat → ClassId) (t0 : Nat) (a5 mD mI mZ mK mO mB mR mF k : Nat) (th now kM oM : Int32) (nl : Nat) (b : Nat) (fK : Nat → Int32) (G It Zt : Nat → Int32) (lst : Nat → Nat) (hML : ML lst nl It Zt) (hCV : CV G lst nl) (hb6 : b < 6) (hk2 : 2 ≤ k) (hk : k ≤ 32) : xWi (S := Nat × (Nat → Int32)) l yX5_layKept wsX5_layKept ({ frames := 2, cells := 0, slots := 0, locals := 48 } : Room) D cy t0 ([.ref a5, .int (nI b)]) ([(a5, .inr (5, [.int th, .int (nI k), .int now, .ref mD, .ref mI, .ref mZ, .int (nI nl), .ref mK, .ref mO, .ref mB, .ref mR, .ref mF, .int kM, .int oM])), (mD, xI cy 600000 G), (mI, xI cy 100000 It), (mK, xI cy 32 fK)]) (fun r u => r = nI u.1 ∧ LH k (hs (Sm (mb G b)) 100000) u.1 u.2) (fun u => [(a5, .inr (5, [.int th, .int (nI k), .int now, .ref mD, .ref mI, .ref mZ, .int (nI nl), .ref mK, .ref mO, .ref mB, .ref mR, .ref mF, .int kM, .int oM])), (mD, xI cy 600000 G), (mI, xI cy 100000 It), (mK, xI cy 32 u.2)]) 0 0 := by
  refine xofWi (cc := cX5_layKept) (maxL := 4) (by decide) rfl (Nat.le_of_ble_eq_true rfl) (fun _ _ _ => rfl) ?_
  intro p e s m below meth c Q A ls hx hb hml hts hown hE hA H locs hP hD hl hS kret
  have hl : lv_has ls 4 [(0, .ref a5), (1, .int (nI b))] := hl
  have hnle := hML.le
  refine lv_iconst (v := nI 0) hx hb dX5_layKept_0 (by decide) ?_
  refine lv_istore_n (lv' := [(2, .int (nI 0)), (0, .ref a5), (1, .int (nI b))]) hx hb dX5_layKept_1 rfl hl (by decide) rfl (fun ls hl => ?_)
  refine lv_aload_n hx hb dX5_layKept_2 rfl (lv_at hl 1 rfl) ?_
  refine lv_iload_n hx hb dX5_layKept_3 rfl (lv_at hl 2 rfl) ?_
  refine lv_iconst (v := (-1)) hx hb dX5_layKept_4 (by decide) ?_
  refine xcRi (va_runV (As := [.int (nI b), .int (-1)]) (rest := []) ⟨hx, hb, hml, hown, hts⟩ (m_above l D cy t0 a5 mD mI mZ mK mO mB mR mF k th now kM oM nl b 0 (-1) G It Zt lst hML hCV hb6 (fun t ht => ⟨fun _ => Nat.zero_le _, fun _ => neg1lt (nI_pos' (by omega))⟩)) (cwV 2 hts gX5_layKept_X5_above rfl rfl rfl (by decide +kernel) ⟨Nat.le_of_ble_eq_true rfl, Nat.le_of_ble_eq_true rfl⟩) (xPr.giveV (wc := [(a5, .inr (5, [.int th, .int (nI k), .int now, .ref mD, .ref mI, .ref mZ, .int (nI nl), .ref mK, .ref mO, .ref mB, .ref mR, .ref mF, .int kM, .int oM])), (mD, xI cy 600000 G), (mI, xI cy 100000 It)]) hE hS hP [0, 1, 2] rfl 0 5 rfl rfl) rfl rfl hl.1 rfl (lv_room (Nat.le_of_ble_eq_true rfl)) dX5_layKept_5 ⟨(Nat.zero_le _), (Nat.zero_le _)⟩) (fun r_1 hr_2 => ?_)
  have hr_2q : FD r_1 0 (hs (Sm (mb G b)) 100000) := hr_2
  refine lv_istore_n (lv' := [(3, .int r_1), (2, .int (nI 0)), (0, .ref a5), (1, .int (nI b))]) hx hb dX5_layKept_8 rfl hl (by decide) rfl (fun ls hl => ?_)
  have lp : ∀ (n9 : Nat), ∀ (lo : Nat) (nx : Int32) (g : Nat → Int32), (hlo : lo ≤ 16777213) → (hck : cb (hs (Sm (mb G b)) 100000) lo ≤ k) → (hLK : LK (hs (Sm (mb G b)) 100000) lo g) → (hF : FD nx lo (hs (Sm (mb G b)) 100000)) → k - cb (hs (Sm (mb G b)) 100000) lo < n9 → ∀ (H : Heap) (locs : List Loc), xP D [(a5, .inr (5, [.int th, .int (nI k), .int now, .ref mD, .ref mI, .ref mZ, .int (nI nl), .ref mK, .ref mO, .ref mB, .ref mR, .ref mF, .int kM, .int oM])), (mD, xI cy 600000 G), (mI, xI cy 100000 It), (mK, xI cy 32 g)] H → va_D A [(a5, .inr (5, [.int th, .int (nI k), .int now, .ref mD, .ref mI, .ref mZ, .int (nI nl), .ref mK, .ref mO, .ref mB, .ref mR, .ref mF, .int kM, .int oM])), (mD, xI cy 600000 G), (mI, xI cy 100000 It), (mK, xI cy 32 g)] → va_S A s.heap H locs → ∀ (ls : Array Slot), lv_has ls 4 [(0, .ref a5), (1, .int (nI b)), (2, .int (nI (cb (hs (Sm (mb G b)) 100000) lo))), (3, .int nx)] → W p l e ({ frames := 2, cells := 0, slots := 0, locals := 48 } : Room) s m [.ref a5, .int (nI b)].toArray below meth c H locs 0 0 Q (F0 m 9 ls []) := by
    intro n9
    induction n9 with
    | zero => intro lo nx g hlo hck hLK hF hm; exact absurd hm (Nat.not_lt_zero _)
    | succ n9 ih_lp =>
      intro lo nx g hlo hck hLK hF hm H locs hP hD hS ls hl
      refine lv_iload_n hx hb dX5_layKept_9 rfl (lv_at hl 3 rfl) ?_
      refine lv_iconst (v := (-1)) hx hb dX5_layKept_10 (by decide) ?_
      refine lv_icmp_eq (tgt := 42) hx hb dX5_layKept_11 (by decide) (fun c_3 => ?_) (fun c_3 => ?_)
      · have hn : ∀ y, lo ≤ y → (hs (Sm (mb G b)) 100000) y = false := by
          rcases hF with ⟨_, q⟩ | ⟨t, q, q2, _⟩
          · exact q
          · rw [q, xneg1 (by omega)] at c_3; exact c_3.elim
        refine lv_iload_n hx hb dX5_layKept_42 rfl (lv_at hl 2 rfl) ?_
        exact kret _ (cb (hs (Sm (mb G b)) 100000) lo, g) _ _ _ _ _ _ dX5_layKept_43 ⟨rfl, hLK.done1 hck hlo hn⟩ hP hD hS (Nat.le_of_ble_eq_true rfl) (Nat.le_of_ble_eq_true rfl)
      · obtain ⟨t, htx, ht2, ht3, ht4, ht5⟩ := hF.resolve_left (fun q => c_3 q.1)
        rw [htx] at hl
        refine lv_iload_n hx hb dX5_layKept_14 rfl (lv_at hl 2 rfl) ?_
        refine lv_aload_n hx hb dX5_layKept_15 rfl (lv_at hl 0 rfl) ?_
        refine va_get (D := D) (ci := 5) (v := .int (nI k)) (C := RX5) (T := TX5) (N := 14) hx hb hts (by decide +kernel) hown hE.1 hP 0 rfl rfl 1 (by decide) (hts (.fieldLink RX5 39 "DistinctDaleModel" "k" "I") (by decide +kernel)) (fun _ h9 => h9) rfl dX5_layKept_16 ?_
        refine xb_icmp_ge (tgt := 42) (a := cb (hs (Sm (mb G b)) 100000) lo) (b := k) (by omega) (by omega) hx hb dX5_layKept_19 (by decide) (fun c_4 => ?_) (fun c_4 => ?_)
        · refine lv_iload_n hx hb dX5_layKept_42 rfl (lv_at hl 2 rfl) ?_
          exact kret _ (cb (hs (Sm (mb G b)) 100000) lo, g) _ _ _ _ _ _ dX5_layKept_43 ⟨rfl, hLK.done2 (by omega) hlo⟩ hP hD hS (Nat.le_of_ble_eq_true rfl) (Nat.le_of_ble_eq_true rfl)
        · refine lv_aload_n hx hb dX5_layKept_22 rfl (lv_at hl 0 rfl) ?_
          refine va_get (D := D) (ci := 5) (v := .ref mK) (C := RX5) (T := TX5) (N := 14) hx hb hts (by decide +kernel) hown hE.1 hP 0 rfl rfl 7 (by decide) (hts (.fieldLink RX5 22 "DistinctDaleModel" "kept" "[I") (by decide +kernel)) (fun _ h9 => h9) rfl dX5_layKept_23 ?_
          refine lv_iload_n hx hb dX5_layKept_26 rfl (lv_at hl 2 rfl) ?_
          refine lv_iload_n hx hb dX5_layKept_27 rfl (lv_at hl 3 rfl) ?_
          refine va_iast (D := D) hx hb hE.1 hP hD hS 3 0 rfl rfl (vp_in_nI (by omega) (by omega)) dX5_layKept_28 (fun H locs hP hD hS => ?_)
          rw [nI_clamp (by omega)] at hP hD
          have hP : xP D [(a5, .inr (5, [.int th, .int (nI k), .int now, .ref mD, .ref mI, .ref mZ, .int (nI nl), .ref mK, .ref mO, .ref mB, .ref mR, .ref mF, .int kM, .int oM])), (mD, xI cy 600000 G), (mI, xI cy 100000 It), (mK, xI cy 32 (upd g (cb (hs (Sm (mb G b)) 100000) lo) (nI t)))] H := hP
          have hD : va_D A [(a5, .inr (5, [.int th, .int (nI k), .int now, .ref mD, .ref mI, .ref mZ, .int (nI nl), .ref mK, .ref mO, .ref mB, .ref mR, .ref mF, .int kM, .int oM])), (mD, xI cy 600000 G), (mI, xI cy 100000 It), (mK, xI cy 32 (upd g (cb (hs (Sm (mb G b)) 100000) lo) (nI t)))] := hD
          refine lv_iinc (v := nI (cb (hs (Sm (mb G b)) 100000) lo + 1)) (lv' := [(2, .int (nI (cb (hs (Sm (mb G b)) 100000) lo + 1))), (0, .ref a5), (1, .int (nI b)), (3, .int (nI t))]) hx hb dX5_layKept_29 hl (k := 2) rfl (nI_add _ 1) (by decide) rfl (fun ls hl => ?_)
          refine lv_aload_n hx hb dX5_layKept_32 rfl (lv_at hl 1 rfl) ?_
          refine lv_iload_n hx hb dX5_layKept_33 rfl (lv_at hl 2 rfl) ?_
          refine lv_iload_n hx hb dX5_layKept_34 rfl (lv_at hl 3 rfl) ?_
          refine xcRi (va_runV (As := [.int (nI b), .int (nI t)]) (rest := []) ⟨hx, hb, hml, hown, hts⟩ (m_above l D cy t0 a5 mD mI mZ mK mO mB mR mF k th now kM oM nl b (t + 1) (nI t) G It Zt lst hML hCV hb6 (fun y hy => (nI_ltI (by omega) (by omega)))) (cwV 2 hts gX5_layKept_X5_above rfl rfl rfl (by decide +kernel) ⟨Nat.le_of_ble_eq_true rfl, Nat.le_of_ble_eq_true rfl⟩) (xPr.giveV (wc := [(a5, .inr (5, [.int th, .int (nI k), .int now, .ref mD, .ref mI, .ref mZ, .int (nI nl), .ref mK, .ref mO, .ref mB, .ref mR, .ref mF, .int kM, .int oM])), (mD, xI cy 600000 G), (mI, xI cy 100000 It)]) hE hS hP [0, 1, 2] rfl 0 5 rfl rfl) rfl rfl hl.1 rfl (lv_room (Nat.le_of_ble_eq_true rfl)) dX5_layKept_35 ⟨(Nat.zero_le _), (Nat.zero_le _)⟩) (fun r_5 hr_6 => ?_)
          have hr_6q : FD r_5 (t + 1) (hs (Sm (mb G b)) 100000) := hr_6
          refine lv_istore_n (lv' := [(3, .int r_5), (2, .int (nI (cb (hs (Sm (mb G b)) 100000) lo + 1))), (0, .ref a5), (1, .int (nI b))]) hx hb dX5_layKept_38 rfl hl (by decide) rfl (fun ls hl => ?_)
          refine lv_goto (tgt := 9) hx hb dX5_layKept_39 (by decide) ?_
          have e1 : cb (hs (Sm (mb G b)) 100000) lo + 1 = cb (hs (Sm (mb G b)) 100000) (t + 1) := by rw [cb_t ht4, cb_none ht3 ht5]
          rw [e1] at hl
          exact ih_lp (t + 1) r_5 (upd g (cb (hs (Sm (mb G b)) 100000) lo) (nI t)) (by omega) (by omega) (hLK.step ht3 ht4 ht5) hr_6q (by omega) _ _ hP hD hS _ (lv_sub hl [2, 3, 1, 0] rfl)
  exact lp (k + 1) 0 r_1 fK (Nat.zero_le _) (Nat.zero_le _) (fun h hh => absurd hh (Nat.not_lt_zero _)) hr_2q (by omega) _ _ hP hD hS _ (lv_sub hl [2, 3, 1, 0] rfl)
set_option maxHeartbeats 4000000 in
set_option maxRecDepth 100000 in
theorem m_est (l : Launch) (D : va_G) (cy : Nat → ClassId) (t0 : Nat) (a5 mD mI mZ mK mO mB mR mF k : Nat) (th now nl5 kM oM : Int32) (m9 t : Nat) (hk2 : 2 ≤ k) (hk : k ≤ 32) (hm9 : m9 ≤ 32) (ht0 : k ≤ m9 → 0 < t) (ht : t < 2 ^ 31) : xRl l yX5_estimate wsX5_estimate ({ frames := 0, cells := 0, slots := 0, locals := 0 } : Room) D cy t0 ([.ref a5, .int (nI m9), .int (nI t)]) ([(a5, .inr (5, [.int th, .int (nI k), .int now, .ref mD, .ref mI, .ref mZ, .int nl5, .ref mK, .ref mO, .ref mB, .ref mR, .ref mF, .int kM, .int oM]))]) (fun r => r = lN (if m9 < k then m9 else (k - 1) * 16777213 / t)) := by
  refine xofRl (cc := cX5_estimate) (maxL := 3) (by decide) rfl (Nat.le_of_ble_eq_true rfl) ?_
  intro p e s m below meth c Q ls hx hb hml hts hown hE hP hl hS kret
  have hl : lv_has ls 3 [(0, .ref a5), (1, .int (nI m9)), (2, .int (nI t))] := hl
  have hmul : (k - 1) * 16777213 ≤ 31 * 16777213 := Nat.mul_le_mul (by omega) (Nat.le_refl _)
  refine lv_iload_n hx hb dX5_estimate_0 rfl (lv_at hl 1 rfl) ?_
  refine lv_aload_n hx hb dX5_estimate_1 rfl (lv_at hl 0 rfl) ?_
  refine va_get (D := D) (ci := 5) (v := .int (nI k)) (C := RX5) (T := TX5) (N := 14) hx hb hts (by decide +kernel) hown hE.1 hP 0 rfl rfl 1 (by decide) (hts (.fieldLink RX5 39 "DistinctDaleModel" "k" "I") (by decide +kernel)) (fun _ h9 => h9) rfl dX5_estimate_2 ?_
  refine xb_icmp_ge (tgt := 13) (a := m9) (b := k) (by omega) (by omega) hx hb dX5_estimate_5 (by decide) (fun c_1 => ?_) (fun c_1 => ?_)
  · refine lv_aload_n hx hb dX5_estimate_13 rfl (lv_at hl 0 rfl) ?_
    refine va_get (D := D) (ci := 5) (v := .int (nI k)) (C := RX5) (T := TX5) (N := 14) hx hb hts (by decide +kernel) hown hE.1 hP 0 rfl rfl 1 (by decide) (hts (.fieldLink RX5 39 "DistinctDaleModel" "k" "I") (by decide +kernel)) (fun _ h9 => h9) rfl dX5_estimate_14 ?_
    refine lv_i2l (v := lN k) hx hb dX5_estimate_17 (nI_l (by omega)) ?_
    refine lv_lconst (v := lN 1) hx hb dX5_estimate_18 (by decide) ?_
    refine lv_lsub hx hb dX5_estimate_19 ?_
    refine lv_eql (z := lN (k - 1)) (lN_sub (by omega)) ?_
    refine lv_ldc2 (v := lN 16777213) hx hb hown (hts (.constantLong RX5 52 (16777213)) (by decide +kernel)) dX5_estimate_20 ?_
    refine lv_lmul hx hb dX5_estimate_23 ?_
    refine lv_eql (z := lN ((k - 1) * 16777213)) (lN_mul _ _) ?_
    refine lv_iload_n hx hb dX5_estimate_24 rfl (lv_at hl 2 rfl) ?_
    refine lv_i2l (v := lN t) hx hb dX5_estimate_25 (nI_l (by omega)) ?_
    refine lv_ldiv hx hb dX5_estimate_26 (fun q => by have := (pk_lEQ (a := t) (b := 0) (by omega) (by omega)).mp q; have := ht0 (by omega); omega) ?_
    refine lv_eql (z := lN ((k - 1) * 16777213 / t)) (pk_lDiv (by omega) (ht0 (by omega)) (by omega)) ?_
    exact kret _ _ _ dX5_estimate_27 (by rw [if_neg (by omega)])
  · refine lv_iload_n hx hb dX5_estimate_8 rfl (lv_at hl 1 rfl) ?_
    refine lv_i2l (v := lN m9) hx hb dX5_estimate_9 (nI_l (by omega)) ?_
    refine lv_goto (tgt := 27) hx hb dX5_estimate_10 (by decide) ?_
    exact kret _ _ _ dX5_estimate_27 (by rw [if_pos (by omega)])
set_option maxHeartbeats 4000000 in
set_option maxRecDepth 100000 in
theorem m_isKept (l : Launch) (D : va_G) (cy : Nat → ClassId) (t0 : Nat) (a5 mD mI mZ mK mO mB mR mF k : Nat) (th now nl5 oM : Int32) (Hs : Nat → Bool) (z h : Nat) (g : Nat → Int32) (hL : LH k Hs z g) (hz : z ≤ 32) (hh : h < 16777213) : xRi l yX5_isKept wsX5_isKept ({ frames := 0, cells := 0, slots := 0, locals := 0 } : Room) D cy t0 ([.ref a5, .int (nI h)]) ([(a5, .inr (5, [.int th, .int (nI k), .int now, .ref mD, .ref mI, .ref mZ, .int nl5, .ref mK, .ref mO, .ref mB, .ref mR, .ref mF, .int (nI z), .int oM])), (mK, xI cy 32 g)]) (fun r => r = xb (kS k Hs h)) := by
  refine xofRi (cc := cX5_isKept) (maxL := 4) (by decide) rfl (Nat.le_of_ble_eq_true rfl) (fun r h => by rw [h]; exact xb_nar _) ?_
  intro p e s m below meth c Q ls hx hb hml hts hown hE hP hl hS kret
  have hl : lv_has ls 4 [(0, .ref a5), (1, .int (nI h))] := hl
  refine lv_iconst (v := nI 0) hx hb dX5_isKept_0 (by decide) ?_
  refine lv_eqi (z := xb ((kS k Hs) h && decide (h < 0))) isk_0 ?_
  refine lv_istore_n (lv' := [(2, .int (xb ((kS k Hs) h && decide (h < 0)))), (0, .ref a5), (1, .int (nI h))]) hx hb dX5_isKept_1 rfl hl (by decide) rfl (fun ls hl => ?_)
  refine lv_iconst (v := nI 0) hx hb dX5_isKept_2 (by decide) ?_
  refine lv_istore_n (lv' := [(3, .int (nI 0)), (2, .int (xb ((kS k Hs) h && decide (h < 0)))), (0, .ref a5), (1, .int (nI h))]) hx hb dX5_isKept_3 rfl hl (by decide) rfl (fun ls hl => ?_)
  have lp : ∀ (n9 : Nat), ∀ (lo : Nat), (hlo : lo ≤ 16777213) → z - cb (kS k Hs) lo < n9 → ∀ (ls : Array Slot), lv_has ls 4 [(0, .ref a5), (1, .int (nI h)), (2, .int (xb ((kS k Hs) h && decide (h < lo)))), (3, .int (nI (cb (kS k Hs) lo)))] → W p l e ({ frames := 0, cells := 0, slots := 0, locals := 0 } : Room) s m [.ref a5, .int (nI h)].toArray below meth c s.heap [] 0 0 Q (F0 m 4 ls []) := by
    intro n9
    induction n9 with
    | zero => intro lo hlo hm; exact absurd hm (Nat.not_lt_zero _)
    | succ n9 ih_lp =>
      intro lo hlo hm ls hl
      have hcl := hL.bnd hlo
      refine lv_iload_n hx hb dX5_isKept_4 rfl (lv_at hl 3 rfl) ?_
      refine lv_aload_n hx hb dX5_isKept_5 rfl (lv_at hl 0 rfl) ?_
      refine va_get (D := D) (ci := 5) (v := .int (nI z)) (C := RX5) (T := TX5) (N := 14) hx hb hts (by decide +kernel) hown hE.1 hP 0 rfl rfl 12 (by decide) (hts (.fieldLink RX5 99 "DistinctDaleModel" "keptMany" "I") (by decide +kernel)) (fun _ h9 => h9) rfl dX5_isKept_6 ?_
      refine xb_icmp_ge (tgt := 38) (a := cb (kS k Hs) lo) (b := z) (by omega) (by omega) hx hb dX5_isKept_9 (by decide) (fun c_1 => ?_) (fun c_1 => ?_)
      · refine lv_iload_n hx hb dX5_isKept_38 rfl (lv_at hl 2 rfl) ?_
        exact kret _ _ _ dX5_isKept_39 (congrArg xb (isk_end (hL.cnt (by omega) hlo) hh))
      · obtain ⟨t, ht1, ht2, ht3, ht4, ht5, ht6⟩ := hL.next hlo (by omega)
        refine lv_iload_n hx hb dX5_isKept_12 rfl (lv_at hl 2 rfl) ?_
        refine xb_bne (tgt := 26) hx hb dX5_isKept_13 (by decide) (fun c_2 => ?_) (fun c_2 => ?_)
        · refine lv_iconst (v := nI 1) hx hb dX5_isKept_26 (by decide) ?_
          refine lv_goto (tgt := 31) hx hb dX5_isKept_27 (by decide) ?_
          refine lv_istore_n (lv' := [(2, .int (nI 1)), (0, .ref a5), (1, .int (nI h)), (3, .int (nI (cb (kS k Hs) lo)))]) hx hb dX5_isKept_31 rfl hl (by decide) rfl (fun ls hl => ?_)
          refine lv_iinc (v := nI (cb (kS k Hs) lo + 1)) (lv' := [(3, .int (nI (cb (kS k Hs) lo + 1))), (2, .int (nI 1)), (0, .ref a5), (1, .int (nI h))]) hx hb dX5_isKept_32 hl (k := 3) rfl (nI_add _ 1) (by decide) rfl (fun ls hl => ?_)
          refine lv_goto (tgt := 4) hx hb dX5_isKept_35 (by decide) ?_
          have e1 : cb (kS k Hs) lo + 1 = cb (kS k Hs) (t + 1) := by rw [cb_t ht3]; omega
          rw [e1] at hl
          have e2 : nI 1 = xb ((kS k Hs) h && decide (h < t + 1)) := by exact (isk_old c_2 (by omega)).symm
          rw [e2] at hl
          exact ih_lp (t + 1) (by omega) (by omega) _ (lv_sub hl [2, 3, 1, 0] rfl)
        · refine lv_aload_n hx hb dX5_isKept_16 rfl (lv_at hl 0 rfl) ?_
          refine va_get (D := D) (ci := 5) (v := .ref mK) (C := RX5) (T := TX5) (N := 14) hx hb hts (by decide +kernel) hown hE.1 hP 0 rfl rfl 7 (by decide) (hts (.fieldLink RX5 22 "DistinctDaleModel" "kept" "[I") (by decide +kernel)) (fun _ h9 => h9) rfl dX5_isKept_17 ?_
          refine lv_iload_n hx hb dX5_isKept_20 rfl (lv_at hl 3 rfl) ?_
          refine va_iald (D := D) hx hb hE.1 hP 1 0 rfl rfl (vp_in_nI (by omega) (by omega)) dX5_isKept_21 ?_
          refine lv_eqi (z := nI t) (by rw [nI_clamp (by omega)]; exact ht6) ?_
          refine lv_iload_n hx hb dX5_isKept_22 rfl (lv_at hl 1 rfl) ?_
          refine xb_icmp_ne (tgt := 30) (a := t) (b := h) (by omega) (by omega) hx hb dX5_isKept_23 (by decide) (fun c_3 => ?_) (fun c_3 => ?_)
          · refine lv_iconst (v := nI 0) hx hb dX5_isKept_30 (by decide) ?_
            refine lv_istore_n (lv' := [(2, .int (nI 0)), (0, .ref a5), (1, .int (nI h)), (3, .int (nI (cb (kS k Hs) lo)))]) hx hb dX5_isKept_31 rfl hl (by decide) rfl (fun ls hl => ?_)
            refine lv_iinc (v := nI (cb (kS k Hs) lo + 1)) (lv' := [(3, .int (nI (cb (kS k Hs) lo + 1))), (2, .int (nI 0)), (0, .ref a5), (1, .int (nI h))]) hx hb dX5_isKept_32 hl (k := 3) rfl (nI_add _ 1) (by decide) rfl (fun ls hl => ?_)
            refine lv_goto (tgt := 4) hx hb dX5_isKept_35 (by decide) ?_
            have e1 : cb (kS k Hs) lo + 1 = cb (kS k Hs) (t + 1) := by rw [cb_t ht3]; omega
            rw [e1] at hl
            have e2 : nI 0 = xb ((kS k Hs) h && decide (h < t + 1)) := by exact (isk_no c_2 c_3 ht5).symm
            rw [e2] at hl
            exact ih_lp (t + 1) (by omega) (by omega) _ (lv_sub hl [2, 3, 1, 0] rfl)
          · refine lv_iconst (v := nI 1) hx hb dX5_isKept_26 (by decide) ?_
            refine lv_goto (tgt := 31) hx hb dX5_isKept_27 (by decide) ?_
            refine lv_istore_n (lv' := [(2, .int (nI 1)), (0, .ref a5), (1, .int (nI h)), (3, .int (nI (cb (kS k Hs) lo)))]) hx hb dX5_isKept_31 rfl hl (by decide) rfl (fun ls hl => ?_)
            refine lv_iinc (v := nI (cb (kS k Hs) lo + 1)) (lv' := [(3, .int (nI (cb (kS k Hs) lo + 1))), (2, .int (nI 1)), (0, .ref a5), (1, .int (nI h))]) hx hb dX5_isKept_32 hl (k := 3) rfl (nI_add _ 1) (by decide) rfl (fun ls hl => ?_)
            refine lv_goto (tgt := 4) hx hb dX5_isKept_35 (by decide) ?_
            have e1 : cb (kS k Hs) lo + 1 = cb (kS k Hs) (t + 1) := by rw [cb_t ht3]; omega
            rw [e1] at hl
            have e2 : nI 1 = xb ((kS k Hs) h && decide (h < t + 1)) := by exact (isk_hit ht3 c_3).symm
            rw [e2] at hl
            exact ih_lp (t + 1) (by omega) (by omega) _ (lv_sub hl [2, 3, 1, 0] rfl)
  exact lp (z + 1) 0 (Nat.zero_le _) (by omega) _ (lv_sub hl [2, 3, 1, 0] rfl)
set_option maxHeartbeats 4000000 in
set_option maxRecDepth 100000 in
theorem m_isOther (l : Launch) (D : va_G) (cy : Nat → ClassId) (t0 : Nat) (a5 mD mI mZ mK mO mB mR mF k : Nat) (th now nl5 kM : Int32) (Hs : Nat → Bool) (z h : Nat) (g : Nat → Int32) (hL : LH k Hs z g) (hz : z ≤ 32) (hh : h < 16777213) : xRi l yX5_isOther wsX5_isOther ({ frames := 0, cells := 0, slots := 0, locals := 0 } : Room) D cy t0 ([.ref a5, .int (nI h)]) ([(a5, .inr (5, [.int th, .int (nI k), .int now, .ref mD, .ref mI, .ref mZ, .int nl5, .ref mK, .ref mO, .ref mB, .ref mR, .ref mF, .int kM, .int (nI z)])), (mO, xI cy 32 g)]) (fun r => r = xb (kS k Hs h)) := by
  refine xofRi (cc := cX5_isOther) (maxL := 4) (by decide) rfl (Nat.le_of_ble_eq_true rfl) (fun r h => by rw [h]; exact xb_nar _) ?_
  intro p e s m below meth c Q ls hx hb hml hts hown hE hP hl hS kret
  have hl : lv_has ls 4 [(0, .ref a5), (1, .int (nI h))] := hl
  refine lv_iconst (v := nI 0) hx hb dX5_isOther_0 (by decide) ?_
  refine lv_eqi (z := xb ((kS k Hs) h && decide (h < 0))) isk_0 ?_
  refine lv_istore_n (lv' := [(2, .int (xb ((kS k Hs) h && decide (h < 0)))), (0, .ref a5), (1, .int (nI h))]) hx hb dX5_isOther_1 rfl hl (by decide) rfl (fun ls hl => ?_)
  refine lv_iconst (v := nI 0) hx hb dX5_isOther_2 (by decide) ?_
  refine lv_istore_n (lv' := [(3, .int (nI 0)), (2, .int (xb ((kS k Hs) h && decide (h < 0)))), (0, .ref a5), (1, .int (nI h))]) hx hb dX5_isOther_3 rfl hl (by decide) rfl (fun ls hl => ?_)
  have lp : ∀ (n9 : Nat), ∀ (lo : Nat), (hlo : lo ≤ 16777213) → z - cb (kS k Hs) lo < n9 → ∀ (ls : Array Slot), lv_has ls 4 [(0, .ref a5), (1, .int (nI h)), (2, .int (xb ((kS k Hs) h && decide (h < lo)))), (3, .int (nI (cb (kS k Hs) lo)))] → W p l e ({ frames := 0, cells := 0, slots := 0, locals := 0 } : Room) s m [.ref a5, .int (nI h)].toArray below meth c s.heap [] 0 0 Q (F0 m 4 ls []) := by
    intro n9
    induction n9 with
    | zero => intro lo hlo hm; exact absurd hm (Nat.not_lt_zero _)
    | succ n9 ih_lp =>
      intro lo hlo hm ls hl
      have hcl := hL.bnd hlo
      refine lv_iload_n hx hb dX5_isOther_4 rfl (lv_at hl 3 rfl) ?_
      refine lv_aload_n hx hb dX5_isOther_5 rfl (lv_at hl 0 rfl) ?_
      refine va_get (D := D) (ci := 5) (v := .int (nI z)) (C := RX5) (T := TX5) (N := 14) hx hb hts (by decide +kernel) hown hE.1 hP 0 rfl rfl 13 (by decide) (hts (.fieldLink RX5 96 "DistinctDaleModel" "otherMany" "I") (by decide +kernel)) (fun _ h9 => h9) rfl dX5_isOther_6 ?_
      refine xb_icmp_ge (tgt := 38) (a := cb (kS k Hs) lo) (b := z) (by omega) (by omega) hx hb dX5_isOther_9 (by decide) (fun c_1 => ?_) (fun c_1 => ?_)
      · refine lv_iload_n hx hb dX5_isOther_38 rfl (lv_at hl 2 rfl) ?_
        exact kret _ _ _ dX5_isOther_39 (congrArg xb (isk_end (hL.cnt (by omega) hlo) hh))
      · obtain ⟨t, ht1, ht2, ht3, ht4, ht5, ht6⟩ := hL.next hlo (by omega)
        refine lv_iload_n hx hb dX5_isOther_12 rfl (lv_at hl 2 rfl) ?_
        refine xb_bne (tgt := 26) hx hb dX5_isOther_13 (by decide) (fun c_2 => ?_) (fun c_2 => ?_)
        · refine lv_iconst (v := nI 1) hx hb dX5_isOther_26 (by decide) ?_
          refine lv_goto (tgt := 31) hx hb dX5_isOther_27 (by decide) ?_
          refine lv_istore_n (lv' := [(2, .int (nI 1)), (0, .ref a5), (1, .int (nI h)), (3, .int (nI (cb (kS k Hs) lo)))]) hx hb dX5_isOther_31 rfl hl (by decide) rfl (fun ls hl => ?_)
          refine lv_iinc (v := nI (cb (kS k Hs) lo + 1)) (lv' := [(3, .int (nI (cb (kS k Hs) lo + 1))), (2, .int (nI 1)), (0, .ref a5), (1, .int (nI h))]) hx hb dX5_isOther_32 hl (k := 3) rfl (nI_add _ 1) (by decide) rfl (fun ls hl => ?_)
          refine lv_goto (tgt := 4) hx hb dX5_isOther_35 (by decide) ?_
          have e1 : cb (kS k Hs) lo + 1 = cb (kS k Hs) (t + 1) := by rw [cb_t ht3]; omega
          rw [e1] at hl
          have e2 : nI 1 = xb ((kS k Hs) h && decide (h < t + 1)) := by exact (isk_old c_2 (by omega)).symm
          rw [e2] at hl
          exact ih_lp (t + 1) (by omega) (by omega) _ (lv_sub hl [2, 3, 1, 0] rfl)
        · refine lv_aload_n hx hb dX5_isOther_16 rfl (lv_at hl 0 rfl) ?_
          refine va_get (D := D) (ci := 5) (v := .ref mO) (C := RX5) (T := TX5) (N := 14) hx hb hts (by decide +kernel) hown hE.1 hP 0 rfl rfl 8 (by decide) (hts (.fieldLink RX5 25 "DistinctDaleModel" "other" "[I") (by decide +kernel)) (fun _ h9 => h9) rfl dX5_isOther_17 ?_
          refine lv_iload_n hx hb dX5_isOther_20 rfl (lv_at hl 3 rfl) ?_
          refine va_iald (D := D) hx hb hE.1 hP 1 0 rfl rfl (vp_in_nI (by omega) (by omega)) dX5_isOther_21 ?_
          refine lv_eqi (z := nI t) (by rw [nI_clamp (by omega)]; exact ht6) ?_
          refine lv_iload_n hx hb dX5_isOther_22 rfl (lv_at hl 1 rfl) ?_
          refine xb_icmp_ne (tgt := 30) (a := t) (b := h) (by omega) (by omega) hx hb dX5_isOther_23 (by decide) (fun c_3 => ?_) (fun c_3 => ?_)
          · refine lv_iconst (v := nI 0) hx hb dX5_isOther_30 (by decide) ?_
            refine lv_istore_n (lv' := [(2, .int (nI 0)), (0, .ref a5), (1, .int (nI h)), (3, .int (nI (cb (kS k Hs) lo)))]) hx hb dX5_isOther_31 rfl hl (by decide) rfl (fun ls hl => ?_)
            refine lv_iinc (v := nI (cb (kS k Hs) lo + 1)) (lv' := [(3, .int (nI (cb (kS k Hs) lo + 1))), (2, .int (nI 0)), (0, .ref a5), (1, .int (nI h))]) hx hb dX5_isOther_32 hl (k := 3) rfl (nI_add _ 1) (by decide) rfl (fun ls hl => ?_)
            refine lv_goto (tgt := 4) hx hb dX5_isOther_35 (by decide) ?_
            have e1 : cb (kS k Hs) lo + 1 = cb (kS k Hs) (t + 1) := by rw [cb_t ht3]; omega
            rw [e1] at hl
            have e2 : nI 0 = xb ((kS k Hs) h && decide (h < t + 1)) := by exact (isk_no c_2 c_3 ht5).symm
            rw [e2] at hl
            exact ih_lp (t + 1) (by omega) (by omega) _ (lv_sub hl [2, 3, 1, 0] rfl)
          · refine lv_iconst (v := nI 1) hx hb dX5_isOther_26 (by decide) ?_
            refine lv_goto (tgt := 31) hx hb dX5_isOther_27 (by decide) ?_
            refine lv_istore_n (lv' := [(2, .int (nI 1)), (0, .ref a5), (1, .int (nI h)), (3, .int (nI (cb (kS k Hs) lo)))]) hx hb dX5_isOther_31 rfl hl (by decide) rfl (fun ls hl => ?_)
            refine lv_iinc (v := nI (cb (kS k Hs) lo + 1)) (lv' := [(3, .int (nI (cb (kS k Hs) lo + 1))), (2, .int (nI 1)), (0, .ref a5), (1, .int (nI h))]) hx hb dX5_isOther_32 hl (k := 3) rfl (nI_add _ 1) (by decide) rfl (fun ls hl => ?_)
            refine lv_goto (tgt := 4) hx hb dX5_isOther_35 (by decide) ?_
            have e1 : cb (kS k Hs) lo + 1 = cb (kS k Hs) (t + 1) := by rw [cb_t ht3]; omega
            rw [e1] at hl
            have e2 : nI 1 = xb ((kS k Hs) h && decide (h < t + 1)) := by exact (isk_hit ht3 c_3).symm
            rw [e2] at hl
            exact ih_lp (t + 1) (by omega) (by omega) _ (lv_sub hl [2, 3, 1, 0] rfl)
  exact lp (z + 1) 0 (Nat.zero_le _) (by omega) _ (lv_sub hl [2, 3, 1, 0] rfl)
end XX5B
