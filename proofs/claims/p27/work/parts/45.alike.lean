section X45
set_option maxHeartbeats 8000000 in
set_option maxRecDepth 100000 in
theorem t_areAlike (l : Launch) (D : va_G) (cy : Nat → ClassId) (t0 k : Nat) {M : Nat → Nat → Int32} {now : Nat} (hMV : ∀ j, MV (M j)) (hnow : now < 2 ^ 31) (hk2 : 2 ≤ k) (hk : k ≤ 32) (a4 b4 : Nat) (u w : Nat → Nat) (st su : ST) (hO : OK M st) (hU : OK M su) : xWi (S := ST × ST) l yL_areAlike wsL_areAlike ({ frames := 9, cells := 0, slots := 0, locals := 300 } : Room) D cy t0 ([.ref a4, .ref b4]) (OW cy a4 u k now st ++ OW cy b4 w k now su) (fun r v => r = nI 1 ∧ OK M v.1 ∧ OK M v.2) (fun v => OW cy a4 u k now v.1 ++ OW cy b4 w k now v.2) 0 0 := by
  refine xofWi (cc := cL_areAlike) (maxL := 4) (by decide) rfl (Nat.le_of_ble_eq_true rfl) (fun r v h => by rw [h.1]; rfl) ?_
  intro p e s m below meth c Q A ls hx hb hml hts hown hE hA H locs hP hD hl hS kret
  have hl : lv_has ls 4 [(0, .ref a4), (1, .ref b4)] := hl
  refine lv_aload_n hx hb dL_areAlike_0 rfl (lv_at hl 0 rfl) ?_
  refine xcAi (va_runV (As := []) (rest := []) ⟨hx, hb, hml, hown, hts⟩ ((q_clock l D cy t0 a4 u k now M  st hO) H.size) (cwV 0 hts gL_areAlike_X4_clock rfl rfl rfl (by decide +kernel) ⟨Nat.le_of_ble_eq_true rfl, Nat.le_of_ble_eq_true rfl⟩) (gvA hE hS hA hP hD) rfl rfl hl.1 rfl (lv_room (Nat.le_of_ble_eq_true rfl)) dL_areAlike_1 ⟨Nat.zero_le _, Nat.zero_le _⟩) hP hD hS hA (fun r_1 st H locs hr_2 hP hD hS => ?_)
  obtain ⟨hr_2q, hO⟩ := hr_2
  obtain rfl : r_1 = nI now := hr_2q
  refine lv_aload_n hx hb dL_areAlike_4 rfl (lv_at hl 1 rfl) ?_
  refine xcBi (va_runV (As := []) (rest := [.int (nI now)]) ⟨hx, hb, hml, hown, hts⟩ ((q_clock l D cy t0 b4 w k now M  su hU) H.size) (cwV 0 hts gL_areAlike_X4_clock rfl rfl rfl (by decide +kernel) ⟨Nat.le_of_ble_eq_true rfl, Nat.le_of_ble_eq_true rfl⟩) (gvB hE hS hA hP hD) rfl rfl hl.1 rfl (lv_room (Nat.le_of_ble_eq_true rfl)) dL_areAlike_5 ⟨Nat.zero_le _, Nat.zero_le _⟩) hP hD hS hA (fun r_3 su H locs hr_4 hP hD hS => ?_)
  obtain ⟨hr_4q, hU⟩ := hr_4
  obtain rfl : r_3 = nI now := hr_4q
  refine lv_icmp_ne (tgt := 15) hx hb dL_areAlike_8 (by decide) (fun c_5 => ?_) (fun c_5 => ?_)
  · exact absurd rfl c_5
  · refine lv_iconst (v := nI 1) hx hb dL_areAlike_11 (by decide) ?_
    refine lv_goto (tgt := 16) hx hb dL_areAlike_12 (by decide) ?_
    refine lv_istore_n (lv' := [(2, .int (nI 1)), (0, .ref a4), (1, .ref b4)]) hx hb dL_areAlike_16 rfl hl (by decide) rfl (fun ls hl => ?_)
    refine lv_iconst (v := nI 0) hx hb dL_areAlike_17 (by decide) ?_
    refine lv_istore_n (lv' := [(3, .int (nI 0)), (2, .int (nI 1)), (0, .ref a4), (1, .ref b4)]) hx hb dL_areAlike_18 rfl hl (by decide) rfl (fun ls hl => ?_)
    have lp : ∀ (n9 : Nat), ∀ (i : Nat) (st : ST) (su : ST), (hi : i ≤ 3) → (hO : OK M st) → (hU : OK M su) → 3 - i < n9 → ∀ (H : Heap) (locs : List Loc), xP D (OW cy a4 u k now st ++ OW cy b4 w k now su) H → va_D A (OW cy a4 u k now st ++ OW cy b4 w k now su) → va_S A s.heap H locs → ∀ (ls : Array Slot), lv_has ls 4 [(3, .int (nI i)), (2, .int (nI 1)), (0, .ref a4), (1, .ref b4)] → W p l e ({ frames := 9, cells := 0, slots := 0, locals := 300 } : Room) s m [.ref a4, .ref b4].toArray below meth c H locs 0 0 Q (F0 m 19 ls []) := by
      intro n9
      induction n9 with
      | zero => intro i st su hi hO hU hm; exact absurd hm (Nat.not_lt_zero _)
      | succ n9 ih_lp =>
        intro i st su hi hO hU hm H locs hP hD hS ls hl
        refine lv_iload_n hx hb dL_areAlike_19 rfl (lv_at hl 0 rfl) ?_
        refine lv_iconst (v := nI 3) hx hb dL_areAlike_20 (by decide) ?_
        refine xb_icmp_ge (tgt := 109) (a := i) (b := 3) (by omega) (by omega) hx hb dL_areAlike_21 (by decide) (fun c_6 => ?_) (fun c_6 => ?_)
        · refine lv_iload_n hx hb dL_areAlike_109 rfl (lv_at hl 1 rfl) ?_
          exact kret _ (st, su) _ _ _ _ _ _ dL_areAlike_110 ⟨rfl, hO, hU⟩ hP hD hS (Nat.le_of_ble_eq_true rfl) (Nat.le_of_ble_eq_true rfl)
        · refine lv_iload_n hx hb dL_areAlike_24 rfl (lv_at hl 1 rfl) ?_
          refine xb_if_eq (tgt := 101) (a := 1) (by omega) hx hb dL_areAlike_25 (by decide) (fun c_7 => ?_) (fun c_7 => ?_)
          · exact absurd c_7 (by omega)
          · refine lv_aload_n hx hb dL_areAlike_28 rfl (lv_at hl 2 rfl) ?_
            refine lv_iload_n hx hb dL_areAlike_29 rfl (lv_at hl 0 rfl) ?_
            refine xcAi (va_runV (As := [.int (nI i)]) (rest := []) ⟨hx, hb, hml, hown, hts⟩ ((q_plain l D cy t0 a4 u k now M i (by omega)  st hO) H.size) (cwV 1 hts gL_areAlike_X4_plain rfl rfl rfl (by decide +kernel) ⟨Nat.le_of_ble_eq_true rfl, Nat.le_of_ble_eq_true rfl⟩) (gvA hE hS hA hP hD) rfl rfl hl.1 rfl (lv_room (Nat.le_of_ble_eq_true rfl)) dL_areAlike_30 ⟨Nat.zero_le _, Nat.zero_le _⟩) hP hD hS hA (fun r_8 st H locs hr_9 hP hD hS => ?_)
            obtain ⟨hr_9q, hO⟩ := hr_9
            obtain rfl : r_8 = nI (cb (Sm (M i)) 100000) := hr_9q
            refine lv_aload_n hx hb dL_areAlike_33 rfl (lv_at hl 3 rfl) ?_
            refine lv_iload_n hx hb dL_areAlike_34 rfl (lv_at hl 0 rfl) ?_
            refine xcBi (va_runV (As := [.int (nI i)]) (rest := [.int (nI (cb (Sm (M i)) 100000))]) ⟨hx, hb, hml, hown, hts⟩ ((q_plain l D cy t0 b4 w k now M i (by omega)  su hU) H.size) (cwV 1 hts gL_areAlike_X4_plain rfl rfl rfl (by decide +kernel) ⟨Nat.le_of_ble_eq_true rfl, Nat.le_of_ble_eq_true rfl⟩) (gvB hE hS hA hP hD) rfl rfl hl.1 rfl (lv_room (Nat.le_of_ble_eq_true rfl)) dL_areAlike_35 ⟨Nat.zero_le _, Nat.zero_le _⟩) hP hD hS hA (fun r_10 su H locs hr_11 hP hD hS => ?_)
            obtain ⟨hr_11q, hU⟩ := hr_11
            obtain rfl : r_10 = nI (cb (Sm (M i)) 100000) := hr_11q
            refine lv_icmp_ne (tgt := 101) hx hb dL_areAlike_38 (by decide) (fun c_12 => ?_) (fun c_12 => ?_)
            · exact absurd rfl c_12
            · refine lv_aload_n hx hb dL_areAlike_41 rfl (lv_at hl 2 rfl) ?_
              refine lv_iload_n hx hb dL_areAlike_42 rfl (lv_at hl 0 rfl) ?_
              refine xcAi (va_runV (As := [.int (nI i)]) (rest := []) ⟨hx, hb, hml, hown, hts⟩ ((q_byLeast l D cy t0 a4 u k now M i (by omega) hk2 hk st hO) H.size) (cwV 1 hts gL_areAlike_X4_byLeast rfl rfl rfl (by decide +kernel) ⟨Nat.le_of_ble_eq_true rfl, Nat.le_of_ble_eq_true rfl⟩) (gvA hE hS hA hP hD) rfl rfl hl.1 rfl (lv_room (Nat.le_of_ble_eq_true rfl)) dL_areAlike_43 ⟨Nat.zero_le _, Nat.zero_le _⟩) hP hD hS hA (fun r_13 st H locs hr_14 hP hD hS => ?_)
              obtain ⟨hr_14q, hO⟩ := hr_14
              obtain rfl : r_13 = nI (estV k (hsM (M i))) := hr_14q
              refine lv_aload_n hx hb dL_areAlike_46 rfl (lv_at hl 3 rfl) ?_
              refine lv_iload_n hx hb dL_areAlike_47 rfl (lv_at hl 0 rfl) ?_
              refine xcBi (va_runV (As := [.int (nI i)]) (rest := [.int (nI (estV k (hsM (M i))))]) ⟨hx, hb, hml, hown, hts⟩ ((q_byLeast l D cy t0 b4 w k now M i (by omega) hk2 hk su hU) H.size) (cwV 1 hts gL_areAlike_X4_byLeast rfl rfl rfl (by decide +kernel) ⟨Nat.le_of_ble_eq_true rfl, Nat.le_of_ble_eq_true rfl⟩) (gvB hE hS hA hP hD) rfl rfl hl.1 rfl (lv_room (Nat.le_of_ble_eq_true rfl)) dL_areAlike_48 ⟨Nat.zero_le _, Nat.zero_le _⟩) hP hD hS hA (fun r_15 su H locs hr_16 hP hD hS => ?_)
              obtain ⟨hr_16q, hU⟩ := hr_16
              obtain rfl : r_15 = nI (estV k (hsM (M i))) := hr_16q
              refine lv_icmp_ne (tgt := 101) hx hb dL_areAlike_51 (by decide) (fun c_17 => ?_) (fun c_17 => ?_)
              · exact absurd rfl c_17
              · refine lv_aload_n hx hb dL_areAlike_54 rfl (lv_at hl 2 rfl) ?_
                refine lv_iload_n hx hb dL_areAlike_55 rfl (lv_at hl 0 rfl) ?_
                refine xcAl (va_runV (As := [.int (nI i)]) (rest := []) ⟨hx, hb, hml, hown, hts⟩ ((q_byRegisters l D cy t0 a4 u k now M i (by omega) (hMV i) st hO) H.size) (cwV 1 hts gL_areAlike_X4_byRegisters rfl rfl rfl (by decide +kernel) ⟨Nat.le_of_ble_eq_true rfl, Nat.le_of_ble_eq_true rfl⟩) (gvA hE hS hA hP hD) rfl rfl hl.1 rfl (lv_room (Nat.le_of_ble_eq_true rfl)) dL_areAlike_56 ⟨Nat.zero_le _, Nat.zero_le _⟩) hP hD hS hA (fun r_18 st H locs hr_19 hP hD hS => ?_)
                obtain ⟨hr_19q, hO⟩ := hr_19
                obtain rfl : r_18 = lN (regE (fun r => mxr (Sm (M i)) r 100000)) := hr_19q
                refine lv_aload_n hx hb dL_areAlike_59 rfl (lv_at hl 3 rfl) ?_
                refine lv_iload_n hx hb dL_areAlike_60 rfl (lv_at hl 0 rfl) ?_
                refine xcBl (va_runV (As := [.int (nI i)]) (rest := [.long (lN (regE (fun r => mxr (Sm (M i)) r 100000)))]) ⟨hx, hb, hml, hown, hts⟩ ((q_byRegisters l D cy t0 b4 w k now M i (by omega) (hMV i) su hU) H.size) (cwV 1 hts gL_areAlike_X4_byRegisters rfl rfl rfl (by decide +kernel) ⟨Nat.le_of_ble_eq_true rfl, Nat.le_of_ble_eq_true rfl⟩) (gvB hE hS hA hP hD) rfl rfl hl.1 rfl (lv_room (Nat.le_of_ble_eq_true rfl)) dL_areAlike_61 ⟨Nat.zero_le _, Nat.zero_le _⟩) hP hD hS hA (fun r_20 su H locs hr_21 hP hD hS => ?_)
                obtain ⟨hr_21q, hU⟩ := hr_21
                obtain rfl : r_20 = lN (regE (fun r => mxr (Sm (M i)) r 100000)) := hr_21q
                refine W.lcmp hx hb dL_areAlike_64 ?_
                refine lv_eqi (z := nI 0) (lgc _) ?_
                refine xb_if_ne (tgt := 101) (a := 0) (by omega) hx hb dL_areAlike_65 (by decide) (fun c_22 => ?_) (fun c_22 => ?_)
                · exact absurd c_22 (by omega)
                · refine lv_aload_n hx hb dL_areAlike_68 rfl (lv_at hl 2 rfl) ?_
                  refine lv_iload_n hx hb dL_areAlike_69 rfl (lv_at hl 0 rfl) ?_
                  refine xcAi (va_runV (As := [.int (nI i)]) (rest := []) ⟨hx, hb, hml, hown, hts⟩ ((q_bySample l D cy t0 a4 u k now M i (by omega)  st hO) H.size) (cwV 1 hts gL_areAlike_X4_bySample rfl rfl rfl (by decide +kernel) ⟨Nat.le_of_ble_eq_true rfl, Nat.le_of_ble_eq_true rfl⟩) (gvA hE hS hA hP hD) rfl rfl hl.1 rfl (lv_room (Nat.le_of_ble_eq_true rfl)) dL_areAlike_70 ⟨Nat.zero_le _, Nat.zero_le _⟩) hP hD hS hA (fun r_23 st H locs hr_24 hP hD hS => ?_)
                  obtain ⟨hr_24q, hO⟩ := hr_24
                  obtain rfl : r_23 = nI (cb (SL (Sm (M i)) (lvl (Sm (M i)))) 100000) <<< (nI (lvl (Sm (M i))) &&& 31) := hr_24q
                  refine lv_aload_n hx hb dL_areAlike_73 rfl (lv_at hl 3 rfl) ?_
                  refine lv_iload_n hx hb dL_areAlike_74 rfl (lv_at hl 0 rfl) ?_
                  refine xcBi (va_runV (As := [.int (nI i)]) (rest := [.int (nI (cb (SL (Sm (M i)) (lvl (Sm (M i)))) 100000) <<< (nI (lvl (Sm (M i))) &&& 31))]) ⟨hx, hb, hml, hown, hts⟩ ((q_bySample l D cy t0 b4 w k now M i (by omega)  su hU) H.size) (cwV 1 hts gL_areAlike_X4_bySample rfl rfl rfl (by decide +kernel) ⟨Nat.le_of_ble_eq_true rfl, Nat.le_of_ble_eq_true rfl⟩) (gvB hE hS hA hP hD) rfl rfl hl.1 rfl (lv_room (Nat.le_of_ble_eq_true rfl)) dL_areAlike_75 ⟨Nat.zero_le _, Nat.zero_le _⟩) hP hD hS hA (fun r_25 su H locs hr_26 hP hD hS => ?_)
                  obtain ⟨hr_26q, hU⟩ := hr_26
                  obtain rfl : r_25 = nI (cb (SL (Sm (M i)) (lvl (Sm (M i)))) 100000) <<< (nI (lvl (Sm (M i))) &&& 31) := hr_26q
                  refine lv_icmp_ne (tgt := 101) hx hb dL_areAlike_78 (by decide) (fun c_27 => ?_) (fun c_27 => ?_)
                  · exact absurd rfl c_27
                  · refine lv_aload_n hx hb dL_areAlike_81 rfl (lv_at hl 2 rfl) ?_
                    refine lv_iload_n hx hb dL_areAlike_82 rfl (lv_at hl 0 rfl) ?_
                    refine lv_iconst (v := nI 5) hx hb dL_areAlike_83 (by decide) ?_
                    refine xcAl (va_runV (As := [.int (nI i), .int (nI 5)]) (rest := []) ⟨hx, hb, hml, hown, hts⟩ ((q_recent l D cy t0 a4 u k now M i (by omega) (hMV i) 5 (by omega) (by omega) st hO) H.size) (cwV 2 hts gL_areAlike_X4_recent rfl rfl rfl (by decide +kernel) ⟨Nat.le_of_ble_eq_true rfl, Nat.le_of_ble_eq_true rfl⟩) (gvA hE hS hA hP hD) rfl rfl hl.1 rfl (lv_room (Nat.le_of_ble_eq_true rfl)) dL_areAlike_84 ⟨Nat.zero_le _, Nat.zero_le _⟩) hP hD hS hA (fun r_28 st H locs hr_29 hP hD hS => ?_)
                    obtain ⟨hr_29q, hO⟩ := hr_29
                    obtain rfl : r_28 = lN (regE (fun r => mxr (Tm (M i) (nI now - nI 5)) r 100000)) := hr_29q
                    refine lv_aload_n hx hb dL_areAlike_87 rfl (lv_at hl 3 rfl) ?_
                    refine lv_iload_n hx hb dL_areAlike_88 rfl (lv_at hl 0 rfl) ?_
                    refine lv_iconst (v := nI 5) hx hb dL_areAlike_89 (by decide) ?_
                    refine xcBl (va_runV (As := [.int (nI i), .int (nI 5)]) (rest := [.long (lN (regE (fun r => mxr (Tm (M i) (nI now - nI 5)) r 100000)))]) ⟨hx, hb, hml, hown, hts⟩ ((q_recent l D cy t0 b4 w k now M i (by omega) (hMV i) 5 (by omega) (by omega) su hU) H.size) (cwV 2 hts gL_areAlike_X4_recent rfl rfl rfl (by decide +kernel) ⟨Nat.le_of_ble_eq_true rfl, Nat.le_of_ble_eq_true rfl⟩) (gvB hE hS hA hP hD) rfl rfl hl.1 rfl (lv_room (Nat.le_of_ble_eq_true rfl)) dL_areAlike_90 ⟨Nat.zero_le _, Nat.zero_le _⟩) hP hD hS hA (fun r_30 su H locs hr_31 hP hD hS => ?_)
                    obtain ⟨hr_31q, hU⟩ := hr_31
                    obtain rfl : r_30 = lN (regE (fun r => mxr (Tm (M i) (nI now - nI 5)) r 100000)) := hr_31q
                    refine W.lcmp hx hb dL_areAlike_93 ?_
                    refine lv_eqi (z := nI 0) (lgc _) ?_
                    refine xb_if_ne (tgt := 101) (a := 0) (by omega) hx hb dL_areAlike_94 (by decide) (fun c_32 => ?_) (fun c_32 => ?_)
                    · exact absurd c_32 (by omega)
                    · refine lv_iconst (v := nI 1) hx hb dL_areAlike_97 (by decide) ?_
                      refine lv_goto (tgt := 102) hx hb dL_areAlike_98 (by decide) ?_
                      refine lv_istore_n (lv' := [(2, .int (nI 1)), (3, .int (nI i)), (0, .ref a4), (1, .ref b4)]) hx hb dL_areAlike_102 rfl hl (by decide) rfl (fun ls hl => ?_)
                      refine lv_iinc (v := nI (i + 1)) (lv' := [(3, .int (nI (i + 1))), (2, .int (nI 1)), (0, .ref a4), (1, .ref b4)]) hx hb dL_areAlike_103 hl (k := 1) rfl (nI_add _ 1) (by decide) rfl (fun ls hl => ?_)
                      refine lv_goto (tgt := 19) hx hb dL_areAlike_106 (by decide) ?_
                      exact ih_lp (i + 1) st su (by omega) hO hU (by omega) _ _ hP hD hS _ (lv_sub hl [0, 1, 2, 3] rfl)
    exact lp 4 0 st su (by omega) hO hU (by omega) _ _ hP hD hS _ (lv_sub hl [0, 1, 2, 3] rfl)
end X45
