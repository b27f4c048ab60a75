section X47
set_option maxHeartbeats 16000000 in
set_option maxRecDepth 100000 in
theorem t_arePairsSo (l : Launch) (D : va_G) (cy : Nat → ClassId) (t0 k : Nat) {M : Nat → Nat → Int32} {now : Nat} (hk2 : 2 ≤ k) (hk : k ≤ 32) (a4 : Nat) (u : Nat → Nat) (b b2 : Nat) (hb6 : b < 6) (hb62 : b2 < 6) (st : ST) (hO : OK M st) : xWi (S := ST) l yL_arePairsSo wsL_arePairsSo ({ frames := 9, cells := 0, slots := 0, locals := 300 } : Room) D cy t0 ([.ref a4, .int (nI b), .int (nI b2)]) (OW cy a4 u k now st) (fun r v => r = nI 1 ∧ OK M v) (fun v => OW cy a4 u k now v) 0 0 := by
  refine xofWi (cc := cL_arePairsSo) (maxL := 6) (by decide) rfl (Nat.le_of_ble_eq_true rfl) (fun r v h => by rw [h.1]; rfl) ?_
  intro p e s m below meth c Q A ls hx hb hml hts hown hE hA H locs hP hD hl hS kret
  have hl : lv_has ls 6 [(0, .ref a4), (1, .int (nI b)), (2, .int (nI b2))] := hl
  have hT9 : pT k (M b) (M b2) < 2 ^ 29 := pT_lt hk
  have hCT : pC k (M b) (M b2) ≤ pT k (M b) (M b2) := pC_le
  have hWT : pW k (M b) (M b2) ≤ pT k (M b) (M b2) := pW_le
  have hVT : pW k (M b2) (M b) ≤ pT k (M b) (M b2) := by
    rw [← pT_comm (A := M b) (B := M b2)]
    exact pW_le
  have hPN : pP (M b) (M b2) ≤ bN (M b) := pP_le
  have hn9 : bN (M b) ≤ 100000 := bN_le
  have h3 := p_three (k := k) (A := M b) (B := M b2) hk2
  refine lv_aload_n hx hb dL_arePairsSo_0 rfl (lv_at hl 0 rfl) ?_
  refine lv_iload_n hx hb dL_arePairsSo_1 rfl (lv_at hl 1 rfl) ?_
  refine lv_iload_n hx hb dL_arePairsSo_2 rfl (lv_at hl 2 rfl) ?_
  refine xc0i (va_runV (As := [.int (nI b), .int (nI b2)]) (rest := []) ⟨hx, hb, hml, hown, hts⟩ ((q_together l D cy t0 a4 u k now M b b2 hb6 hb62 hk2 hk st hO) H.size) (cwV 2 hts gL_arePairsSo_X4_together rfl rfl rfl (by decide +kernel) ⟨Nat.le_of_ble_eq_true rfl, Nat.le_of_ble_eq_true rfl⟩) (gv0 hE hS hA hP hD) rfl rfl hl.1 rfl (lv_room (Nat.le_of_ble_eq_true rfl)) dL_arePairsSo_3 ⟨Nat.le_of_ble_eq_true rfl, Nat.le_of_ble_eq_true rfl⟩) hP hD hS hA (fun r_1 st H locs hr_2 hP hD hS => ?_)
  obtain ⟨hr_2q, hO⟩ := hr_2
  obtain rfl : r_1 = nI (pT k (M b) (M b2)) := hr_2q
  refine lv_istore_n (lv' := [(3, .int (nI (pT k (M b) (M b2)))), (0, .ref a4), (1, .int (nI b)), (2, .int (nI b2))]) hx hb dL_arePairsSo_6 rfl hl (by decide) rfl (fun ls hl => ?_)
  refine lv_aload_n hx hb dL_arePairsSo_7 rfl (lv_at hl 1 rfl) ?_
  refine lv_iload_n hx hb dL_arePairsSo_8 rfl (lv_at hl 2 rfl) ?_
  refine lv_iload_n hx hb dL_arePairsSo_9 rfl (lv_at hl 3 rfl) ?_
  refine xc0i (va_runV (As := [.int (nI b), .int (nI b2)]) (rest := []) ⟨hx, hb, hml, hown, hts⟩ ((q_common l D cy t0 a4 u k now M b b2 hb6 hb62 hk2 hk st hO) H.size) (cwV 2 hts gL_arePairsSo_X4_common rfl rfl rfl (by decide +kernel) ⟨Nat.le_of_ble_eq_true rfl, Nat.le_of_ble_eq_true rfl⟩) (gv0 hE hS hA hP hD) rfl rfl hl.1 rfl (lv_room (Nat.le_of_ble_eq_true rfl)) dL_arePairsSo_10 ⟨Nat.le_of_ble_eq_true rfl, Nat.le_of_ble_eq_true rfl⟩) hP hD hS hA (fun r_3 st H locs hr_4 hP hD hS => ?_)
  obtain ⟨hr_4q, hO⟩ := hr_4
  obtain rfl : r_3 = nI (pC k (M b) (M b2)) := hr_4q
  refine lv_istore (lv' := [(4, .int (nI (pC k (M b) (M b2)))), (3, .int (nI (pT k (M b) (M b2)))), (0, .ref a4), (1, .int (nI b)), (2, .int (nI b2))]) hx hb dL_arePairsSo_13 hl (by decide) rfl (fun ls hl => ?_)
  refine lv_aload_n hx hb dL_arePairsSo_15 rfl (lv_at hl 2 rfl) ?_
  refine lv_iload_n hx hb dL_arePairsSo_16 rfl (lv_at hl 4 rfl) ?_
  refine lv_iload_n hx hb dL_arePairsSo_17 rfl (lv_at hl 3 rfl) ?_
  refine xc0i (va_runV (As := [.int (nI b2), .int (nI b)]) (rest := []) ⟨hx, hb, hml, hown, hts⟩ ((q_together l D cy t0 a4 u k now M b2 b hb62 hb6 hk2 hk st hO) H.size) (cwV 2 hts gL_arePairsSo_X4_together rfl rfl rfl (by decide +kernel) ⟨Nat.le_of_ble_eq_true rfl, Nat.le_of_ble_eq_true rfl⟩) (gv0 hE hS hA hP hD) rfl rfl hl.1 rfl (lv_room (Nat.le_of_ble_eq_true rfl)) dL_arePairsSo_18 ⟨Nat.le_of_ble_eq_true rfl, Nat.le_of_ble_eq_true rfl⟩) hP hD hS hA (fun r_5 st H locs hr_6 hP hD hS => ?_)
  obtain ⟨hr_6q, hO⟩ := hr_6
  obtain rfl : r_5 = nI (pT k (M b) (M b2)) := (hr_6q.trans (congrArg nI (pT_comm (k := k) (A := M b) (B := M b2))))
  refine lv_iload_n hx hb dL_arePairsSo_21 rfl (lv_at hl 1 rfl) ?_
  refine xb_icmp_ne (tgt := 85) (a := pT k (M b) (M b2)) (b := pT k (M b) (M b2)) (by omega) (by omega) hx hb dL_arePairsSo_22 (by decide) (fun c_7 => ?_) (fun c_7 => ?_)
  · exact absurd rfl c_7
  · refine lv_aload_n hx hb dL_arePairsSo_25 rfl (lv_at hl 2 rfl) ?_
    refine lv_iload_n hx hb dL_arePairsSo_26 rfl (lv_at hl 4 rfl) ?_
    refine lv_iload_n hx hb dL_arePairsSo_27 rfl (lv_at hl 3 rfl) ?_
    refine xc0i (va_runV (As := [.int (nI b2), .int (nI b)]) (rest := []) ⟨hx, hb, hml, hown, hts⟩ ((q_common l D cy t0 a4 u k now M b2 b hb62 hb6 hk2 hk st hO) H.size) (cwV 2 hts gL_arePairsSo_X4_common rfl rfl rfl (by decide +kernel) ⟨Nat.le_of_ble_eq_true rfl, Nat.le_of_ble_eq_true rfl⟩) (gv0 hE hS hA hP hD) rfl rfl hl.1 rfl (lv_room (Nat.le_of_ble_eq_true rfl)) dL_arePairsSo_28 ⟨Nat.le_of_ble_eq_true rfl, Nat.le_of_ble_eq_true rfl⟩) hP hD hS hA (fun r_8 st H locs hr_9 hP hD hS => ?_)
    obtain ⟨hr_9q, hO⟩ := hr_9
    obtain rfl : r_8 = nI (pC k (M b) (M b2)) := (hr_9q.trans (congrArg nI (pC_comm (k := k) (A := M b) (B := M b2))))
    refine lv_iload hx hb dL_arePairsSo_31 (lv_at hl 0 rfl) ?_
    refine xb_icmp_ne (tgt := 85) (a := pC k (M b) (M b2)) (b := pC k (M b) (M b2)) (by omega) (by omega) hx hb dL_arePairsSo_33 (by decide) (fun c_10 => ?_) (fun c_10 => ?_)
    · exact absurd rfl c_10
    · refine lv_iload hx hb dL_arePairsSo_36 (lv_at hl 0 rfl) ?_
      refine lv_iload_n hx hb dL_arePairsSo_38 rfl (lv_at hl 1 rfl) ?_
      refine xb_icmp_gt (tgt := 85) (a := pC k (M b) (M b2)) (b := pT k (M b) (M b2)) (by omega) (by omega) hx hb dL_arePairsSo_39 (by decide) (fun c_11 => ?_) (fun c_11 => ?_)
      · exact absurd c_11 (by omega)
      · refine lv_aload_n hx hb dL_arePairsSo_42 rfl (lv_at hl 2 rfl) ?_
        refine lv_iload_n hx hb dL_arePairsSo_43 rfl (lv_at hl 3 rfl) ?_
        refine lv_iload_n hx hb dL_arePairsSo_44 rfl (lv_at hl 4 rfl) ?_
        refine xc0i (va_runV (As := [.int (nI b), .int (nI b2)]) (rest := []) ⟨hx, hb, hml, hown, hts⟩ ((q_without l D cy t0 a4 u k now M b b2 hb6 hb62 hk2 hk st hO) H.size) (cwV 2 hts gL_arePairsSo_X4_without rfl rfl rfl (by decide +kernel) ⟨Nat.le_of_ble_eq_true rfl, Nat.le_of_ble_eq_true rfl⟩) (gv0 hE hS hA hP hD) rfl rfl hl.1 rfl (lv_room (Nat.le_of_ble_eq_true rfl)) dL_arePairsSo_45 ⟨Nat.le_of_ble_eq_true rfl, Nat.le_of_ble_eq_true rfl⟩) hP hD hS hA (fun r_12 st H locs hr_13 hP hD hS => ?_)
        obtain ⟨hr_13q, hO⟩ := hr_13
        obtain rfl : r_12 = nI (pW k (M b) (M b2)) := hr_13q
        refine lv_iload_n hx hb dL_arePairsSo_48 rfl (lv_at hl 1 rfl) ?_
        refine xb_icmp_gt (tgt := 85) (a := pW k (M b) (M b2)) (b := pT k (M b) (M b2)) (by omega) (by omega) hx hb dL_arePairsSo_49 (by decide) (fun c_14 => ?_) (fun c_14 => ?_)
        · exact absurd c_14 (by omega)
        · refine lv_aload_n hx hb dL_arePairsSo_52 rfl (lv_at hl 2 rfl) ?_
          refine lv_iload_n hx hb dL_arePairsSo_53 rfl (lv_at hl 3 rfl) ?_
          refine lv_iload_n hx hb dL_arePairsSo_54 rfl (lv_at hl 4 rfl) ?_
          refine xc0i (va_runV (As := [.int (nI b), .int (nI b2)]) (rest := []) ⟨hx, hb, hml, hown, hts⟩ ((q_plainCommon l D cy t0 a4 u k now M b b2 hb6 hb62 st hO) H.size) (cwV 2 hts gL_arePairsSo_X4_plainCommon rfl rfl rfl (by decide +kernel) ⟨Nat.le_of_ble_eq_true rfl, Nat.le_of_ble_eq_true rfl⟩) (gv0 hE hS hA hP hD) rfl rfl hl.1 rfl (lv_room (Nat.le_of_ble_eq_true rfl)) dL_arePairsSo_55 ⟨Nat.le_of_ble_eq_true rfl, Nat.le_of_ble_eq_true rfl⟩) hP hD hS hA (fun r_15 st H locs hr_16 hP hD hS => ?_)
          obtain ⟨hr_16q, hO⟩ := hr_16
          obtain rfl : r_15 = nI (pP (M b) (M b2)) := hr_16q
          refine lv_aload_n hx hb dL_arePairsSo_58 rfl (lv_at hl 2 rfl) ?_
          refine lv_iload_n hx hb dL_arePairsSo_59 rfl (lv_at hl 4 rfl) ?_
          refine lv_iload_n hx hb dL_arePairsSo_60 rfl (lv_at hl 3 rfl) ?_
          refine xc0i (va_runV (As := [.int (nI b2), .int (nI b)]) (rest := [.int (nI (pP (M b) (M b2)))]) ⟨hx, hb, hml, hown, hts⟩ ((q_plainCommon l D cy t0 a4 u k now M b2 b hb62 hb6 st hO) H.size) (cwV 2 hts gL_arePairsSo_X4_plainCommon rfl rfl rfl (by decide +kernel) ⟨Nat.le_of_ble_eq_true rfl, Nat.le_of_ble_eq_true rfl⟩) (gv0 hE hS hA hP hD) rfl rfl hl.1 rfl (lv_room (Nat.le_of_ble_eq_true rfl)) dL_arePairsSo_61 ⟨Nat.le_of_ble_eq_true rfl, Nat.le_of_ble_eq_true rfl⟩) hP hD hS hA (fun r_17 st H locs hr_18 hP hD hS => ?_)
          obtain ⟨hr_18q, hO⟩ := hr_18
          obtain rfl : r_17 = nI (pP (M b) (M b2)) := (hr_18q.trans (congrArg nI (pP_comm (A := M b) (B := M b2))))
          refine xb_icmp_ne (tgt := 85) (a := pP (M b) (M b2)) (b := pP (M b) (M b2)) (by omega) (by omega) hx hb dL_arePairsSo_64 (by decide) (fun c_19 => ?_) (fun c_19 => ?_)
          · exact absurd rfl c_19
          · refine lv_aload_n hx hb dL_arePairsSo_67 rfl (lv_at hl 2 rfl) ?_
            refine lv_iload_n hx hb dL_arePairsSo_68 rfl (lv_at hl 3 rfl) ?_
            refine lv_iload_n hx hb dL_arePairsSo_69 rfl (lv_at hl 4 rfl) ?_
            refine xc0i (va_runV (As := [.int (nI b), .int (nI b2)]) (rest := []) ⟨hx, hb, hml, hown, hts⟩ ((q_plainCommon l D cy t0 a4 u k now M b b2 hb6 hb62 st hO) H.size) (cwV 2 hts gL_arePairsSo_X4_plainCommon rfl rfl rfl (by decide +kernel) ⟨Nat.le_of_ble_eq_true rfl, Nat.le_of_ble_eq_true rfl⟩) (gv0 hE hS hA hP hD) rfl rfl hl.1 rfl (lv_room (Nat.le_of_ble_eq_true rfl)) dL_arePairsSo_70 ⟨Nat.le_of_ble_eq_true rfl, Nat.le_of_ble_eq_true rfl⟩) hP hD hS hA (fun r_20 st H locs hr_21 hP hD hS => ?_)
            obtain ⟨hr_21q, hO⟩ := hr_21
            obtain rfl : r_20 = nI (pP (M b) (M b2)) := hr_21q
            refine lv_aload_n hx hb dL_arePairsSo_73 rfl (lv_at hl 2 rfl) ?_
            refine lv_iload_n hx hb dL_arePairsSo_74 rfl (lv_at hl 3 rfl) ?_
            refine xc0i (va_runV (As := [.int (nI b)]) (rest := [.int (nI (pP (M b) (M b2)))]) ⟨hx, hb, hml, hown, hts⟩ ((q_plain l D cy t0 a4 u k now M b hb6 st hO) H.size) (cwV 1 hts gL_arePairsSo_X4_plain rfl rfl rfl (by decide +kernel) ⟨Nat.le_of_ble_eq_true rfl, Nat.le_of_ble_eq_true rfl⟩) (gv0 hE hS hA hP hD) rfl rfl hl.1 rfl (lv_room (Nat.le_of_ble_eq_true rfl)) dL_arePairsSo_75 ⟨Nat.le_of_ble_eq_true rfl, Nat.le_of_ble_eq_true rfl⟩) hP hD hS hA (fun r_22 st H locs hr_23 hP hD hS => ?_)
            obtain ⟨hr_23q, hO⟩ := hr_23
            obtain rfl : r_22 = nI (bN (M b)) := hr_23q
            refine xb_icmp_gt (tgt := 85) (a := pP (M b) (M b2)) (b := bN (M b)) (by omega) (by omega) hx hb dL_arePairsSo_78 (by decide) (fun c_24 => ?_) (fun c_24 => ?_)
            · exact absurd c_24 (by omega)
            · refine lv_iconst (v := nI 1) hx hb dL_arePairsSo_81 (by decide) ?_
              refine lv_goto (tgt := 86) hx hb dL_arePairsSo_82 (by decide) ?_
              refine lv_istore (lv' := [(5, .int (nI 1)), (4, .int (nI (pC k (M b) (M b2)))), (3, .int (nI (pT k (M b) (M b2)))), (0, .ref a4), (1, .int (nI b)), (2, .int (nI b2))]) hx hb dL_arePairsSo_86 hl (by decide) rfl (fun ls hl => ?_)
              refine lv_iload hx hb dL_arePairsSo_88 (lv_at hl 0 rfl) ?_
              refine xb_if_eq (tgt := 148) (a := 1) (by omega) hx hb dL_arePairsSo_90 (by decide) (fun c_25 => ?_) (fun c_25 => ?_)
              · exact absurd c_25 (by omega)
              · refine lv_aload_n hx hb dL_arePairsSo_93 rfl (lv_at hl 3 rfl) ?_
                refine lv_iload_n hx hb dL_arePairsSo_94 rfl (lv_at hl 4 rfl) ?_
                refine lv_iload_n hx hb dL_arePairsSo_95 rfl (lv_at hl 4 rfl) ?_
                refine xc0i (va_runV (As := [.int (nI b), .int (nI b)]) (rest := []) ⟨hx, hb, hml, hown, hts⟩ ((q_together l D cy t0 a4 u k now M b b hb6 hb6 hk2 hk st hO) H.size) (cwV 2 hts gL_arePairsSo_X4_together rfl rfl rfl (by decide +kernel) ⟨Nat.le_of_ble_eq_true rfl, Nat.le_of_ble_eq_true rfl⟩) (gv0 hE hS hA hP hD) rfl rfl hl.1 rfl (lv_room (Nat.le_of_ble_eq_true rfl)) dL_arePairsSo_96 ⟨Nat.le_of_ble_eq_true rfl, Nat.le_of_ble_eq_true rfl⟩) hP hD hS hA (fun r_26 st H locs hr_27 hP hD hS => ?_)
                obtain ⟨hr_27q, hO⟩ := hr_27
                obtain rfl : r_26 = nI (estV k (hsM (M b))) := (hr_27q.trans (congrArg nI (pT_self (k := k) (A := M b) hk2)))
                refine lv_aload_n hx hb dL_arePairsSo_99 rfl (lv_at hl 3 rfl) ?_
                refine lv_iload_n hx hb dL_arePairsSo_100 rfl (lv_at hl 4 rfl) ?_
                refine xc0i (va_runV (As := [.int (nI b)]) (rest := [.int (nI (estV k (hsM (M b))))]) ⟨hx, hb, hml, hown, hts⟩ ((q_byLeast l D cy t0 a4 u k now M b hb6 hk2 hk st hO) H.size) (cwV 1 hts gL_arePairsSo_X4_byLeast rfl rfl rfl (by decide +kernel) ⟨Nat.le_of_ble_eq_true rfl, Nat.le_of_ble_eq_true rfl⟩) (gv0 hE hS hA hP hD) rfl rfl hl.1 rfl (lv_room (Nat.le_of_ble_eq_true rfl)) dL_arePairsSo_101 ⟨Nat.le_of_ble_eq_true rfl, Nat.le_of_ble_eq_true rfl⟩) hP hD hS hA (fun r_28 st H locs hr_29 hP hD hS => ?_)
                obtain ⟨hr_29q, hO⟩ := hr_29
                obtain rfl : r_28 = nI (estV k (hsM (M b))) := hr_29q
                refine lv_icmp_ne (tgt := 148) hx hb dL_arePairsSo_104 (by decide) (fun c_30 => ?_) (fun c_30 => ?_)
                · exact absurd rfl c_30
                · refine lv_aload_n hx hb dL_arePairsSo_107 rfl (lv_at hl 3 rfl) ?_
                  refine lv_iload_n hx hb dL_arePairsSo_108 rfl (lv_at hl 4 rfl) ?_
                  refine lv_iload_n hx hb dL_arePairsSo_109 rfl (lv_at hl 4 rfl) ?_
                  refine xc0i (va_runV (As := [.int (nI b), .int (nI b)]) (rest := []) ⟨hx, hb, hml, hown, hts⟩ ((q_common l D cy t0 a4 u k now M b b hb6 hb6 hk2 hk st hO) H.size) (cwV 2 hts gL_arePairsSo_X4_common rfl rfl rfl (by decide +kernel) ⟨Nat.le_of_ble_eq_true rfl, Nat.le_of_ble_eq_true rfl⟩) (gv0 hE hS hA hP hD) rfl rfl hl.1 rfl (lv_room (Nat.le_of_ble_eq_true rfl)) dL_arePairsSo_110 ⟨Nat.le_of_ble_eq_true rfl, Nat.le_of_ble_eq_true rfl⟩) hP hD hS hA (fun r_31 st H locs hr_32 hP hD hS => ?_)
                  obtain ⟨hr_32q, hO⟩ := hr_32
                  obtain rfl : r_31 = nI (estV k (hsM (M b))) := (hr_32q.trans (congrArg nI (pC_self (k := k) (A := M b) hk2)))
                  refine lv_aload_n hx hb dL_arePairsSo_113 rfl (lv_at hl 3 rfl) ?_
                  refine lv_iload_n hx hb dL_arePairsSo_114 rfl (lv_at hl 4 rfl) ?_
                  refine xc0i (va_runV (As := [.int (nI b)]) (rest := [.int (nI (estV k (hsM (M b))))]) ⟨hx, hb, hml, hown, hts⟩ ((q_byLeast l D cy t0 a4 u k now M b hb6 hk2 hk st hO) H.size) (cwV 1 hts gL_arePairsSo_X4_byLeast rfl rfl rfl (by decide +kernel) ⟨Nat.le_of_ble_eq_true rfl, Nat.le_of_ble_eq_true rfl⟩) (gv0 hE hS hA hP hD) rfl rfl hl.1 rfl (lv_room (Nat.le_of_ble_eq_true rfl)) dL_arePairsSo_115 ⟨Nat.le_of_ble_eq_true rfl, Nat.le_of_ble_eq_true rfl⟩) hP hD hS hA (fun r_33 st H locs hr_34 hP hD hS => ?_)
                  obtain ⟨hr_34q, hO⟩ := hr_34
                  obtain rfl : r_33 = nI (estV k (hsM (M b))) := hr_34q
                  refine lv_icmp_ne (tgt := 148) hx hb dL_arePairsSo_118 (by decide) (fun c_35 => ?_) (fun c_35 => ?_)
                  · exact absurd rfl c_35
                  · refine lv_aload_n hx hb dL_arePairsSo_121 rfl (lv_at hl 3 rfl) ?_
                    refine lv_iload_n hx hb dL_arePairsSo_122 rfl (lv_at hl 4 rfl) ?_
                    refine lv_iload_n hx hb dL_arePairsSo_123 rfl (lv_at hl 4 rfl) ?_
                    refine xc0i (va_runV (As := [.int (nI b), .int (nI b)]) (rest := []) ⟨hx, hb, hml, hown, hts⟩ ((q_without l D cy t0 a4 u k now M b b hb6 hb6 hk2 hk st hO) H.size) (cwV 2 hts gL_arePairsSo_X4_without rfl rfl rfl (by decide +kernel) ⟨Nat.le_of_ble_eq_true rfl, Nat.le_of_ble_eq_true rfl⟩) (gv0 hE hS hA hP hD) rfl rfl hl.1 rfl (lv_room (Nat.le_of_ble_eq_true rfl)) dL_arePairsSo_124 ⟨Nat.le_of_ble_eq_true rfl, Nat.le_of_ble_eq_true rfl⟩) hP hD hS hA (fun r_36 st H locs hr_37 hP hD hS => ?_)
                    obtain ⟨hr_37q, hO⟩ := hr_37
                    obtain rfl : r_36 = nI 0 := (hr_37q.trans (congrArg nI (pW_self (k := k) (A := M b))))
                    refine xb_if_ne (tgt := 148) (a := 0) (by omega) hx hb dL_arePairsSo_127 (by decide) (fun c_38 => ?_) (fun c_38 => ?_)
                    · exact absurd c_38 (by omega)
                    · refine lv_aload_n hx hb dL_arePairsSo_130 rfl (lv_at hl 3 rfl) ?_
                      refine lv_iload_n hx hb dL_arePairsSo_131 rfl (lv_at hl 4 rfl) ?_
                      refine lv_iload_n hx hb dL_arePairsSo_132 rfl (lv_at hl 4 rfl) ?_
                      refine xc0i (va_runV (As := [.int (nI b), .int (nI b)]) (rest := []) ⟨hx, hb, hml, hown, hts⟩ ((q_plainCommon l D cy t0 a4 u k now M b b hb6 hb6 st hO) H.size) (cwV 2 hts gL_arePairsSo_X4_plainCommon rfl rfl rfl (by decide +kernel) ⟨Nat.le_of_ble_eq_true rfl, Nat.le_of_ble_eq_true rfl⟩) (gv0 hE hS hA hP hD) rfl rfl hl.1 rfl (lv_room (Nat.le_of_ble_eq_true rfl)) dL_arePairsSo_133 ⟨Nat.le_of_ble_eq_true rfl, Nat.le_of_ble_eq_true rfl⟩) hP hD hS hA (fun r_39 st H locs hr_40 hP hD hS => ?_)
                      obtain ⟨hr_40q, hO⟩ := hr_40
                      obtain rfl : r_39 = nI (bN (M b)) := (hr_40q.trans (congrArg nI (pP_self (A := M b))))
                      refine lv_aload_n hx hb dL_arePairsSo_136 rfl (lv_at hl 3 rfl) ?_
                      refine lv_iload_n hx hb dL_arePairsSo_137 rfl (lv_at hl 4 rfl) ?_
                      refine xc0i (va_runV (As := [.int (nI b)]) (rest := [.int (nI (bN (M b)))]) ⟨hx, hb, hml, hown, hts⟩ ((q_plain l D cy t0 a4 u k now M b hb6 st hO) H.size) (cwV 1 hts gL_arePairsSo_X4_plain rfl rfl rfl (by decide +kernel) ⟨Nat.le_of_ble_eq_true rfl, Nat.le_of_ble_eq_true rfl⟩) (gv0 hE hS hA hP hD) rfl rfl hl.1 rfl (lv_room (Nat.le_of_ble_eq_true rfl)) dL_arePairsSo_138 ⟨Nat.le_of_ble_eq_true rfl, Nat.le_of_ble_eq_true rfl⟩) hP hD hS hA (fun r_41 st H locs hr_42 hP hD hS => ?_)
                      obtain ⟨hr_42q, hO⟩ := hr_42
                      obtain rfl : r_41 = nI (bN (M b)) := hr_42q
                      refine xb_icmp_ne (tgt := 148) (a := bN (M b)) (b := bN (M b)) (by omega) (by omega) hx hb dL_arePairsSo_141 (by decide) (fun c_43 => ?_) (fun c_43 => ?_)
                      · exact absurd rfl c_43
                      · refine lv_iconst (v := nI 1) hx hb dL_arePairsSo_144 (by decide) ?_
                        refine lv_goto (tgt := 149) hx hb dL_arePairsSo_145 (by decide) ?_
                        refine lv_istore (lv' := [(5, .int (nI 1)), (4, .int (nI (pC k (M b) (M b2)))), (3, .int (nI (pT k (M b) (M b2)))), (0, .ref a4), (1, .int (nI b)), (2, .int (nI b2))]) hx hb dL_arePairsSo_149 hl (by decide) rfl (fun ls hl => ?_)
                        refine lv_iload hx hb dL_arePairsSo_151 (lv_at hl 0 rfl) ?_
                        refine xb_if_eq (tgt := 202) (a := 1) (by omega) hx hb dL_arePairsSo_153 (by decide) (fun c_44 => ?_) (fun c_44 => ?_)
                        · exact absurd c_44 (by omega)
                        · refine lv_iload hx hb dL_arePairsSo_156 (lv_at hl 1 rfl) ?_
                          refine lv_aload_n hx hb dL_arePairsSo_158 rfl (lv_at hl 3 rfl) ?_
                          refine lv_iload_n hx hb dL_arePairsSo_159 rfl (lv_at hl 4 rfl) ?_
                          refine lv_iload_n hx hb dL_arePairsSo_160 rfl (lv_at hl 5 rfl) ?_
                          refine xc0i (va_runV (As := [.int (nI b), .int (nI b2)]) (rest := [.int (nI (pC k (M b) (M b2)))]) ⟨hx, hb, hml, hown, hts⟩ ((q_without l D cy t0 a4 u k now M b b2 hb6 hb62 hk2 hk st hO) H.size) (cwV 2 hts gL_arePairsSo_X4_without rfl rfl rfl (by decide +kernel) ⟨Nat.le_of_ble_eq_true rfl, Nat.le_of_ble_eq_true rfl⟩) (gv0 hE hS hA hP hD) rfl rfl hl.1 rfl (lv_room (Nat.le_of_ble_eq_true rfl)) dL_arePairsSo_161 ⟨Nat.le_of_ble_eq_true rfl, Nat.le_of_ble_eq_true rfl⟩) hP hD hS hA (fun r_45 st H locs hr_46 hP hD hS => ?_)
                          obtain ⟨hr_46q, hO⟩ := hr_46
                          obtain rfl : r_45 = nI (pW k (M b) (M b2)) := hr_46q
                          refine lv_iadd hx hb dL_arePairsSo_164 ?_
                          refine lv_eqi (z := nI (pC k (M b) (M b2) + pW k (M b) (M b2))) (nI_add _ _) ?_
                          refine lv_aload_n hx hb dL_arePairsSo_165 rfl (lv_at hl 3 rfl) ?_
                          refine lv_iload_n hx hb dL_arePairsSo_166 rfl (lv_at hl 5 rfl) ?_
                          refine lv_iload_n hx hb dL_arePairsSo_167 rfl (lv_at hl 4 rfl) ?_
                          refine xc0i (va_runV (As := [.int (nI b2), .int (nI b)]) (rest := [.int (nI (pC k (M b) (M b2) + pW k (M b) (M b2)))]) ⟨hx, hb, hml, hown, hts⟩ ((q_without l D cy t0 a4 u k now M b2 b hb62 hb6 hk2 hk st hO) H.size) (cwV 2 hts gL_arePairsSo_X4_without rfl rfl rfl (by decide +kernel) ⟨Nat.le_of_ble_eq_true rfl, Nat.le_of_ble_eq_true rfl⟩) (gv0 hE hS hA hP hD) rfl rfl hl.1 rfl (lv_room (Nat.le_of_ble_eq_true rfl)) dL_arePairsSo_168 ⟨Nat.le_of_ble_eq_true rfl, Nat.le_of_ble_eq_true rfl⟩) hP hD hS hA (fun r_47 st H locs hr_48 hP hD hS => ?_)
                          obtain ⟨hr_48q, hO⟩ := hr_48
                          obtain rfl : r_47 = nI (pW k (M b2) (M b)) := hr_48q
                          refine lv_iadd hx hb dL_arePairsSo_171 ?_
                          refine lv_eqi (z := nI (pC k (M b) (M b2) + pW k (M b) (M b2) + pW k (M b2) (M b))) (nI_add _ _) ?_
                          refine lv_iload_n hx hb dL_arePairsSo_172 rfl (lv_at hl 2 rfl) ?_
                          refine xb_icmp_gt (tgt := 202) (a := pC k (M b) (M b2) + pW k (M b) (M b2) + pW k (M b2) (M b)) (b := pT k (M b) (M b2)) (by omega) (by omega) hx hb dL_arePairsSo_173 (by decide) (fun c_49 => ?_) (fun c_49 => ?_)
                          · exact absurd c_49 (by omega)
                          · refine lv_iload hx hb dL_arePairsSo_176 (lv_at hl 1 rfl) ?_
                            refine lv_aload_n hx hb dL_arePairsSo_178 rfl (lv_at hl 3 rfl) ?_
                            refine lv_iload_n hx hb dL_arePairsSo_179 rfl (lv_at hl 4 rfl) ?_
                            refine lv_iload_n hx hb dL_arePairsSo_180 rfl (lv_at hl 5 rfl) ?_
                            refine xc0i (va_runV (As := [.int (nI b), .int (nI b2)]) (rest := [.int (nI (pC k (M b) (M b2)))]) ⟨hx, hb, hml, hown, hts⟩ ((q_without l D cy t0 a4 u k now M b b2 hb6 hb62 hk2 hk st hO) H.size) (cwV 2 hts gL_arePairsSo_X4_without rfl rfl rfl (by decide +kernel) ⟨Nat.le_of_ble_eq_true rfl, Nat.le_of_ble_eq_true rfl⟩) (gv0 hE hS hA hP hD) rfl rfl hl.1 rfl (lv_room (Nat.le_of_ble_eq_true rfl)) dL_arePairsSo_181 ⟨Nat.le_of_ble_eq_true rfl, Nat.le_of_ble_eq_true rfl⟩) hP hD hS hA (fun r_50 st H locs hr_51 hP hD hS => ?_)
                            obtain ⟨hr_51q, hO⟩ := hr_51
                            obtain rfl : r_50 = nI (pW k (M b) (M b2)) := hr_51q
                            refine lv_iadd hx hb dL_arePairsSo_184 ?_
                            refine lv_eqi (z := nI (pC k (M b) (M b2) + pW k (M b) (M b2))) (nI_add _ _) ?_
                            refine lv_aload_n hx hb dL_arePairsSo_185 rfl (lv_at hl 3 rfl) ?_
                            refine lv_iload_n hx hb dL_arePairsSo_186 rfl (lv_at hl 5 rfl) ?_
                            refine lv_iload_n hx hb dL_arePairsSo_187 rfl (lv_at hl 4 rfl) ?_
                            refine xc0i (va_runV (As := [.int (nI b2), .int (nI b)]) (rest := [.int (nI (pC k (M b) (M b2) + pW k (M b) (M b2)))]) ⟨hx, hb, hml, hown, hts⟩ ((q_without l D cy t0 a4 u k now M b2 b hb62 hb6 hk2 hk st hO) H.size) (cwV 2 hts gL_arePairsSo_X4_without rfl rfl rfl (by decide +kernel) ⟨Nat.le_of_ble_eq_true rfl, Nat.le_of_ble_eq_true rfl⟩) (gv0 hE hS hA hP hD) rfl rfl hl.1 rfl (lv_room (Nat.le_of_ble_eq_true rfl)) dL_arePairsSo_188 ⟨Nat.le_of_ble_eq_true rfl, Nat.le_of_ble_eq_true rfl⟩) hP hD hS hA (fun r_52 st H locs hr_53 hP hD hS => ?_)
                            obtain ⟨hr_53q, hO⟩ := hr_53
                            obtain rfl : r_52 = nI (pW k (M b2) (M b)) := hr_53q
                            refine lv_iadd hx hb dL_arePairsSo_191 ?_
                            refine lv_eqi (z := nI (pC k (M b) (M b2) + pW k (M b) (M b2) + pW k (M b2) (M b))) (nI_add _ _) ?_
                            refine lv_iload_n hx hb dL_arePairsSo_192 rfl (lv_at hl 2 rfl) ?_
                            refine lv_iconst (v := nI 2) hx hb dL_arePairsSo_193 (by decide) ?_
                            refine lv_isub hx hb dL_arePairsSo_194 ?_
                            refine lv_icmp_lt (tgt := 202) hx hb dL_arePairsSo_195 (by decide) (fun c_54 => ?_) (fun c_54 => ?_)
                            · exact absurd c_54 (sub2 h3.2 (by omega) (by omega))
                            · refine lv_iconst (v := nI 1) hx hb dL_arePairsSo_198 (by decide) ?_
                              refine lv_goto (tgt := 203) hx hb dL_arePairsSo_199 (by decide) ?_
                              exact kret _ st _ _ _ _ _ _ dL_arePairsSo_203 ⟨rfl, hO⟩ hP hD hS (Nat.le_of_ble_eq_true rfl) (Nat.le_of_ble_eq_true rfl)
end X47
