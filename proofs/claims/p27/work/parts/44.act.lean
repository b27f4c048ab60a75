section X44
set_option maxHeartbeats 4000000 in
set_option maxRecDepth 100000 in
theorem a_o_0 (l : Launch) (D : va_G) (cy : Nat → ClassId) (t0 k : Nat) (v : Int32) {M : Nat → Nat → Int32} {now : Nat} (ho : lw (v >>> (nI 24 &&& 31)) 9 = 0) (hc0 : lw v 9 = 0) (hA0 : xAct l D cy t0 k yL_add wsL_add ({ frames := 8, cells := 3, slots := 9606, locals := 230 } : Room) [.int ((nI (lw (v >>> ((nI 3) &&& 31)) 8)) - (nI 1)), .int ((nI (lw (v >>> ((nI 6) &&& 31)) 100020)) - (nI 10))] M now) : xAct l D cy t0 k yL_act wsL_act ({ frames := 9, cells := 3, slots := 9606, locals := 300 } : Room) [.int v] M now := by
  obtain ⟨r, M', now', h1, h2, hw⟩ := hA0
  refine ⟨r, M', now', h1, h2, fun a4 u st hO => ?_⟩
  refine xofWi (cc := cL_act) (maxL := 5) (by decide) rfl (Nat.le_of_ble_eq_true rfl) (fun _ _ _ => rfl) ?_
  intro p e s m below meth c Q A ls hx hb hml hts hown hE hA H locs hP hD hl hS kret
  have hl : lv_has ls 5 [(0, .ref a4), (1, .int v)] := hl
  have q9 := lw_lt v (n := 9) (by omega)
  have q24 := lw_lt (v >>> (nI 24 &&& 31)) (n := 9) (by omega)
  have q6 := lw_lt (v >>> (nI 9 &&& 31)) (n := 6) (by omega)
  refine lv_iload_n hx hb dL_act_0 rfl (lv_at hl 1 rfl) ?_
  refine lv_bipush (v := nI 24) hx hb dL_act_1 (by decide) ?_
  refine lv_ishr hx hb dL_act_3 ?_
  refine lv_bipush (v := nI 9) hx hb dL_act_4 (by decide) ?_
  refine xcRi (va_runS (As := [.int (v >>> ((nI 24) &&& 31)), .int (nI 9)]) (rest := []) ⟨hx, hb, hml, hown, hts⟩ (c_low l D cy t0 (v >>> ((nI 24) &&& 31)) 9 (by omega) (by omega)) (va_cwS 2 hts gL_act_L_low rfl rfl rfl (by decide +kernel) ⟨Nat.le_of_ble_eq_true rfl, Nat.le_of_ble_eq_true rfl⟩) (xPr.give (wc := []) hE hS hP [] rfl) rfl rfl hl.1 rfl (lv_room (Nat.le_of_ble_eq_true rfl)) dL_act_6 ⟨Nat.zero_le _, Nat.zero_le _⟩) (fun r_1 hr_2 => ?_)
  obtain rfl : r_1 = nI (lw (v >>> ((nI 24) &&& 31)) 9) := hr_2
  refine xb_if_ne (tgt := 16) (a := lw (v >>> ((nI 24) &&& 31)) 9) (by omega) hx hb dL_act_9 (by decide) (fun c_3 => ?_) (fun c_3 => ?_)
  · exact absurd ho c_3
  · refine lv_iconst (v := nI 1) hx hb dL_act_12 (by decide) ?_
    refine lv_goto (tgt := 17) hx hb dL_act_13 (by decide) ?_
    refine lv_istore_n (lv' := [(2, .int (nI 1)), (0, .ref a4), (1, .int v)]) hx hb dL_act_17 rfl hl (by decide) rfl (fun ls hl => ?_)
    refine lv_iload_n hx hb dL_act_18 rfl (lv_at hl 0 rfl) ?_
    refine xb_if_eq (tgt := 35) (a := 1) (by omega) hx hb dL_act_19 (by decide) (fun c_4 => ?_) (fun c_4 => ?_)
    · exact absurd c_4 (by omega)
    · refine lv_iload_n hx hb dL_act_22 rfl (lv_at hl 2 rfl) ?_
      refine lv_iconst (v := nI 3) hx hb dL_act_23 (by decide) ?_
      refine lv_ishr hx hb dL_act_24 ?_
      refine lv_bipush (v := nI 8) hx hb dL_act_25 (by decide) ?_
      refine xcRi (va_runS (As := [.int (v >>> ((nI 3) &&& 31)), .int (nI 8)]) (rest := []) ⟨hx, hb, hml, hown, hts⟩ (c_low l D cy t0 (v >>> ((nI 3) &&& 31)) 8 (by omega) (by omega)) (va_cwS 2 hts gL_act_L_low rfl rfl rfl (by decide +kernel) ⟨Nat.le_of_ble_eq_true rfl, Nat.le_of_ble_eq_true rfl⟩) (xPr.give (wc := []) hE hS hP [] rfl) rfl rfl hl.1 rfl (lv_room (Nat.le_of_ble_eq_true rfl)) dL_act_27 ⟨Nat.zero_le _, Nat.zero_le _⟩) (fun r_5 hr_6 => ?_)
      obtain rfl : r_5 = nI (lw (v >>> ((nI 3) &&& 31)) 8) := hr_6
      refine lv_iconst (v := nI 1) hx hb dL_act_30 (by decide) ?_
      refine lv_isub hx hb dL_act_31 ?_
      refine lv_goto (tgt := 42) hx hb dL_act_32 (by decide) ?_
      refine lv_istore_n (lv' := [(3, .int ((nI (lw (v >>> ((nI 3) &&& 31)) 8)) - (nI 1))), (2, .int (nI 1)), (0, .ref a4), (1, .int v)]) hx hb dL_act_42 rfl hl (by decide) rfl (fun ls hl => ?_)
      refine lv_iload_n hx hb dL_act_43 rfl (lv_at hl 1 rfl) ?_
      refine xb_if_eq (tgt := 62) (a := 1) (by omega) hx hb dL_act_44 (by decide) (fun c_7 => ?_) (fun c_7 => ?_)
      · exact absurd c_7 (by omega)
      · refine lv_iload_n hx hb dL_act_47 rfl (lv_at hl 3 rfl) ?_
        refine lv_bipush (v := nI 6) hx hb dL_act_48 (by decide) ?_
        refine lv_ishr hx hb dL_act_50 ?_
        refine lv_ldc (v := nI 100020) hx hb hown (hts (.constant RL 42 (100020)) (by decide +kernel)) dL_act_51 ?_
        refine xcRi (va_runS (As := [.int (v >>> ((nI 6) &&& 31)), .int (nI 100020)]) (rest := []) ⟨hx, hb, hml, hown, hts⟩ (c_low l D cy t0 (v >>> ((nI 6) &&& 31)) 100020 (by omega) (by omega)) (va_cwS 2 hts gL_act_L_low rfl rfl rfl (by decide +kernel) ⟨Nat.le_of_ble_eq_true rfl, Nat.le_of_ble_eq_true rfl⟩) (xPr.give (wc := []) hE hS hP [] rfl) rfl rfl hl.1 rfl (lv_room (Nat.le_of_ble_eq_true rfl)) dL_act_53 ⟨Nat.zero_le _, Nat.zero_le _⟩) (fun r_8 hr_9 => ?_)
        obtain rfl : r_8 = nI (lw (v >>> ((nI 6) &&& 31)) 100020) := hr_9
        refine lv_bipush (v := nI 10) hx hb dL_act_56 (by decide) ?_
        refine lv_isub hx hb dL_act_58 ?_
        refine lv_goto (tgt := 72) hx hb dL_act_59 (by decide) ?_
        refine lv_istore (lv' := [(4, .int ((nI (lw (v >>> ((nI 6) &&& 31)) 100020)) - (nI 10))), (3, .int ((nI (lw (v >>> ((nI 3) &&& 31)) 8)) - (nI 1))), (2, .int (nI 1)), (0, .ref a4), (1, .int v)]) hx hb dL_act_72 hl (by decide) rfl (fun ls hl => ?_)
        refine lv_iload_n hx hb dL_act_74 rfl (lv_at hl 4 rfl) ?_
        refine lv_bipush (v := nI 9) hx hb dL_act_75 (by decide) ?_
        refine xcRi (va_runS (As := [.int v, .int (nI 9)]) (rest := []) ⟨hx, hb, hml, hown, hts⟩ (c_low l D cy t0 v 9 (by omega) (by omega)) (va_cwS 2 hts gL_act_L_low rfl rfl rfl (by decide +kernel) ⟨Nat.le_of_ble_eq_true rfl, Nat.le_of_ble_eq_true rfl⟩) (xPr.give (wc := []) hE hS hP [] rfl) rfl rfl hl.1 rfl (lv_room (Nat.le_of_ble_eq_true rfl)) dL_act_77 ⟨Nat.zero_le _, Nat.zero_le _⟩) (fun r_10 hr_11 => ?_)
        obtain rfl : r_10 = nI (lw v 9) := hr_11
        refine lv_eqi (z := nI 0) (by rw [hc0]) ?_
        refine lv_tableIn (x := nI 0) (off := 32) (tgt := 112) hx hb dL_act_80 (by decide +kernel) (by decide +kernel) (by decide +kernel) (by decide +kernel) ?_
        refine lv_aload_n hx hb dL_act_112 rfl (lv_at hl 3 rfl) ?_
        refine lv_iload_n hx hb dL_act_113 rfl (lv_at hl 1 rfl) ?_
        refine lv_iload hx hb dL_act_114 (lv_at hl 0 rfl) ?_
        refine xc0i (vx_runSW (As := [.ref a4, .int ((nI (lw (v >>> ((nI 3) &&& 31)) 8)) - (nI 1)), .int ((nI (lw (v >>> ((nI 6) &&& 31)) 100020)) - (nI 10))]) (rest := []) ⟨hx, hb, hml, hown, hts⟩ (hw a4 u st hO H.size) (vx_cwSW 3 hts gL_act_L_add rfl rfl rfl (by decide +kernel) ⟨Nat.le_of_ble_eq_true rfl, Nat.le_of_ble_eq_true rfl⟩) (gs0 hE hS hA hP hD) rfl rfl hl.1 rfl (lv_room (Nat.le_of_ble_eq_true rfl)) dL_act_116 ⟨Nat.le_of_ble_eq_true rfl, Nat.le_of_ble_eq_true rfl⟩) hP hD hS hA (fun r9 st H locs hq hP hD hS => ?_)
        exact kret _ st _ _ _ _ _ _ dL_act_119 hq hP hD hS (Nat.le_of_ble_eq_true rfl) (Nat.le_of_ble_eq_true rfl)
set_option maxHeartbeats 4000000 in
set_option maxRecDepth 100000 in
theorem a_o_1 (l : Launch) (D : va_G) (cy : Nat → ClassId) (t0 k : Nat) (v : Int32) {M : Nat → Nat → Int32} {now : Nat} (ho : lw (v >>> (nI 24 &&& 31)) 9 = 0) (hc0 : lw v 9 = 1) (hA0 : xAct l D cy t0 k yL_add wsL_add ({ frames := 8, cells := 3, slots := 9606, locals := 230 } : Room) [.int ((nI (lw (v >>> ((nI 3) &&& 31)) 8)) - (nI 1)), .int ((nI (lw (v >>> ((nI 6) &&& 31)) 100020)) - (nI 10))] M now) : xAct l D cy t0 k yL_act wsL_act ({ frames := 9, cells := 3, slots := 9606, locals := 300 } : Room) [.int v] M now := by
  obtain ⟨r, M', now', h1, h2, hw⟩ := hA0
  refine ⟨r, M', now', h1, h2, fun a4 u st hO => ?_⟩
  refine xofWi (cc := cL_act) (maxL := 5) (by decide) rfl (Nat.le_of_ble_eq_true rfl) (fun _ _ _ => rfl) ?_
  intro p e s m below meth c Q A ls hx hb hml hts hown hE hA H locs hP hD hl hS kret
  have hl : lv_has ls 5 [(0, .ref a4), (1, .int v)] := hl
  have q9 := lw_lt v (n := 9) (by omega)
  have q24 := lw_lt (v >>> (nI 24 &&& 31)) (n := 9) (by omega)
  have q6 := lw_lt (v >>> (nI 9 &&& 31)) (n := 6) (by omega)
  refine lv_iload_n hx hb dL_act_0 rfl (lv_at hl 1 rfl) ?_
  refine lv_bipush (v := nI 24) hx hb dL_act_1 (by decide) ?_
  refine lv_ishr hx hb dL_act_3 ?_
  refine lv_bipush (v := nI 9) hx hb dL_act_4 (by decide) ?_
  refine xcRi (va_runS (As := [.int (v >>> ((nI 24) &&& 31)), .int (nI 9)]) (rest := []) ⟨hx, hb, hml, hown, hts⟩ (c_low l D cy t0 (v >>> ((nI 24) &&& 31)) 9 (by omega) (by omega)) (va_cwS 2 hts gL_act_L_low rfl rfl rfl (by decide +kernel) ⟨Nat.le_of_ble_eq_true rfl, Nat.le_of_ble_eq_true rfl⟩) (xPr.give (wc := []) hE hS hP [] rfl) rfl rfl hl.1 rfl (lv_room (Nat.le_of_ble_eq_true rfl)) dL_act_6 ⟨Nat.zero_le _, Nat.zero_le _⟩) (fun r_1 hr_2 => ?_)
  obtain rfl : r_1 = nI (lw (v >>> ((nI 24) &&& 31)) 9) := hr_2
  refine xb_if_ne (tgt := 16) (a := lw (v >>> ((nI 24) &&& 31)) 9) (by omega) hx hb dL_act_9 (by decide) (fun c_3 => ?_) (fun c_3 => ?_)
  · exact absurd ho c_3
  · refine lv_iconst (v := nI 1) hx hb dL_act_12 (by decide) ?_
    refine lv_goto (tgt := 17) hx hb dL_act_13 (by decide) ?_
    refine lv_istore_n (lv' := [(2, .int (nI 1)), (0, .ref a4), (1, .int v)]) hx hb dL_act_17 rfl hl (by decide) rfl (fun ls hl => ?_)
    refine lv_iload_n hx hb dL_act_18 rfl (lv_at hl 0 rfl) ?_
    refine xb_if_eq (tgt := 35) (a := 1) (by omega) hx hb dL_act_19 (by decide) (fun c_4 => ?_) (fun c_4 => ?_)
    · exact absurd c_4 (by omega)
    · refine lv_iload_n hx hb dL_act_22 rfl (lv_at hl 2 rfl) ?_
      refine lv_iconst (v := nI 3) hx hb dL_act_23 (by decide) ?_
      refine lv_ishr hx hb dL_act_24 ?_
      refine lv_bipush (v := nI 8) hx hb dL_act_25 (by decide) ?_
      refine xcRi (va_runS (As := [.int (v >>> ((nI 3) &&& 31)), .int (nI 8)]) (rest := []) ⟨hx, hb, hml, hown, hts⟩ (c_low l D cy t0 (v >>> ((nI 3) &&& 31)) 8 (by omega) (by omega)) (va_cwS 2 hts gL_act_L_low rfl rfl rfl (by decide +kernel) ⟨Nat.le_of_ble_eq_true rfl, Nat.le_of_ble_eq_true rfl⟩) (xPr.give (wc := []) hE hS hP [] rfl) rfl rfl hl.1 rfl (lv_room (Nat.le_of_ble_eq_true rfl)) dL_act_27 ⟨Nat.zero_le _, Nat.zero_le _⟩) (fun r_5 hr_6 => ?_)
      obtain rfl : r_5 = nI (lw (v >>> ((nI 3) &&& 31)) 8) := hr_6
      refine lv_iconst (v := nI 1) hx hb dL_act_30 (by decide) ?_
      refine lv_isub hx hb dL_act_31 ?_
      refine lv_goto (tgt := 42) hx hb dL_act_32 (by decide) ?_
      refine lv_istore_n (lv' := [(3, .int ((nI (lw (v >>> ((nI 3) &&& 31)) 8)) - (nI 1))), (2, .int (nI 1)), (0, .ref a4), (1, .int v)]) hx hb dL_act_42 rfl hl (by decide) rfl (fun ls hl => ?_)
      refine lv_iload_n hx hb dL_act_43 rfl (lv_at hl 1 rfl) ?_
      refine xb_if_eq (tgt := 62) (a := 1) (by omega) hx hb dL_act_44 (by decide) (fun c_7 => ?_) (fun c_7 => ?_)
      · exact absurd c_7 (by omega)
      · refine lv_iload_n hx hb dL_act_47 rfl (lv_at hl 3 rfl) ?_
        refine lv_bipush (v := nI 6) hx hb dL_act_48 (by decide) ?_
        refine lv_ishr hx hb dL_act_50 ?_
        refine lv_ldc (v := nI 100020) hx hb hown (hts (.constant RL 42 (100020)) (by decide +kernel)) dL_act_51 ?_
        refine xcRi (va_runS (As := [.int (v >>> ((nI 6) &&& 31)), .int (nI 100020)]) (rest := []) ⟨hx, hb, hml, hown, hts⟩ (c_low l D cy t0 (v >>> ((nI 6) &&& 31)) 100020 (by omega) (by omega)) (va_cwS 2 hts gL_act_L_low rfl rfl rfl (by decide +kernel) ⟨Nat.le_of_ble_eq_true rfl, Nat.le_of_ble_eq_true rfl⟩) (xPr.give (wc := []) hE hS hP [] rfl) rfl rfl hl.1 rfl (lv_room (Nat.le_of_ble_eq_true rfl)) dL_act_53 ⟨Nat.zero_le _, Nat.zero_le _⟩) (fun r_8 hr_9 => ?_)
        obtain rfl : r_8 = nI (lw (v >>> ((nI 6) &&& 31)) 100020) := hr_9
        refine lv_bipush (v := nI 10) hx hb dL_act_56 (by decide) ?_
        refine lv_isub hx hb dL_act_58 ?_
        refine lv_goto (tgt := 72) hx hb dL_act_59 (by decide) ?_
        refine lv_istore (lv' := [(4, .int ((nI (lw (v >>> ((nI 6) &&& 31)) 100020)) - (nI 10))), (3, .int ((nI (lw (v >>> ((nI 3) &&& 31)) 8)) - (nI 1))), (2, .int (nI 1)), (0, .ref a4), (1, .int v)]) hx hb dL_act_72 hl (by decide) rfl (fun ls hl => ?_)
        refine lv_iload_n hx hb dL_act_74 rfl (lv_at hl 4 rfl) ?_
        refine lv_bipush (v := nI 9) hx hb dL_act_75 (by decide) ?_
        refine xcRi (va_runS (As := [.int v, .int (nI 9)]) (rest := []) ⟨hx, hb, hml, hown, hts⟩ (c_low l D cy t0 v 9 (by omega) (by omega)) (va_cwS 2 hts gL_act_L_low rfl rfl rfl (by decide +kernel) ⟨Nat.le_of_ble_eq_true rfl, Nat.le_of_ble_eq_true rfl⟩) (xPr.give (wc := []) hE hS hP [] rfl) rfl rfl hl.1 rfl (lv_room (Nat.le_of_ble_eq_true rfl)) dL_act_77 ⟨Nat.zero_le _, Nat.zero_le _⟩) (fun r_10 hr_11 => ?_)
        obtain rfl : r_10 = nI (lw v 9) := hr_11
        refine lv_eqi (z := nI 1) (by rw [hc0]) ?_
        refine lv_tableIn (x := nI 1) (off := 32) (tgt := 112) hx hb dL_act_80 (by decide +kernel) (by decide +kernel) (by decide +kernel) (by decide +kernel) ?_
        refine lv_aload_n hx hb dL_act_112 rfl (lv_at hl 3 rfl) ?_
        refine lv_iload_n hx hb dL_act_113 rfl (lv_at hl 1 rfl) ?_
        refine lv_iload hx hb dL_act_114 (lv_at hl 0 rfl) ?_
        refine xc0i (vx_runSW (As := [.ref a4, .int ((nI (lw (v >>> ((nI 3) &&& 31)) 8)) - (nI 1)), .int ((nI (lw (v >>> ((nI 6) &&& 31)) 100020)) - (nI 10))]) (rest := []) ⟨hx, hb, hml, hown, hts⟩ (hw a4 u st hO H.size) (vx_cwSW 3 hts gL_act_L_add rfl rfl rfl (by decide +kernel) ⟨Nat.le_of_ble_eq_true rfl, Nat.le_of_ble_eq_true rfl⟩) (gs0 hE hS hA hP hD) rfl rfl hl.1 rfl (lv_room (Nat.le_of_ble_eq_true rfl)) dL_act_116 ⟨Nat.le_of_ble_eq_true rfl, Nat.le_of_ble_eq_true rfl⟩) hP hD hS hA (fun r9 st H locs hq hP hD hS => ?_)
        exact kret _ st _ _ _ _ _ _ dL_act_119 hq hP hD hS (Nat.le_of_ble_eq_true rfl) (Nat.le_of_ble_eq_true rfl)
set_option maxHeartbeats 4000000 in
set_option maxRecDepth 100000 in
theorem a_o_2e (l : Launch) (D : va_G) (cy : Nat → ClassId) (t0 k : Nat) (v : Int32) {M : Nat → Nat → Int32} {now : Nat} (ho : lw (v >>> (nI 24 &&& 31)) 9 = 0) (hc0 : lw v 9 = 2) (hc2 : lw (v >>> (nI 9 &&& 31)) 6 = 0) (hA0 : xAct l D cy t0 k yL_empty wsL_empty ({ frames := 8, cells := 3, slots := 9606, locals := 230 } : Room) [.int ((nI (lw (v >>> ((nI 3) &&& 31)) 8)) - (nI 1))] M now) : xAct l D cy t0 k yL_act wsL_act ({ frames := 9, cells := 3, slots := 9606, locals := 300 } : Room) [.int v] M now := by
  obtain ⟨r, M', now', h1, h2, hw⟩ := hA0
  refine ⟨r, M', now', h1, h2, fun a4 u st hO => ?_⟩
  refine xofWi (cc := cL_act) (maxL := 5) (by decide) rfl (Nat.le_of_ble_eq_true rfl) (fun _ _ _ => rfl) ?_
  intro p e s m below meth c Q A ls hx hb hml hts hown hE hA H locs hP hD hl hS kret
  have hl : lv_has ls 5 [(0, .ref a4), (1, .int v)] := hl
  have q9 := lw_lt v (n := 9) (by omega)
  have q24 := lw_lt (v >>> (nI 24 &&& 31)) (n := 9) (by omega)
  have q6 := lw_lt (v >>> (nI 9 &&& 31)) (n := 6) (by omega)
  refine lv_iload_n hx hb dL_act_0 rfl (lv_at hl 1 rfl) ?_
  refine lv_bipush (v := nI 24) hx hb dL_act_1 (by decide) ?_
  refine lv_ishr hx hb dL_act_3 ?_
  refine lv_bipush (v := nI 9) hx hb dL_act_4 (by decide) ?_
  refine xcRi (va_runS (As := [.int (v >>> ((nI 24) &&& 31)), .int (nI 9)]) (rest := []) ⟨hx, hb, hml, hown, hts⟩ (c_low l D cy t0 (v >>> ((nI 24) &&& 31)) 9 (by omega) (by omega)) (va_cwS 2 hts gL_act_L_low rfl rfl rfl (by decide +kernel) ⟨Nat.le_of_ble_eq_true rfl, Nat.le_of_ble_eq_true rfl⟩) (xPr.give (wc := []) hE hS hP [] rfl) rfl rfl hl.1 rfl (lv_room (Nat.le_of_ble_eq_true rfl)) dL_act_6 ⟨Nat.zero_le _, Nat.zero_le _⟩) (fun r_1 hr_2 => ?_)
  obtain rfl : r_1 = nI (lw (v >>> ((nI 24) &&& 31)) 9) := hr_2
  refine xb_if_ne (tgt := 16) (a := lw (v >>> ((nI 24) &&& 31)) 9) (by omega) hx hb dL_act_9 (by decide) (fun c_3 => ?_) (fun c_3 => ?_)
  · exact absurd ho c_3
  · refine lv_iconst (v := nI 1) hx hb dL_act_12 (by decide) ?_
    refine lv_goto (tgt := 17) hx hb dL_act_13 (by decide) ?_
    refine lv_istore_n (lv' := [(2, .int (nI 1)), (0, .ref a4), (1, .int v)]) hx hb dL_act_17 rfl hl (by decide) rfl (fun ls hl => ?_)
    refine lv_iload_n hx hb dL_act_18 rfl (lv_at hl 0 rfl) ?_
    refine xb_if_eq (tgt := 35) (a := 1) (by omega) hx hb dL_act_19 (by decide) (fun c_4 => ?_) (fun c_4 => ?_)
    · exact absurd c_4 (by omega)
    · refine lv_iload_n hx hb dL_act_22 rfl (lv_at hl 2 rfl) ?_
      refine lv_iconst (v := nI 3) hx hb dL_act_23 (by decide) ?_
      refine lv_ishr hx hb dL_act_24 ?_
      refine lv_bipush (v := nI 8) hx hb dL_act_25 (by decide) ?_
      refine xcRi (va_runS (As := [.int (v >>> ((nI 3) &&& 31)), .int (nI 8)]) (rest := []) ⟨hx, hb, hml, hown, hts⟩ (c_low l D cy t0 (v >>> ((nI 3) &&& 31)) 8 (by omega) (by omega)) (va_cwS 2 hts gL_act_L_low rfl rfl rfl (by decide +kernel) ⟨Nat.le_of_ble_eq_true rfl, Nat.le_of_ble_eq_true rfl⟩) (xPr.give (wc := []) hE hS hP [] rfl) rfl rfl hl.1 rfl (lv_room (Nat.le_of_ble_eq_true rfl)) dL_act_27 ⟨Nat.zero_le _, Nat.zero_le _⟩) (fun r_5 hr_6 => ?_)
      obtain rfl : r_5 = nI (lw (v >>> ((nI 3) &&& 31)) 8) := hr_6
      refine lv_iconst (v := nI 1) hx hb dL_act_30 (by decide) ?_
      refine lv_isub hx hb dL_act_31 ?_
      refine lv_goto (tgt := 42) hx hb dL_act_32 (by decide) ?_
      refine lv_istore_n (lv' := [(3, .int ((nI (lw (v >>> ((nI 3) &&& 31)) 8)) - (nI 1))), (2, .int (nI 1)), (0, .ref a4), (1, .int v)]) hx hb dL_act_42 rfl hl (by decide) rfl (fun ls hl => ?_)
      refine lv_iload_n hx hb dL_act_43 rfl (lv_at hl 1 rfl) ?_
      refine xb_if_eq (tgt := 62) (a := 1) (by omega) hx hb dL_act_44 (by decide) (fun c_7 => ?_) (fun c_7 => ?_)
      · exact absurd c_7 (by omega)
      · refine lv_iload_n hx hb dL_act_47 rfl (lv_at hl 3 rfl) ?_
        refine lv_bipush (v := nI 6) hx hb dL_act_48 (by decide) ?_
        refine lv_ishr hx hb dL_act_50 ?_
        refine lv_ldc (v := nI 100020) hx hb hown (hts (.constant RL 42 (100020)) (by decide +kernel)) dL_act_51 ?_
        refine xcRi (va_runS (As := [.int (v >>> ((nI 6) &&& 31)), .int (nI 100020)]) (rest := []) ⟨hx, hb, hml, hown, hts⟩ (c_low l D cy t0 (v >>> ((nI 6) &&& 31)) 100020 (by omega) (by omega)) (va_cwS 2 hts gL_act_L_low rfl rfl rfl (by decide +kernel) ⟨Nat.le_of_ble_eq_true rfl, Nat.le_of_ble_eq_true rfl⟩) (xPr.give (wc := []) hE hS hP [] rfl) rfl rfl hl.1 rfl (lv_room (Nat.le_of_ble_eq_true rfl)) dL_act_53 ⟨Nat.zero_le _, Nat.zero_le _⟩) (fun r_8 hr_9 => ?_)
        obtain rfl : r_8 = nI (lw (v >>> ((nI 6) &&& 31)) 100020) := hr_9
        refine lv_bipush (v := nI 10) hx hb dL_act_56 (by decide) ?_
        refine lv_isub hx hb dL_act_58 ?_
        refine lv_goto (tgt := 72) hx hb dL_act_59 (by decide) ?_
        refine lv_istore (lv' := [(4, .int ((nI (lw (v >>> ((nI 6) &&& 31)) 100020)) - (nI 10))), (3, .int ((nI (lw (v >>> ((nI 3) &&& 31)) 8)) - (nI 1))), (2, .int (nI 1)), (0, .ref a4), (1, .int v)]) hx hb dL_act_72 hl (by decide) rfl (fun ls hl => ?_)
        refine lv_iload_n hx hb dL_act_74 rfl (lv_at hl 4 rfl) ?_
        refine lv_bipush (v := nI 9) hx hb dL_act_75 (by decide) ?_
        refine xcRi (va_runS (As := [.int v, .int (nI 9)]) (rest := []) ⟨hx, hb, hml, hown, hts⟩ (c_low l D cy t0 v 9 (by omega) (by omega)) (va_cwS 2 hts gL_act_L_low rfl rfl rfl (by decide +kernel) ⟨Nat.le_of_ble_eq_true rfl, Nat.le_of_ble_eq_true rfl⟩) (xPr.give (wc := []) hE hS hP [] rfl) rfl rfl hl.1 rfl (lv_room (Nat.le_of_ble_eq_true rfl)) dL_act_77 ⟨Nat.zero_le _, Nat.zero_le _⟩) (fun r_10 hr_11 => ?_)
        obtain rfl : r_10 = nI (lw v 9) := hr_11
        refine lv_eqi (z := nI 2) (by rw [hc0]) ?_
        refine lv_tableIn (x := nI 2) (off := 40) (tgt := 120) hx hb dL_act_80 (by decide +kernel) (by decide +kernel) (by decide +kernel) (by decide +kernel) ?_
        refine lv_iload_n hx hb dL_act_120 rfl (lv_at hl 4 rfl) ?_
        refine lv_bipush (v := nI 9) hx hb dL_act_121 (by decide) ?_
        refine lv_ishr hx hb dL_act_123 ?_
        refine lv_bipush (v := nI 6) hx hb dL_act_124 (by decide) ?_
        refine xcRi (va_runS (As := [.int (v >>> ((nI 9) &&& 31)), .int (nI 6)]) (rest := []) ⟨hx, hb, hml, hown, hts⟩ (c_low l D cy t0 (v >>> ((nI 9) &&& 31)) 6 (by omega) (by omega)) (va_cwS 2 hts gL_act_L_low rfl rfl rfl (by decide +kernel) ⟨Nat.le_of_ble_eq_true rfl, Nat.le_of_ble_eq_true rfl⟩) (xPr.give (wc := []) hE hS hP [] rfl) rfl rfl hl.1 rfl (lv_room (Nat.le_of_ble_eq_true rfl)) dL_act_126 ⟨Nat.zero_le _, Nat.zero_le _⟩) (fun r_12 hr_13 => ?_)
        obtain rfl : r_12 = nI (lw (v >>> ((nI 9) &&& 31)) 6) := hr_13
        refine xb_if_ne (tgt := 140) (a := lw (v >>> ((nI 9) &&& 31)) 6) (by omega) hx hb dL_act_129 (by decide) (fun c_14 => ?_) (fun c_14 => ?_)
        · exact absurd hc2 c_14
        · refine lv_aload_n hx hb dL_act_132 rfl (lv_at hl 3 rfl) ?_
          refine lv_iload_n hx hb dL_act_133 rfl (lv_at hl 1 rfl) ?_
          refine xc0i (vx_runSW (As := [.ref a4, .int ((nI (lw (v >>> ((nI 3) &&& 31)) 8)) - (nI 1))]) (rest := []) ⟨hx, hb, hml, hown, hts⟩ (hw a4 u st hO H.size) (vx_cwSW 2 hts gL_act_L_empty rfl rfl rfl (by decide +kernel) ⟨Nat.le_of_ble_eq_true rfl, Nat.le_of_ble_eq_true rfl⟩) (gs0 hE hS hA hP hD) rfl rfl hl.1 rfl (lv_room (Nat.le_of_ble_eq_true rfl)) dL_act_134 ⟨Nat.le_of_ble_eq_true rfl, Nat.le_of_ble_eq_true rfl⟩) hP hD hS hA (fun r9 st H locs hq hP hD hS => ?_)
          refine lv_goto (tgt := 162) hx hb dL_act_137 (by decide) ?_
          exact kret _ st _ _ _ _ _ _ dL_act_162 hq hP hD hS (Nat.le_of_ble_eq_true rfl) (Nat.le_of_ble_eq_true rfl)
set_option maxHeartbeats 4000000 in
set_option maxRecDepth 100000 in
theorem a_o_2m (l : Launch) (D : va_G) (cy : Nat → ClassId) (t0 k : Nat) (v : Int32) {M : Nat → Nat → Int32} {now : Nat} (ho : lw (v >>> (nI 24 &&& 31)) 9 = 0) (hc0 : lw v 9 = 2) (hc2 : ¬ lw (v >>> (nI 9 &&& 31)) 6 = 0) (hA0 : xAct l D cy t0 k yL_merge wsL_merge ({ frames := 8, cells := 3, slots := 9606, locals := 230 } : Room) [.int ((nI (lw (v >>> ((nI 3) &&& 31)) 8)) - (nI 1)), .int (nI (lw (v >>> ((nI 12) &&& 31)) 7))] M now) : xAct l D cy t0 k yL_act wsL_act ({ frames := 9, cells := 3, slots := 9606, locals := 300 } : Room) [.int v] M now := by
  obtain ⟨r, M', now', h1, h2, hw⟩ := hA0
  refine ⟨r, M', now', h1, h2, fun a4 u st hO => ?_⟩
  refine xofWi (cc := cL_act) (maxL := 5) (by decide) rfl (Nat.le_of_ble_eq_true rfl) (fun _ _ _ => rfl) ?_
  intro p e s m below meth c Q A ls hx hb hml hts hown hE hA H locs hP hD hl hS kret
  have hl : lv_has ls 5 [(0, .ref a4), (1, .int v)] := hl
  have q9 := lw_lt v (n := 9) (by omega)
  have q24 := lw_lt (v >>> (nI 24 &&& 31)) (n := 9) (by omega)
  have q6 := lw_lt (v >>> (nI 9 &&& 31)) (n := 6) (by omega)
  refine lv_iload_n hx hb dL_act_0 rfl (lv_at hl 1 rfl) ?_
  refine lv_bipush (v := nI 24) hx hb dL_act_1 (by decide) ?_
  refine lv_ishr hx hb dL_act_3 ?_
  refine lv_bipush (v := nI 9) hx hb dL_act_4 (by decide) ?_
  refine xcRi (va_runS (As := [.int (v >>> ((nI 24) &&& 31)), .int (nI 9)]) (rest := []) ⟨hx, hb, hml, hown, hts⟩ (c_low l D cy t0 (v >>> ((nI 24) &&& 31)) 9 (by omega) (by omega)) (va_cwS 2 hts gL_act_L_low rfl rfl rfl (by decide +kernel) ⟨Nat.le_of_ble_eq_true rfl, Nat.le_of_ble_eq_true rfl⟩) (xPr.give (wc := []) hE hS hP [] rfl) rfl rfl hl.1 rfl (lv_room (Nat.le_of_ble_eq_true rfl)) dL_act_6 ⟨Nat.zero_le _, Nat.zero_le _⟩) (fun r_1 hr_2 => ?_)
  obtain rfl : r_1 = nI (lw (v >>> ((nI 24) &&& 31)) 9) := hr_2
  refine xb_if_ne (tgt := 16) (a := lw (v >>> ((nI 24) &&& 31)) 9) (by omega) hx hb dL_act_9 (by decide) (fun c_3 => ?_) (fun c_3 => ?_)
  · exact absurd ho c_3
  · refine lv_iconst (v := nI 1) hx hb dL_act_12 (by decide) ?_
    refine lv_goto (tgt := 17) hx hb dL_act_13 (by decide) ?_
    refine lv_istore_n (lv' := [(2, .int (nI 1)), (0, .ref a4), (1, .int v)]) hx hb dL_act_17 rfl hl (by decide) rfl (fun ls hl => ?_)
    refine lv_iload_n hx hb dL_act_18 rfl (lv_at hl 0 rfl) ?_
    refine xb_if_eq (tgt := 35) (a := 1) (by omega) hx hb dL_act_19 (by decide) (fun c_4 => ?_) (fun c_4 => ?_)
    · exact absurd c_4 (by omega)
    · refine lv_iload_n hx hb dL_act_22 rfl (lv_at hl 2 rfl) ?_
      refine lv_iconst (v := nI 3) hx hb dL_act_23 (by decide) ?_
      refine lv_ishr hx hb dL_act_24 ?_
      refine lv_bipush (v := nI 8) hx hb dL_act_25 (by decide) ?_
      refine xcRi (va_runS (As := [.int (v >>> ((nI 3) &&& 31)), .int (nI 8)]) (rest := []) ⟨hx, hb, hml, hown, hts⟩ (c_low l D cy t0 (v >>> ((nI 3) &&& 31)) 8 (by omega) (by omega)) (va_cwS 2 hts gL_act_L_low rfl rfl rfl (by decide +kernel) ⟨Nat.le_of_ble_eq_true rfl, Nat.le_of_ble_eq_true rfl⟩) (xPr.give (wc := []) hE hS hP [] rfl) rfl rfl hl.1 rfl (lv_room (Nat.le_of_ble_eq_true rfl)) dL_act_27 ⟨Nat.zero_le _, Nat.zero_le _⟩) (fun r_5 hr_6 => ?_)
      obtain rfl : r_5 = nI (lw (v >>> ((nI 3) &&& 31)) 8) := hr_6
      refine lv_iconst (v := nI 1) hx hb dL_act_30 (by decide) ?_
      refine lv_isub hx hb dL_act_31 ?_
      refine lv_goto (tgt := 42) hx hb dL_act_32 (by decide) ?_
      refine lv_istore_n (lv' := [(3, .int ((nI (lw (v >>> ((nI 3) &&& 31)) 8)) - (nI 1))), (2, .int (nI 1)), (0, .ref a4), (1, .int v)]) hx hb dL_act_42 rfl hl (by decide) rfl (fun ls hl => ?_)
      refine lv_iload_n hx hb dL_act_43 rfl (lv_at hl 1 rfl) ?_
      refine xb_if_eq (tgt := 62) (a := 1) (by omega) hx hb dL_act_44 (by decide) (fun c_7 => ?_) (fun c_7 => ?_)
      · exact absurd c_7 (by omega)
      · refine lv_iload_n hx hb dL_act_47 rfl (lv_at hl 3 rfl) ?_
        refine lv_bipush (v := nI 6) hx hb dL_act_48 (by decide) ?_
        refine lv_ishr hx hb dL_act_50 ?_
        refine lv_ldc (v := nI 100020) hx hb hown (hts (.constant RL 42 (100020)) (by decide +kernel)) dL_act_51 ?_
        refine xcRi (va_runS (As := [.int (v >>> ((nI 6) &&& 31)), .int (nI 100020)]) (rest := []) ⟨hx, hb, hml, hown, hts⟩ (c_low l D cy t0 (v >>> ((nI 6) &&& 31)) 100020 (by omega) (by omega)) (va_cwS 2 hts gL_act_L_low rfl rfl rfl (by decide +kernel) ⟨Nat.le_of_ble_eq_true rfl, Nat.le_of_ble_eq_true rfl⟩) (xPr.give (wc := []) hE hS hP [] rfl) rfl rfl hl.1 rfl (lv_room (Nat.le_of_ble_eq_true rfl)) dL_act_53 ⟨Nat.zero_le _, Nat.zero_le _⟩) (fun r_8 hr_9 => ?_)
        obtain rfl : r_8 = nI (lw (v >>> ((nI 6) &&& 31)) 100020) := hr_9
        refine lv_bipush (v := nI 10) hx hb dL_act_56 (by decide) ?_
        refine lv_isub hx hb dL_act_58 ?_
        refine lv_goto (tgt := 72) hx hb dL_act_59 (by decide) ?_
        refine lv_istore (lv' := [(4, .int ((nI (lw (v >>> ((nI 6) &&& 31)) 100020)) - (nI 10))), (3, .int ((nI (lw (v >>> ((nI 3) &&& 31)) 8)) - (nI 1))), (2, .int (nI 1)), (0, .ref a4), (1, .int v)]) hx hb dL_act_72 hl (by decide) rfl (fun ls hl => ?_)
        refine lv_iload_n hx hb dL_act_74 rfl (lv_at hl 4 rfl) ?_
        refine lv_bipush (v := nI 9) hx hb dL_act_75 (by decide) ?_
        refine xcRi (va_runS (As := [.int v, .int (nI 9)]) (rest := []) ⟨hx, hb, hml, hown, hts⟩ (c_low l D cy t0 v 9 (by omega) (by omega)) (va_cwS 2 hts gL_act_L_low rfl rfl rfl (by decide +kernel) ⟨Nat.le_of_ble_eq_true rfl, Nat.le_of_ble_eq_true rfl⟩) (xPr.give (wc := []) hE hS hP [] rfl) rfl rfl hl.1 rfl (lv_room (Nat.le_of_ble_eq_true rfl)) dL_act_77 ⟨Nat.zero_le _, Nat.zero_le _⟩) (fun r_10 hr_11 => ?_)
        obtain rfl : r_10 = nI (lw v 9) := hr_11
        refine lv_eqi (z := nI 2) (by rw [hc0]) ?_
        refine lv_tableIn (x := nI 2) (off := 40) (tgt := 120) hx hb dL_act_80 (by decide +kernel) (by decide +kernel) (by decide +kernel) (by decide +kernel) ?_
        refine lv_iload_n hx hb dL_act_120 rfl (lv_at hl 4 rfl) ?_
        refine lv_bipush (v := nI 9) hx hb dL_act_121 (by decide) ?_
        refine lv_ishr hx hb dL_act_123 ?_
        refine lv_bipush (v := nI 6) hx hb dL_act_124 (by decide) ?_
        refine xcRi (va_runS (As := [.int (v >>> ((nI 9) &&& 31)), .int (nI 6)]) (rest := []) ⟨hx, hb, hml, hown, hts⟩ (c_low l D cy t0 (v >>> ((nI 9) &&& 31)) 6 (by omega) (by omega)) (va_cwS 2 hts gL_act_L_low rfl rfl rfl (by decide +kernel) ⟨Nat.le_of_ble_eq_true rfl, Nat.le_of_ble_eq_true rfl⟩) (xPr.give (wc := []) hE hS hP [] rfl) rfl rfl hl.1 rfl (lv_room (Nat.le_of_ble_eq_true rfl)) dL_act_126 ⟨Nat.zero_le _, Nat.zero_le _⟩) (fun r_12 hr_13 => ?_)
        obtain rfl : r_12 = nI (lw (v >>> ((nI 9) &&& 31)) 6) := hr_13
        refine xb_if_ne (tgt := 140) (a := lw (v >>> ((nI 9) &&& 31)) 6) (by omega) hx hb dL_act_129 (by decide) (fun c_14 => ?_) (fun c_14 => ?_)
        · refine lv_aload_n hx hb dL_act_140 rfl (lv_at hl 3 rfl) ?_
          refine lv_iload_n hx hb dL_act_141 rfl (lv_at hl 1 rfl) ?_
          refine lv_iload_n hx hb dL_act_142 rfl (lv_at hl 4 rfl) ?_
          refine lv_bipush (v := nI 12) hx hb dL_act_143 (by decide) ?_
          refine lv_ishr hx hb dL_act_145 ?_
          refine lv_iload_n hx hb dL_act_146 rfl (lv_at hl 2 rfl) ?_
          refine xb_if_eq (tgt := 155) (a := 1) (by omega) hx hb dL_act_147 (by decide) (fun c_15 => ?_) (fun c_15 => ?_)
          · exact absurd c_15 (by omega)
          · refine lv_bipush (v := nI 7) hx hb dL_act_150 (by decide) ?_
            refine lv_goto (tgt := 156) hx hb dL_act_152 (by decide) ?_
            refine xcRi (va_runS (As := [.int (v >>> ((nI 12) &&& 31)), .int (nI 7)]) (rest := [.int ((nI (lw (v >>> ((nI 3) &&& 31)) 8)) - (nI 1)), .ref a4]) ⟨hx, hb, hml, hown, hts⟩ (c_low l D cy t0 (v >>> ((nI 12) &&& 31)) 7 (by omega) (by omega)) (va_cwS 2 hts gL_act_L_low rfl rfl rfl (by decide +kernel) ⟨Nat.le_of_ble_eq_true rfl, Nat.le_of_ble_eq_true rfl⟩) (xPr.give (wc := []) hE hS hP [] rfl) rfl rfl hl.1 rfl (lv_room (Nat.le_of_ble_eq_true rfl)) dL_act_156 ⟨Nat.zero_le _, Nat.zero_le _⟩) (fun r_16 hr_17 => ?_)
            obtain rfl : r_16 = nI (lw (v >>> ((nI 12) &&& 31)) 7) := hr_17
            refine xc0i (vx_runSW (As := [.ref a4, .int ((nI (lw (v >>> ((nI 3) &&& 31)) 8)) - (nI 1)), .int (nI (lw (v >>> ((nI 12) &&& 31)) 7))]) (rest := []) ⟨hx, hb, hml, hown, hts⟩ (hw a4 u st hO H.size) (vx_cwSW 3 hts gL_act_L_merge rfl rfl rfl (by decide +kernel) ⟨Nat.le_of_ble_eq_true rfl, Nat.le_of_ble_eq_true rfl⟩) (gs0 hE hS hA hP hD) rfl rfl hl.1 rfl (lv_room (Nat.le_of_ble_eq_true rfl)) dL_act_159 ⟨Nat.le_of_ble_eq_true rfl, Nat.le_of_ble_eq_true rfl⟩) hP hD hS hA (fun r9 st H locs hq hP hD hS => ?_)
            exact kret _ st _ _ _ _ _ _ dL_act_162 hq hP hD hS (Nat.le_of_ble_eq_true rfl) (Nat.le_of_ble_eq_true rfl)
        · exact absurd c_14 hc2
set_option maxHeartbeats 4000000 in
set_option maxRecDepth 100000 in
theorem a_o_3 (l : Launch) (D : va_G) (cy : Nat → ClassId) (t0 k : Nat) (v : Int32) {M : Nat → Nat → Int32} {now : Nat} (ho : lw (v >>> (nI 24 &&& 31)) 9 = 0) (hc0 : lw v 9 = 3) (hA0 : xAct l D cy t0 k yL_pass wsL_pass ({ frames := 8, cells := 3, slots := 9606, locals := 230 } : Room) [.int (nI (lw (v >>> ((nI 9) &&& 31)) 1100))] M now) : xAct l D cy t0 k yL_act wsL_act ({ frames := 9, cells := 3, slots := 9606, locals := 300 } : Room) [.int v] M now := by
  obtain ⟨r, M', now', h1, h2, hw⟩ := hA0
  refine ⟨r, M', now', h1, h2, fun a4 u st hO => ?_⟩
  refine xofWi (cc := cL_act) (maxL := 5) (by decide) rfl (Nat.le_of_ble_eq_true rfl) (fun _ _ _ => rfl) ?_
  intro p e s m below meth c Q A ls hx hb hml hts hown hE hA H locs hP hD hl hS kret
  have hl : lv_has ls 5 [(0, .ref a4), (1, .int v)] := hl
  have q9 := lw_lt v (n := 9) (by omega)
  have q24 := lw_lt (v >>> (nI 24 &&& 31)) (n := 9) (by omega)
  have q6 := lw_lt (v >>> (nI 9 &&& 31)) (n := 6) (by omega)
  refine lv_iload_n hx hb dL_act_0 rfl (lv_at hl 1 rfl) ?_
  refine lv_bipush (v := nI 24) hx hb dL_act_1 (by decide) ?_
  refine lv_ishr hx hb dL_act_3 ?_
  refine lv_bipush (v := nI 9) hx hb dL_act_4 (by decide) ?_
  refine xcRi (va_runS (As := [.int (v >>> ((nI 24) &&& 31)), .int (nI 9)]) (rest := []) ⟨hx, hb, hml, hown, hts⟩ (c_low l D cy t0 (v >>> ((nI 24) &&& 31)) 9 (by omega) (by omega)) (va_cwS 2 hts gL_act_L_low rfl rfl rfl (by decide +kernel) ⟨Nat.le_of_ble_eq_true rfl, Nat.le_of_ble_eq_true rfl⟩) (xPr.give (wc := []) hE hS hP [] rfl) rfl rfl hl.1 rfl (lv_room (Nat.le_of_ble_eq_true rfl)) dL_act_6 ⟨Nat.zero_le _, Nat.zero_le _⟩) (fun r_1 hr_2 => ?_)
  obtain rfl : r_1 = nI (lw (v >>> ((nI 24) &&& 31)) 9) := hr_2
  refine xb_if_ne (tgt := 16) (a := lw (v >>> ((nI 24) &&& 31)) 9) (by omega) hx hb dL_act_9 (by decide) (fun c_3 => ?_) (fun c_3 => ?_)
  · exact absurd ho c_3
  · refine lv_iconst (v := nI 1) hx hb dL_act_12 (by decide) ?_
    refine lv_goto (tgt := 17) hx hb dL_act_13 (by decide) ?_
    refine lv_istore_n (lv' := [(2, .int (nI 1)), (0, .ref a4), (1, .int v)]) hx hb dL_act_17 rfl hl (by decide) rfl (fun ls hl => ?_)
    refine lv_iload_n hx hb dL_act_18 rfl (lv_at hl 0 rfl) ?_
    refine xb_if_eq (tgt := 35) (a := 1) (by omega) hx hb dL_act_19 (by decide) (fun c_4 => ?_) (fun c_4 => ?_)
    · exact absurd c_4 (by omega)
    · refine lv_iload_n hx hb dL_act_22 rfl (lv_at hl 2 rfl) ?_
      refine lv_iconst (v := nI 3) hx hb dL_act_23 (by decide) ?_
      refine lv_ishr hx hb dL_act_24 ?_
      refine lv_bipush (v := nI 8) hx hb dL_act_25 (by decide) ?_
      refine xcRi (va_runS (As := [.int (v >>> ((nI 3) &&& 31)), .int (nI 8)]) (rest := []) ⟨hx, hb, hml, hown, hts⟩ (c_low l D cy t0 (v >>> ((nI 3) &&& 31)) 8 (by omega) (by omega)) (va_cwS 2 hts gL_act_L_low rfl rfl rfl (by decide +kernel) ⟨Nat.le_of_ble_eq_true rfl, Nat.le_of_ble_eq_true rfl⟩) (xPr.give (wc := []) hE hS hP [] rfl) rfl rfl hl.1 rfl (lv_room (Nat.le_of_ble_eq_true rfl)) dL_act_27 ⟨Nat.zero_le _, Nat.zero_le _⟩) (fun r_5 hr_6 => ?_)
      obtain rfl : r_5 = nI (lw (v >>> ((nI 3) &&& 31)) 8) := hr_6
      refine lv_iconst (v := nI 1) hx hb dL_act_30 (by decide) ?_
      refine lv_isub hx hb dL_act_31 ?_
      refine lv_goto (tgt := 42) hx hb dL_act_32 (by decide) ?_
      refine lv_istore_n (lv' := [(3, .int ((nI (lw (v >>> ((nI 3) &&& 31)) 8)) - (nI 1))), (2, .int (nI 1)), (0, .ref a4), (1, .int v)]) hx hb dL_act_42 rfl hl (by decide) rfl (fun ls hl => ?_)
      refine lv_iload_n hx hb dL_act_43 rfl (lv_at hl 1 rfl) ?_
      refine xb_if_eq (tgt := 62) (a := 1) (by omega) hx hb dL_act_44 (by decide) (fun c_7 => ?_) (fun c_7 => ?_)
      · exact absurd c_7 (by omega)
      · refine lv_iload_n hx hb dL_act_47 rfl (lv_at hl 3 rfl) ?_
        refine lv_bipush (v := nI 6) hx hb dL_act_48 (by decide) ?_
        refine lv_ishr hx hb dL_act_50 ?_
        refine lv_ldc (v := nI 100020) hx hb hown (hts (.constant RL 42 (100020)) (by decide +kernel)) dL_act_51 ?_
        refine xcRi (va_runS (As := [.int (v >>> ((nI 6) &&& 31)), .int (nI 100020)]) (rest := []) ⟨hx, hb, hml, hown, hts⟩ (c_low l D cy t0 (v >>> ((nI 6) &&& 31)) 100020 (by omega) (by omega)) (va_cwS 2 hts gL_act_L_low rfl rfl rfl (by decide +kernel) ⟨Nat.le_of_ble_eq_true rfl, Nat.le_of_ble_eq_true rfl⟩) (xPr.give (wc := []) hE hS hP [] rfl) rfl rfl hl.1 rfl (lv_room (Nat.le_of_ble_eq_true rfl)) dL_act_53 ⟨Nat.zero_le _, Nat.zero_le _⟩) (fun r_8 hr_9 => ?_)
        obtain rfl : r_8 = nI (lw (v >>> ((nI 6) &&& 31)) 100020) := hr_9
        refine lv_bipush (v := nI 10) hx hb dL_act_56 (by decide) ?_
        refine lv_isub hx hb dL_act_58 ?_
        refine lv_goto (tgt := 72) hx hb dL_act_59 (by decide) ?_
        refine lv_istore (lv' := [(4, .int ((nI (lw (v >>> ((nI 6) &&& 31)) 100020)) - (nI 10))), (3, .int ((nI (lw (v >>> ((nI 3) &&& 31)) 8)) - (nI 1))), (2, .int (nI 1)), (0, .ref a4), (1, .int v)]) hx hb dL_act_72 hl (by decide) rfl (fun ls hl => ?_)
        refine lv_iload_n hx hb dL_act_74 rfl (lv_at hl 4 rfl) ?_
        refine lv_bipush (v := nI 9) hx hb dL_act_75 (by decide) ?_
        refine xcRi (va_runS (As := [.int v, .int (nI 9)]) (rest := []) ⟨hx, hb, hml, hown, hts⟩ (c_low l D cy t0 v 9 (by omega) (by omega)) (va_cwS 2 hts gL_act_L_low rfl rfl rfl (by decide +kernel) ⟨Nat.le_of_ble_eq_true rfl, Nat.le_of_ble_eq_true rfl⟩) (xPr.give (wc := []) hE hS hP [] rfl) rfl rfl hl.1 rfl (lv_room (Nat.le_of_ble_eq_true rfl)) dL_act_77 ⟨Nat.zero_le _, Nat.zero_le _⟩) (fun r_10 hr_11 => ?_)
        obtain rfl : r_10 = nI (lw v 9) := hr_11
        refine lv_eqi (z := nI 3) (by rw [hc0]) ?_
        refine lv_tableIn (x := nI 3) (off := 83) (tgt := 163) hx hb dL_act_80 (by decide +kernel) (by decide +kernel) (by decide +kernel) (by decide +kernel) ?_
        refine lv_aload_n hx hb dL_act_163 rfl (lv_at hl 3 rfl) ?_
        refine lv_iload_n hx hb dL_act_164 rfl (lv_at hl 2 rfl) ?_
        refine xb_if_eq (tgt := 181) (a := 1) (by omega) hx hb dL_act_165 (by decide) (fun c_12 => ?_) (fun c_12 => ?_)
        · exact absurd c_12 (by omega)
        · refine lv_iload_n hx hb dL_act_168 rfl (lv_at hl 4 rfl) ?_
          refine lv_bipush (v := nI 9) hx hb dL_act_169 (by decide) ?_
          refine lv_ishr hx hb dL_act_171 ?_
          refine lv_sipush (v := nI 1100) hx hb dL_act_172 (by decide) ?_
          refine xcRi (va_runS (As := [.int (v >>> ((nI 9) &&& 31)), .int (nI 1100)]) (rest := [.ref a4]) ⟨hx, hb, hml, hown, hts⟩ (c_low l D cy t0 (v >>> ((nI 9) &&& 31)) 1100 (by omega) (by omega)) (va_cwS 2 hts gL_act_L_low rfl rfl rfl (by decide +kernel) ⟨Nat.le_of_ble_eq_true rfl, Nat.le_of_ble_eq_true rfl⟩) (xPr.give (wc := []) hE hS hP [] rfl) rfl rfl hl.1 rfl (lv_room (Nat.le_of_ble_eq_true rfl)) dL_act_175 ⟨Nat.zero_le _, Nat.zero_le _⟩) (fun r_13 hr_14 => ?_)
          obtain rfl : r_13 = nI (lw (v >>> ((nI 9) &&& 31)) 1100) := hr_14
          refine lv_goto (tgt := 192) hx hb dL_act_178 (by decide) ?_
          refine xc0i (vx_runSW (As := [.ref a4, .int (nI (lw (v >>> ((nI 9) &&& 31)) 1100))]) (rest := []) ⟨hx, hb, hml, hown, hts⟩ (hw a4 u st hO H.size) (vx_cwSW 2 hts gL_act_L_pass rfl rfl rfl (by decide +kernel) ⟨Nat.le_of_ble_eq_true rfl, Nat.le_of_ble_eq_true rfl⟩) (gs0 hE hS hA hP hD) rfl rfl hl.1 rfl (lv_room (Nat.le_of_ble_eq_true rfl)) dL_act_192 ⟨Nat.le_of_ble_eq_true rfl, Nat.le_of_ble_eq_true rfl⟩) hP hD hS hA (fun r9 st H locs hq hP hD hS => ?_)
          exact kret _ st _ _ _ _ _ _ dL_act_195 hq hP hD hS (Nat.le_of_ble_eq_true rfl) (Nat.le_of_ble_eq_true rfl)
set_option maxHeartbeats 4000000 in
set_option maxRecDepth 100000 in
theorem a_o_4 (l : Launch) (D : va_G) (cy : Nat → ClassId) (t0 k : Nat) (v : Int32) {M : Nat → Nat → Int32} {now : Nat} (ho : lw (v >>> (nI 24 &&& 31)) 9 = 0) (hc0 : 4 ≤ lw v 9) (hA0 : xAct l D cy t0 k yL_addLine wsL_addLine ({ frames := 8, cells := 3, slots := 9606, locals := 230 } : Room) [.int ((nI (lw (v >>> ((nI 3) &&& 31)) 8)) - (nI 1)), .int ((nI (lw (v >>> ((nI 6) &&& 31)) 100020)) - (nI 10)), .int (nI (lw (v >>> ((nI 11) &&& 31)) 1100)), .int (nI (lw (v >>> ((nI 15) &&& 31)) 70))] M now) : xAct l D cy t0 k yL_act wsL_act ({ frames := 9, cells := 3, slots := 9606, locals := 300 } : Room) [.int v] M now := by
  obtain ⟨r, M', now', h1, h2, hw⟩ := hA0
  refine ⟨r, M', now', h1, h2, fun a4 u st hO => ?_⟩
  refine xofWi (cc := cL_act) (maxL := 5) (by decide) rfl (Nat.le_of_ble_eq_true rfl) (fun _ _ _ => rfl) ?_
  intro p e s m below meth c Q A ls hx hb hml hts hown hE hA H locs hP hD hl hS kret
  have hl : lv_has ls 5 [(0, .ref a4), (1, .int v)] := hl
  have q9 := lw_lt v (n := 9) (by omega)
  have q24 := lw_lt (v >>> (nI 24 &&& 31)) (n := 9) (by omega)
  have q6 := lw_lt (v >>> (nI 9 &&& 31)) (n := 6) (by omega)
  refine lv_iload_n hx hb dL_act_0 rfl (lv_at hl 1 rfl) ?_
  refine lv_bipush (v := nI 24) hx hb dL_act_1 (by decide) ?_
  refine lv_ishr hx hb dL_act_3 ?_
  refine lv_bipush (v := nI 9) hx hb dL_act_4 (by decide) ?_
  refine xcRi (va_runS (As := [.int (v >>> ((nI 24) &&& 31)), .int (nI 9)]) (rest := []) ⟨hx, hb, hml, hown, hts⟩ (c_low l D cy t0 (v >>> ((nI 24) &&& 31)) 9 (by omega) (by omega)) (va_cwS 2 hts gL_act_L_low rfl rfl rfl (by decide +kernel) ⟨Nat.le_of_ble_eq_true rfl, Nat.le_of_ble_eq_true rfl⟩) (xPr.give (wc := []) hE hS hP [] rfl) rfl rfl hl.1 rfl (lv_room (Nat.le_of_ble_eq_true rfl)) dL_act_6 ⟨Nat.zero_le _, Nat.zero_le _⟩) (fun r_1 hr_2 => ?_)
  obtain rfl : r_1 = nI (lw (v >>> ((nI 24) &&& 31)) 9) := hr_2
  refine xb_if_ne (tgt := 16) (a := lw (v >>> ((nI 24) &&& 31)) 9) (by omega) hx hb dL_act_9 (by decide) (fun c_3 => ?_) (fun c_3 => ?_)
  · exact absurd ho c_3
  · refine lv_iconst (v := nI 1) hx hb dL_act_12 (by decide) ?_
    refine lv_goto (tgt := 17) hx hb dL_act_13 (by decide) ?_
    refine lv_istore_n (lv' := [(2, .int (nI 1)), (0, .ref a4), (1, .int v)]) hx hb dL_act_17 rfl hl (by decide) rfl (fun ls hl => ?_)
    refine lv_iload_n hx hb dL_act_18 rfl (lv_at hl 0 rfl) ?_
    refine xb_if_eq (tgt := 35) (a := 1) (by omega) hx hb dL_act_19 (by decide) (fun c_4 => ?_) (fun c_4 => ?_)
    · exact absurd c_4 (by omega)
    · refine lv_iload_n hx hb dL_act_22 rfl (lv_at hl 2 rfl) ?_
      refine lv_iconst (v := nI 3) hx hb dL_act_23 (by decide) ?_
      refine lv_ishr hx hb dL_act_24 ?_
      refine lv_bipush (v := nI 8) hx hb dL_act_25 (by decide) ?_
      refine xcRi (va_runS (As := [.int (v >>> ((nI 3) &&& 31)), .int (nI 8)]) (rest := []) ⟨hx, hb, hml, hown, hts⟩ (c_low l D cy t0 (v >>> ((nI 3) &&& 31)) 8 (by omega) (by omega)) (va_cwS 2 hts gL_act_L_low rfl rfl rfl (by decide +kernel) ⟨Nat.le_of_ble_eq_true rfl, Nat.le_of_ble_eq_true rfl⟩) (xPr.give (wc := []) hE hS hP [] rfl) rfl rfl hl.1 rfl (lv_room (Nat.le_of_ble_eq_true rfl)) dL_act_27 ⟨Nat.zero_le _, Nat.zero_le _⟩) (fun r_5 hr_6 => ?_)
      obtain rfl : r_5 = nI (lw (v >>> ((nI 3) &&& 31)) 8) := hr_6
      refine lv_iconst (v := nI 1) hx hb dL_act_30 (by decide) ?_
      refine lv_isub hx hb dL_act_31 ?_
      refine lv_goto (tgt := 42) hx hb dL_act_32 (by decide) ?_
      refine lv_istore_n (lv' := [(3, .int ((nI (lw (v >>> ((nI 3) &&& 31)) 8)) - (nI 1))), (2, .int (nI 1)), (0, .ref a4), (1, .int v)]) hx hb dL_act_42 rfl hl (by decide) rfl (fun ls hl => ?_)
      refine lv_iload_n hx hb dL_act_43 rfl (lv_at hl 1 rfl) ?_
      refine xb_if_eq (tgt := 62) (a := 1) (by omega) hx hb dL_act_44 (by decide) (fun c_7 => ?_) (fun c_7 => ?_)
      · exact absurd c_7 (by omega)
      · refine lv_iload_n hx hb dL_act_47 rfl (lv_at hl 3 rfl) ?_
        refine lv_bipush (v := nI 6) hx hb dL_act_48 (by decide) ?_
        refine lv_ishr hx hb dL_act_50 ?_
        refine lv_ldc (v := nI 100020) hx hb hown (hts (.constant RL 42 (100020)) (by decide +kernel)) dL_act_51 ?_
        refine xcRi (va_runS (As := [.int (v >>> ((nI 6) &&& 31)), .int (nI 100020)]) (rest := []) ⟨hx, hb, hml, hown, hts⟩ (c_low l D cy t0 (v >>> ((nI 6) &&& 31)) 100020 (by omega) (by omega)) (va_cwS 2 hts gL_act_L_low rfl rfl rfl (by decide +kernel) ⟨Nat.le_of_ble_eq_true rfl, Nat.le_of_ble_eq_true rfl⟩) (xPr.give (wc := []) hE hS hP [] rfl) rfl rfl hl.1 rfl (lv_room (Nat.le_of_ble_eq_true rfl)) dL_act_53 ⟨Nat.zero_le _, Nat.zero_le _⟩) (fun r_8 hr_9 => ?_)
        obtain rfl : r_8 = nI (lw (v >>> ((nI 6) &&& 31)) 100020) := hr_9
        refine lv_bipush (v := nI 10) hx hb dL_act_56 (by decide) ?_
        refine lv_isub hx hb dL_act_58 ?_
        refine lv_goto (tgt := 72) hx hb dL_act_59 (by decide) ?_
        refine lv_istore (lv' := [(4, .int ((nI (lw (v >>> ((nI 6) &&& 31)) 100020)) - (nI 10))), (3, .int ((nI (lw (v >>> ((nI 3) &&& 31)) 8)) - (nI 1))), (2, .int (nI 1)), (0, .ref a4), (1, .int v)]) hx hb dL_act_72 hl (by decide) rfl (fun ls hl => ?_)
        refine lv_iload_n hx hb dL_act_74 rfl (lv_at hl 4 rfl) ?_
        refine lv_bipush (v := nI 9) hx hb dL_act_75 (by decide) ?_
        refine xcRi (va_runS (As := [.int v, .int (nI 9)]) (rest := []) ⟨hx, hb, hml, hown, hts⟩ (c_low l D cy t0 v 9 (by omega) (by omega)) (va_cwS 2 hts gL_act_L_low rfl rfl rfl (by decide +kernel) ⟨Nat.le_of_ble_eq_true rfl, Nat.le_of_ble_eq_true rfl⟩) (xPr.give (wc := []) hE hS hP [] rfl) rfl rfl hl.1 rfl (lv_room (Nat.le_of_ble_eq_true rfl)) dL_act_77 ⟨Nat.zero_le _, Nat.zero_le _⟩) (fun r_10 hr_11 => ?_)
        obtain rfl : r_10 = nI (lw v 9) := hr_11
        refine lv_tableOut (tgt := 196) hx hb dL_act_80 (Or.inr (by rw [nI_toInt (by omega)]; omega)) (by decide +kernel) ?_
        refine lv_aload_n hx hb dL_act_196 rfl (lv_at hl 3 rfl) ?_
        refine lv_iload_n hx hb dL_act_197 rfl (lv_at hl 1 rfl) ?_
        refine lv_iload hx hb dL_act_198 (lv_at hl 0 rfl) ?_
        refine lv_iload_n hx hb dL_act_200 rfl (lv_at hl 2 rfl) ?_
        refine xb_if_eq (tgt := 217) (a := 1) (by omega) hx hb dL_act_201 (by decide) (fun c_12 => ?_) (fun c_12 => ?_)
        · exact absurd c_12 (by omega)
        · refine lv_iload_n hx hb dL_act_204 rfl (lv_at hl 4 rfl) ?_
          refine lv_bipush (v := nI 11) hx hb dL_act_205 (by decide) ?_
          refine lv_ishr hx hb dL_act_207 ?_
          refine lv_sipush (v := nI 1100) hx hb dL_act_208 (by decide) ?_
          refine xcRi (va_runS (As := [.int (v >>> ((nI 11) &&& 31)), .int (nI 1100)]) (rest := [.int ((nI (lw (v >>> ((nI 6) &&& 31)) 100020)) - (nI 10)), .int ((nI (lw (v >>> ((nI 3) &&& 31)) 8)) - (nI 1)), .ref a4]) ⟨hx, hb, hml, hown, hts⟩ (c_low l D cy t0 (v >>> ((nI 11) &&& 31)) 1100 (by omega) (by omega)) (va_cwS 2 hts gL_act_L_low rfl rfl rfl (by decide +kernel) ⟨Nat.le_of_ble_eq_true rfl, Nat.le_of_ble_eq_true rfl⟩) (xPr.give (wc := []) hE hS hP [] rfl) rfl rfl hl.1 rfl (lv_room (Nat.le_of_ble_eq_true rfl)) dL_act_211 ⟨Nat.zero_le _, Nat.zero_le _⟩) (fun r_13 hr_14 => ?_)
          obtain rfl : r_13 = nI (lw (v >>> ((nI 11) &&& 31)) 1100) := hr_14
          refine lv_goto (tgt := 228) hx hb dL_act_214 (by decide) ?_
          refine lv_iload_n hx hb dL_act_228 rfl (lv_at hl 2 rfl) ?_
          refine xb_if_eq (tgt := 244) (a := 1) (by omega) hx hb dL_act_229 (by decide) (fun c_15 => ?_) (fun c_15 => ?_)
          · exact absurd c_15 (by omega)
          · refine lv_iload_n hx hb dL_act_232 rfl (lv_at hl 4 rfl) ?_
            refine lv_bipush (v := nI 15) hx hb dL_act_233 (by decide) ?_
            refine lv_ishr hx hb dL_act_235 ?_
            refine lv_bipush (v := nI 70) hx hb dL_act_236 (by decide) ?_
            refine xcRi (va_runS (As := [.int (v >>> ((nI 15) &&& 31)), .int (nI 70)]) (rest := [.int (nI (lw (v >>> ((nI 11) &&& 31)) 1100)), .int ((nI (lw (v >>> ((nI 6) &&& 31)) 100020)) - (nI 10)), .int ((nI (lw (v >>> ((nI 3) &&& 31)) 8)) - (nI 1)), .ref a4]) ⟨hx, hb, hml, hown, hts⟩ (c_low l D cy t0 (v >>> ((nI 15) &&& 31)) 70 (by omega) (by omega)) (va_cwS 2 hts gL_act_L_low rfl rfl rfl (by decide +kernel) ⟨Nat.le_of_ble_eq_true rfl, Nat.le_of_ble_eq_true rfl⟩) (xPr.give (wc := []) hE hS hP [] rfl) rfl rfl hl.1 rfl (lv_room (Nat.le_of_ble_eq_true rfl)) dL_act_238 ⟨Nat.zero_le _, Nat.zero_le _⟩) (fun r_16 hr_17 => ?_)
            obtain rfl : r_16 = nI (lw (v >>> ((nI 15) &&& 31)) 70) := hr_17
            refine lv_goto (tgt := 255) hx hb dL_act_241 (by decide) ?_
            refine xc0i (vx_runSW (As := [.ref a4, .int ((nI (lw (v >>> ((nI 3) &&& 31)) 8)) - (nI 1)), .int ((nI (lw (v >>> ((nI 6) &&& 31)) 100020)) - (nI 10)), .int (nI (lw (v >>> ((nI 11) &&& 31)) 1100)), .int (nI (lw (v >>> ((nI 15) &&& 31)) 70))]) (rest := []) ⟨hx, hb, hml, hown, hts⟩ (hw a4 u st hO H.size) (vx_cwSW 5 hts gL_act_L_addLine rfl rfl rfl (by decide +kernel) ⟨Nat.le_of_ble_eq_true rfl, Nat.le_of_ble_eq_true rfl⟩) (gs0 hE hS hA hP hD) rfl rfl hl.1 rfl (lv_room (Nat.le_of_ble_eq_true rfl)) dL_act_255 ⟨Nat.le_of_ble_eq_true rfl, Nat.le_of_ble_eq_true rfl⟩) hP hD hS hA (fun r9 st H locs hq hP hD hS => ?_)
            exact kret _ st _ _ _ _ _ _ dL_act_258 hq hP hD hS (Nat.le_of_ble_eq_true rfl) (Nat.le_of_ble_eq_true rfl)
set_option maxHeartbeats 4000000 in
set_option maxRecDepth 100000 in
theorem a_n_0 (l : Launch) (D : va_G) (cy : Nat → ClassId) (t0 k : Nat) (v : Int32) {M : Nat → Nat → Int32} {now : Nat} (ho : ¬ lw (v >>> (nI 24 &&& 31)) 9 = 0) (hc0 : lw v 9 = 0) (hA0 : xAct l D cy t0 k yL_add wsL_add ({ frames := 8, cells := 3, slots := 9606, locals := 230 } : Room) [.int (nI (lw (v >>> ((nI 3) &&& 31)) 3)), .int (nI (lw (v >>> ((nI 6) &&& 31)) 300))] M now) : xAct l D cy t0 k yL_act wsL_act ({ frames := 9, cells := 3, slots := 9606, locals := 300 } : Room) [.int v] M now := by
  obtain ⟨r, M', now', h1, h2, hw⟩ := hA0
  refine ⟨r, M', now', h1, h2, fun a4 u st hO => ?_⟩
  refine xofWi (cc := cL_act) (maxL := 5) (by decide) rfl (Nat.le_of_ble_eq_true rfl) (fun _ _ _ => rfl) ?_
  intro p e s m below meth c Q A ls hx hb hml hts hown hE hA H locs hP hD hl hS kret
  have hl : lv_has ls 5 [(0, .ref a4), (1, .int v)] := hl
  have q9 := lw_lt v (n := 9) (by omega)
  have q24 := lw_lt (v >>> (nI 24 &&& 31)) (n := 9) (by omega)
  have q6 := lw_lt (v >>> (nI 9 &&& 31)) (n := 6) (by omega)
  refine lv_iload_n hx hb dL_act_0 rfl (lv_at hl 1 rfl) ?_
  refine lv_bipush (v := nI 24) hx hb dL_act_1 (by decide) ?_
  refine lv_ishr hx hb dL_act_3 ?_
  refine lv_bipush (v := nI 9) hx hb dL_act_4 (by decide) ?_
  refine xcRi (va_runS (As := [.int (v >>> ((nI 24) &&& 31)), .int (nI 9)]) (rest := []) ⟨hx, hb, hml, hown, hts⟩ (c_low l D cy t0 (v >>> ((nI 24) &&& 31)) 9 (by omega) (by omega)) (va_cwS 2 hts gL_act_L_low rfl rfl rfl (by decide +kernel) ⟨Nat.le_of_ble_eq_true rfl, Nat.le_of_ble_eq_true rfl⟩) (xPr.give (wc := []) hE hS hP [] rfl) rfl rfl hl.1 rfl (lv_room (Nat.le_of_ble_eq_true rfl)) dL_act_6 ⟨Nat.zero_le _, Nat.zero_le _⟩) (fun r_1 hr_2 => ?_)
  obtain rfl : r_1 = nI (lw (v >>> ((nI 24) &&& 31)) 9) := hr_2
  refine xb_if_ne (tgt := 16) (a := lw (v >>> ((nI 24) &&& 31)) 9) (by omega) hx hb dL_act_9 (by decide) (fun c_3 => ?_) (fun c_3 => ?_)
  · refine lv_iconst (v := nI 0) hx hb dL_act_16 (by decide) ?_
    refine lv_istore_n (lv' := [(2, .int (nI 0)), (0, .ref a4), (1, .int v)]) hx hb dL_act_17 rfl hl (by decide) rfl (fun ls hl => ?_)
    refine lv_iload_n hx hb dL_act_18 rfl (lv_at hl 0 rfl) ?_
    refine xb_if_eq (tgt := 35) (a := 0) (by omega) hx hb dL_act_19 (by decide) (fun c_4 => ?_) (fun c_4 => ?_)
    · refine lv_iload_n hx hb dL_act_35 rfl (lv_at hl 2 rfl) ?_
      refine lv_iconst (v := nI 3) hx hb dL_act_36 (by decide) ?_
      refine lv_ishr hx hb dL_act_37 ?_
      refine lv_iconst (v := nI 3) hx hb dL_act_38 (by decide) ?_
      refine xcRi (va_runS (As := [.int (v >>> ((nI 3) &&& 31)), .int (nI 3)]) (rest := []) ⟨hx, hb, hml, hown, hts⟩ (c_low l D cy t0 (v >>> ((nI 3) &&& 31)) 3 (by omega) (by omega)) (va_cwS 2 hts gL_act_L_low rfl rfl rfl (by decide +kernel) ⟨Nat.le_of_ble_eq_true rfl, Nat.le_of_ble_eq_true rfl⟩) (xPr.give (wc := []) hE hS hP [] rfl) rfl rfl hl.1 rfl (lv_room (Nat.le_of_ble_eq_true rfl)) dL_act_39 ⟨Nat.zero_le _, Nat.zero_le _⟩) (fun r_5 hr_6 => ?_)
      obtain rfl : r_5 = nI (lw (v >>> ((nI 3) &&& 31)) 3) := hr_6
      refine lv_istore_n (lv' := [(3, .int (nI (lw (v >>> ((nI 3) &&& 31)) 3))), (2, .int (nI 0)), (0, .ref a4), (1, .int v)]) hx hb dL_act_42 rfl hl (by decide) rfl (fun ls hl => ?_)
      refine lv_iload_n hx hb dL_act_43 rfl (lv_at hl 1 rfl) ?_
      refine xb_if_eq (tgt := 62) (a := 0) (by omega) hx hb dL_act_44 (by decide) (fun c_7 => ?_) (fun c_7 => ?_)
      · refine lv_iload_n hx hb dL_act_62 rfl (lv_at hl 3 rfl) ?_
        refine lv_bipush (v := nI 6) hx hb dL_act_63 (by decide) ?_
        refine lv_ishr hx hb dL_act_65 ?_
        refine lv_sipush (v := nI 300) hx hb dL_act_66 (by decide) ?_
        refine xcRi (va_runS (As := [.int (v >>> ((nI 6) &&& 31)), .int (nI 300)]) (rest := []) ⟨hx, hb, hml, hown, hts⟩ (c_low l D cy t0 (v >>> ((nI 6) &&& 31)) 300 (by omega) (by omega)) (va_cwS 2 hts gL_act_L_low rfl rfl rfl (by decide +kernel) ⟨Nat.le_of_ble_eq_true rfl, Nat.le_of_ble_eq_true rfl⟩) (xPr.give (wc := []) hE hS hP [] rfl) rfl rfl hl.1 rfl (lv_room (Nat.le_of_ble_eq_true rfl)) dL_act_69 ⟨Nat.zero_le _, Nat.zero_le _⟩) (fun r_8 hr_9 => ?_)
        obtain rfl : r_8 = nI (lw (v >>> ((nI 6) &&& 31)) 300) := hr_9
        refine lv_istore (lv' := [(4, .int (nI (lw (v >>> ((nI 6) &&& 31)) 300))), (3, .int (nI (lw (v >>> ((nI 3) &&& 31)) 3))), (2, .int (nI 0)), (0, .ref a4), (1, .int v)]) hx hb dL_act_72 hl (by decide) rfl (fun ls hl => ?_)
        refine lv_iload_n hx hb dL_act_74 rfl (lv_at hl 4 rfl) ?_
        refine lv_bipush (v := nI 9) hx hb dL_act_75 (by decide) ?_
        refine xcRi (va_runS (As := [.int v, .int (nI 9)]) (rest := []) ⟨hx, hb, hml, hown, hts⟩ (c_low l D cy t0 v 9 (by omega) (by omega)) (va_cwS 2 hts gL_act_L_low rfl rfl rfl (by decide +kernel) ⟨Nat.le_of_ble_eq_true rfl, Nat.le_of_ble_eq_true rfl⟩) (xPr.give (wc := []) hE hS hP [] rfl) rfl rfl hl.1 rfl (lv_room (Nat.le_of_ble_eq_true rfl)) dL_act_77 ⟨Nat.zero_le _, Nat.zero_le _⟩) (fun r_10 hr_11 => ?_)
        obtain rfl : r_10 = nI (lw v 9) := hr_11
        refine lv_eqi (z := nI 0) (by rw [hc0]) ?_
        refine lv_tableIn (x := nI 0) (off := 32) (tgt := 112) hx hb dL_act_80 (by decide +kernel) (by decide +kernel) (by decide +kernel) (by decide +kernel) ?_
        refine lv_aload_n hx hb dL_act_112 rfl (lv_at hl 3 rfl) ?_
        refine lv_iload_n hx hb dL_act_113 rfl (lv_at hl 1 rfl) ?_
        refine lv_iload hx hb dL_act_114 (lv_at hl 0 rfl) ?_
        refine xc0i (vx_runSW (As := [.ref a4, .int (nI (lw (v >>> ((nI 3) &&& 31)) 3)), .int (nI (lw (v >>> ((nI 6) &&& 31)) 300))]) (rest := []) ⟨hx, hb, hml, hown, hts⟩ (hw a4 u st hO H.size) (vx_cwSW 3 hts gL_act_L_add rfl rfl rfl (by decide +kernel) ⟨Nat.le_of_ble_eq_true rfl, Nat.le_of_ble_eq_true rfl⟩) (gs0 hE hS hA hP hD) rfl rfl hl.1 rfl (lv_room (Nat.le_of_ble_eq_true rfl)) dL_act_116 ⟨Nat.le_of_ble_eq_true rfl, Nat.le_of_ble_eq_true rfl⟩) hP hD hS hA (fun r9 st H locs hq hP hD hS => ?_)
        exact kret _ st _ _ _ _ _ _ dL_act_119 hq hP hD hS (Nat.le_of_ble_eq_true rfl) (Nat.le_of_ble_eq_true rfl)
      · exact absurd c_7 (by omega)
    · exact absurd c_4 (by omega)
  · exact absurd c_3 ho
set_option maxHeartbeats 4000000 in
set_option maxRecDepth 100000 in
theorem a_n_1 (l : Launch) (D : va_G) (cy : Nat → ClassId) (t0 k : Nat) (v : Int32) {M : Nat → Nat → Int32} {now : Nat} (ho : ¬ lw (v >>> (nI 24 &&& 31)) 9 = 0) (hc0 : lw v 9 = 1) (hA0 : xAct l D cy t0 k yL_add wsL_add ({ frames := 8, cells := 3, slots := 9606, locals := 230 } : Room) [.int (nI (lw (v >>> ((nI 3) &&& 31)) 3)), .int (nI (lw (v >>> ((nI 6) &&& 31)) 300))] M now) : xAct l D cy t0 k yL_act wsL_act ({ frames := 9, cells := 3, slots := 9606, locals := 300 } : Room) [.int v] M now := by
  obtain ⟨r, M', now', h1, h2, hw⟩ := hA0
  refine ⟨r, M', now', h1, h2, fun a4 u st hO => ?_⟩
  refine xofWi (cc := cL_act) (maxL := 5) (by decide) rfl (Nat.le_of_ble_eq_true rfl) (fun _ _ _ => rfl) ?_
  intro p e s m below meth c Q A ls hx hb hml hts hown hE hA H locs hP hD hl hS kret
  have hl : lv_has ls 5 [(0, .ref a4), (1, .int v)] := hl
  have q9 := lw_lt v (n := 9) (by omega)
  have q24 := lw_lt (v >>> (nI 24 &&& 31)) (n := 9) (by omega)
  have q6 := lw_lt (v >>> (nI 9 &&& 31)) (n := 6) (by omega)
  refine lv_iload_n hx hb dL_act_0 rfl (lv_at hl 1 rfl) ?_
  refine lv_bipush (v := nI 24) hx hb dL_act_1 (by decide) ?_
  refine lv_ishr hx hb dL_act_3 ?_
  refine lv_bipush (v := nI 9) hx hb dL_act_4 (by decide) ?_
  refine xcRi (va_runS (As := [.int (v >>> ((nI 24) &&& 31)), .int (nI 9)]) (rest := []) ⟨hx, hb, hml, hown, hts⟩ (c_low l D cy t0 (v >>> ((nI 24) &&& 31)) 9 (by omega) (by omega)) (va_cwS 2 hts gL_act_L_low rfl rfl rfl (by decide +kernel) ⟨Nat.le_of_ble_eq_true rfl, Nat.le_of_ble_eq_true rfl⟩) (xPr.give (wc := []) hE hS hP [] rfl) rfl rfl hl.1 rfl (lv_room (Nat.le_of_ble_eq_true rfl)) dL_act_6 ⟨Nat.zero_le _, Nat.zero_le _⟩) (fun r_1 hr_2 => ?_)
  obtain rfl : r_1 = nI (lw (v >>> ((nI 24) &&& 31)) 9) := hr_2
  refine xb_if_ne (tgt := 16) (a := lw (v >>> ((nI 24) &&& 31)) 9) (by omega) hx hb dL_act_9 (by decide) (fun c_3 => ?_) (fun c_3 => ?_)
  · refine lv_iconst (v := nI 0) hx hb dL_act_16 (by decide) ?_
    refine lv_istore_n (lv' := [(2, .int (nI 0)), (0, .ref a4), (1, .int v)]) hx hb dL_act_17 rfl hl (by decide) rfl (fun ls hl => ?_)
    refine lv_iload_n hx hb dL_act_18 rfl (lv_at hl 0 rfl) ?_
    refine xb_if_eq (tgt := 35) (a := 0) (by omega) hx hb dL_act_19 (by decide) (fun c_4 => ?_) (fun c_4 => ?_)
    · refine lv_iload_n hx hb dL_act_35 rfl (lv_at hl 2 rfl) ?_
      refine lv_iconst (v := nI 3) hx hb dL_act_36 (by decide) ?_
      refine lv_ishr hx hb dL_act_37 ?_
      refine lv_iconst (v := nI 3) hx hb dL_act_38 (by decide) ?_
      refine xcRi (va_runS (As := [.int (v >>> ((nI 3) &&& 31)), .int (nI 3)]) (rest := []) ⟨hx, hb, hml, hown, hts⟩ (c_low l D cy t0 (v >>> ((nI 3) &&& 31)) 3 (by omega) (by omega)) (va_cwS 2 hts gL_act_L_low rfl rfl rfl (by decide +kernel) ⟨Nat.le_of_ble_eq_true rfl, Nat.le_of_ble_eq_true rfl⟩) (xPr.give (wc := []) hE hS hP [] rfl) rfl rfl hl.1 rfl (lv_room (Nat.le_of_ble_eq_true rfl)) dL_act_39 ⟨Nat.zero_le _, Nat.zero_le _⟩) (fun r_5 hr_6 => ?_)
      obtain rfl : r_5 = nI (lw (v >>> ((nI 3) &&& 31)) 3) := hr_6
      refine lv_istore_n (lv' := [(3, .int (nI (lw (v >>> ((nI 3) &&& 31)) 3))), (2, .int (nI 0)), (0, .ref a4), (1, .int v)]) hx hb dL_act_42 rfl hl (by decide) rfl (fun ls hl => ?_)
      refine lv_iload_n hx hb dL_act_43 rfl (lv_at hl 1 rfl) ?_
      refine xb_if_eq (tgt := 62) (a := 0) (by omega) hx hb dL_act_44 (by decide) (fun c_7 => ?_) (fun c_7 => ?_)
      · refine lv_iload_n hx hb dL_act_62 rfl (lv_at hl 3 rfl) ?_
        refine lv_bipush (v := nI 6) hx hb dL_act_63 (by decide) ?_
        refine lv_ishr hx hb dL_act_65 ?_
        refine lv_sipush (v := nI 300) hx hb dL_act_66 (by decide) ?_
        refine xcRi (va_runS (As := [.int (v >>> ((nI 6) &&& 31)), .int (nI 300)]) (rest := []) ⟨hx, hb, hml, hown, hts⟩ (c_low l D cy t0 (v >>> ((nI 6) &&& 31)) 300 (by omega) (by omega)) (va_cwS 2 hts gL_act_L_low rfl rfl rfl (by decide +kernel) ⟨Nat.le_of_ble_eq_true rfl, Nat.le_of_ble_eq_true rfl⟩) (xPr.give (wc := []) hE hS hP [] rfl) rfl rfl hl.1 rfl (lv_room (Nat.le_of_ble_eq_true rfl)) dL_act_69 ⟨Nat.zero_le _, Nat.zero_le _⟩) (fun r_8 hr_9 => ?_)
        obtain rfl : r_8 = nI (lw (v >>> ((nI 6) &&& 31)) 300) := hr_9
        refine lv_istore (lv' := [(4, .int (nI (lw (v >>> ((nI 6) &&& 31)) 300))), (3, .int (nI (lw (v >>> ((nI 3) &&& 31)) 3))), (2, .int (nI 0)), (0, .ref a4), (1, .int v)]) hx hb dL_act_72 hl (by decide) rfl (fun ls hl => ?_)
        refine lv_iload_n hx hb dL_act_74 rfl (lv_at hl 4 rfl) ?_
        refine lv_bipush (v := nI 9) hx hb dL_act_75 (by decide) ?_
        refine xcRi (va_runS (As := [.int v, .int (nI 9)]) (rest := []) ⟨hx, hb, hml, hown, hts⟩ (c_low l D cy t0 v 9 (by omega) (by omega)) (va_cwS 2 hts gL_act_L_low rfl rfl rfl (by decide +kernel) ⟨Nat.le_of_ble_eq_true rfl, Nat.le_of_ble_eq_true rfl⟩) (xPr.give (wc := []) hE hS hP [] rfl) rfl rfl hl.1 rfl (lv_room (Nat.le_of_ble_eq_true rfl)) dL_act_77 ⟨Nat.zero_le _, Nat.zero_le _⟩) (fun r_10 hr_11 => ?_)
        obtain rfl : r_10 = nI (lw v 9) := hr_11
        refine lv_eqi (z := nI 1) (by rw [hc0]) ?_
        refine lv_tableIn (x := nI 1) (off := 32) (tgt := 112) hx hb dL_act_80 (by decide +kernel) (by decide +kernel) (by decide +kernel) (by decide +kernel) ?_
        refine lv_aload_n hx hb dL_act_112 rfl (lv_at hl 3 rfl) ?_
        refine lv_iload_n hx hb dL_act_113 rfl (lv_at hl 1 rfl) ?_
        refine lv_iload hx hb dL_act_114 (lv_at hl 0 rfl) ?_
        refine xc0i (vx_runSW (As := [.ref a4, .int (nI (lw (v >>> ((nI 3) &&& 31)) 3)), .int (nI (lw (v >>> ((nI 6) &&& 31)) 300))]) (rest := []) ⟨hx, hb, hml, hown, hts⟩ (hw a4 u st hO H.size) (vx_cwSW 3 hts gL_act_L_add rfl rfl rfl (by decide +kernel) ⟨Nat.le_of_ble_eq_true rfl, Nat.le_of_ble_eq_true rfl⟩) (gs0 hE hS hA hP hD) rfl rfl hl.1 rfl (lv_room (Nat.le_of_ble_eq_true rfl)) dL_act_116 ⟨Nat.le_of_ble_eq_true rfl, Nat.le_of_ble_eq_true rfl⟩) hP hD hS hA (fun r9 st H locs hq hP hD hS => ?_)
        exact kret _ st _ _ _ _ _ _ dL_act_119 hq hP hD hS (Nat.le_of_ble_eq_true rfl) (Nat.le_of_ble_eq_true rfl)
      · exact absurd c_7 (by omega)
    · exact absurd c_4 (by omega)
  · exact absurd c_3 ho
set_option maxHeartbeats 4000000 in
set_option maxRecDepth 100000 in
theorem a_n_2e (l : Launch) (D : va_G) (cy : Nat → ClassId) (t0 k : Nat) (v : Int32) {M : Nat → Nat → Int32} {now : Nat} (ho : ¬ lw (v >>> (nI 24 &&& 31)) 9 = 0) (hc0 : lw v 9 = 2) (hc2 : lw (v >>> (nI 9 &&& 31)) 6 = 0) (hA0 : xAct l D cy t0 k yL_empty wsL_empty ({ frames := 8, cells := 3, slots := 9606, locals := 230 } : Room) [.int (nI (lw (v >>> ((nI 3) &&& 31)) 3))] M now) : xAct l D cy t0 k yL_act wsL_act ({ frames := 9, cells := 3, slots := 9606, locals := 300 } : Room) [.int v] M now := by
  obtain ⟨r, M', now', h1, h2, hw⟩ := hA0
  refine ⟨r, M', now', h1, h2, fun a4 u st hO => ?_⟩
  refine xofWi (cc := cL_act) (maxL := 5) (by decide) rfl (Nat.le_of_ble_eq_true rfl) (fun _ _ _ => rfl) ?_
  intro p e s m below meth c Q A ls hx hb hml hts hown hE hA H locs hP hD hl hS kret
  have hl : lv_has ls 5 [(0, .ref a4), (1, .int v)] := hl
  have q9 := lw_lt v (n := 9) (by omega)
  have q24 := lw_lt (v >>> (nI 24 &&& 31)) (n := 9) (by omega)
  have q6 := lw_lt (v >>> (nI 9 &&& 31)) (n := 6) (by omega)
  refine lv_iload_n hx hb dL_act_0 rfl (lv_at hl 1 rfl) ?_
  refine lv_bipush (v := nI 24) hx hb dL_act_1 (by decide) ?_
  refine lv_ishr hx hb dL_act_3 ?_
  refine lv_bipush (v := nI 9) hx hb dL_act_4 (by decide) ?_
  refine xcRi (va_runS (As := [.int (v >>> ((nI 24) &&& 31)), .int (nI 9)]) (rest := []) ⟨hx, hb, hml, hown, hts⟩ (c_low l D cy t0 (v >>> ((nI 24) &&& 31)) 9 (by omega) (by omega)) (va_cwS 2 hts gL_act_L_low rfl rfl rfl (by decide +kernel) ⟨Nat.le_of_ble_eq_true rfl, Nat.le_of_ble_eq_true rfl⟩) (xPr.give (wc := []) hE hS hP [] rfl) rfl rfl hl.1 rfl (lv_room (Nat.le_of_ble_eq_true rfl)) dL_act_6 ⟨Nat.zero_le _, Nat.zero_le _⟩) (fun r_1 hr_2 => ?_)
  obtain rfl : r_1 = nI (lw (v >>> ((nI 24) &&& 31)) 9) := hr_2
  refine xb_if_ne (tgt := 16) (a := lw (v >>> ((nI 24) &&& 31)) 9) (by omega) hx hb dL_act_9 (by decide) (fun c_3 => ?_) (fun c_3 => ?_)
  · refine lv_iconst (v := nI 0) hx hb dL_act_16 (by decide) ?_
    refine lv_istore_n (lv' := [(2, .int (nI 0)), (0, .ref a4), (1, .int v)]) hx hb dL_act_17 rfl hl (by decide) rfl (fun ls hl => ?_)
    refine lv_iload_n hx hb dL_act_18 rfl (lv_at hl 0 rfl) ?_
    refine xb_if_eq (tgt := 35) (a := 0) (by omega) hx hb dL_act_19 (by decide) (fun c_4 => ?_) (fun c_4 => ?_)
    · refine lv_iload_n hx hb dL_act_35 rfl (lv_at hl 2 rfl) ?_
      refine lv_iconst (v := nI 3) hx hb dL_act_36 (by decide) ?_
      refine lv_ishr hx hb dL_act_37 ?_
      refine lv_iconst (v := nI 3) hx hb dL_act_38 (by decide) ?_
      refine xcRi (va_runS (As := [.int (v >>> ((nI 3) &&& 31)), .int (nI 3)]) (rest := []) ⟨hx, hb, hml, hown, hts⟩ (c_low l D cy t0 (v >>> ((nI 3) &&& 31)) 3 (by omega) (by omega)) (va_cwS 2 hts gL_act_L_low rfl rfl rfl (by decide +kernel) ⟨Nat.le_of_ble_eq_true rfl, Nat.le_of_ble_eq_true rfl⟩) (xPr.give (wc := []) hE hS hP [] rfl) rfl rfl hl.1 rfl (lv_room (Nat.le_of_ble_eq_true rfl)) dL_act_39 ⟨Nat.zero_le _, Nat.zero_le _⟩) (fun r_5 hr_6 => ?_)
      obtain rfl : r_5 = nI (lw (v >>> ((nI 3) &&& 31)) 3) := hr_6
      refine lv_istore_n (lv' := [(3, .int (nI (lw (v >>> ((nI 3) &&& 31)) 3))), (2, .int (nI 0)), (0, .ref a4), (1, .int v)]) hx hb dL_act_42 rfl hl (by decide) rfl (fun ls hl => ?_)
      refine lv_iload_n hx hb dL_act_43 rfl (lv_at hl 1 rfl) ?_
      refine xb_if_eq (tgt := 62) (a := 0) (by omega) hx hb dL_act_44 (by decide) (fun c_7 => ?_) (fun c_7 => ?_)
      · refine lv_iload_n hx hb dL_act_62 rfl (lv_at hl 3 rfl) ?_
        refine lv_bipush (v := nI 6) hx hb dL_act_63 (by decide) ?_
        refine lv_ishr hx hb dL_act_65 ?_
        refine lv_sipush (v := nI 300) hx hb dL_act_66 (by decide) ?_
        refine xcRi (va_runS (As := [.int (v >>> ((nI 6) &&& 31)), .int (nI 300)]) (rest := []) ⟨hx, hb, hml, hown, hts⟩ (c_low l D cy t0 (v >>> ((nI 6) &&& 31)) 300 (by omega) (by omega)) (va_cwS 2 hts gL_act_L_low rfl rfl rfl (by decide +kernel) ⟨Nat.le_of_ble_eq_true rfl, Nat.le_of_ble_eq_true rfl⟩) (xPr.give (wc := []) hE hS hP [] rfl) rfl rfl hl.1 rfl (lv_room (Nat.le_of_ble_eq_true rfl)) dL_act_69 ⟨Nat.zero_le _, Nat.zero_le _⟩) (fun r_8 hr_9 => ?_)
        obtain rfl : r_8 = nI (lw (v >>> ((nI 6) &&& 31)) 300) := hr_9
        refine lv_istore (lv' := [(4, .int (nI (lw (v >>> ((nI 6) &&& 31)) 300))), (3, .int (nI (lw (v >>> ((nI 3) &&& 31)) 3))), (2, .int (nI 0)), (0, .ref a4), (1, .int v)]) hx hb dL_act_72 hl (by decide) rfl (fun ls hl => ?_)
        refine lv_iload_n hx hb dL_act_74 rfl (lv_at hl 4 rfl) ?_
        refine lv_bipush (v := nI 9) hx hb dL_act_75 (by decide) ?_
        refine xcRi (va_runS (As := [.int v, .int (nI 9)]) (rest := []) ⟨hx, hb, hml, hown, hts⟩ (c_low l D cy t0 v 9 (by omega) (by omega)) (va_cwS 2 hts gL_act_L_low rfl rfl rfl (by decide +kernel) ⟨Nat.le_of_ble_eq_true rfl, Nat.le_of_ble_eq_true rfl⟩) (xPr.give (wc := []) hE hS hP [] rfl) rfl rfl hl.1 rfl (lv_room (Nat.le_of_ble_eq_true rfl)) dL_act_77 ⟨Nat.zero_le _, Nat.zero_le _⟩) (fun r_10 hr_11 => ?_)
        obtain rfl : r_10 = nI (lw v 9) := hr_11
        refine lv_eqi (z := nI 2) (by rw [hc0]) ?_
        refine lv_tableIn (x := nI 2) (off := 40) (tgt := 120) hx hb dL_act_80 (by decide +kernel) (by decide +kernel) (by decide +kernel) (by decide +kernel) ?_
        refine lv_iload_n hx hb dL_act_120 rfl (lv_at hl 4 rfl) ?_
        refine lv_bipush (v := nI 9) hx hb dL_act_121 (by decide) ?_
        refine lv_ishr hx hb dL_act_123 ?_
        refine lv_bipush (v := nI 6) hx hb dL_act_124 (by decide) ?_
        refine xcRi (va_runS (As := [.int (v >>> ((nI 9) &&& 31)), .int (nI 6)]) (rest := []) ⟨hx, hb, hml, hown, hts⟩ (c_low l D cy t0 (v >>> ((nI 9) &&& 31)) 6 (by omega) (by omega)) (va_cwS 2 hts gL_act_L_low rfl rfl rfl (by decide +kernel) ⟨Nat.le_of_ble_eq_true rfl, Nat.le_of_ble_eq_true rfl⟩) (xPr.give (wc := []) hE hS hP [] rfl) rfl rfl hl.1 rfl (lv_room (Nat.le_of_ble_eq_true rfl)) dL_act_126 ⟨Nat.zero_le _, Nat.zero_le _⟩) (fun r_12 hr_13 => ?_)
        obtain rfl : r_12 = nI (lw (v >>> ((nI 9) &&& 31)) 6) := hr_13
        refine xb_if_ne (tgt := 140) (a := lw (v >>> ((nI 9) &&& 31)) 6) (by omega) hx hb dL_act_129 (by decide) (fun c_14 => ?_) (fun c_14 => ?_)
        · exact absurd hc2 c_14
        · refine lv_aload_n hx hb dL_act_132 rfl (lv_at hl 3 rfl) ?_
          refine lv_iload_n hx hb dL_act_133 rfl (lv_at hl 1 rfl) ?_
          refine xc0i (vx_runSW (As := [.ref a4, .int (nI (lw (v >>> ((nI 3) &&& 31)) 3))]) (rest := []) ⟨hx, hb, hml, hown, hts⟩ (hw a4 u st hO H.size) (vx_cwSW 2 hts gL_act_L_empty rfl rfl rfl (by decide +kernel) ⟨Nat.le_of_ble_eq_true rfl, Nat.le_of_ble_eq_true rfl⟩) (gs0 hE hS hA hP hD) rfl rfl hl.1 rfl (lv_room (Nat.le_of_ble_eq_true rfl)) dL_act_134 ⟨Nat.le_of_ble_eq_true rfl, Nat.le_of_ble_eq_true rfl⟩) hP hD hS hA (fun r9 st H locs hq hP hD hS => ?_)
          refine lv_goto (tgt := 162) hx hb dL_act_137 (by decide) ?_
          exact kret _ st _ _ _ _ _ _ dL_act_162 hq hP hD hS (Nat.le_of_ble_eq_true rfl) (Nat.le_of_ble_eq_true rfl)
      · exact absurd c_7 (by omega)
    · exact absurd c_4 (by omega)
  · exact absurd c_3 ho
set_option maxHeartbeats 4000000 in
set_option maxRecDepth 100000 in
theorem a_n_2m (l : Launch) (D : va_G) (cy : Nat → ClassId) (t0 k : Nat) (v : Int32) {M : Nat → Nat → Int32} {now : Nat} (ho : ¬ lw (v >>> (nI 24 &&& 31)) 9 = 0) (hc0 : lw v 9 = 2) (hc2 : ¬ lw (v >>> (nI 9 &&& 31)) 6 = 0) (hA0 : xAct l D cy t0 k yL_merge wsL_merge ({ frames := 8, cells := 3, slots := 9606, locals := 230 } : Room) [.int (nI (lw (v >>> ((nI 3) &&& 31)) 3)), .int (nI (lw (v >>> ((nI 12) &&& 31)) 3))] M now) : xAct l D cy t0 k yL_act wsL_act ({ frames := 9, cells := 3, slots := 9606, locals := 300 } : Room) [.int v] M now := by
  obtain ⟨r, M', now', h1, h2, hw⟩ := hA0
  refine ⟨r, M', now', h1, h2, fun a4 u st hO => ?_⟩
  refine xofWi (cc := cL_act) (maxL := 5) (by decide) rfl (Nat.le_of_ble_eq_true rfl) (fun _ _ _ => rfl) ?_
  intro p e s m below meth c Q A ls hx hb hml hts hown hE hA H locs hP hD hl hS kret
  have hl : lv_has ls 5 [(0, .ref a4), (1, .int v)] := hl
  have q9 := lw_lt v (n := 9) (by omega)
  have q24 := lw_lt (v >>> (nI 24 &&& 31)) (n := 9) (by omega)
  have q6 := lw_lt (v >>> (nI 9 &&& 31)) (n := 6) (by omega)
  refine lv_iload_n hx hb dL_act_0 rfl (lv_at hl 1 rfl) ?_
  refine lv_bipush (v := nI 24) hx hb dL_act_1 (by decide) ?_
  refine lv_ishr hx hb dL_act_3 ?_
  refine lv_bipush (v := nI 9) hx hb dL_act_4 (by decide) ?_
  refine xcRi (va_runS (As := [.int (v >>> ((nI 24) &&& 31)), .int (nI 9)]) (rest := []) ⟨hx, hb, hml, hown, hts⟩ (c_low l D cy t0 (v >>> ((nI 24) &&& 31)) 9 (by omega) (by omega)) (va_cwS 2 hts gL_act_L_low rfl rfl rfl (by decide +kernel) ⟨Nat.le_of_ble_eq_true rfl, Nat.le_of_ble_eq_true rfl⟩) (xPr.give (wc := []) hE hS hP [] rfl) rfl rfl hl.1 rfl (lv_room (Nat.le_of_ble_eq_true rfl)) dL_act_6 ⟨Nat.zero_le _, Nat.zero_le _⟩) (fun r_1 hr_2 => ?_)
  obtain rfl : r_1 = nI (lw (v >>> ((nI 24) &&& 31)) 9) := hr_2
  refine xb_if_ne (tgt := 16) (a := lw (v >>> ((nI 24) &&& 31)) 9) (by omega) hx hb dL_act_9 (by decide) (fun c_3 => ?_) (fun c_3 => ?_)
  · refine lv_iconst (v := nI 0) hx hb dL_act_16 (by decide) ?_
    refine lv_istore_n (lv' := [(2, .int (nI 0)), (0, .ref a4), (1, .int v)]) hx hb dL_act_17 rfl hl (by decide) rfl (fun ls hl => ?_)
    refine lv_iload_n hx hb dL_act_18 rfl (lv_at hl 0 rfl) ?_
    refine xb_if_eq (tgt := 35) (a := 0) (by omega) hx hb dL_act_19 (by decide) (fun c_4 => ?_) (fun c_4 => ?_)
    · refine lv_iload_n hx hb dL_act_35 rfl (lv_at hl 2 rfl) ?_
      refine lv_iconst (v := nI 3) hx hb dL_act_36 (by decide) ?_
      refine lv_ishr hx hb dL_act_37 ?_
      refine lv_iconst (v := nI 3) hx hb dL_act_38 (by decide) ?_
      refine xcRi (va_runS (As := [.int (v >>> ((nI 3) &&& 31)), .int (nI 3)]) (rest := []) ⟨hx, hb, hml, hown, hts⟩ (c_low l D cy t0 (v >>> ((nI 3) &&& 31)) 3 (by omega) (by omega)) (va_cwS 2 hts gL_act_L_low rfl rfl rfl (by decide +kernel) ⟨Nat.le_of_ble_eq_true rfl, Nat.le_of_ble_eq_true rfl⟩) (xPr.give (wc := []) hE hS hP [] rfl) rfl rfl hl.1 rfl (lv_room (Nat.le_of_ble_eq_true rfl)) dL_act_39 ⟨Nat.zero_le _, Nat.zero_le _⟩) (fun r_5 hr_6 => ?_)
      obtain rfl : r_5 = nI (lw (v >>> ((nI 3) &&& 31)) 3) := hr_6
      refine lv_istore_n (lv' := [(3, .int (nI (lw (v >>> ((nI 3) &&& 31)) 3))), (2, .int (nI 0)), (0, .ref a4), (1, .int v)]) hx hb dL_act_42 rfl hl (by decide) rfl (fun ls hl => ?_)
      refine lv_iload_n hx hb dL_act_43 rfl (lv_at hl 1 rfl) ?_
      refine xb_if_eq (tgt := 62) (a := 0) (by omega) hx hb dL_act_44 (by decide) (fun c_7 => ?_) (fun c_7 => ?_)
      · refine lv_iload_n hx hb dL_act_62 rfl (lv_at hl 3 rfl) ?_
        refine lv_bipush (v := nI 6) hx hb dL_act_63 (by decide) ?_
        refine lv_ishr hx hb dL_act_65 ?_
        refine lv_sipush (v := nI 300) hx hb dL_act_66 (by decide) ?_
        refine xcRi (va_runS (As := [.int (v >>> ((nI 6) &&& 31)), .int (nI 300)]) (rest := []) ⟨hx, hb, hml, hown, hts⟩ (c_low l D cy t0 (v >>> ((nI 6) &&& 31)) 300 (by omega) (by omega)) (va_cwS 2 hts gL_act_L_low rfl rfl rfl (by decide +kernel) ⟨Nat.le_of_ble_eq_true rfl, Nat.le_of_ble_eq_true rfl⟩) (xPr.give (wc := []) hE hS hP [] rfl) rfl rfl hl.1 rfl (lv_room (Nat.le_of_ble_eq_true rfl)) dL_act_69 ⟨Nat.zero_le _, Nat.zero_le _⟩) (fun r_8 hr_9 => ?_)
        obtain rfl : r_8 = nI (lw (v >>> ((nI 6) &&& 31)) 300) := hr_9
        refine lv_istore (lv' := [(4, .int (nI (lw (v >>> ((nI 6) &&& 31)) 300))), (3, .int (nI (lw (v >>> ((nI 3) &&& 31)) 3))), (2, .int (nI 0)), (0, .ref a4), (1, .int v)]) hx hb dL_act_72 hl (by decide) rfl (fun ls hl => ?_)
        refine lv_iload_n hx hb dL_act_74 rfl (lv_at hl 4 rfl) ?_
        refine lv_bipush (v := nI 9) hx hb dL_act_75 (by decide) ?_
        refine xcRi (va_runS (As := [.int v, .int (nI 9)]) (rest := []) ⟨hx, hb, hml, hown, hts⟩ (c_low l D cy t0 v 9 (by omega) (by omega)) (va_cwS 2 hts gL_act_L_low rfl rfl rfl (by decide +kernel) ⟨Nat.le_of_ble_eq_true rfl, Nat.le_of_ble_eq_true rfl⟩) (xPr.give (wc := []) hE hS hP [] rfl) rfl rfl hl.1 rfl (lv_room (Nat.le_of_ble_eq_true rfl)) dL_act_77 ⟨Nat.zero_le _, Nat.zero_le _⟩) (fun r_10 hr_11 => ?_)
        obtain rfl : r_10 = nI (lw v 9) := hr_11
        refine lv_eqi (z := nI 2) (by rw [hc0]) ?_
        refine lv_tableIn (x := nI 2) (off := 40) (tgt := 120) hx hb dL_act_80 (by decide +kernel) (by decide +kernel) (by decide +kernel) (by decide +kernel) ?_
        refine lv_iload_n hx hb dL_act_120 rfl (lv_at hl 4 rfl) ?_
        refine lv_bipush (v := nI 9) hx hb dL_act_121 (by decide) ?_
        refine lv_ishr hx hb dL_act_123 ?_
        refine lv_bipush (v := nI 6) hx hb dL_act_124 (by decide) ?_
        refine xcRi (va_runS (As := [.int (v >>> ((nI 9) &&& 31)), .int (nI 6)]) (rest := []) ⟨hx, hb, hml, hown, hts⟩ (c_low l D cy t0 (v >>> ((nI 9) &&& 31)) 6 (by omega) (by omega)) (va_cwS 2 hts gL_act_L_low rfl rfl rfl (by decide +kernel) ⟨Nat.le_of_ble_eq_true rfl, Nat.le_of_ble_eq_true rfl⟩) (xPr.give (wc := []) hE hS hP [] rfl) rfl rfl hl.1 rfl (lv_room (Nat.le_of_ble_eq_true rfl)) dL_act_126 ⟨Nat.zero_le _, Nat.zero_le _⟩) (fun r_12 hr_13 => ?_)
        obtain rfl : r_12 = nI (lw (v >>> ((nI 9) &&& 31)) 6) := hr_13
        refine xb_if_ne (tgt := 140) (a := lw (v >>> ((nI 9) &&& 31)) 6) (by omega) hx hb dL_act_129 (by decide) (fun c_14 => ?_) (fun c_14 => ?_)
        · refine lv_aload_n hx hb dL_act_140 rfl (lv_at hl 3 rfl) ?_
          refine lv_iload_n hx hb dL_act_141 rfl (lv_at hl 1 rfl) ?_
          refine lv_iload_n hx hb dL_act_142 rfl (lv_at hl 4 rfl) ?_
          refine lv_bipush (v := nI 12) hx hb dL_act_143 (by decide) ?_
          refine lv_ishr hx hb dL_act_145 ?_
          refine lv_iload_n hx hb dL_act_146 rfl (lv_at hl 2 rfl) ?_
          refine xb_if_eq (tgt := 155) (a := 0) (by omega) hx hb dL_act_147 (by decide) (fun c_15 => ?_) (fun c_15 => ?_)
          · refine lv_iconst (v := nI 3) hx hb dL_act_155 (by decide) ?_
            refine xcRi (va_runS (As := [.int (v >>> ((nI 12) &&& 31)), .int (nI 3)]) (rest := [.int (nI (lw (v >>> ((nI 3) &&& 31)) 3)), .ref a4]) ⟨hx, hb, hml, hown, hts⟩ (c_low l D cy t0 (v >>> ((nI 12) &&& 31)) 3 (by omega) (by omega)) (va_cwS 2 hts gL_act_L_low rfl rfl rfl (by decide +kernel) ⟨Nat.le_of_ble_eq_true rfl, Nat.le_of_ble_eq_true rfl⟩) (xPr.give (wc := []) hE hS hP [] rfl) rfl rfl hl.1 rfl (lv_room (Nat.le_of_ble_eq_true rfl)) dL_act_156 ⟨Nat.zero_le _, Nat.zero_le _⟩) (fun r_16 hr_17 => ?_)
            obtain rfl : r_16 = nI (lw (v >>> ((nI 12) &&& 31)) 3) := hr_17
            refine xc0i (vx_runSW (As := [.ref a4, .int (nI (lw (v >>> ((nI 3) &&& 31)) 3)), .int (nI (lw (v >>> ((nI 12) &&& 31)) 3))]) (rest := []) ⟨hx, hb, hml, hown, hts⟩ (hw a4 u st hO H.size) (vx_cwSW 3 hts gL_act_L_merge rfl rfl rfl (by decide +kernel) ⟨Nat.le_of_ble_eq_true rfl, Nat.le_of_ble_eq_true rfl⟩) (gs0 hE hS hA hP hD) rfl rfl hl.1 rfl (lv_room (Nat.le_of_ble_eq_true rfl)) dL_act_159 ⟨Nat.le_of_ble_eq_true rfl, Nat.le_of_ble_eq_true rfl⟩) hP hD hS hA (fun r9 st H locs hq hP hD hS => ?_)
            exact kret _ st _ _ _ _ _ _ dL_act_162 hq hP hD hS (Nat.le_of_ble_eq_true rfl) (Nat.le_of_ble_eq_true rfl)
          · exact absurd c_15 (by omega)
        · exact absurd c_14 hc2
      · exact absurd c_7 (by omega)
    · exact absurd c_4 (by omega)
  · exact absurd c_3 ho
set_option maxHeartbeats 4000000 in
set_option maxRecDepth 100000 in
theorem a_n_3 (l : Launch) (D : va_G) (cy : Nat → ClassId) (t0 k : Nat) (v : Int32) {M : Nat → Nat → Int32} {now : Nat} (ho : ¬ lw (v >>> (nI 24 &&& 31)) 9 = 0) (hc0 : lw v 9 = 3) (hA0 : xAct l D cy t0 k yL_pass wsL_pass ({ frames := 8, cells := 3, slots := 9606, locals := 230 } : Room) [.int (nI (1 + lw (v >>> ((nI 9) &&& 31)) 9))] M now) : xAct l D cy t0 k yL_act wsL_act ({ frames := 9, cells := 3, slots := 9606, locals := 300 } : Room) [.int v] M now := by
  obtain ⟨r, M', now', h1, h2, hw⟩ := hA0
  refine ⟨r, M', now', h1, h2, fun a4 u st hO => ?_⟩
  refine xofWi (cc := cL_act) (maxL := 5) (by decide) rfl (Nat.le_of_ble_eq_true rfl) (fun _ _ _ => rfl) ?_
  intro p e s m below meth c Q A ls hx hb hml hts hown hE hA H locs hP hD hl hS kret
  have hl : lv_has ls 5 [(0, .ref a4), (1, .int v)] := hl
  have q9 := lw_lt v (n := 9) (by omega)
  have q24 := lw_lt (v >>> (nI 24 &&& 31)) (n := 9) (by omega)
  have q6 := lw_lt (v >>> (nI 9 &&& 31)) (n := 6) (by omega)
  refine lv_iload_n hx hb dL_act_0 rfl (lv_at hl 1 rfl) ?_
  refine lv_bipush (v := nI 24) hx hb dL_act_1 (by decide) ?_
  refine lv_ishr hx hb dL_act_3 ?_
  refine lv_bipush (v := nI 9) hx hb dL_act_4 (by decide) ?_
  refine xcRi (va_runS (As := [.int (v >>> ((nI 24) &&& 31)), .int (nI 9)]) (rest := []) ⟨hx, hb, hml, hown, hts⟩ (c_low l D cy t0 (v >>> ((nI 24) &&& 31)) 9 (by omega) (by omega)) (va_cwS 2 hts gL_act_L_low rfl rfl rfl (by decide +kernel) ⟨Nat.le_of_ble_eq_true rfl, Nat.le_of_ble_eq_true rfl⟩) (xPr.give (wc := []) hE hS hP [] rfl) rfl rfl hl.1 rfl (lv_room (Nat.le_of_ble_eq_true rfl)) dL_act_6 ⟨Nat.zero_le _, Nat.zero_le _⟩) (fun r_1 hr_2 => ?_)
  obtain rfl : r_1 = nI (lw (v >>> ((nI 24) &&& 31)) 9) := hr_2
  refine xb_if_ne (tgt := 16) (a := lw (v >>> ((nI 24) &&& 31)) 9) (by omega) hx hb dL_act_9 (by decide) (fun c_3 => ?_) (fun c_3 => ?_)
  · refine lv_iconst (v := nI 0) hx hb dL_act_16 (by decide) ?_
    refine lv_istore_n (lv' := [(2, .int (nI 0)), (0, .ref a4), (1, .int v)]) hx hb dL_act_17 rfl hl (by decide) rfl (fun ls hl => ?_)
    refine lv_iload_n hx hb dL_act_18 rfl (lv_at hl 0 rfl) ?_
    refine xb_if_eq (tgt := 35) (a := 0) (by omega) hx hb dL_act_19 (by decide) (fun c_4 => ?_) (fun c_4 => ?_)
    · refine lv_iload_n hx hb dL_act_35 rfl (lv_at hl 2 rfl) ?_
      refine lv_iconst (v := nI 3) hx hb dL_act_36 (by decide) ?_
      refine lv_ishr hx hb dL_act_37 ?_
      refine lv_iconst (v := nI 3) hx hb dL_act_38 (by decide) ?_
      refine xcRi (va_runS (As := [.int (v >>> ((nI 3) &&& 31)), .int (nI 3)]) (rest := []) ⟨hx, hb, hml, hown, hts⟩ (c_low l D cy t0 (v >>> ((nI 3) &&& 31)) 3 (by omega) (by omega)) (va_cwS 2 hts gL_act_L_low rfl rfl rfl (by decide +kernel) ⟨Nat.le_of_ble_eq_true rfl, Nat.le_of_ble_eq_true rfl⟩) (xPr.give (wc := []) hE hS hP [] rfl) rfl rfl hl.1 rfl (lv_room (Nat.le_of_ble_eq_true rfl)) dL_act_39 ⟨Nat.zero_le _, Nat.zero_le _⟩) (fun r_5 hr_6 => ?_)
      obtain rfl : r_5 = nI (lw (v >>> ((nI 3) &&& 31)) 3) := hr_6
      refine lv_istore_n (lv' := [(3, .int (nI (lw (v >>> ((nI 3) &&& 31)) 3))), (2, .int (nI 0)), (0, .ref a4), (1, .int v)]) hx hb dL_act_42 rfl hl (by decide) rfl (fun ls hl => ?_)
      refine lv_iload_n hx hb dL_act_43 rfl (lv_at hl 1 rfl) ?_
      refine xb_if_eq (tgt := 62) (a := 0) (by omega) hx hb dL_act_44 (by decide) (fun c_7 => ?_) (fun c_7 => ?_)
      · refine lv_iload_n hx hb dL_act_62 rfl (lv_at hl 3 rfl) ?_
        refine lv_bipush (v := nI 6) hx hb dL_act_63 (by decide) ?_
        refine lv_ishr hx hb dL_act_65 ?_
        refine lv_sipush (v := nI 300) hx hb dL_act_66 (by decide) ?_
        refine xcRi (va_runS (As := [.int (v >>> ((nI 6) &&& 31)), .int (nI 300)]) (rest := []) ⟨hx, hb, hml, hown, hts⟩ (c_low l D cy t0 (v >>> ((nI 6) &&& 31)) 300 (by omega) (by omega)) (va_cwS 2 hts gL_act_L_low rfl rfl rfl (by decide +kernel) ⟨Nat.le_of_ble_eq_true rfl, Nat.le_of_ble_eq_true rfl⟩) (xPr.give (wc := []) hE hS hP [] rfl) rfl rfl hl.1 rfl (lv_room (Nat.le_of_ble_eq_true rfl)) dL_act_69 ⟨Nat.zero_le _, Nat.zero_le _⟩) (fun r_8 hr_9 => ?_)
        obtain rfl : r_8 = nI (lw (v >>> ((nI 6) &&& 31)) 300) := hr_9
        refine lv_istore (lv' := [(4, .int (nI (lw (v >>> ((nI 6) &&& 31)) 300))), (3, .int (nI (lw (v >>> ((nI 3) &&& 31)) 3))), (2, .int (nI 0)), (0, .ref a4), (1, .int v)]) hx hb dL_act_72 hl (by decide) rfl (fun ls hl => ?_)
        refine lv_iload_n hx hb dL_act_74 rfl (lv_at hl 4 rfl) ?_
        refine lv_bipush (v := nI 9) hx hb dL_act_75 (by decide) ?_
        refine xcRi (va_runS (As := [.int v, .int (nI 9)]) (rest := []) ⟨hx, hb, hml, hown, hts⟩ (c_low l D cy t0 v 9 (by omega) (by omega)) (va_cwS 2 hts gL_act_L_low rfl rfl rfl (by decide +kernel) ⟨Nat.le_of_ble_eq_true rfl, Nat.le_of_ble_eq_true rfl⟩) (xPr.give (wc := []) hE hS hP [] rfl) rfl rfl hl.1 rfl (lv_room (Nat.le_of_ble_eq_true rfl)) dL_act_77 ⟨Nat.zero_le _, Nat.zero_le _⟩) (fun r_10 hr_11 => ?_)
        obtain rfl : r_10 = nI (lw v 9) := hr_11
        refine lv_eqi (z := nI 3) (by rw [hc0]) ?_
        refine lv_tableIn (x := nI 3) (off := 83) (tgt := 163) hx hb dL_act_80 (by decide +kernel) (by decide +kernel) (by decide +kernel) (by decide +kernel) ?_
        refine lv_aload_n hx hb dL_act_163 rfl (lv_at hl 3 rfl) ?_
        refine lv_iload_n hx hb dL_act_164 rfl (lv_at hl 2 rfl) ?_
        refine xb_if_eq (tgt := 181) (a := 0) (by omega) hx hb dL_act_165 (by decide) (fun c_12 => ?_) (fun c_12 => ?_)
        · refine lv_iconst (v := nI 1) hx hb dL_act_181 (by decide) ?_
          refine lv_iload_n hx hb dL_act_182 rfl (lv_at hl 4 rfl) ?_
          refine lv_bipush (v := nI 9) hx hb dL_act_183 (by decide) ?_
          refine lv_ishr hx hb dL_act_185 ?_
          refine lv_bipush (v := nI 9) hx hb dL_act_186 (by decide) ?_
          refine xcRi (va_runS (As := [.int (v >>> ((nI 9) &&& 31)), .int (nI 9)]) (rest := [.int (nI 1), .ref a4]) ⟨hx, hb, hml, hown, hts⟩ (c_low l D cy t0 (v >>> ((nI 9) &&& 31)) 9 (by omega) (by omega)) (va_cwS 2 hts gL_act_L_low rfl rfl rfl (by decide +kernel) ⟨Nat.le_of_ble_eq_true rfl, Nat.le_of_ble_eq_true rfl⟩) (xPr.give (wc := []) hE hS hP [] rfl) rfl rfl hl.1 rfl (lv_room (Nat.le_of_ble_eq_true rfl)) dL_act_188 ⟨Nat.zero_le _, Nat.zero_le _⟩) (fun r_13 hr_14 => ?_)
          obtain rfl : r_13 = nI (lw (v >>> ((nI 9) &&& 31)) 9) := hr_14
          refine lv_iadd hx hb dL_act_191 ?_
          refine lv_eqi (z := nI (1 + lw (v >>> ((nI 9) &&& 31)) 9)) (nI_add _ _) ?_
          refine xc0i (vx_runSW (As := [.ref a4, .int (nI (1 + lw (v >>> ((nI 9) &&& 31)) 9))]) (rest := []) ⟨hx, hb, hml, hown, hts⟩ (hw a4 u st hO H.size) (vx_cwSW 2 hts gL_act_L_pass rfl rfl rfl (by decide +kernel) ⟨Nat.le_of_ble_eq_true rfl, Nat.le_of_ble_eq_true rfl⟩) (gs0 hE hS hA hP hD) rfl rfl hl.1 rfl (lv_room (Nat.le_of_ble_eq_true rfl)) dL_act_192 ⟨Nat.le_of_ble_eq_true rfl, Nat.le_of_ble_eq_true rfl⟩) hP hD hS hA (fun r9 st H locs hq hP hD hS => ?_)
          exact kret _ st _ _ _ _ _ _ dL_act_195 hq hP hD hS (Nat.le_of_ble_eq_true rfl) (Nat.le_of_ble_eq_true rfl)
        · exact absurd c_12 (by omega)
      · exact absurd c_7 (by omega)
    · exact absurd c_4 (by omega)
  · exact absurd c_3 ho
set_option maxHeartbeats 4000000 in
set_option maxRecDepth 100000 in
theorem a_n_4 (l : Launch) (D : va_G) (cy : Nat → ClassId) (t0 k : Nat) (v : Int32) {M : Nat → Nat → Int32} {now : Nat} (ho : ¬ lw (v >>> (nI 24 &&& 31)) 9 = 0) (hc0 : 4 ≤ lw v 9) (hA0 : xAct l D cy t0 k yL_addLine wsL_addLine ({ frames := 8, cells := 3, slots := 9606, locals := 230 } : Room) [.int (nI (lw (v >>> ((nI 3) &&& 31)) 3)), .int (nI (lw (v >>> ((nI 6) &&& 31)) 300)), .int (nI (1 + lw (v >>> ((nI 11) &&& 31)) 120)), .int (nI (1 + lw (v >>> ((nI 15) &&& 31)) 12))] M now) : xAct l D cy t0 k yL_act wsL_act ({ frames := 9, cells := 3, slots := 9606, locals := 300 } : Room) [.int v] M now := by
  obtain ⟨r, M', now', h1, h2, hw⟩ := hA0
  refine ⟨r, M', now', h1, h2, fun a4 u st hO => ?_⟩
  refine xofWi (cc := cL_act) (maxL := 5) (by decide) rfl (Nat.le_of_ble_eq_true rfl) (fun _ _ _ => rfl) ?_
  intro p e s m below meth c Q A ls hx hb hml hts hown hE hA H locs hP hD hl hS kret
  have hl : lv_has ls 5 [(0, .ref a4), (1, .int v)] := hl
  have q9 := lw_lt v (n := 9) (by omega)
  have q24 := lw_lt (v >>> (nI 24 &&& 31)) (n := 9) (by omega)
  have q6 := lw_lt (v >>> (nI 9 &&& 31)) (n := 6) (by omega)
  refine lv_iload_n hx hb dL_act_0 rfl (lv_at hl 1 rfl) ?_
  refine lv_bipush (v := nI 24) hx hb dL_act_1 (by decide) ?_
  refine lv_ishr hx hb dL_act_3 ?_
  refine lv_bipush (v := nI 9) hx hb dL_act_4 (by decide) ?_
  refine xcRi (va_runS (As := [.int (v >>> ((nI 24) &&& 31)), .int (nI 9)]) (rest := []) ⟨hx, hb, hml, hown, hts⟩ (c_low l D cy t0 (v >>> ((nI 24) &&& 31)) 9 (by omega) (by omega)) (va_cwS 2 hts gL_act_L_low rfl rfl rfl (by decide +kernel) ⟨Nat.le_of_ble_eq_true rfl, Nat.le_of_ble_eq_true rfl⟩) (xPr.give (wc := []) hE hS hP [] rfl) rfl rfl hl.1 rfl (lv_room (Nat.le_of_ble_eq_true rfl)) dL_act_6 ⟨Nat.zero_le _, Nat.zero_le _⟩) (fun r_1 hr_2 => ?_)
  obtain rfl : r_1 = nI (lw (v >>> ((nI 24) &&& 31)) 9) := hr_2
  refine xb_if_ne (tgt := 16) (a := lw (v >>> ((nI 24) &&& 31)) 9) (by omega) hx hb dL_act_9 (by decide) (fun c_3 => ?_) (fun c_3 => ?_)
  · refine lv_iconst (v := nI 0) hx hb dL_act_16 (by decide) ?_
    refine lv_istore_n (lv' := [(2, .int (nI 0)), (0, .ref a4), (1, .int v)]) hx hb dL_act_17 rfl hl (by decide) rfl (fun ls hl => ?_)
    refine lv_iload_n hx hb dL_act_18 rfl (lv_at hl 0 rfl) ?_
    refine xb_if_eq (tgt := 35) (a := 0) (by omega) hx hb dL_act_19 (by decide) (fun c_4 => ?_) (fun c_4 => ?_)
    · refine lv_iload_n hx hb dL_act_35 rfl (lv_at hl 2 rfl) ?_
      refine lv_iconst (v := nI 3) hx hb dL_act_36 (by decide) ?_
      refine lv_ishr hx hb dL_act_37 ?_
      refine lv_iconst (v := nI 3) hx hb dL_act_38 (by decide) ?_
      refine xcRi (va_runS (As := [.int (v >>> ((nI 3) &&& 31)), .int (nI 3)]) (rest := []) ⟨hx, hb, hml, hown, hts⟩ (c_low l D cy t0 (v >>> ((nI 3) &&& 31)) 3 (by omega) (by omega)) (va_cwS 2 hts gL_act_L_low rfl rfl rfl (by decide +kernel) ⟨Nat.le_of_ble_eq_true rfl, Nat.le_of_ble_eq_true rfl⟩) (xPr.give (wc := []) hE hS hP [] rfl) rfl rfl hl.1 rfl (lv_room (Nat.le_of_ble_eq_true rfl)) dL_act_39 ⟨Nat.zero_le _, Nat.zero_le _⟩) (fun r_5 hr_6 => ?_)
      obtain rfl : r_5 = nI (lw (v >>> ((nI 3) &&& 31)) 3) := hr_6
      refine lv_istore_n (lv' := [(3, .int (nI (lw (v >>> ((nI 3) &&& 31)) 3))), (2, .int (nI 0)), (0, .ref a4), (1, .int v)]) hx hb dL_act_42 rfl hl (by decide) rfl (fun ls hl => ?_)
      refine lv_iload_n hx hb dL_act_43 rfl (lv_at hl 1 rfl) ?_
      refine xb_if_eq (tgt := 62) (a := 0) (by omega) hx hb dL_act_44 (by decide) (fun c_7 => ?_) (fun c_7 => ?_)
      · refine lv_iload_n hx hb dL_act_62 rfl (lv_at hl 3 rfl) ?_
        refine lv_bipush (v := nI 6) hx hb dL_act_63 (by decide) ?_
        refine lv_ishr hx hb dL_act_65 ?_
        refine lv_sipush (v := nI 300) hx hb dL_act_66 (by decide) ?_
        refine xcRi (va_runS (As := [.int (v >>> ((nI 6) &&& 31)), .int (nI 300)]) (rest := []) ⟨hx, hb, hml, hown, hts⟩ (c_low l D cy t0 (v >>> ((nI 6) &&& 31)) 300 (by omega) (by omega)) (va_cwS 2 hts gL_act_L_low rfl rfl rfl (by decide +kernel) ⟨Nat.le_of_ble_eq_true rfl, Nat.le_of_ble_eq_true rfl⟩) (xPr.give (wc := []) hE hS hP [] rfl) rfl rfl hl.1 rfl (lv_room (Nat.le_of_ble_eq_true rfl)) dL_act_69 ⟨Nat.zero_le _, Nat.zero_le _⟩) (fun r_8 hr_9 => ?_)
        obtain rfl : r_8 = nI (lw (v >>> ((nI 6) &&& 31)) 300) := hr_9
        refine lv_istore (lv' := [(4, .int (nI (lw (v >>> ((nI 6) &&& 31)) 300))), (3, .int (nI (lw (v >>> ((nI 3) &&& 31)) 3))), (2, .int (nI 0)), (0, .ref a4), (1, .int v)]) hx hb dL_act_72 hl (by decide) rfl (fun ls hl => ?_)
        refine lv_iload_n hx hb dL_act_74 rfl (lv_at hl 4 rfl) ?_
        refine lv_bipush (v := nI 9) hx hb dL_act_75 (by decide) ?_
        refine xcRi (va_runS (As := [.int v, .int (nI 9)]) (rest := []) ⟨hx, hb, hml, hown, hts⟩ (c_low l D cy t0 v 9 (by omega) (by omega)) (va_cwS 2 hts gL_act_L_low rfl rfl rfl (by decide +kernel) ⟨Nat.le_of_ble_eq_true rfl, Nat.le_of_ble_eq_true rfl⟩) (xPr.give (wc := []) hE hS hP [] rfl) rfl rfl hl.1 rfl (lv_room (Nat.le_of_ble_eq_true rfl)) dL_act_77 ⟨Nat.zero_le _, Nat.zero_le _⟩) (fun r_10 hr_11 => ?_)
        obtain rfl : r_10 = nI (lw v 9) := hr_11
        refine lv_tableOut (tgt := 196) hx hb dL_act_80 (Or.inr (by rw [nI_toInt (by omega)]; omega)) (by decide +kernel) ?_
        refine lv_aload_n hx hb dL_act_196 rfl (lv_at hl 3 rfl) ?_
        refine lv_iload_n hx hb dL_act_197 rfl (lv_at hl 1 rfl) ?_
        refine lv_iload hx hb dL_act_198 (lv_at hl 0 rfl) ?_
        refine lv_iload_n hx hb dL_act_200 rfl (lv_at hl 2 rfl) ?_
        refine xb_if_eq (tgt := 217) (a := 0) (by omega) hx hb dL_act_201 (by decide) (fun c_12 => ?_) (fun c_12 => ?_)
        · refine lv_iconst (v := nI 1) hx hb dL_act_217 (by decide) ?_
          refine lv_iload_n hx hb dL_act_218 rfl (lv_at hl 4 rfl) ?_
          refine lv_bipush (v := nI 11) hx hb dL_act_219 (by decide) ?_
          refine lv_ishr hx hb dL_act_221 ?_
          refine lv_bipush (v := nI 120) hx hb dL_act_222 (by decide) ?_
          refine xcRi (va_runS (As := [.int (v >>> ((nI 11) &&& 31)), .int (nI 120)]) (rest := [.int (nI 1), .int (nI (lw (v >>> ((nI 6) &&& 31)) 300)), .int (nI (lw (v >>> ((nI 3) &&& 31)) 3)), .ref a4]) ⟨hx, hb, hml, hown, hts⟩ (c_low l D cy t0 (v >>> ((nI 11) &&& 31)) 120 (by omega) (by omega)) (va_cwS 2 hts gL_act_L_low rfl rfl rfl (by decide +kernel) ⟨Nat.le_of_ble_eq_true rfl, Nat.le_of_ble_eq_true rfl⟩) (xPr.give (wc := []) hE hS hP [] rfl) rfl rfl hl.1 rfl (lv_room (Nat.le_of_ble_eq_true rfl)) dL_act_224 ⟨Nat.zero_le _, Nat.zero_le _⟩) (fun r_13 hr_14 => ?_)
          obtain rfl : r_13 = nI (lw (v >>> ((nI 11) &&& 31)) 120) := hr_14
          refine lv_iadd hx hb dL_act_227 ?_
          refine lv_eqi (z := nI (1 + lw (v >>> ((nI 11) &&& 31)) 120)) (nI_add _ _) ?_
          refine lv_iload_n hx hb dL_act_228 rfl (lv_at hl 2 rfl) ?_
          refine xb_if_eq (tgt := 244) (a := 0) (by omega) hx hb dL_act_229 (by decide) (fun c_15 => ?_) (fun c_15 => ?_)
          · refine lv_iconst (v := nI 1) hx hb dL_act_244 (by decide) ?_
            refine lv_iload_n hx hb dL_act_245 rfl (lv_at hl 4 rfl) ?_
            refine lv_bipush (v := nI 15) hx hb dL_act_246 (by decide) ?_
            refine lv_ishr hx hb dL_act_248 ?_
            refine lv_bipush (v := nI 12) hx hb dL_act_249 (by decide) ?_
            refine xcRi (va_runS (As := [.int (v >>> ((nI 15) &&& 31)), .int (nI 12)]) (rest := [.int (nI 1), .int (nI (1 + lw (v >>> ((nI 11) &&& 31)) 120)), .int (nI (lw (v >>> ((nI 6) &&& 31)) 300)), .int (nI (lw (v >>> ((nI 3) &&& 31)) 3)), .ref a4]) ⟨hx, hb, hml, hown, hts⟩ (c_low l D cy t0 (v >>> ((nI 15) &&& 31)) 12 (by omega) (by omega)) (va_cwS 2 hts gL_act_L_low rfl rfl rfl (by decide +kernel) ⟨Nat.le_of_ble_eq_true rfl, Nat.le_of_ble_eq_true rfl⟩) (xPr.give (wc := []) hE hS hP [] rfl) rfl rfl hl.1 rfl (lv_room (Nat.le_of_ble_eq_true rfl)) dL_act_251 ⟨Nat.zero_le _, Nat.zero_le _⟩) (fun r_16 hr_17 => ?_)
            obtain rfl : r_16 = nI (lw (v >>> ((nI 15) &&& 31)) 12) := hr_17
            refine lv_iadd hx hb dL_act_254 ?_
            refine lv_eqi (z := nI (1 + lw (v >>> ((nI 15) &&& 31)) 12)) (nI_add _ _) ?_
            refine xc0i (vx_runSW (As := [.ref a4, .int (nI (lw (v >>> ((nI 3) &&& 31)) 3)), .int (nI (lw (v >>> ((nI 6) &&& 31)) 300)), .int (nI (1 + lw (v >>> ((nI 11) &&& 31)) 120)), .int (nI (1 + lw (v >>> ((nI 15) &&& 31)) 12))]) (rest := []) ⟨hx, hb, hml, hown, hts⟩ (hw a4 u st hO H.size) (vx_cwSW 5 hts gL_act_L_addLine rfl rfl rfl (by decide +kernel) ⟨Nat.le_of_ble_eq_true rfl, Nat.le_of_ble_eq_true rfl⟩) (gs0 hE hS hA hP hD) rfl rfl hl.1 rfl (lv_room (Nat.le_of_ble_eq_true rfl)) dL_act_255 ⟨Nat.le_of_ble_eq_true rfl, Nat.le_of_ble_eq_true rfl⟩) hP hD hS hA (fun r9 st H locs hq hP hD hS => ?_)
            exact kret _ st _ _ _ _ _ _ dL_act_258 hq hP hD hS (Nat.le_of_ble_eq_true rfl) (Nat.le_of_ble_eq_true rfl)
          · exact absurd c_15 (by omega)
        · exact absurd c_12 (by omega)
      · exact absurd c_7 (by omega)
    · exact absurd c_4 (by omega)
  · exact absurd c_3 ho
set_option maxHeartbeats 4000000 in
theorem t_act (l : Launch) (hlf : l.stackTraces = false) (D : va_G) (cy : Nat → ClassId) (t0 : Nat) (k : Nat) {M : Nat → Nat → Int32} {now e : Nat} (hG : AG M now e) (he : e < 40) (v : Int32) : xAct l D cy t0 k yL_act wsL_act ({ frames := 9, cells := 3, slots := 9606, locals := 300 } : Room) [.int v] M now := by
  have q9 := lw_lt v (n := 9) (by omega)
  by_cases ho : lw (v >>> (nI 24 &&& 31)) 9 = 0
  · rcases (show lw v 9 = 0 ∨ lw v 9 = 1 ∨ lw v 9 = 2 ∨ lw v 9 = 3 ∨ 4 ≤ lw v 9 by omega) with hc | hc | hc | hc | hc
    · exact a_o_0 l D cy t0 k v ho hc (t_add l hlf D cy t0 k hG he _ _)
    · exact a_o_1 l D cy t0 k v ho hc (t_add l hlf D cy t0 k hG he _ _)
    · by_cases h2 : lw (v >>> (nI 9 &&& 31)) 6 = 0
      · exact a_o_2e l D cy t0 k v ho hc h2 (t_empty l hlf D cy t0 k hG he _)
      · exact a_o_2m l D cy t0 k v ho hc h2 (t_merge l hlf D cy t0 k hG he _ _)
    · exact a_o_3 l D cy t0 k v ho hc (t_pass l hlf D cy t0 k hG he _)
    · exact a_o_4 l D cy t0 k v ho hc (t_addLine l hlf D cy t0 k hG he _ _ _ _)
  · rcases (show lw v 9 = 0 ∨ lw v 9 = 1 ∨ lw v 9 = 2 ∨ lw v 9 = 3 ∨ 4 ≤ lw v 9 by omega) with hc | hc | hc | hc | hc
    · exact a_n_0 l D cy t0 k v ho hc (t_add l hlf D cy t0 k hG he _ _)
    · exact a_n_1 l D cy t0 k v ho hc (t_add l hlf D cy t0 k hG he _ _)
    · by_cases h2 : lw (v >>> (nI 9 &&& 31)) 6 = 0
      · exact a_n_2e l D cy t0 k v ho hc h2 (t_empty l hlf D cy t0 k hG he _)
      · exact a_n_2m l D cy t0 k v ho hc h2 (t_merge l hlf D cy t0 k hG he _ _)
    · exact a_n_3 l D cy t0 k v ho hc (t_pass l hlf D cy t0 k hG he _)
    · exact a_n_4 l D cy t0 k v ho hc (t_addLine l hlf D cy t0 k hG he _ _ _ _)
end X44
