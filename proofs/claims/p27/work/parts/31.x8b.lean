section XX8B
set_option maxHeartbeats 4000000 in
set_option maxRecDepth 100000 in
theorem c_plainCommonS (l : Launch) (D : va_G) (cy : Nat → ClassId) (t0 : Nat) (a4 aB o2 o3 oA oB oC qL qM k now : Nat) (ab : Nat → Nat) (M : Nat → Int32) (b qi qd n cap : Nat) (fi fd : Nat → Int32) (hb6 : b < 6) (hV : BR M n cap fi fd) : xRi l yX4_plainCommon wsX4_plainCommon ({ frames := 2, cells := 0, slots := 0, locals := 47 } : Room) D cy t0 ([.ref a4, .int (nI b), .int (nI b)]) ([(a4, .inr (4, [.ref aB, .ref o2, .ref o3, .ref oA, .ref oB, .ref oC, .ref qL, .ref qM, .int (nI k), .int (nI now)])), (aB, xB cy 6 (fun j => some (ab j))), (ab b, .inr (0, [.ref qi, .ref qd, .int (nI n)])), (qi, xI cy cap fi)]) (fun r => r = nI (cb (fun x => Sm M x && Sm M x) 100000)) := by
  refine xofRi (cc := cX4_plainCommon) (maxL := 5) (by decide) rfl (Nat.le_of_ble_eq_true rfl) (fun _ _ => rfl) ?_
  intro p e s m below meth c Q ls hx hb hml hts hown hE hP hl hS kret
  have hl : lv_has ls 5 [(0, .ref a4), (1, .int (nI b)), (2, .int (nI b))] := hl
  refine lv_aload_n hx hb dX4_plainCommon_0 rfl (lv_at hl 0 rfl) ?_
  refine lv_iload_n hx hb dX4_plainCommon_1 rfl (lv_at hl 1 rfl) ?_
  refine xcRa (va_runV (As := [.int (nI b)]) (rest := []) ⟨hx, hb, hml, hown, hts⟩ (c_need l D cy t0 a4 aB o2 o3 oA oB oC qL qM k now ab b hb6) (cwV 1 hts gX4_plainCommon_X4_need rfl rfl rfl (by decide +kernel) ⟨Nat.le_of_ble_eq_true rfl, Nat.le_of_ble_eq_true rfl⟩) (xPr.giveV (wc := [(a4, .inr (4, [.ref aB, .ref o2, .ref o3, .ref oA, .ref oB, .ref oC, .ref qL, .ref qM, .int (nI k), .int (nI now)])), (aB, xB cy 6 (fun j => some (ab j)))]) hE hS hP [0, 1] rfl 0 4 rfl rfl) rfl rfl hl.1 rfl (lv_room (Nat.le_of_ble_eq_true rfl)) dX4_plainCommon_2 ⟨(Nat.zero_le _), (Nat.zero_le _)⟩) (fun r9 hr_1 => ?_)
  obtain rfl : r9 = ab b := hr_1
  refine lv_astore_n (lv' := [(3, .ref (ab b)), (0, .ref a4), (1, .int (nI b)), (2, .int (nI b))]) hx hb dX4_plainCommon_5 rfl hl (by decide) rfl (fun ls hl => ?_)
  refine lv_aload_n hx hb dX4_plainCommon_6 rfl (lv_at hl 1 rfl) ?_
  refine lv_iload_n hx hb dX4_plainCommon_7 rfl (lv_at hl 3 rfl) ?_
  refine xcRa (va_runV (As := [.int (nI b)]) (rest := []) ⟨hx, hb, hml, hown, hts⟩ (c_need l D cy t0 a4 aB o2 o3 oA oB oC qL qM k now ab b hb6) (cwV 1 hts gX4_plainCommon_X4_need rfl rfl rfl (by decide +kernel) ⟨Nat.le_of_ble_eq_true rfl, Nat.le_of_ble_eq_true rfl⟩) (xPr.giveV (wc := [(a4, .inr (4, [.ref aB, .ref o2, .ref o3, .ref oA, .ref oB, .ref oC, .ref qL, .ref qM, .int (nI k), .int (nI now)])), (aB, xB cy 6 (fun j => some (ab j)))]) hE hS hP [0, 1] rfl 0 4 rfl rfl) rfl rfl hl.1 rfl (lv_room (Nat.le_of_ble_eq_true rfl)) dX4_plainCommon_8 ⟨(Nat.zero_le _), (Nat.zero_le _)⟩) (fun r9 hr_2 => ?_)
  obtain rfl : r9 = ab b := hr_2
  refine lv_astore (lv' := [(4, .ref (ab b)), (3, .ref (ab b)), (0, .ref a4), (1, .int (nI b)), (2, .int (nI b))]) hx hb dX4_plainCommon_11 hl (by decide) rfl (fun ls hl => ?_)
  refine lv_aload_n hx hb dX4_plainCommon_13 rfl (lv_at hl 1 rfl) ?_
  refine lv_aload hx hb dX4_plainCommon_14 (lv_at hl 0 rfl) ?_
  refine va_get (D := D) (ci := 0) (v := .ref qi) (C := RX0) (T := TX0) (N := 3) hx hb hts (by decide +kernel) hown hE.1 hP 2 rfl rfl 0 (by decide) (hts (.fieldLink RX4 88 "DistinctDale$Basket" "items" "[I") (by decide +kernel)) (fun _ h9 => h9) rfl dX4_plainCommon_16 ?_
  refine lv_aload hx hb dX4_plainCommon_19 (lv_at hl 0 rfl) ?_
  refine va_get (D := D) (ci := 0) (v := .int (nI n)) (C := RX0) (T := TX0) (N := 3) hx hb hts (by decide +kernel) hown hE.1 hP 2 rfl rfl 2 (by decide) (hts (.fieldLink RX4 94 "DistinctDale$Basket" "size" "I") (by decide +kernel)) (fun _ h9 => h9) rfl dX4_plainCommon_21 ?_
  refine xcRi (va_runV (As := [.ref qi, .int (nI n)]) (rest := []) ⟨hx, hb, hml, hown, hts⟩ (c_countShared l D cy t0 (Sm M) (Sm M) (ab b) qi qd qi n n cap cap fi fi hV.1 hV.1 hV.2.2.1 hV.2.2.1 hV.2.2.2 hV.2.2.2) (cwV 2 hts gX4_plainCommon_X0_countShared rfl rfl rfl (by decide +kernel) ⟨Nat.le_of_ble_eq_true rfl, Nat.le_of_ble_eq_true rfl⟩) (xPr.giveV (wc := [(ab b, .inr (0, [.ref qi, .ref qd, .int (nI n)])), (qi, xI cy cap fi), (qi, xI cy cap fi)]) hE hS hP [2, 3, 3] rfl 2 0 rfl rfl) rfl rfl hl.1 rfl (lv_room (Nat.le_of_ble_eq_true rfl)) dX4_plainCommon_24 ⟨(Nat.zero_le _), (Nat.zero_le _)⟩) (fun r_3 hr_4 => ?_)
  obtain rfl : r_3 = nI (cb (fun x => Sm M x && Sm M x) 100000) := hr_4
  exact kret _ _ _ dX4_plainCommon_27 rfl
end XX8B
