section XX4T
set_option maxHeartbeats 4000000 in
set_option maxRecDepth 100000 in
theorem c_addT (l : Launch) (hlf : l.stackTraces = false) (D : va_G) (cy : Nat → ClassId) (t0 : Nat) (a4 aB o2 o3 oA oB oC qL qM k now : Nat) (ab : Nat → Nat) (p0 p1 : Int32) (hbi : p0 < 0 ∨ nI 6 ≤ p0) : xT (S := Unit) l yX4_add wsX4_add ({ frames := 7, cells := 1, slots := 6, locals := 104 } : Room) D cy t0 ([.ref a4, .int p0, .int p1]) ([(a4, .inr (4, [.ref aB, .ref o2, .ref o3, .ref oA, .ref oB, .ref oC, .ref qL, .ref qM, .int (nI k), .int (nI now)])), (aB, xB cy 6 (fun j => some (ab j)))]) xIO (fun _ => [(a4, .inr (4, [.ref aB, .ref o2, .ref o3, .ref oA, .ref oB, .ref oC, .ref qL, .ref qM, .int (nI k), .int (nI now)])), (aB, xB cy 6 (fun j => some (ab j)))]) 1 6 := by
  refine xofT (cc := cX4_add) (maxL := 4) (ret := (some .boolean)) (by decide) rfl (Nat.le_of_ble_eq_true rfl) ?_
  intro p e s m below meth c Q A ls hx hb hml hts hown hE hA H locs hP hD hl hS htab hlocks hQ kout
  have hl : lv_has ls 4 [(0, .ref a4), (1, .int p0), (2, .int p1)] := hl
  refine lv_aload_n hx hb dX4_add_0 rfl (lv_at hl 0 rfl) ?_
  refine lv_iload_n hx hb dX4_add_1 rfl (lv_at hl 1 rfl) ?_
  refine xcT (wr := []) (vx_runV (As := [.int p0]) (rest := []) ⟨hx, hb, hml, hown, hts⟩ ((c_needT l hlf D cy t0 a4 aB o2 o3 oA oB oC qL qM k now ab p0 hbi) H.size) (cwV 1 hts gX4_add_X4_need rfl rfl rfl (by decide +kernel) ⟨Nat.le_of_ble_eq_true rfl, Nat.le_of_ble_eq_true rfl⟩) (xPw.giveV (wc := [(a4, .inr (4, [.ref aB, .ref o2, .ref o3, .ref oA, .ref oB, .ref oC, .ref qL, .ref qM, .int (nI k), .int (nI now)])), (aB, xB cy 6 (fun j => some (ab j)))]) hE hS hA hP hD [0, 1] (by decide) rfl 0 4 rfl rfl) rfl rfl hl.1 rfl (lv_room (Nat.le_of_ble_eq_true rfl)) dX4_add_2 ⟨Nat.le_of_ble_eq_true rfl, Nat.le_of_ble_eq_true rfl⟩) hP hD hS hA [0, 1] [] rfl rfl (by decide) (by decide) (fun u q ce H locs hP hD hS hce hcv hcl => ?_)
  have hP : xP D [(a4, .inr (4, [.ref aB, .ref o2, .ref o3, .ref oA, .ref oB, .ref oC, .ref qL, .ref qM, .int (nI k), .int (nI now)])), (aB, xB cy 6 (fun j => some (ab j)))] H := hP
  have hD : va_D A [(a4, .inr (4, [.ref aB, .ref o2, .ref o3, .ref oA, .ref oB, .ref oC, .ref qL, .ref qM, .int (nI k), .int (nI now)])), (aB, xB cy 6 (fun j => some (ab j)))] := hD
  have hP := hP.sub (ws' := [(a4, .inr (4, [.ref aB, .ref o2, .ref o3, .ref oA, .ref oB, .ref oC, .ref qL, .ref qM, .int (nI k), .int (nI now)])), (aB, xB cy 6 (fun j => some (ab j)))]) [0, 1] rfl
  have hD := hD.sub (ws' := [(a4, .inr (4, [.ref aB, .ref o2, .ref o3, .ref oA, .ref oB, .ref oC, .ref qL, .ref qM, .int (nI k), .int (nI now)])), (aB, xB cy 6 (fun j => some (ab j)))]) [0, 1] (by decide) rfl
  exact kout () _ _ _ _ _ _ _ _ _ hce hcv hcl hP hD hS (Nat.le_of_ble_eq_true rfl) (Nat.le_of_ble_eq_true rfl)
set_option maxHeartbeats 4000000 in
set_option maxRecDepth 100000 in
theorem c_addLineT (l : Launch) (hlf : l.stackTraces = false) (D : va_G) (cy : Nat → ClassId) (t0 : Nat) (a4 aB o2 o3 oA oB oC qL qM k now : Nat) (ab : Nat → Nat) (p0 p1 p2 p3 : Int32) (hbi : p0 < 0 ∨ nI 6 ≤ p0) : xT (S := Unit) l yX4_addLine wsX4_addLine ({ frames := 7, cells := 1, slots := 6, locals := 104 } : Room) D cy t0 ([.ref a4, .int p0, .int p1, .int p2, .int p3]) ([(a4, .inr (4, [.ref aB, .ref o2, .ref o3, .ref oA, .ref oB, .ref oC, .ref qL, .ref qM, .int (nI k), .int (nI now)])), (aB, xB cy 6 (fun j => some (ab j)))]) xIO (fun _ => [(a4, .inr (4, [.ref aB, .ref o2, .ref o3, .ref oA, .ref oB, .ref oC, .ref qL, .ref qM, .int (nI k), .int (nI now)])), (aB, xB cy 6 (fun j => some (ab j)))]) 1 6 := by
  refine xofT (cc := cX4_addLine) (maxL := 6) (ret := (some .int)) (by decide) rfl (Nat.le_of_ble_eq_true rfl) ?_
  intro p e s m below meth c Q A ls hx hb hml hts hown hE hA H locs hP hD hl hS htab hlocks hQ kout
  have hl : lv_has ls 6 [(0, .ref a4), (1, .int p0), (2, .int p1), (3, .int p2), (4, .int p3)] := hl
  refine lv_aload_n hx hb dX4_addLine_0 rfl (lv_at hl 0 rfl) ?_
  refine lv_iload_n hx hb dX4_addLine_1 rfl (lv_at hl 1 rfl) ?_
  refine xcT (wr := []) (vx_runV (As := [.int p0]) (rest := []) ⟨hx, hb, hml, hown, hts⟩ ((c_needT l hlf D cy t0 a4 aB o2 o3 oA oB oC qL qM k now ab p0 hbi) H.size) (cwV 1 hts gX4_addLine_X4_need rfl rfl rfl (by decide +kernel) ⟨Nat.le_of_ble_eq_true rfl, Nat.le_of_ble_eq_true rfl⟩) (xPw.giveV (wc := [(a4, .inr (4, [.ref aB, .ref o2, .ref o3, .ref oA, .ref oB, .ref oC, .ref qL, .ref qM, .int (nI k), .int (nI now)])), (aB, xB cy 6 (fun j => some (ab j)))]) hE hS hA hP hD [0, 1] (by decide) rfl 0 4 rfl rfl) rfl rfl hl.1 rfl (lv_room (Nat.le_of_ble_eq_true rfl)) dX4_addLine_2 ⟨Nat.le_of_ble_eq_true rfl, Nat.le_of_ble_eq_true rfl⟩) hP hD hS hA [0, 1] [] rfl rfl (by decide) (by decide) (fun u q ce H locs hP hD hS hce hcv hcl => ?_)
  have hP : xP D [(a4, .inr (4, [.ref aB, .ref o2, .ref o3, .ref oA, .ref oB, .ref oC, .ref qL, .ref qM, .int (nI k), .int (nI now)])), (aB, xB cy 6 (fun j => some (ab j)))] H := hP
  have hD : va_D A [(a4, .inr (4, [.ref aB, .ref o2, .ref o3, .ref oA, .ref oB, .ref oC, .ref qL, .ref qM, .int (nI k), .int (nI now)])), (aB, xB cy 6 (fun j => some (ab j)))] := hD
  have hP := hP.sub (ws' := [(a4, .inr (4, [.ref aB, .ref o2, .ref o3, .ref oA, .ref oB, .ref oC, .ref qL, .ref qM, .int (nI k), .int (nI now)])), (aB, xB cy 6 (fun j => some (ab j)))]) [0, 1] rfl
  have hD := hD.sub (ws' := [(a4, .inr (4, [.ref aB, .ref o2, .ref o3, .ref oA, .ref oB, .ref oC, .ref qL, .ref qM, .int (nI k), .int (nI now)])), (aB, xB cy 6 (fun j => some (ab j)))]) [0, 1] (by decide) rfl
  exact kout () _ _ _ _ _ _ _ _ _ hce hcv hcl hP hD hS (Nat.le_of_ble_eq_true rfl) (Nat.le_of_ble_eq_true rfl)
set_option maxHeartbeats 4000000 in
set_option maxRecDepth 100000 in
theorem c_emptyT (l : Launch) (hlf : l.stackTraces = false) (D : va_G) (cy : Nat → ClassId) (t0 : Nat) (a4 aB o2 o3 oA oB oC qL qM k now : Nat) (ab : Nat → Nat) (p0 : Int32) (hbi : p0 < 0 ∨ nI 6 ≤ p0) : xT (S := Unit) l yX4_empty wsX4_empty ({ frames := 7, cells := 1, slots := 6, locals := 104 } : Room) D cy t0 ([.ref a4, .int p0]) ([(a4, .inr (4, [.ref aB, .ref o2, .ref o3, .ref oA, .ref oB, .ref oC, .ref qL, .ref qM, .int (nI k), .int (nI now)])), (aB, xB cy 6 (fun j => some (ab j)))]) xIO (fun _ => [(a4, .inr (4, [.ref aB, .ref o2, .ref o3, .ref oA, .ref oB, .ref oC, .ref qL, .ref qM, .int (nI k), .int (nI now)])), (aB, xB cy 6 (fun j => some (ab j)))]) 1 6 := by
  refine xofT (cc := cX4_empty) (maxL := 2) (ret := (some .int)) (by decide) rfl (Nat.le_of_ble_eq_true rfl) ?_
  intro p e s m below meth c Q A ls hx hb hml hts hown hE hA H locs hP hD hl hS htab hlocks hQ kout
  have hl : lv_has ls 2 [(0, .ref a4), (1, .int p0)] := hl
  refine lv_aload_n hx hb dX4_empty_0 rfl (lv_at hl 0 rfl) ?_
  refine lv_iload_n hx hb dX4_empty_1 rfl (lv_at hl 1 rfl) ?_
  refine xcT (wr := []) (vx_runV (As := [.int p0]) (rest := []) ⟨hx, hb, hml, hown, hts⟩ ((c_needT l hlf D cy t0 a4 aB o2 o3 oA oB oC qL qM k now ab p0 hbi) H.size) (cwV 1 hts gX4_empty_X4_need rfl rfl rfl (by decide +kernel) ⟨Nat.le_of_ble_eq_true rfl, Nat.le_of_ble_eq_true rfl⟩) (xPw.giveV (wc := [(a4, .inr (4, [.ref aB, .ref o2, .ref o3, .ref oA, .ref oB, .ref oC, .ref qL, .ref qM, .int (nI k), .int (nI now)])), (aB, xB cy 6 (fun j => some (ab j)))]) hE hS hA hP hD [0, 1] (by decide) rfl 0 4 rfl rfl) rfl rfl hl.1 rfl (lv_room (Nat.le_of_ble_eq_true rfl)) dX4_empty_2 ⟨Nat.le_of_ble_eq_true rfl, Nat.le_of_ble_eq_true rfl⟩) hP hD hS hA [0, 1] [] rfl rfl (by decide) (by decide) (fun u q ce H locs hP hD hS hce hcv hcl => ?_)
  have hP : xP D [(a4, .inr (4, [.ref aB, .ref o2, .ref o3, .ref oA, .ref oB, .ref oC, .ref qL, .ref qM, .int (nI k), .int (nI now)])), (aB, xB cy 6 (fun j => some (ab j)))] H := hP
  have hD : va_D A [(a4, .inr (4, [.ref aB, .ref o2, .ref o3, .ref oA, .ref oB, .ref oC, .ref qL, .ref qM, .int (nI k), .int (nI now)])), (aB, xB cy 6 (fun j => some (ab j)))] := hD
  have hP := hP.sub (ws' := [(a4, .inr (4, [.ref aB, .ref o2, .ref o3, .ref oA, .ref oB, .ref oC, .ref qL, .ref qM, .int (nI k), .int (nI now)])), (aB, xB cy 6 (fun j => some (ab j)))]) [0, 1] rfl
  have hD := hD.sub (ws' := [(a4, .inr (4, [.ref aB, .ref o2, .ref o3, .ref oA, .ref oB, .ref oC, .ref qL, .ref qM, .int (nI k), .int (nI now)])), (aB, xB cy 6 (fun j => some (ab j)))]) [0, 1] (by decide) rfl
  exact kout () _ _ _ _ _ _ _ _ _ hce hcv hcl hP hD hS (Nat.le_of_ble_eq_true rfl) (Nat.le_of_ble_eq_true rfl)
set_option maxHeartbeats 4000000 in
set_option maxRecDepth 100000 in
theorem c_plainT (l : Launch) (hlf : l.stackTraces = false) (D : va_G) (cy : Nat → ClassId) (t0 : Nat) (a4 aB o2 o3 oA oB oC qL qM k now : Nat) (ab : Nat → Nat) (p0 : Int32) (hbi : p0 < 0 ∨ nI 6 ≤ p0) : xT (S := Unit) l yX4_plain wsX4_plain ({ frames := 7, cells := 1, slots := 6, locals := 104 } : Room) D cy t0 ([.ref a4, .int p0]) ([(a4, .inr (4, [.ref aB, .ref o2, .ref o3, .ref oA, .ref oB, .ref oC, .ref qL, .ref qM, .int (nI k), .int (nI now)])), (aB, xB cy 6 (fun j => some (ab j)))]) xIO (fun _ => [(a4, .inr (4, [.ref aB, .ref o2, .ref o3, .ref oA, .ref oB, .ref oC, .ref qL, .ref qM, .int (nI k), .int (nI now)])), (aB, xB cy 6 (fun j => some (ab j)))]) 1 6 := by
  refine xofT (cc := cX4_plain) (maxL := 2) (ret := (some .int)) (by decide) rfl (Nat.le_of_ble_eq_true rfl) ?_
  intro p e s m below meth c Q A ls hx hb hml hts hown hE hA H locs hP hD hl hS htab hlocks hQ kout
  have hl : lv_has ls 2 [(0, .ref a4), (1, .int p0)] := hl
  refine lv_aload_n hx hb dX4_plain_0 rfl (lv_at hl 0 rfl) ?_
  refine lv_iload_n hx hb dX4_plain_1 rfl (lv_at hl 1 rfl) ?_
  refine xcT (wr := []) (vx_runV (As := [.int p0]) (rest := []) ⟨hx, hb, hml, hown, hts⟩ ((c_needT l hlf D cy t0 a4 aB o2 o3 oA oB oC qL qM k now ab p0 hbi) H.size) (cwV 1 hts gX4_plain_X4_need rfl rfl rfl (by decide +kernel) ⟨Nat.le_of_ble_eq_true rfl, Nat.le_of_ble_eq_true rfl⟩) (xPw.giveV (wc := [(a4, .inr (4, [.ref aB, .ref o2, .ref o3, .ref oA, .ref oB, .ref oC, .ref qL, .ref qM, .int (nI k), .int (nI now)])), (aB, xB cy 6 (fun j => some (ab j)))]) hE hS hA hP hD [0, 1] (by decide) rfl 0 4 rfl rfl) rfl rfl hl.1 rfl (lv_room (Nat.le_of_ble_eq_true rfl)) dX4_plain_2 ⟨Nat.le_of_ble_eq_true rfl, Nat.le_of_ble_eq_true rfl⟩) hP hD hS hA [0, 1] [] rfl rfl (by decide) (by decide) (fun u q ce H locs hP hD hS hce hcv hcl => ?_)
  have hP : xP D [(a4, .inr (4, [.ref aB, .ref o2, .ref o3, .ref oA, .ref oB, .ref oC, .ref qL, .ref qM, .int (nI k), .int (nI now)])), (aB, xB cy 6 (fun j => some (ab j)))] H := hP
  have hD : va_D A [(a4, .inr (4, [.ref aB, .ref o2, .ref o3, .ref oA, .ref oB, .ref oC, .ref qL, .ref qM, .int (nI k), .int (nI now)])), (aB, xB cy 6 (fun j => some (ab j)))] := hD
  have hP := hP.sub (ws' := [(a4, .inr (4, [.ref aB, .ref o2, .ref o3, .ref oA, .ref oB, .ref oC, .ref qL, .ref qM, .int (nI k), .int (nI now)])), (aB, xB cy 6 (fun j => some (ab j)))]) [0, 1] rfl
  have hD := hD.sub (ws' := [(a4, .inr (4, [.ref aB, .ref o2, .ref o3, .ref oA, .ref oB, .ref oC, .ref qL, .ref qM, .int (nI k), .int (nI now)])), (aB, xB cy 6 (fun j => some (ab j)))]) [0, 1] (by decide) rfl
  exact kout () _ _ _ _ _ _ _ _ _ hce hcv hcl hP hD hS (Nat.le_of_ble_eq_true rfl) (Nat.le_of_ble_eq_true rfl)
set_option maxHeartbeats 4000000 in
set_option maxRecDepth 100000 in
theorem c_dateOfT (l : Launch) (hlf : l.stackTraces = false) (D : va_G) (cy : Nat → ClassId) (t0 : Nat) (a4 aB o2 o3 oA oB oC qL qM k now : Nat) (ab : Nat → Nat) (p0 p1 : Int32) (hbi : p0 < 0 ∨ nI 6 ≤ p0) : xT (S := Unit) l yX4_dateOf wsX4_dateOf ({ frames := 7, cells := 1, slots := 6, locals := 104 } : Room) D cy t0 ([.ref a4, .int p0, .int p1]) ([(a4, .inr (4, [.ref aB, .ref o2, .ref o3, .ref oA, .ref oB, .ref oC, .ref qL, .ref qM, .int (nI k), .int (nI now)])), (aB, xB cy 6 (fun j => some (ab j)))]) xIO (fun _ => [(a4, .inr (4, [.ref aB, .ref o2, .ref o3, .ref oA, .ref oB, .ref oC, .ref qL, .ref qM, .int (nI k), .int (nI now)])), (aB, xB cy 6 (fun j => some (ab j)))]) 1 6 := by
  refine xofT (cc := cX4_dateOf) (maxL := 4) (ret := (some .int)) (by decide) rfl (Nat.le_of_ble_eq_true rfl) ?_
  intro p e s m below meth c Q A ls hx hb hml hts hown hE hA H locs hP hD hl hS htab hlocks hQ kout
  have hl : lv_has ls 4 [(0, .ref a4), (1, .int p0), (2, .int p1)] := hl
  refine lv_aload_n hx hb dX4_dateOf_0 rfl (lv_at hl 0 rfl) ?_
  refine lv_iload_n hx hb dX4_dateOf_1 rfl (lv_at hl 1 rfl) ?_
  refine xcT (wr := []) (vx_runV (As := [.int p0]) (rest := []) ⟨hx, hb, hml, hown, hts⟩ ((c_needT l hlf D cy t0 a4 aB o2 o3 oA oB oC qL qM k now ab p0 hbi) H.size) (cwV 1 hts gX4_dateOf_X4_need rfl rfl rfl (by decide +kernel) ⟨Nat.le_of_ble_eq_true rfl, Nat.le_of_ble_eq_true rfl⟩) (xPw.giveV (wc := [(a4, .inr (4, [.ref aB, .ref o2, .ref o3, .ref oA, .ref oB, .ref oC, .ref qL, .ref qM, .int (nI k), .int (nI now)])), (aB, xB cy 6 (fun j => some (ab j)))]) hE hS hA hP hD [0, 1] (by decide) rfl 0 4 rfl rfl) rfl rfl hl.1 rfl (lv_room (Nat.le_of_ble_eq_true rfl)) dX4_dateOf_2 ⟨Nat.le_of_ble_eq_true rfl, Nat.le_of_ble_eq_true rfl⟩) hP hD hS hA [0, 1] [] rfl rfl (by decide) (by decide) (fun u q ce H locs hP hD hS hce hcv hcl => ?_)
  have hP : xP D [(a4, .inr (4, [.ref aB, .ref o2, .ref o3, .ref oA, .ref oB, .ref oC, .ref qL, .ref qM, .int (nI k), .int (nI now)])), (aB, xB cy 6 (fun j => some (ab j)))] H := hP
  have hD : va_D A [(a4, .inr (4, [.ref aB, .ref o2, .ref o3, .ref oA, .ref oB, .ref oC, .ref qL, .ref qM, .int (nI k), .int (nI now)])), (aB, xB cy 6 (fun j => some (ab j)))] := hD
  have hP := hP.sub (ws' := [(a4, .inr (4, [.ref aB, .ref o2, .ref o3, .ref oA, .ref oB, .ref oC, .ref qL, .ref qM, .int (nI k), .int (nI now)])), (aB, xB cy 6 (fun j => some (ab j)))]) [0, 1] rfl
  have hD := hD.sub (ws' := [(a4, .inr (4, [.ref aB, .ref o2, .ref o3, .ref oA, .ref oB, .ref oC, .ref qL, .ref qM, .int (nI k), .int (nI now)])), (aB, xB cy 6 (fun j => some (ab j)))]) [0, 1] (by decide) rfl
  exact kout () _ _ _ _ _ _ _ _ _ hce hcv hcl hP hD hS (Nat.le_of_ble_eq_true rfl) (Nat.le_of_ble_eq_true rfl)
set_option maxHeartbeats 4000000 in
set_option maxRecDepth 100000 in
theorem c_keptT (l : Launch) (hlf : l.stackTraces = false) (D : va_G) (cy : Nat → ClassId) (t0 : Nat) (a4 aB o2 o3 oA oB oC qL qM k now : Nat) (ab : Nat → Nat) (p0 : Int32) (hbi : p0 < 0 ∨ nI 6 ≤ p0) : xT (S := Unit) l yX4_kept wsX4_kept ({ frames := 7, cells := 1, slots := 6, locals := 104 } : Room) D cy t0 ([.ref a4, .int p0]) ([(a4, .inr (4, [.ref aB, .ref o2, .ref o3, .ref oA, .ref oB, .ref oC, .ref qL, .ref qM, .int (nI k), .int (nI now)])), (aB, xB cy 6 (fun j => some (ab j)))]) xIO (fun _ => [(a4, .inr (4, [.ref aB, .ref o2, .ref o3, .ref oA, .ref oB, .ref oC, .ref qL, .ref qM, .int (nI k), .int (nI now)])), (aB, xB cy 6 (fun j => some (ab j)))]) 1 6 := by
  refine xofT (cc := cX4_kept) (maxL := 2) (ret := (some .int)) (by decide) rfl (Nat.le_of_ble_eq_true rfl) ?_
  intro p e s m below meth c Q A ls hx hb hml hts hown hE hA H locs hP hD hl hS htab hlocks hQ kout
  have hl : lv_has ls 2 [(0, .ref a4), (1, .int p0)] := hl
  refine lv_aload_n hx hb dX4_kept_0 rfl (lv_at hl 0 rfl) ?_
  refine va_get (D := D) (ci := 4) (v := .ref oA) (C := RX4) (T := TX4) (N := 10) hx hb hts (by decide +kernel) hown hE.1 hP 0 rfl rfl 3 (by decide) (hts (.fieldLink RX4 48 "DistinctDale" "leastOfOne" "LDistinctDale$LeastHashes;") (by decide +kernel)) (fun _ h9 => h9) rfl dX4_kept_1 ?_
  refine lv_aload_n hx hb dX4_kept_4 rfl (lv_at hl 0 rfl) ?_
  refine lv_iload_n hx hb dX4_kept_5 rfl (lv_at hl 1 rfl) ?_
  refine xcT (wr := []) (vx_runV (As := [.int p0]) (rest := [.ref oA]) ⟨hx, hb, hml, hown, hts⟩ ((c_needT l hlf D cy t0 a4 aB o2 o3 oA oB oC qL qM k now ab p0 hbi) H.size) (cwV 1 hts gX4_kept_X4_need rfl rfl rfl (by decide +kernel) ⟨Nat.le_of_ble_eq_true rfl, Nat.le_of_ble_eq_true rfl⟩) (xPw.giveV (wc := [(a4, .inr (4, [.ref aB, .ref o2, .ref o3, .ref oA, .ref oB, .ref oC, .ref qL, .ref qM, .int (nI k), .int (nI now)])), (aB, xB cy 6 (fun j => some (ab j)))]) hE hS hA hP hD [0, 1] (by decide) rfl 0 4 rfl rfl) rfl rfl hl.1 rfl (lv_room (Nat.le_of_ble_eq_true rfl)) dX4_kept_6 ⟨Nat.le_of_ble_eq_true rfl, Nat.le_of_ble_eq_true rfl⟩) hP hD hS hA [0, 1] [] rfl rfl (by decide) (by decide) (fun u q ce H locs hP hD hS hce hcv hcl => ?_)
  have hP : xP D [(a4, .inr (4, [.ref aB, .ref o2, .ref o3, .ref oA, .ref oB, .ref oC, .ref qL, .ref qM, .int (nI k), .int (nI now)])), (aB, xB cy 6 (fun j => some (ab j)))] H := hP
  have hD : va_D A [(a4, .inr (4, [.ref aB, .ref o2, .ref o3, .ref oA, .ref oB, .ref oC, .ref qL, .ref qM, .int (nI k), .int (nI now)])), (aB, xB cy 6 (fun j => some (ab j)))] := hD
  have hP := hP.sub (ws' := [(a4, .inr (4, [.ref aB, .ref o2, .ref o3, .ref oA, .ref oB, .ref oC, .ref qL, .ref qM, .int (nI k), .int (nI now)])), (aB, xB cy 6 (fun j => some (ab j)))]) [0, 1] rfl
  have hD := hD.sub (ws' := [(a4, .inr (4, [.ref aB, .ref o2, .ref o3, .ref oA, .ref oB, .ref oC, .ref qL, .ref qM, .int (nI k), .int (nI now)])), (aB, xB cy 6 (fun j => some (ab j)))]) [0, 1] (by decide) rfl
  exact kout () _ _ _ _ _ _ _ _ _ hce hcv hcl hP hD hS (Nat.le_of_ble_eq_true rfl) (Nat.le_of_ble_eq_true rfl)
set_option maxHeartbeats 4000000 in
set_option maxRecDepth 100000 in
theorem c_keptAtT (l : Launch) (hlf : l.stackTraces = false) (D : va_G) (cy : Nat → ClassId) (t0 : Nat) (a4 aB o2 o3 oA oB oC qL qM k now : Nat) (ab : Nat → Nat) (p0 p1 : Int32) (hbi : p0 < 0 ∨ nI 6 ≤ p0) : xT (S := Unit) l yX4_keptAt wsX4_keptAt ({ frames := 7, cells := 1, slots := 6, locals := 104 } : Room) D cy t0 ([.ref a4, .int p0, .int p1]) ([(a4, .inr (4, [.ref aB, .ref o2, .ref o3, .ref oA, .ref oB, .ref oC, .ref qL, .ref qM, .int (nI k), .int (nI now)])), (aB, xB cy 6 (fun j => some (ab j)))]) xIO (fun _ => [(a4, .inr (4, [.ref aB, .ref o2, .ref o3, .ref oA, .ref oB, .ref oC, .ref qL, .ref qM, .int (nI k), .int (nI now)])), (aB, xB cy 6 (fun j => some (ab j)))]) 1 6 := by
  refine xofT (cc := cX4_keptAt) (maxL := 3) (ret := (some .int)) (by decide) rfl (Nat.le_of_ble_eq_true rfl) ?_
  intro p e s m below meth c Q A ls hx hb hml hts hown hE hA H locs hP hD hl hS htab hlocks hQ kout
  have hl : lv_has ls 3 [(0, .ref a4), (1, .int p0), (2, .int p1)] := hl
  refine lv_aload_n hx hb dX4_keptAt_0 rfl (lv_at hl 0 rfl) ?_
  refine va_get (D := D) (ci := 4) (v := .ref oA) (C := RX4) (T := TX4) (N := 10) hx hb hts (by decide +kernel) hown hE.1 hP 0 rfl rfl 3 (by decide) (hts (.fieldLink RX4 48 "DistinctDale" "leastOfOne" "LDistinctDale$LeastHashes;") (by decide +kernel)) (fun _ h9 => h9) rfl dX4_keptAt_1 ?_
  refine lv_aload_n hx hb dX4_keptAt_4 rfl (lv_at hl 0 rfl) ?_
  refine lv_iload_n hx hb dX4_keptAt_5 rfl (lv_at hl 1 rfl) ?_
  refine xcT (wr := []) (vx_runV (As := [.int p0]) (rest := [.ref oA]) ⟨hx, hb, hml, hown, hts⟩ ((c_needT l hlf D cy t0 a4 aB o2 o3 oA oB oC qL qM k now ab p0 hbi) H.size) (cwV 1 hts gX4_keptAt_X4_need rfl rfl rfl (by decide +kernel) ⟨Nat.le_of_ble_eq_true rfl, Nat.le_of_ble_eq_true rfl⟩) (xPw.giveV (wc := [(a4, .inr (4, [.ref aB, .ref o2, .ref o3, .ref oA, .ref oB, .ref oC, .ref qL, .ref qM, .int (nI k), .int (nI now)])), (aB, xB cy 6 (fun j => some (ab j)))]) hE hS hA hP hD [0, 1] (by decide) rfl 0 4 rfl rfl) rfl rfl hl.1 rfl (lv_room (Nat.le_of_ble_eq_true rfl)) dX4_keptAt_6 ⟨Nat.le_of_ble_eq_true rfl, Nat.le_of_ble_eq_true rfl⟩) hP hD hS hA [0, 1] [] rfl rfl (by decide) (by decide) (fun u q ce H locs hP hD hS hce hcv hcl => ?_)
  have hP : xP D [(a4, .inr (4, [.ref aB, .ref o2, .ref o3, .ref oA, .ref oB, .ref oC, .ref qL, .ref qM, .int (nI k), .int (nI now)])), (aB, xB cy 6 (fun j => some (ab j)))] H := hP
  have hD : va_D A [(a4, .inr (4, [.ref aB, .ref o2, .ref o3, .ref oA, .ref oB, .ref oC, .ref qL, .ref qM, .int (nI k), .int (nI now)])), (aB, xB cy 6 (fun j => some (ab j)))] := hD
  have hP := hP.sub (ws' := [(a4, .inr (4, [.ref aB, .ref o2, .ref o3, .ref oA, .ref oB, .ref oC, .ref qL, .ref qM, .int (nI k), .int (nI now)])), (aB, xB cy 6 (fun j => some (ab j)))]) [0, 1] rfl
  have hD := hD.sub (ws' := [(a4, .inr (4, [.ref aB, .ref o2, .ref o3, .ref oA, .ref oB, .ref oC, .ref qL, .ref qM, .int (nI k), .int (nI now)])), (aB, xB cy 6 (fun j => some (ab j)))]) [0, 1] (by decide) rfl
  exact kout () _ _ _ _ _ _ _ _ _ hce hcv hcl hP hD hS (Nat.le_of_ble_eq_true rfl) (Nat.le_of_ble_eq_true rfl)
set_option maxHeartbeats 4000000 in
set_option maxRecDepth 100000 in
theorem c_byLeastT (l : Launch) (hlf : l.stackTraces = false) (D : va_G) (cy : Nat → ClassId) (t0 : Nat) (a4 aB o2 o3 oA oB oC qL qM k now : Nat) (ab : Nat → Nat) (p0 : Int32) (hbi : p0 < 0 ∨ nI 6 ≤ p0) : xT (S := Unit) l yX4_byLeast wsX4_byLeast ({ frames := 7, cells := 1, slots := 6, locals := 104 } : Room) D cy t0 ([.ref a4, .int p0]) ([(a4, .inr (4, [.ref aB, .ref o2, .ref o3, .ref oA, .ref oB, .ref oC, .ref qL, .ref qM, .int (nI k), .int (nI now)])), (aB, xB cy 6 (fun j => some (ab j)))]) xIO (fun _ => [(a4, .inr (4, [.ref aB, .ref o2, .ref o3, .ref oA, .ref oB, .ref oC, .ref qL, .ref qM, .int (nI k), .int (nI now)])), (aB, xB cy 6 (fun j => some (ab j)))]) 1 6 := by
  refine xofT (cc := cX4_byLeast) (maxL := 2) (ret := (some .int)) (by decide) rfl (Nat.le_of_ble_eq_true rfl) ?_
  intro p e s m below meth c Q A ls hx hb hml hts hown hE hA H locs hP hD hl hS htab hlocks hQ kout
  have hl : lv_has ls 2 [(0, .ref a4), (1, .int p0)] := hl
  refine lv_aload_n hx hb dX4_byLeast_0 rfl (lv_at hl 0 rfl) ?_
  refine va_get (D := D) (ci := 4) (v := .ref oA) (C := RX4) (T := TX4) (N := 10) hx hb hts (by decide +kernel) hown hE.1 hP 0 rfl rfl 3 (by decide) (hts (.fieldLink RX4 48 "DistinctDale" "leastOfOne" "LDistinctDale$LeastHashes;") (by decide +kernel)) (fun _ h9 => h9) rfl dX4_byLeast_1 ?_
  refine lv_aload_n hx hb dX4_byLeast_4 rfl (lv_at hl 0 rfl) ?_
  refine lv_iload_n hx hb dX4_byLeast_5 rfl (lv_at hl 1 rfl) ?_
  refine xcT (wr := []) (vx_runV (As := [.int p0]) (rest := [.ref oA]) ⟨hx, hb, hml, hown, hts⟩ ((c_needT l hlf D cy t0 a4 aB o2 o3 oA oB oC qL qM k now ab p0 hbi) H.size) (cwV 1 hts gX4_byLeast_X4_need rfl rfl rfl (by decide +kernel) ⟨Nat.le_of_ble_eq_true rfl, Nat.le_of_ble_eq_true rfl⟩) (xPw.giveV (wc := [(a4, .inr (4, [.ref aB, .ref o2, .ref o3, .ref oA, .ref oB, .ref oC, .ref qL, .ref qM, .int (nI k), .int (nI now)])), (aB, xB cy 6 (fun j => some (ab j)))]) hE hS hA hP hD [0, 1] (by decide) rfl 0 4 rfl rfl) rfl rfl hl.1 rfl (lv_room (Nat.le_of_ble_eq_true rfl)) dX4_byLeast_6 ⟨Nat.le_of_ble_eq_true rfl, Nat.le_of_ble_eq_true rfl⟩) hP hD hS hA [0, 1] [] rfl rfl (by decide) (by decide) (fun u q ce H locs hP hD hS hce hcv hcl => ?_)
  have hP : xP D [(a4, .inr (4, [.ref aB, .ref o2, .ref o3, .ref oA, .ref oB, .ref oC, .ref qL, .ref qM, .int (nI k), .int (nI now)])), (aB, xB cy 6 (fun j => some (ab j)))] H := hP
  have hD : va_D A [(a4, .inr (4, [.ref aB, .ref o2, .ref o3, .ref oA, .ref oB, .ref oC, .ref qL, .ref qM, .int (nI k), .int (nI now)])), (aB, xB cy 6 (fun j => some (ab j)))] := hD
  have hP := hP.sub (ws' := [(a4, .inr (4, [.ref aB, .ref o2, .ref o3, .ref oA, .ref oB, .ref oC, .ref qL, .ref qM, .int (nI k), .int (nI now)])), (aB, xB cy 6 (fun j => some (ab j)))]) [0, 1] rfl
  have hD := hD.sub (ws' := [(a4, .inr (4, [.ref aB, .ref o2, .ref o3, .ref oA, .ref oB, .ref oC, .ref qL, .ref qM, .int (nI k), .int (nI now)])), (aB, xB cy 6 (fun j => some (ab j)))]) [0, 1] (by decide) rfl
  exact kout () _ _ _ _ _ _ _ _ _ hce hcv hcl hP hD hS (Nat.le_of_ble_eq_true rfl) (Nat.le_of_ble_eq_true rfl)
set_option maxHeartbeats 4000000 in
set_option maxRecDepth 100000 in
theorem c_registerT (l : Launch) (hlf : l.stackTraces = false) (D : va_G) (cy : Nat → ClassId) (t0 : Nat) (a4 aB o2 o3 oA oB oC qL qM k now : Nat) (ab : Nat → Nat) (p0 p1 : Int32) (hbi : p0 < 0 ∨ nI 6 ≤ p0) : xT (S := Unit) l yX4_register wsX4_register ({ frames := 7, cells := 1, slots := 6, locals := 104 } : Room) D cy t0 ([.ref a4, .int p0, .int p1]) ([(a4, .inr (4, [.ref aB, .ref o2, .ref o3, .ref oA, .ref oB, .ref oC, .ref qL, .ref qM, .int (nI k), .int (nI now)])), (aB, xB cy 6 (fun j => some (ab j)))]) xIO (fun _ => [(a4, .inr (4, [.ref aB, .ref o2, .ref o3, .ref oA, .ref oB, .ref oC, .ref qL, .ref qM, .int (nI k), .int (nI now)])), (aB, xB cy 6 (fun j => some (ab j)))]) 1 6 := by
  refine xofT (cc := cX4_register) (maxL := 4) (ret := (some .int)) (by decide) rfl (Nat.le_of_ble_eq_true rfl) ?_
  intro p e s m below meth c Q A ls hx hb hml hts hown hE hA H locs hP hD hl hS htab hlocks hQ kout
  have hl : lv_has ls 4 [(0, .ref a4), (1, .int p0), (2, .int p1)] := hl
  refine lv_aload_n hx hb dX4_register_0 rfl (lv_at hl 0 rfl) ?_
  refine lv_iload_n hx hb dX4_register_1 rfl (lv_at hl 1 rfl) ?_
  refine xcT (wr := []) (vx_runV (As := [.int p0]) (rest := []) ⟨hx, hb, hml, hown, hts⟩ ((c_needT l hlf D cy t0 a4 aB o2 o3 oA oB oC qL qM k now ab p0 hbi) H.size) (cwV 1 hts gX4_register_X4_need rfl rfl rfl (by decide +kernel) ⟨Nat.le_of_ble_eq_true rfl, Nat.le_of_ble_eq_true rfl⟩) (xPw.giveV (wc := [(a4, .inr (4, [.ref aB, .ref o2, .ref o3, .ref oA, .ref oB, .ref oC, .ref qL, .ref qM, .int (nI k), .int (nI now)])), (aB, xB cy 6 (fun j => some (ab j)))]) hE hS hA hP hD [0, 1] (by decide) rfl 0 4 rfl rfl) rfl rfl hl.1 rfl (lv_room (Nat.le_of_ble_eq_true rfl)) dX4_register_2 ⟨Nat.le_of_ble_eq_true rfl, Nat.le_of_ble_eq_true rfl⟩) hP hD hS hA [0, 1] [] rfl rfl (by decide) (by decide) (fun u q ce H locs hP hD hS hce hcv hcl => ?_)
  have hP : xP D [(a4, .inr (4, [.ref aB, .ref o2, .ref o3, .ref oA, .ref oB, .ref oC, .ref qL, .ref qM, .int (nI k), .int (nI now)])), (aB, xB cy 6 (fun j => some (ab j)))] H := hP
  have hD : va_D A [(a4, .inr (4, [.ref aB, .ref o2, .ref o3, .ref oA, .ref oB, .ref oC, .ref qL, .ref qM, .int (nI k), .int (nI now)])), (aB, xB cy 6 (fun j => some (ab j)))] := hD
  have hP := hP.sub (ws' := [(a4, .inr (4, [.ref aB, .ref o2, .ref o3, .ref oA, .ref oB, .ref oC, .ref qL, .ref qM, .int (nI k), .int (nI now)])), (aB, xB cy 6 (fun j => some (ab j)))]) [0, 1] rfl
  have hD := hD.sub (ws' := [(a4, .inr (4, [.ref aB, .ref o2, .ref o3, .ref oA, .ref oB, .ref oC, .ref qL, .ref qM, .int (nI k), .int (nI now)])), (aB, xB cy 6 (fun j => some (ab j)))]) [0, 1] (by decide) rfl
  exact kout () _ _ _ _ _ _ _ _ _ hce hcv hcl hP hD hS (Nat.le_of_ble_eq_true rfl) (Nat.le_of_ble_eq_true rfl)
set_option maxHeartbeats 4000000 in
set_option maxRecDepth 100000 in
theorem c_byRegistersT (l : Launch) (hlf : l.stackTraces = false) (D : va_G) (cy : Nat → ClassId) (t0 : Nat) (a4 aB o2 o3 oA oB oC qL qM k now : Nat) (ab : Nat → Nat) (p0 : Int32) (hbi : p0 < 0 ∨ nI 6 ≤ p0) : xT (S := Unit) l yX4_byRegisters wsX4_byRegisters ({ frames := 7, cells := 1, slots := 6, locals := 104 } : Room) D cy t0 ([.ref a4, .int p0]) ([(a4, .inr (4, [.ref aB, .ref o2, .ref o3, .ref oA, .ref oB, .ref oC, .ref qL, .ref qM, .int (nI k), .int (nI now)])), (aB, xB cy 6 (fun j => some (ab j)))]) xIO (fun _ => [(a4, .inr (4, [.ref aB, .ref o2, .ref o3, .ref oA, .ref oB, .ref oC, .ref qL, .ref qM, .int (nI k), .int (nI now)])), (aB, xB cy 6 (fun j => some (ab j)))]) 1 6 := by
  refine xofT (cc := cX4_byRegisters) (maxL := 2) (ret := (some .long)) (by decide) rfl (Nat.le_of_ble_eq_true rfl) ?_
  intro p e s m below meth c Q A ls hx hb hml hts hown hE hA H locs hP hD hl hS htab hlocks hQ kout
  have hl : lv_has ls 2 [(0, .ref a4), (1, .int p0)] := hl
  refine lv_aload_n hx hb dX4_byRegisters_0 rfl (lv_at hl 0 rfl) ?_
  refine va_get (D := D) (ci := 4) (v := .ref o2) (C := RX4) (T := TX4) (N := 10) hx hb hts (by decide +kernel) hown hE.1 hP 0 rfl rfl 1 (by decide) (hts (.fieldLink RX4 32 "DistinctDale" "registers" "LDistinctDale$Registers;") (by decide +kernel)) (fun _ h9 => h9) rfl dX4_byRegisters_1 ?_
  refine lv_aload_n hx hb dX4_byRegisters_4 rfl (lv_at hl 0 rfl) ?_
  refine lv_iload_n hx hb dX4_byRegisters_5 rfl (lv_at hl 1 rfl) ?_
  refine xcT (wr := []) (vx_runV (As := [.int p0]) (rest := [.ref o2]) ⟨hx, hb, hml, hown, hts⟩ ((c_needT l hlf D cy t0 a4 aB o2 o3 oA oB oC qL qM k now ab p0 hbi) H.size) (cwV 1 hts gX4_byRegisters_X4_need rfl rfl rfl (by decide +kernel) ⟨Nat.le_of_ble_eq_true rfl, Nat.le_of_ble_eq_true rfl⟩) (xPw.giveV (wc := [(a4, .inr (4, [.ref aB, .ref o2, .ref o3, .ref oA, .ref oB, .ref oC, .ref qL, .ref qM, .int (nI k), .int (nI now)])), (aB, xB cy 6 (fun j => some (ab j)))]) hE hS hA hP hD [0, 1] (by decide) rfl 0 4 rfl rfl) rfl rfl hl.1 rfl (lv_room (Nat.le_of_ble_eq_true rfl)) dX4_byRegisters_6 ⟨Nat.le_of_ble_eq_true rfl, Nat.le_of_ble_eq_true rfl⟩) hP hD hS hA [0, 1] [] rfl rfl (by decide) (by decide) (fun u q ce H locs hP hD hS hce hcv hcl => ?_)
  have hP : xP D [(a4, .inr (4, [.ref aB, .ref o2, .ref o3, .ref oA, .ref oB, .ref oC, .ref qL, .ref qM, .int (nI k), .int (nI now)])), (aB, xB cy 6 (fun j => some (ab j)))] H := hP
  have hD : va_D A [(a4, .inr (4, [.ref aB, .ref o2, .ref o3, .ref oA, .ref oB, .ref oC, .ref qL, .ref qM, .int (nI k), .int (nI now)])), (aB, xB cy 6 (fun j => some (ab j)))] := hD
  have hP := hP.sub (ws' := [(a4, .inr (4, [.ref aB, .ref o2, .ref o3, .ref oA, .ref oB, .ref oC, .ref qL, .ref qM, .int (nI k), .int (nI now)])), (aB, xB cy 6 (fun j => some (ab j)))]) [0, 1] rfl
  have hD := hD.sub (ws' := [(a4, .inr (4, [.ref aB, .ref o2, .ref o3, .ref oA, .ref oB, .ref oC, .ref qL, .ref qM, .int (nI k), .int (nI now)])), (aB, xB cy 6 (fun j => some (ab j)))]) [0, 1] (by decide) rfl
  exact kout () _ _ _ _ _ _ _ _ _ hce hcv hcl hP hD hS (Nat.le_of_ble_eq_true rfl) (Nat.le_of_ble_eq_true rfl)
set_option maxHeartbeats 4000000 in
set_option maxRecDepth 100000 in
theorem c_recentT (l : Launch) (hlf : l.stackTraces = false) (D : va_G) (cy : Nat → ClassId) (t0 : Nat) (a4 aB o2 o3 oA oB oC qL qM k now : Nat) (ab : Nat → Nat) (p0 p1 : Int32) (hbi : p0 < 0 ∨ nI 6 ≤ p0) : xT (S := Unit) l yX4_recent wsX4_recent ({ frames := 7, cells := 1, slots := 6, locals := 104 } : Room) D cy t0 ([.ref a4, .int p0, .int p1]) ([(a4, .inr (4, [.ref aB, .ref o2, .ref o3, .ref oA, .ref oB, .ref oC, .ref qL, .ref qM, .int (nI k), .int (nI now)])), (aB, xB cy 6 (fun j => some (ab j)))]) xIO (fun _ => [(a4, .inr (4, [.ref aB, .ref o2, .ref o3, .ref oA, .ref oB, .ref oC, .ref qL, .ref qM, .int (nI k), .int (nI now)])), (aB, xB cy 6 (fun j => some (ab j)))]) 1 6 := by
  refine xofT (cc := cX4_recent) (maxL := 4) (ret := (some .long)) (by decide) rfl (Nat.le_of_ble_eq_true rfl) ?_
  intro p e s m below meth c Q A ls hx hb hml hts hown hE hA H locs hP hD hl hS htab hlocks hQ kout
  have hl : lv_has ls 4 [(0, .ref a4), (1, .int p0), (2, .int p1)] := hl
  refine lv_aload_n hx hb dX4_recent_0 rfl (lv_at hl 0 rfl) ?_
  refine lv_iload_n hx hb dX4_recent_1 rfl (lv_at hl 1 rfl) ?_
  refine xcT (wr := []) (vx_runV (As := [.int p0]) (rest := []) ⟨hx, hb, hml, hown, hts⟩ ((c_needT l hlf D cy t0 a4 aB o2 o3 oA oB oC qL qM k now ab p0 hbi) H.size) (cwV 1 hts gX4_recent_X4_need rfl rfl rfl (by decide +kernel) ⟨Nat.le_of_ble_eq_true rfl, Nat.le_of_ble_eq_true rfl⟩) (xPw.giveV (wc := [(a4, .inr (4, [.ref aB, .ref o2, .ref o3, .ref oA, .ref oB, .ref oC, .ref qL, .ref qM, .int (nI k), .int (nI now)])), (aB, xB cy 6 (fun j => some (ab j)))]) hE hS hA hP hD [0, 1] (by decide) rfl 0 4 rfl rfl) rfl rfl hl.1 rfl (lv_room (Nat.le_of_ble_eq_true rfl)) dX4_recent_2 ⟨Nat.le_of_ble_eq_true rfl, Nat.le_of_ble_eq_true rfl⟩) hP hD hS hA [0, 1] [] rfl rfl (by decide) (by decide) (fun u q ce H locs hP hD hS hce hcv hcl => ?_)
  have hP : xP D [(a4, .inr (4, [.ref aB, .ref o2, .ref o3, .ref oA, .ref oB, .ref oC, .ref qL, .ref qM, .int (nI k), .int (nI now)])), (aB, xB cy 6 (fun j => some (ab j)))] H := hP
  have hD : va_D A [(a4, .inr (4, [.ref aB, .ref o2, .ref o3, .ref oA, .ref oB, .ref oC, .ref qL, .ref qM, .int (nI k), .int (nI now)])), (aB, xB cy 6 (fun j => some (ab j)))] := hD
  have hP := hP.sub (ws' := [(a4, .inr (4, [.ref aB, .ref o2, .ref o3, .ref oA, .ref oB, .ref oC, .ref qL, .ref qM, .int (nI k), .int (nI now)])), (aB, xB cy 6 (fun j => some (ab j)))]) [0, 1] rfl
  have hD := hD.sub (ws' := [(a4, .inr (4, [.ref aB, .ref o2, .ref o3, .ref oA, .ref oB, .ref oC, .ref qL, .ref qM, .int (nI k), .int (nI now)])), (aB, xB cy 6 (fun j => some (ab j)))]) [0, 1] (by decide) rfl
  exact kout () _ _ _ _ _ _ _ _ _ hce hcv hcl hP hD hS (Nat.le_of_ble_eq_true rfl) (Nat.le_of_ble_eq_true rfl)
set_option maxHeartbeats 4000000 in
set_option maxRecDepth 100000 in
theorem c_levelT (l : Launch) (hlf : l.stackTraces = false) (D : va_G) (cy : Nat → ClassId) (t0 : Nat) (a4 aB o2 o3 oA oB oC qL qM k now : Nat) (ab : Nat → Nat) (p0 : Int32) (hbi : p0 < 0 ∨ nI 6 ≤ p0) : xT (S := Unit) l yX4_level wsX4_level ({ frames := 7, cells := 1, slots := 6, locals := 104 } : Room) D cy t0 ([.ref a4, .int p0]) ([(a4, .inr (4, [.ref aB, .ref o2, .ref o3, .ref oA, .ref oB, .ref oC, .ref qL, .ref qM, .int (nI k), .int (nI now)])), (aB, xB cy 6 (fun j => some (ab j)))]) xIO (fun _ => [(a4, .inr (4, [.ref aB, .ref o2, .ref o3, .ref oA, .ref oB, .ref oC, .ref qL, .ref qM, .int (nI k), .int (nI now)])), (aB, xB cy 6 (fun j => some (ab j)))]) 1 6 := by
  refine xofT (cc := cX4_level) (maxL := 2) (ret := (some .int)) (by decide) rfl (Nat.le_of_ble_eq_true rfl) ?_
  intro p e s m below meth c Q A ls hx hb hml hts hown hE hA H locs hP hD hl hS htab hlocks hQ kout
  have hl : lv_has ls 2 [(0, .ref a4), (1, .int p0)] := hl
  refine lv_aload_n hx hb dX4_level_0 rfl (lv_at hl 0 rfl) ?_
  refine va_get (D := D) (ci := 4) (v := .ref o3) (C := RX4) (T := TX4) (N := 10) hx hb hts (by decide +kernel) hown hE.1 hP 0 rfl rfl 2 (by decide) (hts (.fieldLink RX4 39 "DistinctDale" "thinning" "LDistinctDale$Thinning;") (by decide +kernel)) (fun _ h9 => h9) rfl dX4_level_1 ?_
  refine lv_aload_n hx hb dX4_level_4 rfl (lv_at hl 0 rfl) ?_
  refine lv_iload_n hx hb dX4_level_5 rfl (lv_at hl 1 rfl) ?_
  refine xcT (wr := []) (vx_runV (As := [.int p0]) (rest := [.ref o3]) ⟨hx, hb, hml, hown, hts⟩ ((c_needT l hlf D cy t0 a4 aB o2 o3 oA oB oC qL qM k now ab p0 hbi) H.size) (cwV 1 hts gX4_level_X4_need rfl rfl rfl (by decide +kernel) ⟨Nat.le_of_ble_eq_true rfl, Nat.le_of_ble_eq_true rfl⟩) (xPw.giveV (wc := [(a4, .inr (4, [.ref aB, .ref o2, .ref o3, .ref oA, .ref oB, .ref oC, .ref qL, .ref qM, .int (nI k), .int (nI now)])), (aB, xB cy 6 (fun j => some (ab j)))]) hE hS hA hP hD [0, 1] (by decide) rfl 0 4 rfl rfl) rfl rfl hl.1 rfl (lv_room (Nat.le_of_ble_eq_true rfl)) dX4_level_6 ⟨Nat.le_of_ble_eq_true rfl, Nat.le_of_ble_eq_true rfl⟩) hP hD hS hA [0, 1] [] rfl rfl (by decide) (by decide) (fun u q ce H locs hP hD hS hce hcv hcl => ?_)
  have hP : xP D [(a4, .inr (4, [.ref aB, .ref o2, .ref o3, .ref oA, .ref oB, .ref oC, .ref qL, .ref qM, .int (nI k), .int (nI now)])), (aB, xB cy 6 (fun j => some (ab j)))] H := hP
  have hD : va_D A [(a4, .inr (4, [.ref aB, .ref o2, .ref o3, .ref oA, .ref oB, .ref oC, .ref qL, .ref qM, .int (nI k), .int (nI now)])), (aB, xB cy 6 (fun j => some (ab j)))] := hD
  have hP := hP.sub (ws' := [(a4, .inr (4, [.ref aB, .ref o2, .ref o3, .ref oA, .ref oB, .ref oC, .ref qL, .ref qM, .int (nI k), .int (nI now)])), (aB, xB cy 6 (fun j => some (ab j)))]) [0, 1] rfl
  have hD := hD.sub (ws' := [(a4, .inr (4, [.ref aB, .ref o2, .ref o3, .ref oA, .ref oB, .ref oC, .ref qL, .ref qM, .int (nI k), .int (nI now)])), (aB, xB cy 6 (fun j => some (ab j)))]) [0, 1] (by decide) rfl
  exact kout () _ _ _ _ _ _ _ _ _ hce hcv hcl hP hD hS (Nat.le_of_ble_eq_true rfl) (Nat.le_of_ble_eq_true rfl)
set_option maxHeartbeats 4000000 in
set_option maxRecDepth 100000 in
theorem c_sampledT (l : Launch) (hlf : l.stackTraces = false) (D : va_G) (cy : Nat → ClassId) (t0 : Nat) (a4 aB o2 o3 oA oB oC qL qM k now : Nat) (ab : Nat → Nat) (p0 : Int32) (hbi : p0 < 0 ∨ nI 6 ≤ p0) : xT (S := Unit) l yX4_sampled wsX4_sampled ({ frames := 7, cells := 1, slots := 6, locals := 104 } : Room) D cy t0 ([.ref a4, .int p0]) ([(a4, .inr (4, [.ref aB, .ref o2, .ref o3, .ref oA, .ref oB, .ref oC, .ref qL, .ref qM, .int (nI k), .int (nI now)])), (aB, xB cy 6 (fun j => some (ab j)))]) xIO (fun _ => [(a4, .inr (4, [.ref aB, .ref o2, .ref o3, .ref oA, .ref oB, .ref oC, .ref qL, .ref qM, .int (nI k), .int (nI now)])), (aB, xB cy 6 (fun j => some (ab j)))]) 1 6 := by
  refine xofT (cc := cX4_sampled) (maxL := 2) (ret := (some .int)) (by decide) rfl (Nat.le_of_ble_eq_true rfl) ?_
  intro p e s m below meth c Q A ls hx hb hml hts hown hE hA H locs hP hD hl hS htab hlocks hQ kout
  have hl : lv_has ls 2 [(0, .ref a4), (1, .int p0)] := hl
  refine lv_aload_n hx hb dX4_sampled_0 rfl (lv_at hl 0 rfl) ?_
  refine va_get (D := D) (ci := 4) (v := .ref o3) (C := RX4) (T := TX4) (N := 10) hx hb hts (by decide +kernel) hown hE.1 hP 0 rfl rfl 2 (by decide) (hts (.fieldLink RX4 39 "DistinctDale" "thinning" "LDistinctDale$Thinning;") (by decide +kernel)) (fun _ h9 => h9) rfl dX4_sampled_1 ?_
  refine lv_aload_n hx hb dX4_sampled_4 rfl (lv_at hl 0 rfl) ?_
  refine lv_iload_n hx hb dX4_sampled_5 rfl (lv_at hl 1 rfl) ?_
  refine xcT (wr := []) (vx_runV (As := [.int p0]) (rest := [.ref o3]) ⟨hx, hb, hml, hown, hts⟩ ((c_needT l hlf D cy t0 a4 aB o2 o3 oA oB oC qL qM k now ab p0 hbi) H.size) (cwV 1 hts gX4_sampled_X4_need rfl rfl rfl (by decide +kernel) ⟨Nat.le_of_ble_eq_true rfl, Nat.le_of_ble_eq_true rfl⟩) (xPw.giveV (wc := [(a4, .inr (4, [.ref aB, .ref o2, .ref o3, .ref oA, .ref oB, .ref oC, .ref qL, .ref qM, .int (nI k), .int (nI now)])), (aB, xB cy 6 (fun j => some (ab j)))]) hE hS hA hP hD [0, 1] (by decide) rfl 0 4 rfl rfl) rfl rfl hl.1 rfl (lv_room (Nat.le_of_ble_eq_true rfl)) dX4_sampled_6 ⟨Nat.le_of_ble_eq_true rfl, Nat.le_of_ble_eq_true rfl⟩) hP hD hS hA [0, 1] [] rfl rfl (by decide) (by decide) (fun u q ce H locs hP hD hS hce hcv hcl => ?_)
  have hP : xP D [(a4, .inr (4, [.ref aB, .ref o2, .ref o3, .ref oA, .ref oB, .ref oC, .ref qL, .ref qM, .int (nI k), .int (nI now)])), (aB, xB cy 6 (fun j => some (ab j)))] H := hP
  have hD : va_D A [(a4, .inr (4, [.ref aB, .ref o2, .ref o3, .ref oA, .ref oB, .ref oC, .ref qL, .ref qM, .int (nI k), .int (nI now)])), (aB, xB cy 6 (fun j => some (ab j)))] := hD
  have hP := hP.sub (ws' := [(a4, .inr (4, [.ref aB, .ref o2, .ref o3, .ref oA, .ref oB, .ref oC, .ref qL, .ref qM, .int (nI k), .int (nI now)])), (aB, xB cy 6 (fun j => some (ab j)))]) [0, 1] rfl
  have hD := hD.sub (ws' := [(a4, .inr (4, [.ref aB, .ref o2, .ref o3, .ref oA, .ref oB, .ref oC, .ref qL, .ref qM, .int (nI k), .int (nI now)])), (aB, xB cy 6 (fun j => some (ab j)))]) [0, 1] (by decide) rfl
  exact kout () _ _ _ _ _ _ _ _ _ hce hcv hcl hP hD hS (Nat.le_of_ble_eq_true rfl) (Nat.le_of_ble_eq_true rfl)
set_option maxHeartbeats 4000000 in
set_option maxRecDepth 100000 in
theorem c_sampledAtT (l : Launch) (hlf : l.stackTraces = false) (D : va_G) (cy : Nat → ClassId) (t0 : Nat) (a4 aB o2 o3 oA oB oC qL qM k now : Nat) (ab : Nat → Nat) (p0 p1 : Int32) (hbi : p0 < 0 ∨ nI 6 ≤ p0) : xT (S := Unit) l yX4_sampledAt wsX4_sampledAt ({ frames := 7, cells := 1, slots := 6, locals := 104 } : Room) D cy t0 ([.ref a4, .int p0, .int p1]) ([(a4, .inr (4, [.ref aB, .ref o2, .ref o3, .ref oA, .ref oB, .ref oC, .ref qL, .ref qM, .int (nI k), .int (nI now)])), (aB, xB cy 6 (fun j => some (ab j)))]) xIO (fun _ => [(a4, .inr (4, [.ref aB, .ref o2, .ref o3, .ref oA, .ref oB, .ref oC, .ref qL, .ref qM, .int (nI k), .int (nI now)])), (aB, xB cy 6 (fun j => some (ab j)))]) 1 6 := by
  refine xofT (cc := cX4_sampledAt) (maxL := 4) (ret := (some .int)) (by decide) rfl (Nat.le_of_ble_eq_true rfl) ?_
  intro p e s m below meth c Q A ls hx hb hml hts hown hE hA H locs hP hD hl hS htab hlocks hQ kout
  have hl : lv_has ls 4 [(0, .ref a4), (1, .int p0), (2, .int p1)] := hl
  refine lv_aload_n hx hb dX4_sampledAt_0 rfl (lv_at hl 0 rfl) ?_
  refine lv_iload_n hx hb dX4_sampledAt_1 rfl (lv_at hl 1 rfl) ?_
  refine xcT (wr := []) (vx_runV (As := [.int p0]) (rest := []) ⟨hx, hb, hml, hown, hts⟩ ((c_needT l hlf D cy t0 a4 aB o2 o3 oA oB oC qL qM k now ab p0 hbi) H.size) (cwV 1 hts gX4_sampledAt_X4_need rfl rfl rfl (by decide +kernel) ⟨Nat.le_of_ble_eq_true rfl, Nat.le_of_ble_eq_true rfl⟩) (xPw.giveV (wc := [(a4, .inr (4, [.ref aB, .ref o2, .ref o3, .ref oA, .ref oB, .ref oC, .ref qL, .ref qM, .int (nI k), .int (nI now)])), (aB, xB cy 6 (fun j => some (ab j)))]) hE hS hA hP hD [0, 1] (by decide) rfl 0 4 rfl rfl) rfl rfl hl.1 rfl (lv_room (Nat.le_of_ble_eq_true rfl)) dX4_sampledAt_2 ⟨Nat.le_of_ble_eq_true rfl, Nat.le_of_ble_eq_true rfl⟩) hP hD hS hA [0, 1] [] rfl rfl (by decide) (by decide) (fun u q ce H locs hP hD hS hce hcv hcl => ?_)
  have hP : xP D [(a4, .inr (4, [.ref aB, .ref o2, .ref o3, .ref oA, .ref oB, .ref oC, .ref qL, .ref qM, .int (nI k), .int (nI now)])), (aB, xB cy 6 (fun j => some (ab j)))] H := hP
  have hD : va_D A [(a4, .inr (4, [.ref aB, .ref o2, .ref o3, .ref oA, .ref oB, .ref oC, .ref qL, .ref qM, .int (nI k), .int (nI now)])), (aB, xB cy 6 (fun j => some (ab j)))] := hD
  have hP := hP.sub (ws' := [(a4, .inr (4, [.ref aB, .ref o2, .ref o3, .ref oA, .ref oB, .ref oC, .ref qL, .ref qM, .int (nI k), .int (nI now)])), (aB, xB cy 6 (fun j => some (ab j)))]) [0, 1] rfl
  have hD := hD.sub (ws' := [(a4, .inr (4, [.ref aB, .ref o2, .ref o3, .ref oA, .ref oB, .ref oC, .ref qL, .ref qM, .int (nI k), .int (nI now)])), (aB, xB cy 6 (fun j => some (ab j)))]) [0, 1] (by decide) rfl
  exact kout () _ _ _ _ _ _ _ _ _ hce hcv hcl hP hD hS (Nat.le_of_ble_eq_true rfl) (Nat.le_of_ble_eq_true rfl)
set_option maxHeartbeats 4000000 in
set_option maxRecDepth 100000 in
theorem c_bySampleT (l : Launch) (hlf : l.stackTraces = false) (D : va_G) (cy : Nat → ClassId) (t0 : Nat) (a4 aB o2 o3 oA oB oC qL qM k now : Nat) (ab : Nat → Nat) (p0 : Int32) (hbi : p0 < 0 ∨ nI 6 ≤ p0) : xT (S := Unit) l yX4_bySample wsX4_bySample ({ frames := 7, cells := 1, slots := 6, locals := 104 } : Room) D cy t0 ([.ref a4, .int p0]) ([(a4, .inr (4, [.ref aB, .ref o2, .ref o3, .ref oA, .ref oB, .ref oC, .ref qL, .ref qM, .int (nI k), .int (nI now)])), (aB, xB cy 6 (fun j => some (ab j)))]) xIO (fun _ => [(a4, .inr (4, [.ref aB, .ref o2, .ref o3, .ref oA, .ref oB, .ref oC, .ref qL, .ref qM, .int (nI k), .int (nI now)])), (aB, xB cy 6 (fun j => some (ab j)))]) 1 6 := by
  refine xofT (cc := cX4_bySample) (maxL := 2) (ret := (some .int)) (by decide) rfl (Nat.le_of_ble_eq_true rfl) ?_
  intro p e s m below meth c Q A ls hx hb hml hts hown hE hA H locs hP hD hl hS htab hlocks hQ kout
  have hl : lv_has ls 2 [(0, .ref a4), (1, .int p0)] := hl
  refine lv_aload_n hx hb dX4_bySample_0 rfl (lv_at hl 0 rfl) ?_
  refine va_get (D := D) (ci := 4) (v := .ref o3) (C := RX4) (T := TX4) (N := 10) hx hb hts (by decide +kernel) hown hE.1 hP 0 rfl rfl 2 (by decide) (hts (.fieldLink RX4 39 "DistinctDale" "thinning" "LDistinctDale$Thinning;") (by decide +kernel)) (fun _ h9 => h9) rfl dX4_bySample_1 ?_
  refine lv_aload_n hx hb dX4_bySample_4 rfl (lv_at hl 0 rfl) ?_
  refine lv_iload_n hx hb dX4_bySample_5 rfl (lv_at hl 1 rfl) ?_
  refine xcT (wr := []) (vx_runV (As := [.int p0]) (rest := [.ref o3]) ⟨hx, hb, hml, hown, hts⟩ ((c_needT l hlf D cy t0 a4 aB o2 o3 oA oB oC qL qM k now ab p0 hbi) H.size) (cwV 1 hts gX4_bySample_X4_need rfl rfl rfl (by decide +kernel) ⟨Nat.le_of_ble_eq_true rfl, Nat.le_of_ble_eq_true rfl⟩) (xPw.giveV (wc := [(a4, .inr (4, [.ref aB, .ref o2, .ref o3, .ref oA, .ref oB, .ref oC, .ref qL, .ref qM, .int (nI k), .int (nI now)])), (aB, xB cy 6 (fun j => some (ab j)))]) hE hS hA hP hD [0, 1] (by decide) rfl 0 4 rfl rfl) rfl rfl hl.1 rfl (lv_room (Nat.le_of_ble_eq_true rfl)) dX4_bySample_6 ⟨Nat.le_of_ble_eq_true rfl, Nat.le_of_ble_eq_true rfl⟩) hP hD hS hA [0, 1] [] rfl rfl (by decide) (by decide) (fun u q ce H locs hP hD hS hce hcv hcl => ?_)
  have hP : xP D [(a4, .inr (4, [.ref aB, .ref o2, .ref o3, .ref oA, .ref oB, .ref oC, .ref qL, .ref qM, .int (nI k), .int (nI now)])), (aB, xB cy 6 (fun j => some (ab j)))] H := hP
  have hD : va_D A [(a4, .inr (4, [.ref aB, .ref o2, .ref o3, .ref oA, .ref oB, .ref oC, .ref qL, .ref qM, .int (nI k), .int (nI now)])), (aB, xB cy 6 (fun j => some (ab j)))] := hD
  have hP := hP.sub (ws' := [(a4, .inr (4, [.ref aB, .ref o2, .ref o3, .ref oA, .ref oB, .ref oC, .ref qL, .ref qM, .int (nI k), .int (nI now)])), (aB, xB cy 6 (fun j => some (ab j)))]) [0, 1] rfl
  have hD := hD.sub (ws' := [(a4, .inr (4, [.ref aB, .ref o2, .ref o3, .ref oA, .ref oB, .ref oC, .ref qL, .ref qM, .int (nI k), .int (nI now)])), (aB, xB cy 6 (fun j => some (ab j)))]) [0, 1] (by decide) rfl
  exact kout () _ _ _ _ _ _ _ _ _ hce hcv hcl hP hD hS (Nat.le_of_ble_eq_true rfl) (Nat.le_of_ble_eq_true rfl)
set_option maxHeartbeats 4000000 in
set_option maxRecDepth 100000 in
theorem c_mergeT (l : Launch) (hlf : l.stackTraces = false) (D : va_G) (cy : Nat → ClassId) (t0 : Nat) (a4 aB o2 o3 oA oB oC qL qM k now : Nat) (ab : Nat → Nat) (p0 p1 : Int32) (hbi : p0 < 0 ∨ nI 6 ≤ p0) : xT (S := Unit) l yX4_merge wsX4_merge ({ frames := 7, cells := 1, slots := 6, locals := 104 } : Room) D cy t0 ([.ref a4, .int p0, .int p1]) ([(a4, .inr (4, [.ref aB, .ref o2, .ref o3, .ref oA, .ref oB, .ref oC, .ref qL, .ref qM, .int (nI k), .int (nI now)])), (aB, xB cy 6 (fun j => some (ab j)))]) xIO (fun _ => [(a4, .inr (4, [.ref aB, .ref o2, .ref o3, .ref oA, .ref oB, .ref oC, .ref qL, .ref qM, .int (nI k), .int (nI now)])), (aB, xB cy 6 (fun j => some (ab j)))]) 1 6 := by
  refine xofT (cc := cX4_merge) (maxL := 5) (ret := (some .int)) (by decide) rfl (Nat.le_of_ble_eq_true rfl) ?_
  intro p e s m below meth c Q A ls hx hb hml hts hown hE hA H locs hP hD hl hS htab hlocks hQ kout
  have hl : lv_has ls 5 [(0, .ref a4), (1, .int p0), (2, .int p1)] := hl
  refine lv_aload_n hx hb dX4_merge_0 rfl (lv_at hl 0 rfl) ?_
  refine lv_iload_n hx hb dX4_merge_1 rfl (lv_at hl 1 rfl) ?_
  refine xcT (wr := []) (vx_runV (As := [.int p0]) (rest := []) ⟨hx, hb, hml, hown, hts⟩ ((c_needT l hlf D cy t0 a4 aB o2 o3 oA oB oC qL qM k now ab p0 hbi) H.size) (cwV 1 hts gX4_merge_X4_need rfl rfl rfl (by decide +kernel) ⟨Nat.le_of_ble_eq_true rfl, Nat.le_of_ble_eq_true rfl⟩) (xPw.giveV (wc := [(a4, .inr (4, [.ref aB, .ref o2, .ref o3, .ref oA, .ref oB, .ref oC, .ref qL, .ref qM, .int (nI k), .int (nI now)])), (aB, xB cy 6 (fun j => some (ab j)))]) hE hS hA hP hD [0, 1] (by decide) rfl 0 4 rfl rfl) rfl rfl hl.1 rfl (lv_room (Nat.le_of_ble_eq_true rfl)) dX4_merge_2 ⟨Nat.le_of_ble_eq_true rfl, Nat.le_of_ble_eq_true rfl⟩) hP hD hS hA [0, 1] [] rfl rfl (by decide) (by decide) (fun u q ce H locs hP hD hS hce hcv hcl => ?_)
  have hP : xP D [(a4, .inr (4, [.ref aB, .ref o2, .ref o3, .ref oA, .ref oB, .ref oC, .ref qL, .ref qM, .int (nI k), .int (nI now)])), (aB, xB cy 6 (fun j => some (ab j)))] H := hP
  have hD : va_D A [(a4, .inr (4, [.ref aB, .ref o2, .ref o3, .ref oA, .ref oB, .ref oC, .ref qL, .ref qM, .int (nI k), .int (nI now)])), (aB, xB cy 6 (fun j => some (ab j)))] := hD
  have hP := hP.sub (ws' := [(a4, .inr (4, [.ref aB, .ref o2, .ref o3, .ref oA, .ref oB, .ref oC, .ref qL, .ref qM, .int (nI k), .int (nI now)])), (aB, xB cy 6 (fun j => some (ab j)))]) [0, 1] rfl
  have hD := hD.sub (ws' := [(a4, .inr (4, [.ref aB, .ref o2, .ref o3, .ref oA, .ref oB, .ref oC, .ref qL, .ref qM, .int (nI k), .int (nI now)])), (aB, xB cy 6 (fun j => some (ab j)))]) [0, 1] (by decide) rfl
  exact kout () _ _ _ _ _ _ _ _ _ hce hcv hcl hP hD hS (Nat.le_of_ble_eq_true rfl) (Nat.le_of_ble_eq_true rfl)
set_option maxHeartbeats 4000000 in
set_option maxRecDepth 100000 in
theorem c_plainCommonT (l : Launch) (hlf : l.stackTraces = false) (D : va_G) (cy : Nat → ClassId) (t0 : Nat) (a4 aB o2 o3 oA oB oC qL qM k now : Nat) (ab : Nat → Nat) (p0 p1 : Int32) (hbi : p0 < 0 ∨ nI 6 ≤ p0) : xT (S := Unit) l yX4_plainCommon wsX4_plainCommon ({ frames := 7, cells := 1, slots := 6, locals := 104 } : Room) D cy t0 ([.ref a4, .int p0, .int p1]) ([(a4, .inr (4, [.ref aB, .ref o2, .ref o3, .ref oA, .ref oB, .ref oC, .ref qL, .ref qM, .int (nI k), .int (nI now)])), (aB, xB cy 6 (fun j => some (ab j)))]) xIO (fun _ => [(a4, .inr (4, [.ref aB, .ref o2, .ref o3, .ref oA, .ref oB, .ref oC, .ref qL, .ref qM, .int (nI k), .int (nI now)])), (aB, xB cy 6 (fun j => some (ab j)))]) 1 6 := by
  refine xofT (cc := cX4_plainCommon) (maxL := 5) (ret := (some .int)) (by decide) rfl (Nat.le_of_ble_eq_true rfl) ?_
  intro p e s m below meth c Q A ls hx hb hml hts hown hE hA H locs hP hD hl hS htab hlocks hQ kout
  have hl : lv_has ls 5 [(0, .ref a4), (1, .int p0), (2, .int p1)] := hl
  refine lv_aload_n hx hb dX4_plainCommon_0 rfl (lv_at hl 0 rfl) ?_
  refine lv_iload_n hx hb dX4_plainCommon_1 rfl (lv_at hl 1 rfl) ?_
  refine xcT (wr := []) (vx_runV (As := [.int p0]) (rest := []) ⟨hx, hb, hml, hown, hts⟩ ((c_needT l hlf D cy t0 a4 aB o2 o3 oA oB oC qL qM k now ab p0 hbi) H.size) (cwV 1 hts gX4_plainCommon_X4_need rfl rfl rfl (by decide +kernel) ⟨Nat.le_of_ble_eq_true rfl, Nat.le_of_ble_eq_true rfl⟩) (xPw.giveV (wc := [(a4, .inr (4, [.ref aB, .ref o2, .ref o3, .ref oA, .ref oB, .ref oC, .ref qL, .ref qM, .int (nI k), .int (nI now)])), (aB, xB cy 6 (fun j => some (ab j)))]) hE hS hA hP hD [0, 1] (by decide) rfl 0 4 rfl rfl) rfl rfl hl.1 rfl (lv_room (Nat.le_of_ble_eq_true rfl)) dX4_plainCommon_2 ⟨Nat.le_of_ble_eq_true rfl, Nat.le_of_ble_eq_true rfl⟩) hP hD hS hA [0, 1] [] rfl rfl (by decide) (by decide) (fun u q ce H locs hP hD hS hce hcv hcl => ?_)
  have hP : xP D [(a4, .inr (4, [.ref aB, .ref o2, .ref o3, .ref oA, .ref oB, .ref oC, .ref qL, .ref qM, .int (nI k), .int (nI now)])), (aB, xB cy 6 (fun j => some (ab j)))] H := hP
  have hD : va_D A [(a4, .inr (4, [.ref aB, .ref o2, .ref o3, .ref oA, .ref oB, .ref oC, .ref qL, .ref qM, .int (nI k), .int (nI now)])), (aB, xB cy 6 (fun j => some (ab j)))] := hD
  have hP := hP.sub (ws' := [(a4, .inr (4, [.ref aB, .ref o2, .ref o3, .ref oA, .ref oB, .ref oC, .ref qL, .ref qM, .int (nI k), .int (nI now)])), (aB, xB cy 6 (fun j => some (ab j)))]) [0, 1] rfl
  have hD := hD.sub (ws' := [(a4, .inr (4, [.ref aB, .ref o2, .ref o3, .ref oA, .ref oB, .ref oC, .ref qL, .ref qM, .int (nI k), .int (nI now)])), (aB, xB cy 6 (fun j => some (ab j)))]) [0, 1] (by decide) rfl
  exact kout () _ _ _ _ _ _ _ _ _ hce hcv hcl hP hD hS (Nat.le_of_ble_eq_true rfl) (Nat.le_of_ble_eq_true rfl)
set_option maxHeartbeats 4000000 in
set_option maxRecDepth 100000 in
theorem c_togetherT (l : Launch) (hlf : l.stackTraces = false) (D : va_G) (cy : Nat → ClassId) (t0 : Nat) (a4 aB o2 o3 oA oB oC qL qM k now : Nat) (ab : Nat → Nat) (p0 p1 : Int32) (hbi : p0 < 0 ∨ nI 6 ≤ p0) : xT (S := Unit) l yX4_together wsX4_together ({ frames := 7, cells := 1, slots := 6, locals := 104 } : Room) D cy t0 ([.ref a4, .int p0, .int p1]) ([(a4, .inr (4, [.ref aB, .ref o2, .ref o3, .ref oA, .ref oB, .ref oC, .ref qL, .ref qM, .int (nI k), .int (nI now)])), (aB, xB cy 6 (fun j => some (ab j)))]) xIO (fun _ => [(a4, .inr (4, [.ref aB, .ref o2, .ref o3, .ref oA, .ref oB, .ref oC, .ref qL, .ref qM, .int (nI k), .int (nI now)])), (aB, xB cy 6 (fun j => some (ab j)))]) 1 6 := by
  refine xofT (cc := cX4_together) (maxL := 3) (ret := (some .int)) (by decide) rfl (Nat.le_of_ble_eq_true rfl) ?_
  intro p e s m below meth c Q A ls hx hb hml hts hown hE hA H locs hP hD hl hS htab hlocks hQ kout
  have hl : lv_has ls 3 [(0, .ref a4), (1, .int p0), (2, .int p1)] := hl
  refine lv_aload_n hx hb dX4_together_0 rfl (lv_at hl 0 rfl) ?_
  refine lv_aload_n hx hb dX4_together_1 rfl (lv_at hl 0 rfl) ?_
  refine lv_iload_n hx hb dX4_together_2 rfl (lv_at hl 1 rfl) ?_
  refine xcT (wr := []) (vx_runV (As := [.int p0]) (rest := [.ref a4]) ⟨hx, hb, hml, hown, hts⟩ ((c_needT l hlf D cy t0 a4 aB o2 o3 oA oB oC qL qM k now ab p0 hbi) H.size) (cwV 1 hts gX4_together_X4_need rfl rfl rfl (by decide +kernel) ⟨Nat.le_of_ble_eq_true rfl, Nat.le_of_ble_eq_true rfl⟩) (xPw.giveV (wc := [(a4, .inr (4, [.ref aB, .ref o2, .ref o3, .ref oA, .ref oB, .ref oC, .ref qL, .ref qM, .int (nI k), .int (nI now)])), (aB, xB cy 6 (fun j => some (ab j)))]) hE hS hA hP hD [0, 1] (by decide) rfl 0 4 rfl rfl) rfl rfl hl.1 rfl (lv_room (Nat.le_of_ble_eq_true rfl)) dX4_together_3 ⟨Nat.le_of_ble_eq_true rfl, Nat.le_of_ble_eq_true rfl⟩) hP hD hS hA [0, 1] [] rfl rfl (by decide) (by decide) (fun u q ce H locs hP hD hS hce hcv hcl => ?_)
  have hP : xP D [(a4, .inr (4, [.ref aB, .ref o2, .ref o3, .ref oA, .ref oB, .ref oC, .ref qL, .ref qM, .int (nI k), .int (nI now)])), (aB, xB cy 6 (fun j => some (ab j)))] H := hP
  have hD : va_D A [(a4, .inr (4, [.ref aB, .ref o2, .ref o3, .ref oA, .ref oB, .ref oC, .ref qL, .ref qM, .int (nI k), .int (nI now)])), (aB, xB cy 6 (fun j => some (ab j)))] := hD
  have hP := hP.sub (ws' := [(a4, .inr (4, [.ref aB, .ref o2, .ref o3, .ref oA, .ref oB, .ref oC, .ref qL, .ref qM, .int (nI k), .int (nI now)])), (aB, xB cy 6 (fun j => some (ab j)))]) [0, 1] rfl
  have hD := hD.sub (ws' := [(a4, .inr (4, [.ref aB, .ref o2, .ref o3, .ref oA, .ref oB, .ref oC, .ref qL, .ref qM, .int (nI k), .int (nI now)])), (aB, xB cy 6 (fun j => some (ab j)))]) [0, 1] (by decide) rfl
  exact kout () _ _ _ _ _ _ _ _ _ hce hcv hcl hP hD hS (Nat.le_of_ble_eq_true rfl) (Nat.le_of_ble_eq_true rfl)
set_option maxHeartbeats 4000000 in
set_option maxRecDepth 100000 in
theorem c_commonT (l : Launch) (hlf : l.stackTraces = false) (D : va_G) (cy : Nat → ClassId) (t0 : Nat) (a4 aB o2 o3 oA oB oC qL qM k now : Nat) (ab : Nat → Nat) (p0 p1 : Int32) (hbi : p0 < 0 ∨ nI 6 ≤ p0) : xT (S := Unit) l yX4_common wsX4_common ({ frames := 7, cells := 1, slots := 6, locals := 104 } : Room) D cy t0 ([.ref a4, .int p0, .int p1]) ([(a4, .inr (4, [.ref aB, .ref o2, .ref o3, .ref oA, .ref oB, .ref oC, .ref qL, .ref qM, .int (nI k), .int (nI now)])), (aB, xB cy 6 (fun j => some (ab j)))]) xIO (fun _ => [(a4, .inr (4, [.ref aB, .ref o2, .ref o3, .ref oA, .ref oB, .ref oC, .ref qL, .ref qM, .int (nI k), .int (nI now)])), (aB, xB cy 6 (fun j => some (ab j)))]) 1 6 := by
  refine xofT (cc := cX4_common) (maxL := 6) (ret := (some .int)) (by decide) rfl (Nat.le_of_ble_eq_true rfl) ?_
  intro p e s m below meth c Q A ls hx hb hml hts hown hE hA H locs hP hD hl hS htab hlocks hQ kout
  have hl : lv_has ls 6 [(0, .ref a4), (1, .int p0), (2, .int p1)] := hl
  refine lv_aload_n hx hb dX4_common_0 rfl (lv_at hl 0 rfl) ?_
  refine lv_aload_n hx hb dX4_common_1 rfl (lv_at hl 0 rfl) ?_
  refine lv_iload_n hx hb dX4_common_2 rfl (lv_at hl 1 rfl) ?_
  refine xcT (wr := []) (vx_runV (As := [.int p0]) (rest := [.ref a4]) ⟨hx, hb, hml, hown, hts⟩ ((c_needT l hlf D cy t0 a4 aB o2 o3 oA oB oC qL qM k now ab p0 hbi) H.size) (cwV 1 hts gX4_common_X4_need rfl rfl rfl (by decide +kernel) ⟨Nat.le_of_ble_eq_true rfl, Nat.le_of_ble_eq_true rfl⟩) (xPw.giveV (wc := [(a4, .inr (4, [.ref aB, .ref o2, .ref o3, .ref oA, .ref oB, .ref oC, .ref qL, .ref qM, .int (nI k), .int (nI now)])), (aB, xB cy 6 (fun j => some (ab j)))]) hE hS hA hP hD [0, 1] (by decide) rfl 0 4 rfl rfl) rfl rfl hl.1 rfl (lv_room (Nat.le_of_ble_eq_true rfl)) dX4_common_3 ⟨Nat.le_of_ble_eq_true rfl, Nat.le_of_ble_eq_true rfl⟩) hP hD hS hA [0, 1] [] rfl rfl (by decide) (by decide) (fun u q ce H locs hP hD hS hce hcv hcl => ?_)
  have hP : xP D [(a4, .inr (4, [.ref aB, .ref o2, .ref o3, .ref oA, .ref oB, .ref oC, .ref qL, .ref qM, .int (nI k), .int (nI now)])), (aB, xB cy 6 (fun j => some (ab j)))] H := hP
  have hD : va_D A [(a4, .inr (4, [.ref aB, .ref o2, .ref o3, .ref oA, .ref oB, .ref oC, .ref qL, .ref qM, .int (nI k), .int (nI now)])), (aB, xB cy 6 (fun j => some (ab j)))] := hD
  have hP := hP.sub (ws' := [(a4, .inr (4, [.ref aB, .ref o2, .ref o3, .ref oA, .ref oB, .ref oC, .ref qL, .ref qM, .int (nI k), .int (nI now)])), (aB, xB cy 6 (fun j => some (ab j)))]) [0, 1] rfl
  have hD := hD.sub (ws' := [(a4, .inr (4, [.ref aB, .ref o2, .ref o3, .ref oA, .ref oB, .ref oC, .ref qL, .ref qM, .int (nI k), .int (nI now)])), (aB, xB cy 6 (fun j => some (ab j)))]) [0, 1] (by decide) rfl
  exact kout () _ _ _ _ _ _ _ _ _ hce hcv hcl hP hD hS (Nat.le_of_ble_eq_true rfl) (Nat.le_of_ble_eq_true rfl)
set_option maxHeartbeats 4000000 in
set_option maxRecDepth 100000 in
theorem c_withoutT (l : Launch) (hlf : l.stackTraces = false) (D : va_G) (cy : Nat → ClassId) (t0 : Nat) (a4 aB o2 o3 oA oB oC qL qM k now : Nat) (ab : Nat → Nat) (p0 p1 : Int32) (hbi : p0 < 0 ∨ nI 6 ≤ p0) : xT (S := Unit) l yX4_without wsX4_without ({ frames := 7, cells := 1, slots := 6, locals := 104 } : Room) D cy t0 ([.ref a4, .int p0, .int p1]) ([(a4, .inr (4, [.ref aB, .ref o2, .ref o3, .ref oA, .ref oB, .ref oC, .ref qL, .ref qM, .int (nI k), .int (nI now)])), (aB, xB cy 6 (fun j => some (ab j)))]) xIO (fun _ => [(a4, .inr (4, [.ref aB, .ref o2, .ref o3, .ref oA, .ref oB, .ref oC, .ref qL, .ref qM, .int (nI k), .int (nI now)])), (aB, xB cy 6 (fun j => some (ab j)))]) 1 6 := by
  refine xofT (cc := cX4_without) (maxL := 5) (ret := (some .int)) (by decide) rfl (Nat.le_of_ble_eq_true rfl) ?_
  intro p e s m below meth c Q A ls hx hb hml hts hown hE hA H locs hP hD hl hS htab hlocks hQ kout
  have hl : lv_has ls 5 [(0, .ref a4), (1, .int p0), (2, .int p1)] := hl
  refine lv_aload_n hx hb dX4_without_0 rfl (lv_at hl 0 rfl) ?_
  refine lv_aload_n hx hb dX4_without_1 rfl (lv_at hl 0 rfl) ?_
  refine lv_iload_n hx hb dX4_without_2 rfl (lv_at hl 1 rfl) ?_
  refine xcT (wr := []) (vx_runV (As := [.int p0]) (rest := [.ref a4]) ⟨hx, hb, hml, hown, hts⟩ ((c_needT l hlf D cy t0 a4 aB o2 o3 oA oB oC qL qM k now ab p0 hbi) H.size) (cwV 1 hts gX4_without_X4_need rfl rfl rfl (by decide +kernel) ⟨Nat.le_of_ble_eq_true rfl, Nat.le_of_ble_eq_true rfl⟩) (xPw.giveV (wc := [(a4, .inr (4, [.ref aB, .ref o2, .ref o3, .ref oA, .ref oB, .ref oC, .ref qL, .ref qM, .int (nI k), .int (nI now)])), (aB, xB cy 6 (fun j => some (ab j)))]) hE hS hA hP hD [0, 1] (by decide) rfl 0 4 rfl rfl) rfl rfl hl.1 rfl (lv_room (Nat.le_of_ble_eq_true rfl)) dX4_without_3 ⟨Nat.le_of_ble_eq_true rfl, Nat.le_of_ble_eq_true rfl⟩) hP hD hS hA [0, 1] [] rfl rfl (by decide) (by decide) (fun u q ce H locs hP hD hS hce hcv hcl => ?_)
  have hP : xP D [(a4, .inr (4, [.ref aB, .ref o2, .ref o3, .ref oA, .ref oB, .ref oC, .ref qL, .ref qM, .int (nI k), .int (nI now)])), (aB, xB cy 6 (fun j => some (ab j)))] H := hP
  have hD : va_D A [(a4, .inr (4, [.ref aB, .ref o2, .ref o3, .ref oA, .ref oB, .ref oC, .ref qL, .ref qM, .int (nI k), .int (nI now)])), (aB, xB cy 6 (fun j => some (ab j)))] := hD
  have hP := hP.sub (ws' := [(a4, .inr (4, [.ref aB, .ref o2, .ref o3, .ref oA, .ref oB, .ref oC, .ref qL, .ref qM, .int (nI k), .int (nI now)])), (aB, xB cy 6 (fun j => some (ab j)))]) [0, 1] rfl
  have hD := hD.sub (ws' := [(a4, .inr (4, [.ref aB, .ref o2, .ref o3, .ref oA, .ref oB, .ref oC, .ref qL, .ref qM, .int (nI k), .int (nI now)])), (aB, xB cy 6 (fun j => some (ab j)))]) [0, 1] (by decide) rfl
  exact kout () _ _ _ _ _ _ _ _ _ hce hcv hcl hP hD hS (Nat.le_of_ble_eq_true rfl) (Nat.le_of_ble_eq_true rfl)
set_option maxHeartbeats 4000000 in
set_option maxRecDepth 100000 in
theorem c_mergeU (l : Launch) (hlf : l.stackTraces = false) (D : va_G) (cy : Nat → ClassId) (t0 : Nat) (a4 aB o2 o3 oA oB oC qL qM k now : Nat) (ab : Nat → Nat) (b : Nat) (p1 : Int32) (hb6 : b < 6) (hbi : p1 < 0 ∨ nI 6 ≤ p1) : xT (S := Unit) l yX4_merge wsX4_merge ({ frames := 7, cells := 1, slots := 6, locals := 104 } : Room) D cy t0 ([.ref a4, .int (nI b), .int p1]) ([(a4, .inr (4, [.ref aB, .ref o2, .ref o3, .ref oA, .ref oB, .ref oC, .ref qL, .ref qM, .int (nI k), .int (nI now)])), (aB, xB cy 6 (fun j => some (ab j)))]) xIO (fun _ => [(a4, .inr (4, [.ref aB, .ref o2, .ref o3, .ref oA, .ref oB, .ref oC, .ref qL, .ref qM, .int (nI k), .int (nI now)])), (aB, xB cy 6 (fun j => some (ab j)))]) 1 6 := by
  refine xofT (cc := cX4_merge) (maxL := 5) (ret := (some .int)) (by decide) rfl (Nat.le_of_ble_eq_true rfl) ?_
  intro p e s m below meth c Q A ls hx hb hml hts hown hE hA H locs hP hD hl hS htab hlocks hQ kout
  have hl : lv_has ls 5 [(0, .ref a4), (1, .int (nI b)), (2, .int p1)] := hl
  refine lv_aload_n hx hb dX4_merge_0 rfl (lv_at hl 0 rfl) ?_
  refine lv_iload_n hx hb dX4_merge_1 rfl (lv_at hl 1 rfl) ?_
  refine xcRa (va_runV (As := [.int (nI b)]) (rest := []) ⟨hx, hb, hml, hown, hts⟩ (c_need l D cy t0 a4 aB o2 o3 oA oB oC qL qM k now ab b hb6) (cwV 1 hts gX4_merge_X4_need rfl rfl rfl (by decide +kernel) ⟨Nat.le_of_ble_eq_true rfl, Nat.le_of_ble_eq_true rfl⟩) (xPr.giveV (wc := [(a4, .inr (4, [.ref aB, .ref o2, .ref o3, .ref oA, .ref oB, .ref oC, .ref qL, .ref qM, .int (nI k), .int (nI now)])), (aB, xB cy 6 (fun j => some (ab j)))]) hE hS hP [0, 1] rfl 0 4 rfl rfl) rfl rfl hl.1 rfl (lv_room (Nat.le_of_ble_eq_true rfl)) dX4_merge_2 ⟨(Nat.zero_le _), (Nat.zero_le _)⟩) (fun r9 hr_1 => ?_)
  obtain rfl : r9 = ab b := hr_1
  refine lv_astore_n (lv' := [(3, .ref (ab b)), (0, .ref a4), (1, .int (nI b)), (2, .int p1)]) hx hb dX4_merge_5 rfl hl (by decide) rfl (fun ls hl => ?_)
  refine lv_aload_n hx hb dX4_merge_6 rfl (lv_at hl 1 rfl) ?_
  refine lv_iload_n hx hb dX4_merge_7 rfl (lv_at hl 3 rfl) ?_
  refine xcT (wr := []) (vx_runV (As := [.int p1]) (rest := []) ⟨hx, hb, hml, hown, hts⟩ ((c_needT l hlf D cy t0 a4 aB o2 o3 oA oB oC qL qM k now ab p1 hbi) H.size) (cwV 1 hts gX4_merge_X4_need rfl rfl rfl (by decide +kernel) ⟨Nat.le_of_ble_eq_true rfl, Nat.le_of_ble_eq_true rfl⟩) (xPw.giveV (wc := [(a4, .inr (4, [.ref aB, .ref o2, .ref o3, .ref oA, .ref oB, .ref oC, .ref qL, .ref qM, .int (nI k), .int (nI now)])), (aB, xB cy 6 (fun j => some (ab j)))]) hE hS hA hP hD [0, 1] (by decide) rfl 0 4 rfl rfl) rfl rfl hl.1 rfl (lv_room (Nat.le_of_ble_eq_true rfl)) dX4_merge_8 ⟨Nat.le_of_ble_eq_true rfl, Nat.le_of_ble_eq_true rfl⟩) hP hD hS hA [0, 1] [] rfl rfl (by decide) (by decide) (fun u q ce H locs hP hD hS hce hcv hcl => ?_)
  have hP : xP D [(a4, .inr (4, [.ref aB, .ref o2, .ref o3, .ref oA, .ref oB, .ref oC, .ref qL, .ref qM, .int (nI k), .int (nI now)])), (aB, xB cy 6 (fun j => some (ab j)))] H := hP
  have hD : va_D A [(a4, .inr (4, [.ref aB, .ref o2, .ref o3, .ref oA, .ref oB, .ref oC, .ref qL, .ref qM, .int (nI k), .int (nI now)])), (aB, xB cy 6 (fun j => some (ab j)))] := hD
  have hP := hP.sub (ws' := [(a4, .inr (4, [.ref aB, .ref o2, .ref o3, .ref oA, .ref oB, .ref oC, .ref qL, .ref qM, .int (nI k), .int (nI now)])), (aB, xB cy 6 (fun j => some (ab j)))]) [0, 1] rfl
  have hD := hD.sub (ws' := [(a4, .inr (4, [.ref aB, .ref o2, .ref o3, .ref oA, .ref oB, .ref oC, .ref qL, .ref qM, .int (nI k), .int (nI now)])), (aB, xB cy 6 (fun j => some (ab j)))]) [0, 1] (by decide) rfl
  exact kout () _ _ _ _ _ _ _ _ _ hce hcv hcl hP hD hS (Nat.le_of_ble_eq_true rfl) (Nat.le_of_ble_eq_true rfl)
set_option maxHeartbeats 4000000 in
set_option maxRecDepth 100000 in
theorem c_plainCommonU (l : Launch) (hlf : l.stackTraces = false) (D : va_G) (cy : Nat → ClassId) (t0 : Nat) (a4 aB o2 o3 oA oB oC qL qM k now : Nat) (ab : Nat → Nat) (b : Nat) (p1 : Int32) (hb6 : b < 6) (hbi : p1 < 0 ∨ nI 6 ≤ p1) : xT (S := Unit) l yX4_plainCommon wsX4_plainCommon ({ frames := 7, cells := 1, slots := 6, locals := 104 } : Room) D cy t0 ([.ref a4, .int (nI b), .int p1]) ([(a4, .inr (4, [.ref aB, .ref o2, .ref o3, .ref oA, .ref oB, .ref oC, .ref qL, .ref qM, .int (nI k), .int (nI now)])), (aB, xB cy 6 (fun j => some (ab j)))]) xIO (fun _ => [(a4, .inr (4, [.ref aB, .ref o2, .ref o3, .ref oA, .ref oB, .ref oC, .ref qL, .ref qM, .int (nI k), .int (nI now)])), (aB, xB cy 6 (fun j => some (ab j)))]) 1 6 := by
  refine xofT (cc := cX4_plainCommon) (maxL := 5) (ret := (some .int)) (by decide) rfl (Nat.le_of_ble_eq_true rfl) ?_
  intro p e s m below meth c Q A ls hx hb hml hts hown hE hA H locs hP hD hl hS htab hlocks hQ kout
  have hl : lv_has ls 5 [(0, .ref a4), (1, .int (nI b)), (2, .int p1)] := hl
  refine lv_aload_n hx hb dX4_plainCommon_0 rfl (lv_at hl 0 rfl) ?_
  refine lv_iload_n hx hb dX4_plainCommon_1 rfl (lv_at hl 1 rfl) ?_
  refine xcRa (va_runV (As := [.int (nI b)]) (rest := []) ⟨hx, hb, hml, hown, hts⟩ (c_need l D cy t0 a4 aB o2 o3 oA oB oC qL qM k now ab b hb6) (cwV 1 hts gX4_plainCommon_X4_need rfl rfl rfl (by decide +kernel) ⟨Nat.le_of_ble_eq_true rfl, Nat.le_of_ble_eq_true rfl⟩) (xPr.giveV (wc := [(a4, .inr (4, [.ref aB, .ref o2, .ref o3, .ref oA, .ref oB, .ref oC, .ref qL, .ref qM, .int (nI k), .int (nI now)])), (aB, xB cy 6 (fun j => some (ab j)))]) hE hS hP [0, 1] rfl 0 4 rfl rfl) rfl rfl hl.1 rfl (lv_room (Nat.le_of_ble_eq_true rfl)) dX4_plainCommon_2 ⟨(Nat.zero_le _), (Nat.zero_le _)⟩) (fun r9 hr_1 => ?_)
  obtain rfl : r9 = ab b := hr_1
  refine lv_astore_n (lv' := [(3, .ref (ab b)), (0, .ref a4), (1, .int (nI b)), (2, .int p1)]) hx hb dX4_plainCommon_5 rfl hl (by decide) rfl (fun ls hl => ?_)
  refine lv_aload_n hx hb dX4_plainCommon_6 rfl (lv_at hl 1 rfl) ?_
  refine lv_iload_n hx hb dX4_plainCommon_7 rfl (lv_at hl 3 rfl) ?_
  refine xcT (wr := []) (vx_runV (As := [.int p1]) (rest := []) ⟨hx, hb, hml, hown, hts⟩ ((c_needT l hlf D cy t0 a4 aB o2 o3 oA oB oC qL qM k now ab p1 hbi) H.size) (cwV 1 hts gX4_plainCommon_X4_need rfl rfl rfl (by decide +kernel) ⟨Nat.le_of_ble_eq_true rfl, Nat.le_of_ble_eq_true rfl⟩) (xPw.giveV (wc := [(a4, .inr (4, [.ref aB, .ref o2, .ref o3, .ref oA, .ref oB, .ref oC, .ref qL, .ref qM, .int (nI k), .int (nI now)])), (aB, xB cy 6 (fun j => some (ab j)))]) hE hS hA hP hD [0, 1] (by decide) rfl 0 4 rfl rfl) rfl rfl hl.1 rfl (lv_room (Nat.le_of_ble_eq_true rfl)) dX4_plainCommon_8 ⟨Nat.le_of_ble_eq_true rfl, Nat.le_of_ble_eq_true rfl⟩) hP hD hS hA [0, 1] [] rfl rfl (by decide) (by decide) (fun u q ce H locs hP hD hS hce hcv hcl => ?_)
  have hP : xP D [(a4, .inr (4, [.ref aB, .ref o2, .ref o3, .ref oA, .ref oB, .ref oC, .ref qL, .ref qM, .int (nI k), .int (nI now)])), (aB, xB cy 6 (fun j => some (ab j)))] H := hP
  have hD : va_D A [(a4, .inr (4, [.ref aB, .ref o2, .ref o3, .ref oA, .ref oB, .ref oC, .ref qL, .ref qM, .int (nI k), .int (nI now)])), (aB, xB cy 6 (fun j => some (ab j)))] := hD
  have hP := hP.sub (ws' := [(a4, .inr (4, [.ref aB, .ref o2, .ref o3, .ref oA, .ref oB, .ref oC, .ref qL, .ref qM, .int (nI k), .int (nI now)])), (aB, xB cy 6 (fun j => some (ab j)))]) [0, 1] rfl
  have hD := hD.sub (ws' := [(a4, .inr (4, [.ref aB, .ref o2, .ref o3, .ref oA, .ref oB, .ref oC, .ref qL, .ref qM, .int (nI k), .int (nI now)])), (aB, xB cy 6 (fun j => some (ab j)))]) [0, 1] (by decide) rfl
  exact kout () _ _ _ _ _ _ _ _ _ hce hcv hcl hP hD hS (Nat.le_of_ble_eq_true rfl) (Nat.le_of_ble_eq_true rfl)
set_option maxHeartbeats 4000000 in
set_option maxRecDepth 100000 in
theorem c_togetherU (l : Launch) (hlf : l.stackTraces = false) (D : va_G) (cy : Nat → ClassId) (t0 : Nat) (a4 aB o2 o3 oA oB oC qL qM k now : Nat) (ab : Nat → Nat) (b : Nat) (p1 : Int32) (hb6 : b < 6) (hbi : p1 < 0 ∨ nI 6 ≤ p1) : xT (S := Unit) l yX4_together wsX4_together ({ frames := 7, cells := 1, slots := 6, locals := 104 } : Room) D cy t0 ([.ref a4, .int (nI b), .int p1]) ([(a4, .inr (4, [.ref aB, .ref o2, .ref o3, .ref oA, .ref oB, .ref oC, .ref qL, .ref qM, .int (nI k), .int (nI now)])), (aB, xB cy 6 (fun j => some (ab j)))]) xIO (fun _ => [(a4, .inr (4, [.ref aB, .ref o2, .ref o3, .ref oA, .ref oB, .ref oC, .ref qL, .ref qM, .int (nI k), .int (nI now)])), (aB, xB cy 6 (fun j => some (ab j)))]) 1 6 := by
  refine xofT (cc := cX4_together) (maxL := 3) (ret := (some .int)) (by decide) rfl (Nat.le_of_ble_eq_true rfl) ?_
  intro p e s m below meth c Q A ls hx hb hml hts hown hE hA H locs hP hD hl hS htab hlocks hQ kout
  have hl : lv_has ls 3 [(0, .ref a4), (1, .int (nI b)), (2, .int p1)] := hl
  refine lv_aload_n hx hb dX4_together_0 rfl (lv_at hl 0 rfl) ?_
  refine lv_aload_n hx hb dX4_together_1 rfl (lv_at hl 0 rfl) ?_
  refine lv_iload_n hx hb dX4_together_2 rfl (lv_at hl 1 rfl) ?_
  refine xcRa (va_runV (As := [.int (nI b)]) (rest := [.ref a4]) ⟨hx, hb, hml, hown, hts⟩ (c_need l D cy t0 a4 aB o2 o3 oA oB oC qL qM k now ab b hb6) (cwV 1 hts gX4_together_X4_need rfl rfl rfl (by decide +kernel) ⟨Nat.le_of_ble_eq_true rfl, Nat.le_of_ble_eq_true rfl⟩) (xPr.giveV (wc := [(a4, .inr (4, [.ref aB, .ref o2, .ref o3, .ref oA, .ref oB, .ref oC, .ref qL, .ref qM, .int (nI k), .int (nI now)])), (aB, xB cy 6 (fun j => some (ab j)))]) hE hS hP [0, 1] rfl 0 4 rfl rfl) rfl rfl hl.1 rfl (lv_room (Nat.le_of_ble_eq_true rfl)) dX4_together_3 ⟨(Nat.zero_le _), (Nat.zero_le _)⟩) (fun r9 hr_1 => ?_)
  obtain rfl : r9 = ab b := hr_1
  refine lv_aload_n hx hb dX4_together_6 rfl (lv_at hl 0 rfl) ?_
  refine lv_iload_n hx hb dX4_together_7 rfl (lv_at hl 2 rfl) ?_
  refine xcT (wr := []) (vx_runV (As := [.int p1]) (rest := [.ref (ab b), .ref a4]) ⟨hx, hb, hml, hown, hts⟩ ((c_needT l hlf D cy t0 a4 aB o2 o3 oA oB oC qL qM k now ab p1 hbi) H.size) (cwV 1 hts gX4_together_X4_need rfl rfl rfl (by decide +kernel) ⟨Nat.le_of_ble_eq_true rfl, Nat.le_of_ble_eq_true rfl⟩) (xPw.giveV (wc := [(a4, .inr (4, [.ref aB, .ref o2, .ref o3, .ref oA, .ref oB, .ref oC, .ref qL, .ref qM, .int (nI k), .int (nI now)])), (aB, xB cy 6 (fun j => some (ab j)))]) hE hS hA hP hD [0, 1] (by decide) rfl 0 4 rfl rfl) rfl rfl hl.1 rfl (lv_room (Nat.le_of_ble_eq_true rfl)) dX4_together_8 ⟨Nat.le_of_ble_eq_true rfl, Nat.le_of_ble_eq_true rfl⟩) hP hD hS hA [0, 1] [] rfl rfl (by decide) (by decide) (fun u q ce H locs hP hD hS hce hcv hcl => ?_)
  have hP : xP D [(a4, .inr (4, [.ref aB, .ref o2, .ref o3, .ref oA, .ref oB, .ref oC, .ref qL, .ref qM, .int (nI k), .int (nI now)])), (aB, xB cy 6 (fun j => some (ab j)))] H := hP
  have hD : va_D A [(a4, .inr (4, [.ref aB, .ref o2, .ref o3, .ref oA, .ref oB, .ref oC, .ref qL, .ref qM, .int (nI k), .int (nI now)])), (aB, xB cy 6 (fun j => some (ab j)))] := hD
  have hP := hP.sub (ws' := [(a4, .inr (4, [.ref aB, .ref o2, .ref o3, .ref oA, .ref oB, .ref oC, .ref qL, .ref qM, .int (nI k), .int (nI now)])), (aB, xB cy 6 (fun j => some (ab j)))]) [0, 1] rfl
  have hD := hD.sub (ws' := [(a4, .inr (4, [.ref aB, .ref o2, .ref o3, .ref oA, .ref oB, .ref oC, .ref qL, .ref qM, .int (nI k), .int (nI now)])), (aB, xB cy 6 (fun j => some (ab j)))]) [0, 1] (by decide) rfl
  exact kout () _ _ _ _ _ _ _ _ _ hce hcv hcl hP hD hS (Nat.le_of_ble_eq_true rfl) (Nat.le_of_ble_eq_true rfl)
set_option maxHeartbeats 4000000 in
set_option maxRecDepth 100000 in
theorem c_commonU (l : Launch) (hlf : l.stackTraces = false) (D : va_G) (cy : Nat → ClassId) (t0 : Nat) (a4 aB o2 o3 oA oB oC qL qM k now : Nat) (ab : Nat → Nat) (b : Nat) (p1 : Int32) (hb6 : b < 6) (hbi : p1 < 0 ∨ nI 6 ≤ p1) : xT (S := Unit) l yX4_common wsX4_common ({ frames := 7, cells := 1, slots := 6, locals := 104 } : Room) D cy t0 ([.ref a4, .int (nI b), .int p1]) ([(a4, .inr (4, [.ref aB, .ref o2, .ref o3, .ref oA, .ref oB, .ref oC, .ref qL, .ref qM, .int (nI k), .int (nI now)])), (aB, xB cy 6 (fun j => some (ab j)))]) xIO (fun _ => [(a4, .inr (4, [.ref aB, .ref o2, .ref o3, .ref oA, .ref oB, .ref oC, .ref qL, .ref qM, .int (nI k), .int (nI now)])), (aB, xB cy 6 (fun j => some (ab j)))]) 1 6 := by
  refine xofT (cc := cX4_common) (maxL := 6) (ret := (some .int)) (by decide) rfl (Nat.le_of_ble_eq_true rfl) ?_
  intro p e s m below meth c Q A ls hx hb hml hts hown hE hA H locs hP hD hl hS htab hlocks hQ kout
  have hl : lv_has ls 6 [(0, .ref a4), (1, .int (nI b)), (2, .int p1)] := hl
  refine lv_aload_n hx hb dX4_common_0 rfl (lv_at hl 0 rfl) ?_
  refine lv_aload_n hx hb dX4_common_1 rfl (lv_at hl 0 rfl) ?_
  refine lv_iload_n hx hb dX4_common_2 rfl (lv_at hl 1 rfl) ?_
  refine xcRa (va_runV (As := [.int (nI b)]) (rest := [.ref a4]) ⟨hx, hb, hml, hown, hts⟩ (c_need l D cy t0 a4 aB o2 o3 oA oB oC qL qM k now ab b hb6) (cwV 1 hts gX4_common_X4_need rfl rfl rfl (by decide +kernel) ⟨Nat.le_of_ble_eq_true rfl, Nat.le_of_ble_eq_true rfl⟩) (xPr.giveV (wc := [(a4, .inr (4, [.ref aB, .ref o2, .ref o3, .ref oA, .ref oB, .ref oC, .ref qL, .ref qM, .int (nI k), .int (nI now)])), (aB, xB cy 6 (fun j => some (ab j)))]) hE hS hP [0, 1] rfl 0 4 rfl rfl) rfl rfl hl.1 rfl (lv_room (Nat.le_of_ble_eq_true rfl)) dX4_common_3 ⟨(Nat.zero_le _), (Nat.zero_le _)⟩) (fun r9 hr_1 => ?_)
  obtain rfl : r9 = ab b := hr_1
  refine lv_aload_n hx hb dX4_common_6 rfl (lv_at hl 0 rfl) ?_
  refine lv_iload_n hx hb dX4_common_7 rfl (lv_at hl 2 rfl) ?_
  refine xcT (wr := []) (vx_runV (As := [.int p1]) (rest := [.ref (ab b), .ref a4]) ⟨hx, hb, hml, hown, hts⟩ ((c_needT l hlf D cy t0 a4 aB o2 o3 oA oB oC qL qM k now ab p1 hbi) H.size) (cwV 1 hts gX4_common_X4_need rfl rfl rfl (by decide +kernel) ⟨Nat.le_of_ble_eq_true rfl, Nat.le_of_ble_eq_true rfl⟩) (xPw.giveV (wc := [(a4, .inr (4, [.ref aB, .ref o2, .ref o3, .ref oA, .ref oB, .ref oC, .ref qL, .ref qM, .int (nI k), .int (nI now)])), (aB, xB cy 6 (fun j => some (ab j)))]) hE hS hA hP hD [0, 1] (by decide) rfl 0 4 rfl rfl) rfl rfl hl.1 rfl (lv_room (Nat.le_of_ble_eq_true rfl)) dX4_common_8 ⟨Nat.le_of_ble_eq_true rfl, Nat.le_of_ble_eq_true rfl⟩) hP hD hS hA [0, 1] [] rfl rfl (by decide) (by decide) (fun u q ce H locs hP hD hS hce hcv hcl => ?_)
  have hP : xP D [(a4, .inr (4, [.ref aB, .ref o2, .ref o3, .ref oA, .ref oB, .ref oC, .ref qL, .ref qM, .int (nI k), .int (nI now)])), (aB, xB cy 6 (fun j => some (ab j)))] H := hP
  have hD : va_D A [(a4, .inr (4, [.ref aB, .ref o2, .ref o3, .ref oA, .ref oB, .ref oC, .ref qL, .ref qM, .int (nI k), .int (nI now)])), (aB, xB cy 6 (fun j => some (ab j)))] := hD
  have hP := hP.sub (ws' := [(a4, .inr (4, [.ref aB, .ref o2, .ref o3, .ref oA, .ref oB, .ref oC, .ref qL, .ref qM, .int (nI k), .int (nI now)])), (aB, xB cy 6 (fun j => some (ab j)))]) [0, 1] rfl
  have hD := hD.sub (ws' := [(a4, .inr (4, [.ref aB, .ref o2, .ref o3, .ref oA, .ref oB, .ref oC, .ref qL, .ref qM, .int (nI k), .int (nI now)])), (aB, xB cy 6 (fun j => some (ab j)))]) [0, 1] (by decide) rfl
  exact kout () _ _ _ _ _ _ _ _ _ hce hcv hcl hP hD hS (Nat.le_of_ble_eq_true rfl) (Nat.le_of_ble_eq_true rfl)
set_option maxHeartbeats 4000000 in
set_option maxRecDepth 100000 in
theorem c_withoutU (l : Launch) (hlf : l.stackTraces = false) (D : va_G) (cy : Nat → ClassId) (t0 : Nat) (a4 aB o2 o3 oA oB oC qL qM k now : Nat) (ab : Nat → Nat) (b : Nat) (p1 : Int32) (hb6 : b < 6) (hbi : p1 < 0 ∨ nI 6 ≤ p1) : xT (S := Unit) l yX4_without wsX4_without ({ frames := 7, cells := 1, slots := 6, locals := 104 } : Room) D cy t0 ([.ref a4, .int (nI b), .int p1]) ([(a4, .inr (4, [.ref aB, .ref o2, .ref o3, .ref oA, .ref oB, .ref oC, .ref qL, .ref qM, .int (nI k), .int (nI now)])), (aB, xB cy 6 (fun j => some (ab j)))]) xIO (fun _ => [(a4, .inr (4, [.ref aB, .ref o2, .ref o3, .ref oA, .ref oB, .ref oC, .ref qL, .ref qM, .int (nI k), .int (nI now)])), (aB, xB cy 6 (fun j => some (ab j)))]) 1 6 := by
  refine xofT (cc := cX4_without) (maxL := 5) (ret := (some .int)) (by decide) rfl (Nat.le_of_ble_eq_true rfl) ?_
  intro p e s m below meth c Q A ls hx hb hml hts hown hE hA H locs hP hD hl hS htab hlocks hQ kout
  have hl : lv_has ls 5 [(0, .ref a4), (1, .int (nI b)), (2, .int p1)] := hl
  refine lv_aload_n hx hb dX4_without_0 rfl (lv_at hl 0 rfl) ?_
  refine lv_aload_n hx hb dX4_without_1 rfl (lv_at hl 0 rfl) ?_
  refine lv_iload_n hx hb dX4_without_2 rfl (lv_at hl 1 rfl) ?_
  refine xcRa (va_runV (As := [.int (nI b)]) (rest := [.ref a4]) ⟨hx, hb, hml, hown, hts⟩ (c_need l D cy t0 a4 aB o2 o3 oA oB oC qL qM k now ab b hb6) (cwV 1 hts gX4_without_X4_need rfl rfl rfl (by decide +kernel) ⟨Nat.le_of_ble_eq_true rfl, Nat.le_of_ble_eq_true rfl⟩) (xPr.giveV (wc := [(a4, .inr (4, [.ref aB, .ref o2, .ref o3, .ref oA, .ref oB, .ref oC, .ref qL, .ref qM, .int (nI k), .int (nI now)])), (aB, xB cy 6 (fun j => some (ab j)))]) hE hS hP [0, 1] rfl 0 4 rfl rfl) rfl rfl hl.1 rfl (lv_room (Nat.le_of_ble_eq_true rfl)) dX4_without_3 ⟨(Nat.zero_le _), (Nat.zero_le _)⟩) (fun r9 hr_1 => ?_)
  obtain rfl : r9 = ab b := hr_1
  refine lv_aload_n hx hb dX4_without_6 rfl (lv_at hl 0 rfl) ?_
  refine lv_iload_n hx hb dX4_without_7 rfl (lv_at hl 2 rfl) ?_
  refine xcT (wr := []) (vx_runV (As := [.int p1]) (rest := [.ref (ab b), .ref a4]) ⟨hx, hb, hml, hown, hts⟩ ((c_needT l hlf D cy t0 a4 aB o2 o3 oA oB oC qL qM k now ab p1 hbi) H.size) (cwV 1 hts gX4_without_X4_need rfl rfl rfl (by decide +kernel) ⟨Nat.le_of_ble_eq_true rfl, Nat.le_of_ble_eq_true rfl⟩) (xPw.giveV (wc := [(a4, .inr (4, [.ref aB, .ref o2, .ref o3, .ref oA, .ref oB, .ref oC, .ref qL, .ref qM, .int (nI k), .int (nI now)])), (aB, xB cy 6 (fun j => some (ab j)))]) hE hS hA hP hD [0, 1] (by decide) rfl 0 4 rfl rfl) rfl rfl hl.1 rfl (lv_room (Nat.le_of_ble_eq_true rfl)) dX4_without_8 ⟨Nat.le_of_ble_eq_true rfl, Nat.le_of_ble_eq_true rfl⟩) hP hD hS hA [0, 1] [] rfl rfl (by decide) (by decide) (fun u q ce H locs hP hD hS hce hcv hcl => ?_)
  have hP : xP D [(a4, .inr (4, [.ref aB, .ref o2, .ref o3, .ref oA, .ref oB, .ref oC, .ref qL, .ref qM, .int (nI k), .int (nI now)])), (aB, xB cy 6 (fun j => some (ab j)))] H := hP
  have hD : va_D A [(a4, .inr (4, [.ref aB, .ref o2, .ref o3, .ref oA, .ref oB, .ref oC, .ref qL, .ref qM, .int (nI k), .int (nI now)])), (aB, xB cy 6 (fun j => some (ab j)))] := hD
  have hP := hP.sub (ws' := [(a4, .inr (4, [.ref aB, .ref o2, .ref o3, .ref oA, .ref oB, .ref oC, .ref qL, .ref qM, .int (nI k), .int (nI now)])), (aB, xB cy 6 (fun j => some (ab j)))]) [0, 1] rfl
  have hD := hD.sub (ws' := [(a4, .inr (4, [.ref aB, .ref o2, .ref o3, .ref oA, .ref oB, .ref oC, .ref qL, .ref qM, .int (nI k), .int (nI now)])), (aB, xB cy 6 (fun j => some (ab j)))]) [0, 1] (by decide) rfl
  exact kout () _ _ _ _ _ _ _ _ _ hce hcv hcl hP hD hS (Nat.le_of_ble_eq_true rfl) (Nat.le_of_ble_eq_true rfl)
set_option maxHeartbeats 4000000 in
set_option maxRecDepth 100000 in
theorem c_addV (l : Launch) (hlf : l.stackTraces = false) (D : va_G) (cy : Nat → ClassId) (t0 : Nat) (a4 aB o2 o3 oA oB oC qL qM k now : Nat) (ab : Nat → Nat) (b : Nat) (p1 : Int32) (hb6 : b < 6) (hbad : isIt p1 = false) : xT (S := Unit) l yX4_add wsX4_add ({ frames := 7, cells := 1, slots := 6, locals := 102 } : Room) D cy t0 ([.ref a4, .int (nI b), .int p1]) ([(a4, .inr (4, [.ref aB, .ref o2, .ref o3, .ref oA, .ref oB, .ref oC, .ref qL, .ref qM, .int (nI k), .int (nI now)])), (aB, xB cy 6 (fun j => some (ab j)))]) xIA (fun _ => [(a4, .inr (4, [.ref aB, .ref o2, .ref o3, .ref oA, .ref oB, .ref oC, .ref qL, .ref qM, .int (nI k), .int (nI now)])), (aB, xB cy 6 (fun j => some (ab j)))]) 1 6 := by
  refine xofT (cc := cX4_add) (maxL := 4) (ret := (some .boolean)) (by decide) rfl (Nat.le_of_ble_eq_true rfl) ?_
  intro p e s m below meth c Q A ls hx hb hml hts hown hE hA H locs hP hD hl hS htab hlocks hQ kout
  have hl : lv_has ls 4 [(0, .ref a4), (1, .int (nI b)), (2, .int p1)] := hl
  refine lv_aload_n hx hb dX4_add_0 rfl (lv_at hl 0 rfl) ?_
  refine lv_iload_n hx hb dX4_add_1 rfl (lv_at hl 1 rfl) ?_
  refine xcRa (va_runV (As := [.int (nI b)]) (rest := []) ⟨hx, hb, hml, hown, hts⟩ (c_need l D cy t0 a4 aB o2 o3 oA oB oC qL qM k now ab b hb6) (cwV 1 hts gX4_add_X4_need rfl rfl rfl (by decide +kernel) ⟨Nat.le_of_ble_eq_true rfl, Nat.le_of_ble_eq_true rfl⟩) (xPr.giveV (wc := [(a4, .inr (4, [.ref aB, .ref o2, .ref o3, .ref oA, .ref oB, .ref oC, .ref qL, .ref qM, .int (nI k), .int (nI now)])), (aB, xB cy 6 (fun j => some (ab j)))]) hE hS hP [0, 1] rfl 0 4 rfl rfl) rfl rfl hl.1 rfl (lv_room (Nat.le_of_ble_eq_true rfl)) dX4_add_2 ⟨(Nat.zero_le _), (Nat.zero_le _)⟩) (fun r9 hr_1 => ?_)
  obtain rfl : r9 = ab b := hr_1
  refine lv_astore_n (lv' := [(3, .ref (ab b)), (0, .ref a4), (1, .int (nI b)), (2, .int p1)]) hx hb dX4_add_5 rfl hl (by decide) rfl (fun ls hl => ?_)
  refine lv_iload_n hx hb dX4_add_6 rfl (lv_at hl 3 rfl) ?_
  refine xcRi (va_runS (As := [.int p1]) (rest := []) ⟨hx, hb, hml, hown, hts⟩ (c_isItem l D cy t0 p1) (va_cwS 1 hts gX4_add_X4_isItem rfl rfl rfl (by decide +kernel) ⟨Nat.le_of_ble_eq_true rfl, Nat.le_of_ble_eq_true rfl⟩) (xPr.give (wc := []) hE hS hP [] rfl) rfl rfl hl.1 rfl (lv_room (Nat.le_of_ble_eq_true rfl)) dX4_add_7 ⟨(Nat.zero_le _), (Nat.zero_le _)⟩) (fun r_2 hr_3 => ?_)
  obtain rfl : r_2 = nI 0 := by rw [hr_3, hbad]; rfl
  refine xcT (wr := [(a4, .inr (4, [.ref aB, .ref o2, .ref o3, .ref oA, .ref oB, .ref oC, .ref qL, .ref qM, .int (nI k), .int (nI now)])), (aB, xB cy 6 (fun j => some (ab j)))]) (vx_runS (As := [.int (nI 0)]) (rest := []) ⟨hx, hb, hml, hown, hts⟩ ((c_refuseT l hlf D cy t0) H.size) (va_cwS 1 hts gX4_add_X4_refuseUnless rfl rfl rfl (by decide +kernel) ⟨Nat.le_of_ble_eq_true rfl, Nat.le_of_ble_eq_true rfl⟩) (xPw.give (wc := []) hE hS hA hP hD [] (by decide) rfl) rfl rfl hl.1 rfl (lv_room (Nat.le_of_ble_eq_true rfl)) dX4_add_10 ⟨Nat.le_of_ble_eq_true rfl, Nat.le_of_ble_eq_true rfl⟩) hP hD hS hA [] [0, 1] rfl rfl (by decide) (by decide) (fun u q ce H locs hP hD hS hce hcv hcl => ?_)
  have hP : xP D [(a4, .inr (4, [.ref aB, .ref o2, .ref o3, .ref oA, .ref oB, .ref oC, .ref qL, .ref qM, .int (nI k), .int (nI now)])), (aB, xB cy 6 (fun j => some (ab j)))] H := hP
  have hD : va_D A [(a4, .inr (4, [.ref aB, .ref o2, .ref o3, .ref oA, .ref oB, .ref oC, .ref qL, .ref qM, .int (nI k), .int (nI now)])), (aB, xB cy 6 (fun j => some (ab j)))] := hD
  have hP := hP.sub (ws' := [(a4, .inr (4, [.ref aB, .ref o2, .ref o3, .ref oA, .ref oB, .ref oC, .ref qL, .ref qM, .int (nI k), .int (nI now)])), (aB, xB cy 6 (fun j => some (ab j)))]) [0, 1] rfl
  have hD := hD.sub (ws' := [(a4, .inr (4, [.ref aB, .ref o2, .ref o3, .ref oA, .ref oB, .ref oC, .ref qL, .ref qM, .int (nI k), .int (nI now)])), (aB, xB cy 6 (fun j => some (ab j)))]) [0, 1] (by decide) rfl
  exact kout () _ _ _ _ _ _ _ _ _ hce hcv hcl hP hD hS (Nat.le_of_ble_eq_true rfl) (Nat.le_of_ble_eq_true rfl)
set_option maxHeartbeats 4000000 in
set_option maxRecDepth 100000 in
theorem c_dateOfV (l : Launch) (hlf : l.stackTraces = false) (D : va_G) (cy : Nat → ClassId) (t0 : Nat) (a4 aB o2 o3 oA oB oC qL qM k now : Nat) (ab : Nat → Nat) (b : Nat) (p1 : Int32) (hb6 : b < 6) (hbad : isIt p1 = false) : xT (S := Unit) l yX4_dateOf wsX4_dateOf ({ frames := 7, cells := 1, slots := 6, locals := 102 } : Room) D cy t0 ([.ref a4, .int (nI b), .int p1]) ([(a4, .inr (4, [.ref aB, .ref o2, .ref o3, .ref oA, .ref oB, .ref oC, .ref qL, .ref qM, .int (nI k), .int (nI now)])), (aB, xB cy 6 (fun j => some (ab j)))]) xIA (fun _ => [(a4, .inr (4, [.ref aB, .ref o2, .ref o3, .ref oA, .ref oB, .ref oC, .ref qL, .ref qM, .int (nI k), .int (nI now)])), (aB, xB cy 6 (fun j => some (ab j)))]) 1 6 := by
  refine xofT (cc := cX4_dateOf) (maxL := 4) (ret := (some .int)) (by decide) rfl (Nat.le_of_ble_eq_true rfl) ?_
  intro p e s m below meth c Q A ls hx hb hml hts hown hE hA H locs hP hD hl hS htab hlocks hQ kout
  have hl : lv_has ls 4 [(0, .ref a4), (1, .int (nI b)), (2, .int p1)] := hl
  refine lv_aload_n hx hb dX4_dateOf_0 rfl (lv_at hl 0 rfl) ?_
  refine lv_iload_n hx hb dX4_dateOf_1 rfl (lv_at hl 1 rfl) ?_
  refine xcRa (va_runV (As := [.int (nI b)]) (rest := []) ⟨hx, hb, hml, hown, hts⟩ (c_need l D cy t0 a4 aB o2 o3 oA oB oC qL qM k now ab b hb6) (cwV 1 hts gX4_dateOf_X4_need rfl rfl rfl (by decide +kernel) ⟨Nat.le_of_ble_eq_true rfl, Nat.le_of_ble_eq_true rfl⟩) (xPr.giveV (wc := [(a4, .inr (4, [.ref aB, .ref o2, .ref o3, .ref oA, .ref oB, .ref oC, .ref qL, .ref qM, .int (nI k), .int (nI now)])), (aB, xB cy 6 (fun j => some (ab j)))]) hE hS hP [0, 1] rfl 0 4 rfl rfl) rfl rfl hl.1 rfl (lv_room (Nat.le_of_ble_eq_true rfl)) dX4_dateOf_2 ⟨(Nat.zero_le _), (Nat.zero_le _)⟩) (fun r9 hr_1 => ?_)
  obtain rfl : r9 = ab b := hr_1
  refine lv_astore_n (lv' := [(3, .ref (ab b)), (0, .ref a4), (1, .int (nI b)), (2, .int p1)]) hx hb dX4_dateOf_5 rfl hl (by decide) rfl (fun ls hl => ?_)
  refine lv_iload_n hx hb dX4_dateOf_6 rfl (lv_at hl 3 rfl) ?_
  refine xcRi (va_runS (As := [.int p1]) (rest := []) ⟨hx, hb, hml, hown, hts⟩ (c_isItem l D cy t0 p1) (va_cwS 1 hts gX4_dateOf_X4_isItem rfl rfl rfl (by decide +kernel) ⟨Nat.le_of_ble_eq_true rfl, Nat.le_of_ble_eq_true rfl⟩) (xPr.give (wc := []) hE hS hP [] rfl) rfl rfl hl.1 rfl (lv_room (Nat.le_of_ble_eq_true rfl)) dX4_dateOf_7 ⟨(Nat.zero_le _), (Nat.zero_le _)⟩) (fun r_2 hr_3 => ?_)
  obtain rfl : r_2 = nI 0 := by rw [hr_3, hbad]; rfl
  refine xcT (wr := [(a4, .inr (4, [.ref aB, .ref o2, .ref o3, .ref oA, .ref oB, .ref oC, .ref qL, .ref qM, .int (nI k), .int (nI now)])), (aB, xB cy 6 (fun j => some (ab j)))]) (vx_runS (As := [.int (nI 0)]) (rest := []) ⟨hx, hb, hml, hown, hts⟩ ((c_refuseT l hlf D cy t0) H.size) (va_cwS 1 hts gX4_dateOf_X4_refuseUnless rfl rfl rfl (by decide +kernel) ⟨Nat.le_of_ble_eq_true rfl, Nat.le_of_ble_eq_true rfl⟩) (xPw.give (wc := []) hE hS hA hP hD [] (by decide) rfl) rfl rfl hl.1 rfl (lv_room (Nat.le_of_ble_eq_true rfl)) dX4_dateOf_10 ⟨Nat.le_of_ble_eq_true rfl, Nat.le_of_ble_eq_true rfl⟩) hP hD hS hA [] [0, 1] rfl rfl (by decide) (by decide) (fun u q ce H locs hP hD hS hce hcv hcl => ?_)
  have hP : xP D [(a4, .inr (4, [.ref aB, .ref o2, .ref o3, .ref oA, .ref oB, .ref oC, .ref qL, .ref qM, .int (nI k), .int (nI now)])), (aB, xB cy 6 (fun j => some (ab j)))] H := hP
  have hD : va_D A [(a4, .inr (4, [.ref aB, .ref o2, .ref o3, .ref oA, .ref oB, .ref oC, .ref qL, .ref qM, .int (nI k), .int (nI now)])), (aB, xB cy 6 (fun j => some (ab j)))] := hD
  have hP := hP.sub (ws' := [(a4, .inr (4, [.ref aB, .ref o2, .ref o3, .ref oA, .ref oB, .ref oC, .ref qL, .ref qM, .int (nI k), .int (nI now)])), (aB, xB cy 6 (fun j => some (ab j)))]) [0, 1] rfl
  have hD := hD.sub (ws' := [(a4, .inr (4, [.ref aB, .ref o2, .ref o3, .ref oA, .ref oB, .ref oC, .ref qL, .ref qM, .int (nI k), .int (nI now)])), (aB, xB cy 6 (fun j => some (ab j)))]) [0, 1] (by decide) rfl
  exact kout () _ _ _ _ _ _ _ _ _ hce hcv hcl hP hD hS (Nat.le_of_ble_eq_true rfl) (Nat.le_of_ble_eq_true rfl)
set_option maxHeartbeats 4000000 in
set_option maxRecDepth 100000 in
theorem c_hashV (l : Launch) (hlf : l.stackTraces = false) (D : va_G) (cy : Nat → ClassId) (t0 : Nat) (a4 aB o2 o3 oA oB oC qL qM k now : Nat) (ab : Nat → Nat) (p0 : Int32) (hbad : isIt p0 = false) : xT (S := Unit) l yX4_hash wsX4_hash ({ frames := 7, cells := 1, slots := 6, locals := 102 } : Room) D cy t0 ([.ref a4, .int p0]) ([(a4, .inr (4, [.ref aB, .ref o2, .ref o3, .ref oA, .ref oB, .ref oC, .ref qL, .ref qM, .int (nI k), .int (nI now)]))]) xIA (fun _ => [(a4, .inr (4, [.ref aB, .ref o2, .ref o3, .ref oA, .ref oB, .ref oC, .ref qL, .ref qM, .int (nI k), .int (nI now)]))]) 1 6 := by
  refine xofT (cc := cX4_hash) (maxL := 2) (ret := (some .int)) (by decide) rfl (Nat.le_of_ble_eq_true rfl) ?_
  intro p e s m below meth c Q A ls hx hb hml hts hown hE hA H locs hP hD hl hS htab hlocks hQ kout
  have hl : lv_has ls 2 [(0, .ref a4), (1, .int p0)] := hl
  refine lv_iload_n hx hb dX4_hash_0 rfl (lv_at hl 1 rfl) ?_
  refine xcRi (va_runS (As := [.int p0]) (rest := []) ⟨hx, hb, hml, hown, hts⟩ (c_isItem l D cy t0 p0) (va_cwS 1 hts gX4_hash_X4_isItem rfl rfl rfl (by decide +kernel) ⟨Nat.le_of_ble_eq_true rfl, Nat.le_of_ble_eq_true rfl⟩) (xPr.give (wc := []) hE hS hP [] rfl) rfl rfl hl.1 rfl (lv_room (Nat.le_of_ble_eq_true rfl)) dX4_hash_1 ⟨(Nat.zero_le _), (Nat.zero_le _)⟩) (fun r_1 hr_2 => ?_)
  obtain rfl : r_1 = nI 0 := by rw [hr_2, hbad]; rfl
  refine xcT (wr := [(a4, .inr (4, [.ref aB, .ref o2, .ref o3, .ref oA, .ref oB, .ref oC, .ref qL, .ref qM, .int (nI k), .int (nI now)]))]) (vx_runS (As := [.int (nI 0)]) (rest := []) ⟨hx, hb, hml, hown, hts⟩ ((c_refuseT l hlf D cy t0) H.size) (va_cwS 1 hts gX4_hash_X4_refuseUnless rfl rfl rfl (by decide +kernel) ⟨Nat.le_of_ble_eq_true rfl, Nat.le_of_ble_eq_true rfl⟩) (xPw.give (wc := []) hE hS hA hP hD [] (by decide) rfl) rfl rfl hl.1 rfl (lv_room (Nat.le_of_ble_eq_true rfl)) dX4_hash_4 ⟨Nat.le_of_ble_eq_true rfl, Nat.le_of_ble_eq_true rfl⟩) hP hD hS hA [] [0] rfl rfl (by decide) (by decide) (fun u q ce H locs hP hD hS hce hcv hcl => ?_)
  have hP : xP D [(a4, .inr (4, [.ref aB, .ref o2, .ref o3, .ref oA, .ref oB, .ref oC, .ref qL, .ref qM, .int (nI k), .int (nI now)]))] H := hP
  have hD : va_D A [(a4, .inr (4, [.ref aB, .ref o2, .ref o3, .ref oA, .ref oB, .ref oC, .ref qL, .ref qM, .int (nI k), .int (nI now)]))] := hD
  have hP := hP.sub (ws' := [(a4, .inr (4, [.ref aB, .ref o2, .ref o3, .ref oA, .ref oB, .ref oC, .ref qL, .ref qM, .int (nI k), .int (nI now)]))]) [0] rfl
  have hD := hD.sub (ws' := [(a4, .inr (4, [.ref aB, .ref o2, .ref o3, .ref oA, .ref oB, .ref oC, .ref qL, .ref qM, .int (nI k), .int (nI now)]))]) [0] (by decide) rfl
  exact kout () _ _ _ _ _ _ _ _ _ hce hcv hcl hP hD hS (Nat.le_of_ble_eq_true rfl) (Nat.le_of_ble_eq_true rfl)
set_option maxHeartbeats 4000000 in
set_option maxRecDepth 100000 in
theorem c_passV (l : Launch) (hlf : l.stackTraces = false) (D : va_G) (cy : Nat → ClassId) (t0 : Nat) (a4 aB o2 o3 oA oB oC qL qM k now : Nat) (ab : Nat → Nat) (p0 : Int32) (hbad : p0 < nI 1 ∨ nI 1000 < p0) : xT (S := Unit) l yX4_pass wsX4_pass ({ frames := 7, cells := 1, slots := 6, locals := 102 } : Room) D cy t0 ([.ref a4, .int p0]) ([(a4, .inr (4, [.ref aB, .ref o2, .ref o3, .ref oA, .ref oB, .ref oC, .ref qL, .ref qM, .int (nI k), .int (nI now)]))]) xIA (fun _ => [(a4, .inr (4, [.ref aB, .ref o2, .ref o3, .ref oA, .ref oB, .ref oC, .ref qL, .ref qM, .int (nI k), .int (nI now)]))]) 1 6 := by
  refine xofT (cc := cX4_pass) (maxL := 2) (ret := (some .int)) (by decide) rfl (Nat.le_of_ble_eq_true rfl) ?_
  intro p e s m below meth c Q A ls hx hb hml hts hown hE hA H locs hP hD hl hS htab hlocks hQ kout
  have hl : lv_has ls 2 [(0, .ref a4), (1, .int p0)] := hl
  refine lv_iload_n hx hb dX4_pass_0 rfl (lv_at hl 1 rfl) ?_
  refine lv_iconst (v := nI 1) hx hb dX4_pass_1 (by decide) ?_
  refine lv_icmp_lt (tgt := 16) hx hb dX4_pass_2 (by decide) (fun c_1 => ?_) (fun c_1 => ?_)
  · refine lv_iconst (v := nI 0) hx hb dX4_pass_16 (by decide) ?_
    refine xcT (wr := [(a4, .inr (4, [.ref aB, .ref o2, .ref o3, .ref oA, .ref oB, .ref oC, .ref qL, .ref qM, .int (nI k), .int (nI now)]))]) (vx_runS (As := [.int (nI 0)]) (rest := []) ⟨hx, hb, hml, hown, hts⟩ ((c_refuseT l hlf D cy t0) H.size) (va_cwS 1 hts gX4_pass_X4_refuseUnless rfl rfl rfl (by decide +kernel) ⟨Nat.le_of_ble_eq_true rfl, Nat.le_of_ble_eq_true rfl⟩) (xPw.give (wc := []) hE hS hA hP hD [] (by decide) rfl) rfl rfl hl.1 rfl (lv_room (Nat.le_of_ble_eq_true rfl)) dX4_pass_17 ⟨Nat.le_of_ble_eq_true rfl, Nat.le_of_ble_eq_true rfl⟩) hP hD hS hA [] [0] rfl rfl (by decide) (by decide) (fun u q ce H locs hP hD hS hce hcv hcl => ?_)
    have hP : xP D [(a4, .inr (4, [.ref aB, .ref o2, .ref o3, .ref oA, .ref oB, .ref oC, .ref qL, .ref qM, .int (nI k), .int (nI now)]))] H := hP
    have hD : va_D A [(a4, .inr (4, [.ref aB, .ref o2, .ref o3, .ref oA, .ref oB, .ref oC, .ref qL, .ref qM, .int (nI k), .int (nI now)]))] := hD
    have hP := hP.sub (ws' := [(a4, .inr (4, [.ref aB, .ref o2, .ref o3, .ref oA, .ref oB, .ref oC, .ref qL, .ref qM, .int (nI k), .int (nI now)]))]) [0] rfl
    have hD := hD.sub (ws' := [(a4, .inr (4, [.ref aB, .ref o2, .ref o3, .ref oA, .ref oB, .ref oC, .ref qL, .ref qM, .int (nI k), .int (nI now)]))]) [0] (by decide) rfl
    exact kout () _ _ _ _ _ _ _ _ _ hce hcv hcl hP hD hS (Nat.le_of_ble_eq_true rfl) (Nat.le_of_ble_eq_true rfl)
  · refine lv_iload_n hx hb dX4_pass_5 rfl (lv_at hl 1 rfl) ?_
    refine lv_sipush (v := nI 1000) hx hb dX4_pass_6 (by decide) ?_
    refine lv_icmp_gt (tgt := 16) hx hb dX4_pass_9 (by decide) (fun c_2 => ?_) (fun c_2 => ?_)
    · refine lv_iconst (v := nI 0) hx hb dX4_pass_16 (by decide) ?_
      refine xcT (wr := [(a4, .inr (4, [.ref aB, .ref o2, .ref o3, .ref oA, .ref oB, .ref oC, .ref qL, .ref qM, .int (nI k), .int (nI now)]))]) (vx_runS (As := [.int (nI 0)]) (rest := []) ⟨hx, hb, hml, hown, hts⟩ ((c_refuseT l hlf D cy t0) H.size) (va_cwS 1 hts gX4_pass_X4_refuseUnless rfl rfl rfl (by decide +kernel) ⟨Nat.le_of_ble_eq_true rfl, Nat.le_of_ble_eq_true rfl⟩) (xPw.give (wc := []) hE hS hA hP hD [] (by decide) rfl) rfl rfl hl.1 rfl (lv_room (Nat.le_of_ble_eq_true rfl)) dX4_pass_17 ⟨Nat.le_of_ble_eq_true rfl, Nat.le_of_ble_eq_true rfl⟩) hP hD hS hA [] [0] rfl rfl (by decide) (by decide) (fun u q ce H locs hP hD hS hce hcv hcl => ?_)
      have hP : xP D [(a4, .inr (4, [.ref aB, .ref o2, .ref o3, .ref oA, .ref oB, .ref oC, .ref qL, .ref qM, .int (nI k), .int (nI now)]))] H := hP
      have hD : va_D A [(a4, .inr (4, [.ref aB, .ref o2, .ref o3, .ref oA, .ref oB, .ref oC, .ref qL, .ref qM, .int (nI k), .int (nI now)]))] := hD
      have hP := hP.sub (ws' := [(a4, .inr (4, [.ref aB, .ref o2, .ref o3, .ref oA, .ref oB, .ref oC, .ref qL, .ref qM, .int (nI k), .int (nI now)]))]) [0] rfl
      have hD := hD.sub (ws' := [(a4, .inr (4, [.ref aB, .ref o2, .ref o3, .ref oA, .ref oB, .ref oC, .ref qL, .ref qM, .int (nI k), .int (nI now)]))]) [0] (by decide) rfl
      exact kout () _ _ _ _ _ _ _ _ _ hce hcv hcl hP hD hS (Nat.le_of_ble_eq_true rfl) (Nat.le_of_ble_eq_true rfl)
    · exact absurd (hbad.resolve_left c_1) c_2
set_option maxHeartbeats 4000000 in
set_option maxRecDepth 100000 in
theorem c_recentV (l : Launch) (hlf : l.stackTraces = false) (D : va_G) (cy : Nat → ClassId) (t0 : Nat) (a4 aB o2 o3 oA oB oC qL qM k now : Nat) (ab : Nat → Nat) (b : Nat) (p1 : Int32) (hb6 : b < 6) (hbad : p1 < nI 1 ∨ nI 100000 < p1) : xT (S := Unit) l yX4_recent wsX4_recent ({ frames := 7, cells := 1, slots := 6, locals := 102 } : Room) D cy t0 ([.ref a4, .int (nI b), .int p1]) ([(a4, .inr (4, [.ref aB, .ref o2, .ref o3, .ref oA, .ref oB, .ref oC, .ref qL, .ref qM, .int (nI k), .int (nI now)])), (aB, xB cy 6 (fun j => some (ab j)))]) xIA (fun _ => [(a4, .inr (4, [.ref aB, .ref o2, .ref o3, .ref oA, .ref oB, .ref oC, .ref qL, .ref qM, .int (nI k), .int (nI now)])), (aB, xB cy 6 (fun j => some (ab j)))]) 1 6 := by
  refine xofT (cc := cX4_recent) (maxL := 4) (ret := (some .long)) (by decide) rfl (Nat.le_of_ble_eq_true rfl) ?_
  intro p e s m below meth c Q A ls hx hb hml hts hown hE hA H locs hP hD hl hS htab hlocks hQ kout
  have hl : lv_has ls 4 [(0, .ref a4), (1, .int (nI b)), (2, .int p1)] := hl
  refine lv_aload_n hx hb dX4_recent_0 rfl (lv_at hl 0 rfl) ?_
  refine lv_iload_n hx hb dX4_recent_1 rfl (lv_at hl 1 rfl) ?_
  refine xcRa (va_runV (As := [.int (nI b)]) (rest := []) ⟨hx, hb, hml, hown, hts⟩ (c_need l D cy t0 a4 aB o2 o3 oA oB oC qL qM k now ab b hb6) (cwV 1 hts gX4_recent_X4_need rfl rfl rfl (by decide +kernel) ⟨Nat.le_of_ble_eq_true rfl, Nat.le_of_ble_eq_true rfl⟩) (xPr.giveV (wc := [(a4, .inr (4, [.ref aB, .ref o2, .ref o3, .ref oA, .ref oB, .ref oC, .ref qL, .ref qM, .int (nI k), .int (nI now)])), (aB, xB cy 6 (fun j => some (ab j)))]) hE hS hP [0, 1] rfl 0 4 rfl rfl) rfl rfl hl.1 rfl (lv_room (Nat.le_of_ble_eq_true rfl)) dX4_recent_2 ⟨(Nat.zero_le _), (Nat.zero_le _)⟩) (fun r9 hr_1 => ?_)
  obtain rfl : r9 = ab b := hr_1
  refine lv_astore_n (lv' := [(3, .ref (ab b)), (0, .ref a4), (1, .int (nI b)), (2, .int p1)]) hx hb dX4_recent_5 rfl hl (by decide) rfl (fun ls hl => ?_)
  refine lv_iload_n hx hb dX4_recent_6 rfl (lv_at hl 3 rfl) ?_
  refine lv_iconst (v := nI 1) hx hb dX4_recent_7 (by decide) ?_
  refine lv_icmp_lt (tgt := 21) hx hb dX4_recent_8 (by decide) (fun c_2 => ?_) (fun c_2 => ?_)
  · refine lv_iconst (v := nI 0) hx hb dX4_recent_21 (by decide) ?_
    refine xcT (wr := [(a4, .inr (4, [.ref aB, .ref o2, .ref o3, .ref oA, .ref oB, .ref oC, .ref qL, .ref qM, .int (nI k), .int (nI now)])), (aB, xB cy 6 (fun j => some (ab j)))]) (vx_runS (As := [.int (nI 0)]) (rest := []) ⟨hx, hb, hml, hown, hts⟩ ((c_refuseT l hlf D cy t0) H.size) (va_cwS 1 hts gX4_recent_X4_refuseUnless rfl rfl rfl (by decide +kernel) ⟨Nat.le_of_ble_eq_true rfl, Nat.le_of_ble_eq_true rfl⟩) (xPw.give (wc := []) hE hS hA hP hD [] (by decide) rfl) rfl rfl hl.1 rfl (lv_room (Nat.le_of_ble_eq_true rfl)) dX4_recent_22 ⟨Nat.le_of_ble_eq_true rfl, Nat.le_of_ble_eq_true rfl⟩) hP hD hS hA [] [0, 1] rfl rfl (by decide) (by decide) (fun u q ce H locs hP hD hS hce hcv hcl => ?_)
    have hP : xP D [(a4, .inr (4, [.ref aB, .ref o2, .ref o3, .ref oA, .ref oB, .ref oC, .ref qL, .ref qM, .int (nI k), .int (nI now)])), (aB, xB cy 6 (fun j => some (ab j)))] H := hP
    have hD : va_D A [(a4, .inr (4, [.ref aB, .ref o2, .ref o3, .ref oA, .ref oB, .ref oC, .ref qL, .ref qM, .int (nI k), .int (nI now)])), (aB, xB cy 6 (fun j => some (ab j)))] := hD
    have hP := hP.sub (ws' := [(a4, .inr (4, [.ref aB, .ref o2, .ref o3, .ref oA, .ref oB, .ref oC, .ref qL, .ref qM, .int (nI k), .int (nI now)])), (aB, xB cy 6 (fun j => some (ab j)))]) [0, 1] rfl
    have hD := hD.sub (ws' := [(a4, .inr (4, [.ref aB, .ref o2, .ref o3, .ref oA, .ref oB, .ref oC, .ref qL, .ref qM, .int (nI k), .int (nI now)])), (aB, xB cy 6 (fun j => some (ab j)))]) [0, 1] (by decide) rfl
    exact kout () _ _ _ _ _ _ _ _ _ hce hcv hcl hP hD hS (Nat.le_of_ble_eq_true rfl) (Nat.le_of_ble_eq_true rfl)
  · refine lv_iload_n hx hb dX4_recent_11 rfl (lv_at hl 3 rfl) ?_
    refine lv_ldc (v := nI 100000) hx hb hown (hts (.constant RX4 154 (100000)) (by decide +kernel)) dX4_recent_12 ?_
    refine lv_icmp_gt (tgt := 21) hx hb dX4_recent_14 (by decide) (fun c_3 => ?_) (fun c_3 => ?_)
    · refine lv_iconst (v := nI 0) hx hb dX4_recent_21 (by decide) ?_
      refine xcT (wr := [(a4, .inr (4, [.ref aB, .ref o2, .ref o3, .ref oA, .ref oB, .ref oC, .ref qL, .ref qM, .int (nI k), .int (nI now)])), (aB, xB cy 6 (fun j => some (ab j)))]) (vx_runS (As := [.int (nI 0)]) (rest := []) ⟨hx, hb, hml, hown, hts⟩ ((c_refuseT l hlf D cy t0) H.size) (va_cwS 1 hts gX4_recent_X4_refuseUnless rfl rfl rfl (by decide +kernel) ⟨Nat.le_of_ble_eq_true rfl, Nat.le_of_ble_eq_true rfl⟩) (xPw.give (wc := []) hE hS hA hP hD [] (by decide) rfl) rfl rfl hl.1 rfl (lv_room (Nat.le_of_ble_eq_true rfl)) dX4_recent_22 ⟨Nat.le_of_ble_eq_true rfl, Nat.le_of_ble_eq_true rfl⟩) hP hD hS hA [] [0, 1] rfl rfl (by decide) (by decide) (fun u q ce H locs hP hD hS hce hcv hcl => ?_)
      have hP : xP D [(a4, .inr (4, [.ref aB, .ref o2, .ref o3, .ref oA, .ref oB, .ref oC, .ref qL, .ref qM, .int (nI k), .int (nI now)])), (aB, xB cy 6 (fun j => some (ab j)))] H := hP
      have hD : va_D A [(a4, .inr (4, [.ref aB, .ref o2, .ref o3, .ref oA, .ref oB, .ref oC, .ref qL, .ref qM, .int (nI k), .int (nI now)])), (aB, xB cy 6 (fun j => some (ab j)))] := hD
      have hP := hP.sub (ws' := [(a4, .inr (4, [.ref aB, .ref o2, .ref o3, .ref oA, .ref oB, .ref oC, .ref qL, .ref qM, .int (nI k), .int (nI now)])), (aB, xB cy 6 (fun j => some (ab j)))]) [0, 1] rfl
      have hD := hD.sub (ws' := [(a4, .inr (4, [.ref aB, .ref o2, .ref o3, .ref oA, .ref oB, .ref oC, .ref qL, .ref qM, .int (nI k), .int (nI now)])), (aB, xB cy 6 (fun j => some (ab j)))]) [0, 1] (by decide) rfl
      exact kout () _ _ _ _ _ _ _ _ _ hce hcv hcl hP hD hS (Nat.le_of_ble_eq_true rfl) (Nat.le_of_ble_eq_true rfl)
    · exact absurd (hbad.resolve_left c_2) c_3
set_option maxHeartbeats 4000000 in
set_option maxRecDepth 100000 in
theorem c_addLineV (l : Launch) (hlf : l.stackTraces = false) (D : va_G) (cy : Nat → ClassId) (t0 : Nat) (a4 aB o2 o3 oA oB oC qL qM k now : Nat) (ab : Nat → Nat) (b : Nat) (p1 p2 p3 : Int32) (hb6 : b < 6) (hbad : lineOK p1 p2 p3 = false) : xT (S := Unit) l yX4_addLine wsX4_addLine ({ frames := 7, cells := 1, slots := 6, locals := 102 } : Room) D cy t0 ([.ref a4, .int (nI b), .int p1, .int p2, .int p3]) ([(a4, .inr (4, [.ref aB, .ref o2, .ref o3, .ref oA, .ref oB, .ref oC, .ref qL, .ref qM, .int (nI k), .int (nI now)])), (aB, xB cy 6 (fun j => some (ab j)))]) xIA (fun _ => [(a4, .inr (4, [.ref aB, .ref o2, .ref o3, .ref oA, .ref oB, .ref oC, .ref qL, .ref qM, .int (nI k), .int (nI now)])), (aB, xB cy 6 (fun j => some (ab j)))]) 1 6 := by
  refine xofT (cc := cX4_addLine) (maxL := 6) (ret := (some .int)) (by decide) rfl (Nat.le_of_ble_eq_true rfl) ?_
  intro p e s m below meth c Q A ls hx hb hml hts hown hE hA H locs hP hD hl hS htab hlocks hQ kout
  have hl : lv_has ls 6 [(0, .ref a4), (1, .int (nI b)), (2, .int p1), (3, .int p2), (4, .int p3)] := hl
  refine lv_aload_n hx hb dX4_addLine_0 rfl (lv_at hl 0 rfl) ?_
  refine lv_iload_n hx hb dX4_addLine_1 rfl (lv_at hl 1 rfl) ?_
  refine xcRa (va_runV (As := [.int (nI b)]) (rest := []) ⟨hx, hb, hml, hown, hts⟩ (c_need l D cy t0 a4 aB o2 o3 oA oB oC qL qM k now ab b hb6) (cwV 1 hts gX4_addLine_X4_need rfl rfl rfl (by decide +kernel) ⟨Nat.le_of_ble_eq_true rfl, Nat.le_of_ble_eq_true rfl⟩) (xPr.giveV (wc := [(a4, .inr (4, [.ref aB, .ref o2, .ref o3, .ref oA, .ref oB, .ref oC, .ref qL, .ref qM, .int (nI k), .int (nI now)])), (aB, xB cy 6 (fun j => some (ab j)))]) hE hS hP [0, 1] rfl 0 4 rfl rfl) rfl rfl hl.1 rfl (lv_room (Nat.le_of_ble_eq_true rfl)) dX4_addLine_2 ⟨(Nat.zero_le _), (Nat.zero_le _)⟩) (fun r9 hr_1 => ?_)
  obtain rfl : r9 = ab b := hr_1
  refine lv_astore (lv' := [(5, .ref (ab b)), (0, .ref a4), (1, .int (nI b)), (2, .int p1), (3, .int p2), (4, .int p3)]) hx hb dX4_addLine_5 hl (by decide) rfl (fun ls hl => ?_)
  refine lv_iload_n hx hb dX4_addLine_7 rfl (lv_at hl 3 rfl) ?_
  rcases Bool.eq_false_or_eq_true (isIt p1) with hit | hit
  · have h1t := hit
    refine xcRi (va_runS (As := [.int p1]) (rest := []) ⟨hx, hb, hml, hown, hts⟩ (c_isItem l D cy t0 p1) (va_cwS 1 hts gX4_addLine_X4_isItem rfl rfl rfl (by decide +kernel) ⟨Nat.le_of_ble_eq_true rfl, Nat.le_of_ble_eq_true rfl⟩) (xPr.give (wc := []) hE hS hP [] rfl) rfl rfl hl.1 rfl (lv_room (Nat.le_of_ble_eq_true rfl)) dX4_addLine_8 ⟨(Nat.zero_le _), (Nat.zero_le _)⟩) (fun r_2 hr_3 => ?_)
    obtain rfl : r_2 = nI 1 := by rw [hr_3, hit]; rfl
    refine xcRv (va_runS (As := [.int (nI 1)]) (rest := []) ⟨hx, hb, hml, hown, hts⟩ (c_refuse l D cy t0) (va_cwS 1 hts gX4_addLine_X4_refuseUnless rfl rfl rfl (by decide +kernel) ⟨Nat.le_of_ble_eq_true rfl, Nat.le_of_ble_eq_true rfl⟩) (xPr.give (wc := []) hE hS hP [] rfl) rfl rfl hl.1 rfl (lv_room (Nat.le_of_ble_eq_true rfl)) dX4_addLine_11 ⟨(Nat.zero_le _), (Nat.zero_le _)⟩) (fun hr_4 => ?_)
    refine lv_iload_n hx hb dX4_addLine_14 rfl (lv_at hl 4 rfl) ?_
    refine lv_iconst (v := nI 1) hx hb dX4_addLine_15 (by decide) ?_
    refine lv_icmp_lt (tgt := 30) hx hb dX4_addLine_16 (by decide) (fun c_5 => ?_) (fun c_5 => ?_)
    · refine lv_iconst (v := nI 0) hx hb dX4_addLine_30 (by decide) ?_
      refine xcT (wr := [(a4, .inr (4, [.ref aB, .ref o2, .ref o3, .ref oA, .ref oB, .ref oC, .ref qL, .ref qM, .int (nI k), .int (nI now)])), (aB, xB cy 6 (fun j => some (ab j)))]) (vx_runS (As := [.int (nI 0)]) (rest := []) ⟨hx, hb, hml, hown, hts⟩ ((c_refuseT l hlf D cy t0) H.size) (va_cwS 1 hts gX4_addLine_X4_refuseUnless rfl rfl rfl (by decide +kernel) ⟨Nat.le_of_ble_eq_true rfl, Nat.le_of_ble_eq_true rfl⟩) (xPw.give (wc := []) hE hS hA hP hD [] (by decide) rfl) rfl rfl hl.1 rfl (lv_room (Nat.le_of_ble_eq_true rfl)) dX4_addLine_31 ⟨Nat.le_of_ble_eq_true rfl, Nat.le_of_ble_eq_true rfl⟩) hP hD hS hA [] [0, 1] rfl rfl (by decide) (by decide) (fun u q ce H locs hP hD hS hce hcv hcl => ?_)
      have hP : xP D [(a4, .inr (4, [.ref aB, .ref o2, .ref o3, .ref oA, .ref oB, .ref oC, .ref qL, .ref qM, .int (nI k), .int (nI now)])), (aB, xB cy 6 (fun j => some (ab j)))] H := hP
      have hD : va_D A [(a4, .inr (4, [.ref aB, .ref o2, .ref o3, .ref oA, .ref oB, .ref oC, .ref qL, .ref qM, .int (nI k), .int (nI now)])), (aB, xB cy 6 (fun j => some (ab j)))] := hD
      have hP := hP.sub (ws' := [(a4, .inr (4, [.ref aB, .ref o2, .ref o3, .ref oA, .ref oB, .ref oC, .ref qL, .ref qM, .int (nI k), .int (nI now)])), (aB, xB cy 6 (fun j => some (ab j)))]) [0, 1] rfl
      have hD := hD.sub (ws' := [(a4, .inr (4, [.ref aB, .ref o2, .ref o3, .ref oA, .ref oB, .ref oC, .ref qL, .ref qM, .int (nI k), .int (nI now)])), (aB, xB cy 6 (fun j => some (ab j)))]) [0, 1] (by decide) rfl
      exact kout () _ _ _ _ _ _ _ _ _ hce hcv hcl hP hD hS (Nat.le_of_ble_eq_true rfl) (Nat.le_of_ble_eq_true rfl)
    · refine lv_iload_n hx hb dX4_addLine_19 rfl (lv_at hl 4 rfl) ?_
      refine lv_sipush (v := nI 999) hx hb dX4_addLine_20 (by decide) ?_
      refine lv_icmp_gt (tgt := 30) hx hb dX4_addLine_23 (by decide) (fun c_6 => ?_) (fun c_6 => ?_)
      · refine lv_iconst (v := nI 0) hx hb dX4_addLine_30 (by decide) ?_
        refine xcT (wr := [(a4, .inr (4, [.ref aB, .ref o2, .ref o3, .ref oA, .ref oB, .ref oC, .ref qL, .ref qM, .int (nI k), .int (nI now)])), (aB, xB cy 6 (fun j => some (ab j)))]) (vx_runS (As := [.int (nI 0)]) (rest := []) ⟨hx, hb, hml, hown, hts⟩ ((c_refuseT l hlf D cy t0) H.size) (va_cwS 1 hts gX4_addLine_X4_refuseUnless rfl rfl rfl (by decide +kernel) ⟨Nat.le_of_ble_eq_true rfl, Nat.le_of_ble_eq_true rfl⟩) (xPw.give (wc := []) hE hS hA hP hD [] (by decide) rfl) rfl rfl hl.1 rfl (lv_room (Nat.le_of_ble_eq_true rfl)) dX4_addLine_31 ⟨Nat.le_of_ble_eq_true rfl, Nat.le_of_ble_eq_true rfl⟩) hP hD hS hA [] [0, 1] rfl rfl (by decide) (by decide) (fun u q ce H locs hP hD hS hce hcv hcl => ?_)
        have hP : xP D [(a4, .inr (4, [.ref aB, .ref o2, .ref o3, .ref oA, .ref oB, .ref oC, .ref qL, .ref qM, .int (nI k), .int (nI now)])), (aB, xB cy 6 (fun j => some (ab j)))] H := hP
        have hD : va_D A [(a4, .inr (4, [.ref aB, .ref o2, .ref o3, .ref oA, .ref oB, .ref oC, .ref qL, .ref qM, .int (nI k), .int (nI now)])), (aB, xB cy 6 (fun j => some (ab j)))] := hD
        have hP := hP.sub (ws' := [(a4, .inr (4, [.ref aB, .ref o2, .ref o3, .ref oA, .ref oB, .ref oC, .ref qL, .ref qM, .int (nI k), .int (nI now)])), (aB, xB cy 6 (fun j => some (ab j)))]) [0, 1] rfl
        have hD := hD.sub (ws' := [(a4, .inr (4, [.ref aB, .ref o2, .ref o3, .ref oA, .ref oB, .ref oC, .ref qL, .ref qM, .int (nI k), .int (nI now)])), (aB, xB cy 6 (fun j => some (ab j)))]) [0, 1] (by decide) rfl
        exact kout () _ _ _ _ _ _ _ _ _ hce hcv hcl hP hD hS (Nat.le_of_ble_eq_true rfl) (Nat.le_of_ble_eq_true rfl)
      · refine lv_iconst (v := nI 1) hx hb dX4_addLine_26 (by decide) ?_
        refine lv_goto (tgt := 31) hx hb dX4_addLine_27 (by decide) ?_
        refine xcRv (va_runS (As := [.int (nI 1)]) (rest := []) ⟨hx, hb, hml, hown, hts⟩ (c_refuse l D cy t0) (va_cwS 1 hts gX4_addLine_X4_refuseUnless rfl rfl rfl (by decide +kernel) ⟨Nat.le_of_ble_eq_true rfl, Nat.le_of_ble_eq_true rfl⟩) (xPr.give (wc := []) hE hS hP [] rfl) rfl rfl hl.1 rfl (lv_room (Nat.le_of_ble_eq_true rfl)) dX4_addLine_31 ⟨(Nat.zero_le _), (Nat.zero_le _)⟩) (fun hr_7 => ?_)
        refine lv_iload hx hb dX4_addLine_34 (lv_at hl 5 rfl) ?_
        refine lv_iconst (v := nI 1) hx hb dX4_addLine_36 (by decide) ?_
        refine lv_icmp_lt (tgt := 51) hx hb dX4_addLine_37 (by decide) (fun c_8 => ?_) (fun c_8 => ?_)
        · refine lv_iconst (v := nI 0) hx hb dX4_addLine_51 (by decide) ?_
          refine xcT (wr := [(a4, .inr (4, [.ref aB, .ref o2, .ref o3, .ref oA, .ref oB, .ref oC, .ref qL, .ref qM, .int (nI k), .int (nI now)])), (aB, xB cy 6 (fun j => some (ab j)))]) (vx_runS (As := [.int (nI 0)]) (rest := []) ⟨hx, hb, hml, hown, hts⟩ ((c_refuseT l hlf D cy t0) H.size) (va_cwS 1 hts gX4_addLine_X4_refuseUnless rfl rfl rfl (by decide +kernel) ⟨Nat.le_of_ble_eq_true rfl, Nat.le_of_ble_eq_true rfl⟩) (xPw.give (wc := []) hE hS hA hP hD [] (by decide) rfl) rfl rfl hl.1 rfl (lv_room (Nat.le_of_ble_eq_true rfl)) dX4_addLine_52 ⟨Nat.le_of_ble_eq_true rfl, Nat.le_of_ble_eq_true rfl⟩) hP hD hS hA [] [0, 1] rfl rfl (by decide) (by decide) (fun u q ce H locs hP hD hS hce hcv hcl => ?_)
          have hP : xP D [(a4, .inr (4, [.ref aB, .ref o2, .ref o3, .ref oA, .ref oB, .ref oC, .ref qL, .ref qM, .int (nI k), .int (nI now)])), (aB, xB cy 6 (fun j => some (ab j)))] H := hP
          have hD : va_D A [(a4, .inr (4, [.ref aB, .ref o2, .ref o3, .ref oA, .ref oB, .ref oC, .ref qL, .ref qM, .int (nI k), .int (nI now)])), (aB, xB cy 6 (fun j => some (ab j)))] := hD
          have hP := hP.sub (ws' := [(a4, .inr (4, [.ref aB, .ref o2, .ref o3, .ref oA, .ref oB, .ref oC, .ref qL, .ref qM, .int (nI k), .int (nI now)])), (aB, xB cy 6 (fun j => some (ab j)))]) [0, 1] rfl
          have hD := hD.sub (ws' := [(a4, .inr (4, [.ref aB, .ref o2, .ref o3, .ref oA, .ref oB, .ref oC, .ref qL, .ref qM, .int (nI k), .int (nI now)])), (aB, xB cy 6 (fun j => some (ab j)))]) [0, 1] (by decide) rfl
          exact kout () _ _ _ _ _ _ _ _ _ hce hcv hcl hP hD hS (Nat.le_of_ble_eq_true rfl) (Nat.le_of_ble_eq_true rfl)
        · refine lv_iload hx hb dX4_addLine_40 (lv_at hl 5 rfl) ?_
          refine lv_bipush (v := nI 60) hx hb dX4_addLine_42 (by decide) ?_
          refine lv_icmp_gt (tgt := 51) hx hb dX4_addLine_44 (by decide) (fun c_9 => ?_) (fun c_9 => ?_)
          · refine lv_iconst (v := nI 0) hx hb dX4_addLine_51 (by decide) ?_
            refine xcT (wr := [(a4, .inr (4, [.ref aB, .ref o2, .ref o3, .ref oA, .ref oB, .ref oC, .ref qL, .ref qM, .int (nI k), .int (nI now)])), (aB, xB cy 6 (fun j => some (ab j)))]) (vx_runS (As := [.int (nI 0)]) (rest := []) ⟨hx, hb, hml, hown, hts⟩ ((c_refuseT l hlf D cy t0) H.size) (va_cwS 1 hts gX4_addLine_X4_refuseUnless rfl rfl rfl (by decide +kernel) ⟨Nat.le_of_ble_eq_true rfl, Nat.le_of_ble_eq_true rfl⟩) (xPw.give (wc := []) hE hS hA hP hD [] (by decide) rfl) rfl rfl hl.1 rfl (lv_room (Nat.le_of_ble_eq_true rfl)) dX4_addLine_52 ⟨Nat.le_of_ble_eq_true rfl, Nat.le_of_ble_eq_true rfl⟩) hP hD hS hA [] [0, 1] rfl rfl (by decide) (by decide) (fun u q ce H locs hP hD hS hce hcv hcl => ?_)
            have hP : xP D [(a4, .inr (4, [.ref aB, .ref o2, .ref o3, .ref oA, .ref oB, .ref oC, .ref qL, .ref qM, .int (nI k), .int (nI now)])), (aB, xB cy 6 (fun j => some (ab j)))] H := hP
            have hD : va_D A [(a4, .inr (4, [.ref aB, .ref o2, .ref o3, .ref oA, .ref oB, .ref oC, .ref qL, .ref qM, .int (nI k), .int (nI now)])), (aB, xB cy 6 (fun j => some (ab j)))] := hD
            have hP := hP.sub (ws' := [(a4, .inr (4, [.ref aB, .ref o2, .ref o3, .ref oA, .ref oB, .ref oC, .ref qL, .ref qM, .int (nI k), .int (nI now)])), (aB, xB cy 6 (fun j => some (ab j)))]) [0, 1] rfl
            have hD := hD.sub (ws' := [(a4, .inr (4, [.ref aB, .ref o2, .ref o3, .ref oA, .ref oB, .ref oC, .ref qL, .ref qM, .int (nI k), .int (nI now)])), (aB, xB cy 6 (fun j => some (ab j)))]) [0, 1] (by decide) rfl
            exact kout () _ _ _ _ _ _ _ _ _ hce hcv hcl hP hD hS (Nat.le_of_ble_eq_true rfl) (Nat.le_of_ble_eq_true rfl)
          · refine lv_iconst (v := nI 1) hx hb dX4_addLine_47 (by decide) ?_
            refine lv_goto (tgt := 52) hx hb dX4_addLine_48 (by decide) ?_
            refine xcRv (va_runS (As := [.int (nI 1)]) (rest := []) ⟨hx, hb, hml, hown, hts⟩ (c_refuse l D cy t0) (va_cwS 1 hts gX4_addLine_X4_refuseUnless rfl rfl rfl (by decide +kernel) ⟨Nat.le_of_ble_eq_true rfl, Nat.le_of_ble_eq_true rfl⟩) (xPr.give (wc := []) hE hS hP [] rfl) rfl rfl hl.1 rfl (lv_room (Nat.le_of_ble_eq_true rfl)) dX4_addLine_52 ⟨(Nat.zero_le _), (Nat.zero_le _)⟩) (fun hr_10 => ?_)
            refine lv_iload_n hx hb dX4_addLine_55 rfl (lv_at hl 3 rfl) ?_
            refine lv_iload_n hx hb dX4_addLine_56 rfl (lv_at hl 4 rfl) ?_
            refine lv_iload hx hb dX4_addLine_57 (lv_at hl 5 rfl) ?_
            refine lv_iconst (v := nI 1) hx hb dX4_addLine_59 (by decide) ?_
            refine lv_isub hx hb dX4_addLine_60 ?_
            refine lv_imul hx hb dX4_addLine_61 ?_
            refine lv_iadd hx hb dX4_addLine_62 ?_
            refine xcRi (va_runS (As := [.int (p1 + (p2 * (p3 - (nI 1))))]) (rest := []) ⟨hx, hb, hml, hown, hts⟩ (c_isItem l D cy t0 (p1 + p2 * (p3 - nI 1))) (va_cwS 1 hts gX4_addLine_X4_isItem rfl rfl rfl (by decide +kernel) ⟨Nat.le_of_ble_eq_true rfl, Nat.le_of_ble_eq_true rfl⟩) (xPr.give (wc := []) hE hS hP [] rfl) rfl rfl hl.1 rfl (lv_room (Nat.le_of_ble_eq_true rfl)) dX4_addLine_63 ⟨(Nat.zero_le _), (Nat.zero_le _)⟩) (fun r_11 hr_12 => ?_)
            obtain rfl : r_11 = nI 0 := by rw [hr_12, (line_last hbad h1t c_5 c_6 c_8 c_9)]; rfl
            refine xcT (wr := [(a4, .inr (4, [.ref aB, .ref o2, .ref o3, .ref oA, .ref oB, .ref oC, .ref qL, .ref qM, .int (nI k), .int (nI now)])), (aB, xB cy 6 (fun j => some (ab j)))]) (vx_runS (As := [.int (nI 0)]) (rest := []) ⟨hx, hb, hml, hown, hts⟩ ((c_refuseT l hlf D cy t0) H.size) (va_cwS 1 hts gX4_addLine_X4_refuseUnless rfl rfl rfl (by decide +kernel) ⟨Nat.le_of_ble_eq_true rfl, Nat.le_of_ble_eq_true rfl⟩) (xPw.give (wc := []) hE hS hA hP hD [] (by decide) rfl) rfl rfl hl.1 rfl (lv_room (Nat.le_of_ble_eq_true rfl)) dX4_addLine_66 ⟨Nat.le_of_ble_eq_true rfl, Nat.le_of_ble_eq_true rfl⟩) hP hD hS hA [] [0, 1] rfl rfl (by decide) (by decide) (fun u q ce H locs hP hD hS hce hcv hcl => ?_)
            have hP : xP D [(a4, .inr (4, [.ref aB, .ref o2, .ref o3, .ref oA, .ref oB, .ref oC, .ref qL, .ref qM, .int (nI k), .int (nI now)])), (aB, xB cy 6 (fun j => some (ab j)))] H := hP
            have hD : va_D A [(a4, .inr (4, [.ref aB, .ref o2, .ref o3, .ref oA, .ref oB, .ref oC, .ref qL, .ref qM, .int (nI k), .int (nI now)])), (aB, xB cy 6 (fun j => some (ab j)))] := hD
            have hP := hP.sub (ws' := [(a4, .inr (4, [.ref aB, .ref o2, .ref o3, .ref oA, .ref oB, .ref oC, .ref qL, .ref qM, .int (nI k), .int (nI now)])), (aB, xB cy 6 (fun j => some (ab j)))]) [0, 1] rfl
            have hD := hD.sub (ws' := [(a4, .inr (4, [.ref aB, .ref o2, .ref o3, .ref oA, .ref oB, .ref oC, .ref qL, .ref qM, .int (nI k), .int (nI now)])), (aB, xB cy 6 (fun j => some (ab j)))]) [0, 1] (by decide) rfl
            exact kout () _ _ _ _ _ _ _ _ _ hce hcv hcl hP hD hS (Nat.le_of_ble_eq_true rfl) (Nat.le_of_ble_eq_true rfl)
  · have h1f := hit
    refine xcRi (va_runS (As := [.int p1]) (rest := []) ⟨hx, hb, hml, hown, hts⟩ (c_isItem l D cy t0 p1) (va_cwS 1 hts gX4_addLine_X4_isItem rfl rfl rfl (by decide +kernel) ⟨Nat.le_of_ble_eq_true rfl, Nat.le_of_ble_eq_true rfl⟩) (xPr.give (wc := []) hE hS hP [] rfl) rfl rfl hl.1 rfl (lv_room (Nat.le_of_ble_eq_true rfl)) dX4_addLine_8 ⟨(Nat.zero_le _), (Nat.zero_le _)⟩) (fun r_13 hr_14 => ?_)
    obtain rfl : r_13 = nI 0 := by rw [hr_14, hit]; rfl
    refine xcT (wr := [(a4, .inr (4, [.ref aB, .ref o2, .ref o3, .ref oA, .ref oB, .ref oC, .ref qL, .ref qM, .int (nI k), .int (nI now)])), (aB, xB cy 6 (fun j => some (ab j)))]) (vx_runS (As := [.int (nI 0)]) (rest := []) ⟨hx, hb, hml, hown, hts⟩ ((c_refuseT l hlf D cy t0) H.size) (va_cwS 1 hts gX4_addLine_X4_refuseUnless rfl rfl rfl (by decide +kernel) ⟨Nat.le_of_ble_eq_true rfl, Nat.le_of_ble_eq_true rfl⟩) (xPw.give (wc := []) hE hS hA hP hD [] (by decide) rfl) rfl rfl hl.1 rfl (lv_room (Nat.le_of_ble_eq_true rfl)) dX4_addLine_11 ⟨Nat.le_of_ble_eq_true rfl, Nat.le_of_ble_eq_true rfl⟩) hP hD hS hA [] [0, 1] rfl rfl (by decide) (by decide) (fun u q ce H locs hP hD hS hce hcv hcl => ?_)
    have hP : xP D [(a4, .inr (4, [.ref aB, .ref o2, .ref o3, .ref oA, .ref oB, .ref oC, .ref qL, .ref qM, .int (nI k), .int (nI now)])), (aB, xB cy 6 (fun j => some (ab j)))] H := hP
    have hD : va_D A [(a4, .inr (4, [.ref aB, .ref o2, .ref o3, .ref oA, .ref oB, .ref oC, .ref qL, .ref qM, .int (nI k), .int (nI now)])), (aB, xB cy 6 (fun j => some (ab j)))] := hD
    have hP := hP.sub (ws' := [(a4, .inr (4, [.ref aB, .ref o2, .ref o3, .ref oA, .ref oB, .ref oC, .ref qL, .ref qM, .int (nI k), .int (nI now)])), (aB, xB cy 6 (fun j => some (ab j)))]) [0, 1] rfl
    have hD := hD.sub (ws' := [(a4, .inr (4, [.ref aB, .ref o2, .ref o3, .ref oA, .ref oB, .ref oC, .ref qL, .ref qM, .int (nI k), .int (nI now)])), (aB, xB cy 6 (fun j => some (ab j)))]) [0, 1] (by decide) rfl
    exact kout () _ _ _ _ _ _ _ _ _ hce hcv hcl hP hD hS (Nat.le_of_ble_eq_true rfl) (Nat.le_of_ble_eq_true rfl)
set_option maxHeartbeats 4000000 in
set_option maxRecDepth 100000 in
theorem c_keptAtV (l : Launch) (hlf : l.stackTraces = false) (D : va_G) (cy : Nat → ClassId) (t0 : Nat) (a4 aB o2 o3 oA oB oC qL qM k now : Nat) (ab : Nat → Nat) (p1 : Int32) (M : Nat → Int32) (gA zA : Nat) (fA : Nat → Int32) (b qi qd n cap : Nat) (fi fd : Nat → Int32) (hb6 : b < 6) (hk2 : 2 ≤ k) (hk : k ≤ 32) (hV : BR M n cap fi fd) (hbad : p1 < 0 ∨ nI (min k (cb (hsM M) 16777213)) ≤ p1) : xT (S := (Nat × (Nat → Int32))) l yX4_keptAt wsX4_keptAt ({ frames := 6, cells := 1, slots := 6, locals := 82 } : Room) D cy t0 ([.ref a4, .int (nI b), .int p1]) ([(a4, .inr (4, [.ref aB, .ref o2, .ref o3, .ref oA, .ref oB, .ref oC, .ref qL, .ref qM, .int (nI k), .int (nI now)])), (aB, xB cy 6 (fun j => some (ab j))), (oA, .inr (1, [.ref gA, .int (nI k), .int (nI zA)])), (gA, xI cy 32 fA), (ab b, .inr (0, [.ref qi, .ref qd, .int (nI n)])), (qi, xI cy cap fi)]) xIO (fun u => [(a4, .inr (4, [.ref aB, .ref o2, .ref o3, .ref oA, .ref oB, .ref oC, .ref qL, .ref qM, .int (nI k), .int (nI now)])), (aB, xB cy 6 (fun j => some (ab j))), (oA, .inr (1, [.ref gA, .int (nI k), .int (nI u.1)])), (gA, xI cy 32 u.2), (ab b, .inr (0, [.ref qi, .ref qd, .int (nI n)])), (qi, xI cy cap fi)]) 1 6 := by
  refine xofT (cc := cX4_keptAt) (maxL := 3) (ret := (some .int)) (by decide) rfl (Nat.le_of_ble_eq_true rfl) ?_
  intro p e s m below meth c Q A ls hx hb hml hts hown hE hA H locs hP hD hl hS htab hlocks hQ kout
  have hl : lv_has ls 3 [(0, .ref a4), (1, .int (nI b)), (2, .int p1)] := hl
  refine lv_aload_n hx hb dX4_keptAt_0 rfl (lv_at hl 0 rfl) ?_
  refine va_get (D := D) (ci := 4) (v := .ref oA) (C := RX4) (T := TX4) (N := 10) hx hb hts (by decide +kernel) hown hE.1 hP 0 rfl rfl 3 (by decide) (hts (.fieldLink RX4 48 "DistinctDale" "leastOfOne" "LDistinctDale$LeastHashes;") (by decide +kernel)) (fun _ h9 => h9) rfl dX4_keptAt_1 ?_
  refine lv_aload_n hx hb dX4_keptAt_4 rfl (lv_at hl 0 rfl) ?_
  refine lv_iload_n hx hb dX4_keptAt_5 rfl (lv_at hl 1 rfl) ?_
  refine xcRa (va_runV (As := [.int (nI b)]) (rest := [.ref oA]) ⟨hx, hb, hml, hown, hts⟩ (c_need l D cy t0 a4 aB o2 o3 oA oB oC qL qM k now ab b hb6) (cwV 1 hts gX4_keptAt_X4_need rfl rfl rfl (by decide +kernel) ⟨Nat.le_of_ble_eq_true rfl, Nat.le_of_ble_eq_true rfl⟩) (xPr.giveV (wc := [(a4, .inr (4, [.ref aB, .ref o2, .ref o3, .ref oA, .ref oB, .ref oC, .ref qL, .ref qM, .int (nI k), .int (nI now)])), (aB, xB cy 6 (fun j => some (ab j)))]) hE hS hP [0, 1] rfl 0 4 rfl rfl) rfl rfl hl.1 rfl (lv_room (Nat.le_of_ble_eq_true rfl)) dX4_keptAt_6 ⟨(Nat.zero_le _), (Nat.zero_le _)⟩) (fun r9 hr_1 => ?_)
  obtain rfl : r9 = ab b := hr_1
  refine xcWv (wr := [(a4, .inr (4, [.ref aB, .ref o2, .ref o3, .ref oA, .ref oB, .ref oC, .ref qL, .ref qM, .int (nI k), .int (nI now)])), (aB, xB cy 6 (fun j => some (ab j)))]) (va_runV (As := [.ref (ab b)]) (rest := []) ⟨hx, hb, hml, hown, hts⟩ ((c_keepThose l D cy t0 (Sm M) oA gA k zA (ab b) qi qd n cap fA fi hk2 hk hV.1 hV.2.2.1 hV.2.2.2) H.size) (cwV 1 hts gX4_keptAt_X1_keepThoseOf rfl rfl rfl (by decide +kernel) ⟨Nat.le_of_ble_eq_true rfl, Nat.le_of_ble_eq_true rfl⟩) (xPw.giveV (wc := [(oA, .inr (1, [.ref gA, .int (nI k), .int (nI zA)])), (gA, xI cy 32 fA), (ab b, .inr (0, [.ref qi, .ref qd, .int (nI n)])), (qi, xI cy cap fi)]) hE hS hA hP hD [2, 3, 4, 5] (by decide) rfl 2 1 rfl rfl) rfl rfl hl.1 rfl (lv_room (Nat.le_of_ble_eq_true rfl)) dX4_keptAt_9 ⟨(Nat.zero_le _), (Nat.zero_le _)⟩) hP hD hS hA [2, 3, 4, 5] [0, 1] rfl rfl (by decide) (by decide) (fun u_4 H locs hr_3 hP hD hS => ?_)
  obtain ⟨z2, f2⟩ := u_4
  have hLA : LH k (hsM M) z2 f2 := hr_3
  have hLA1 := hLA.1
  have hP := hP.sub (ws' := [(a4, .inr (4, [.ref aB, .ref o2, .ref o3, .ref oA, .ref oB, .ref oC, .ref qL, .ref qM, .int (nI k), .int (nI now)])), (aB, xB cy 6 (fun j => some (ab j))), (oA, .inr (1, [.ref gA, .int (nI k), .int (nI z2)])), (gA, xI cy 32 f2), (ab b, .inr (0, [.ref qi, .ref qd, .int (nI n)])), (qi, xI cy cap fi)]) [0, 1, 2, 3, 4, 5] rfl
  have hD := hD.sub (ws' := [(a4, .inr (4, [.ref aB, .ref o2, .ref o3, .ref oA, .ref oB, .ref oC, .ref qL, .ref qM, .int (nI k), .int (nI now)])), (aB, xB cy 6 (fun j => some (ab j))), (oA, .inr (1, [.ref gA, .int (nI k), .int (nI z2)])), (gA, xI cy 32 f2), (ab b, .inr (0, [.ref qi, .ref qd, .int (nI n)])), (qi, xI cy cap fi)]) [0, 1, 2, 3, 4, 5] (by decide) rfl
  refine lv_iload_n hx hb dX4_keptAt_12 rfl (lv_at hl 2 rfl) ?_
  refine lv_if_lt (tgt := 27) hx hb dX4_keptAt_13 (by decide) (fun c_5 => ?_) (fun c_5 => ?_)
  · subst hQ
    exact xthr (text := "the basket does not keep so many") (is := 119) (ik := 117) (ic := 121) hx hb hlf hts hown hE (Or.inl rfl) (by decide +kernel) (by decide +kernel) (by decide +kernel) (by decide +kernel) xngIO xotIO (by decide +kernel) hS (hl.1.trans hml.symm) dX4_keptAt_27 dX4_keptAt_30 dX4_keptAt_31 dX4_keptAt_33 dX4_keptAt_36 htab hlocks (Nat.le_of_ble_eq_true rfl) (Nat.le_of_ble_eq_true rfl) (Nat.le_of_ble_eq_true rfl) (Nat.le_of_ble_eq_true rfl) (z2, f2) hP hD (Nat.le_of_ble_eq_true rfl) (Nat.le_of_ble_eq_true rfl)
  · refine lv_iload_n hx hb dX4_keptAt_16 rfl (lv_at hl 2 rfl) ?_
    refine lv_aload_n hx hb dX4_keptAt_17 rfl (lv_at hl 0 rfl) ?_
    refine va_get (D := D) (ci := 4) (v := .ref oA) (C := RX4) (T := TX4) (N := 10) hx hb hts (by decide +kernel) hown hE.1 hP 0 rfl rfl 3 (by decide) (hts (.fieldLink RX4 48 "DistinctDale" "leastOfOne" "LDistinctDale$LeastHashes;") (by decide +kernel)) (fun _ h9 => h9) rfl dX4_keptAt_18 ?_
    refine va_get (D := D) (ci := 1) (v := .int (nI z2)) (C := RX1) (T := TX1) (N := 3) hx hb hts (by decide +kernel) hown hE.1 hP 2 rfl rfl 2 (by decide) (hts (.fieldLink RX4 116 "DistinctDale$LeastHashes" "size" "I") (by decide +kernel)) (fun _ h9 => h9) rfl dX4_keptAt_21 ?_
    refine lv_icmp_lt (tgt := 37) hx hb dX4_keptAt_24 (by decide) (fun c_6 => ?_) (fun c_6 => ?_)
    · exact absurd c_6 (fun q => by
        have q2 := hbad.resolve_left c_5
        rw [← hLA1] at q2
        exact absurd (Int32.lt_of_lt_of_le q q2) (fun q9 => Int32.lt_irrefl q9))
    · subst hQ
      exact xthr (text := "the basket does not keep so many") (is := 119) (ik := 117) (ic := 121) hx hb hlf hts hown hE (Or.inl rfl) (by decide +kernel) (by decide +kernel) (by decide +kernel) (by decide +kernel) xngIO xotIO (by decide +kernel) hS (hl.1.trans hml.symm) dX4_keptAt_27 dX4_keptAt_30 dX4_keptAt_31 dX4_keptAt_33 dX4_keptAt_36 htab hlocks (Nat.le_of_ble_eq_true rfl) (Nat.le_of_ble_eq_true rfl) (Nat.le_of_ble_eq_true rfl) (Nat.le_of_ble_eq_true rfl) (z2, f2) hP hD (Nat.le_of_ble_eq_true rfl) (Nat.le_of_ble_eq_true rfl)
set_option maxHeartbeats 4000000 in
set_option maxRecDepth 100000 in
theorem c_registerV (l : Launch) (hlf : l.stackTraces = false) (D : va_G) (cy : Nat → ClassId) (t0 : Nat) (a4 aB o2 o3 oA oB oC qL qM k now : Nat) (ab : Nat → Nat) (b : Nat) (p1 : Int32) (hb6 : b < 6) (hbad : p1 < 0 ∨ nI 16 ≤ p1) : xT (S := Unit) l yX4_register wsX4_register ({ frames := 6, cells := 1, slots := 6, locals := 82 } : Room) D cy t0 ([.ref a4, .int (nI b), .int p1]) ([(a4, .inr (4, [.ref aB, .ref o2, .ref o3, .ref oA, .ref oB, .ref oC, .ref qL, .ref qM, .int (nI k), .int (nI now)])), (aB, xB cy 6 (fun j => some (ab j)))]) xIO (fun _ => [(a4, .inr (4, [.ref aB, .ref o2, .ref o3, .ref oA, .ref oB, .ref oC, .ref qL, .ref qM, .int (nI k), .int (nI now)])), (aB, xB cy 6 (fun j => some (ab j)))]) 1 6 := by
  refine xofT (cc := cX4_register) (maxL := 4) (ret := (some .int)) (by decide) rfl (Nat.le_of_ble_eq_true rfl) ?_
  intro p e s m below meth c Q A ls hx hb hml hts hown hE hA H locs hP hD hl hS htab hlocks hQ kout
  have hl : lv_has ls 4 [(0, .ref a4), (1, .int (nI b)), (2, .int p1)] := hl
  refine lv_aload_n hx hb dX4_register_0 rfl (lv_at hl 0 rfl) ?_
  refine lv_iload_n hx hb dX4_register_1 rfl (lv_at hl 1 rfl) ?_
  refine xcRa (va_runV (As := [.int (nI b)]) (rest := []) ⟨hx, hb, hml, hown, hts⟩ (c_need l D cy t0 a4 aB o2 o3 oA oB oC qL qM k now ab b hb6) (cwV 1 hts gX4_register_X4_need rfl rfl rfl (by decide +kernel) ⟨Nat.le_of_ble_eq_true rfl, Nat.le_of_ble_eq_true rfl⟩) (xPr.giveV (wc := [(a4, .inr (4, [.ref aB, .ref o2, .ref o3, .ref oA, .ref oB, .ref oC, .ref qL, .ref qM, .int (nI k), .int (nI now)])), (aB, xB cy 6 (fun j => some (ab j)))]) hE hS hP [0, 1] rfl 0 4 rfl rfl) rfl rfl hl.1 rfl (lv_room (Nat.le_of_ble_eq_true rfl)) dX4_register_2 ⟨(Nat.zero_le _), (Nat.zero_le _)⟩) (fun r9 hr_1 => ?_)
  obtain rfl : r9 = ab b := hr_1
  refine lv_astore_n (lv' := [(3, .ref (ab b)), (0, .ref a4), (1, .int (nI b)), (2, .int p1)]) hx hb dX4_register_5 rfl hl (by decide) rfl (fun ls hl => ?_)
  refine lv_iload_n hx hb dX4_register_6 rfl (lv_at hl 3 rfl) ?_
  refine lv_if_lt (tgt := 16) hx hb dX4_register_7 (by decide) (fun c_2 => ?_) (fun c_2 => ?_)
  · subst hQ
    exact xthr (text := "no such register") (is := 143) (ik := 117) (ic := 121) hx hb hlf hts hown hE (Or.inl rfl) (by decide +kernel) (by decide +kernel) (by decide +kernel) (by decide +kernel) xngIO xotIO (by decide +kernel) hS (hl.1.trans hml.symm) dX4_register_16 dX4_register_19 dX4_register_20 dX4_register_22 dX4_register_25 htab hlocks (Nat.le_of_ble_eq_true rfl) (Nat.le_of_ble_eq_true rfl) (Nat.le_of_ble_eq_true rfl) (Nat.le_of_ble_eq_true rfl) () hP hD (Nat.le_of_ble_eq_true rfl) (Nat.le_of_ble_eq_true rfl)
  · refine lv_iload_n hx hb dX4_register_10 rfl (lv_at hl 3 rfl) ?_
    refine lv_bipush (v := nI 16) hx hb dX4_register_11 (by decide) ?_
    refine lv_icmp_lt (tgt := 26) hx hb dX4_register_13 (by decide) (fun c_3 => ?_) (fun c_3 => ?_)
    · exact absurd (Int32.lt_of_lt_of_le c_3 (hbad.resolve_left c_2)) (fun q9 => Int32.lt_irrefl q9)
    · subst hQ
      exact xthr (text := "no such register") (is := 143) (ik := 117) (ic := 121) hx hb hlf hts hown hE (Or.inl rfl) (by decide +kernel) (by decide +kernel) (by decide +kernel) (by decide +kernel) xngIO xotIO (by decide +kernel) hS (hl.1.trans hml.symm) dX4_register_16 dX4_register_19 dX4_register_20 dX4_register_22 dX4_register_25 htab hlocks (Nat.le_of_ble_eq_true rfl) (Nat.le_of_ble_eq_true rfl) (Nat.le_of_ble_eq_true rfl) (Nat.le_of_ble_eq_true rfl) () hP hD (Nat.le_of_ble_eq_true rfl) (Nat.le_of_ble_eq_true rfl)
set_option maxHeartbeats 4000000 in
set_option maxRecDepth 100000 in
theorem c_sampledAtV (l : Launch) (hlf : l.stackTraces = false) (D : va_G) (cy : Nat → ClassId) (t0 : Nat) (a4 aB o2 o3 oA oB oC qL qM k now : Nat) (ab : Nat → Nat) (p1 : Int32) (M : Nat → Int32) (gt : Nat) (lv0 sz0 : Int32) (fT : Nat → Int32) (b qi qd n cap : Nat) (fi fd : Nat → Int32) (hb6 : b < 6) (hV : BR M n cap fi fd) (hbad : p1 < 0 ∨ nI (cb (SL (Sm M) (lvl (Sm M))) 100000) ≤ p1) : xT (S := (Nat → Int32)) l yX4_sampledAt wsX4_sampledAt ({ frames := 6, cells := 1, slots := 6, locals := 82 } : Room) D cy t0 ([.ref a4, .int (nI b), .int p1]) ([(a4, .inr (4, [.ref aB, .ref o2, .ref o3, .ref oA, .ref oB, .ref oC, .ref qL, .ref qM, .int (nI k), .int (nI now)])), (aB, xB cy 6 (fun j => some (ab j))), (o3, .inr (3, [.ref gt, .int lv0, .int sz0])), (gt, xI cy 25 fT), (ab b, .inr (0, [.ref qi, .ref qd, .int (nI n)])), (qi, xI cy cap fi)]) xIO (fun u => [(a4, .inr (4, [.ref aB, .ref o2, .ref o3, .ref oA, .ref oB, .ref oC, .ref qL, .ref qM, .int (nI k), .int (nI now)])), (aB, xB cy 6 (fun j => some (ab j))), (o3, .inr (3, [.ref gt, .int (nI (lvl (Sm M))), .int (nI (cb (SL (Sm M) (lvl (Sm M))) 100000))])), (gt, xI cy 25 u), (ab b, .inr (0, [.ref qi, .ref qd, .int (nI n)])), (qi, xI cy cap fi)]) 1 6 := by
  refine xofT (cc := cX4_sampledAt) (maxL := 4) (ret := (some .int)) (by decide) rfl (Nat.le_of_ble_eq_true rfl) ?_
  intro p e s m below meth c Q A ls hx hb hml hts hown hE hA H locs hP hD hl hS htab hlocks hQ kout
  have hl : lv_has ls 4 [(0, .ref a4), (1, .int (nI b)), (2, .int p1)] := hl
  refine lv_aload_n hx hb dX4_sampledAt_0 rfl (lv_at hl 0 rfl) ?_
  refine lv_iload_n hx hb dX4_sampledAt_1 rfl (lv_at hl 1 rfl) ?_
  refine xcRa (va_runV (As := [.int (nI b)]) (rest := []) ⟨hx, hb, hml, hown, hts⟩ (c_need l D cy t0 a4 aB o2 o3 oA oB oC qL qM k now ab b hb6) (cwV 1 hts gX4_sampledAt_X4_need rfl rfl rfl (by decide +kernel) ⟨Nat.le_of_ble_eq_true rfl, Nat.le_of_ble_eq_true rfl⟩) (xPr.giveV (wc := [(a4, .inr (4, [.ref aB, .ref o2, .ref o3, .ref oA, .ref oB, .ref oC, .ref qL, .ref qM, .int (nI k), .int (nI now)])), (aB, xB cy 6 (fun j => some (ab j)))]) hE hS hP [0, 1] rfl 0 4 rfl rfl) rfl rfl hl.1 rfl (lv_room (Nat.le_of_ble_eq_true rfl)) dX4_sampledAt_2 ⟨(Nat.zero_le _), (Nat.zero_le _)⟩) (fun r9 hr_1 => ?_)
  obtain rfl : r9 = ab b := hr_1
  refine lv_astore_n (lv' := [(3, .ref (ab b)), (0, .ref a4), (1, .int (nI b)), (2, .int p1)]) hx hb dX4_sampledAt_5 rfl hl (by decide) rfl (fun ls hl => ?_)
  refine lv_aload_n hx hb dX4_sampledAt_6 rfl (lv_at hl 1 rfl) ?_
  refine va_get (D := D) (ci := 4) (v := .ref o3) (C := RX4) (T := TX4) (N := 10) hx hb hts (by decide +kernel) hown hE.1 hP 0 rfl rfl 2 (by decide) (hts (.fieldLink RX4 39 "DistinctDale" "thinning" "LDistinctDale$Thinning;") (by decide +kernel)) (fun _ h9 => h9) rfl dX4_sampledAt_7 ?_
  refine lv_aload_n hx hb dX4_sampledAt_10 rfl (lv_at hl 0 rfl) ?_
  refine xcWv (wr := [(a4, .inr (4, [.ref aB, .ref o2, .ref o3, .ref oA, .ref oB, .ref oC, .ref qL, .ref qM, .int (nI k), .int (nI now)])), (aB, xB cy 6 (fun j => some (ab j)))]) (va_runV (As := [.ref (ab b)]) (rest := []) ⟨hx, hb, hml, hown, hts⟩ ((c_thin l D cy t0 (Sm M) o3 gt (ab b) qi qd n cap lv0 sz0 fT fi hV.1 hV.2.2.1 hV.2.2.2) H.size) (cwV 1 hts gX4_sampledAt_X3_thin rfl rfl rfl (by decide +kernel) ⟨Nat.le_of_ble_eq_true rfl, Nat.le_of_ble_eq_true rfl⟩) (xPw.giveV (wc := [(o3, .inr (3, [.ref gt, .int lv0, .int sz0])), (gt, xI cy 25 fT), (ab b, .inr (0, [.ref qi, .ref qd, .int (nI n)])), (qi, xI cy cap fi)]) hE hS hA hP hD [2, 3, 4, 5] (by decide) rfl 2 3 rfl rfl) rfl rfl hl.1 rfl (lv_room (Nat.le_of_ble_eq_true rfl)) dX4_sampledAt_11 ⟨(Nat.zero_le _), (Nat.zero_le _)⟩) hP hD hS hA [2, 3, 4, 5] [0, 1] rfl rfl (by decide) (by decide) (fun u_4 H locs hr_3 hP hD hS => ?_)
  obtain ⟨f2, rfl⟩ : ∃ z9, z9 = u_4 := ⟨_, rfl⟩
  have hP := hP.sub (ws' := [(a4, .inr (4, [.ref aB, .ref o2, .ref o3, .ref oA, .ref oB, .ref oC, .ref qL, .ref qM, .int (nI k), .int (nI now)])), (aB, xB cy 6 (fun j => some (ab j))), (o3, .inr (3, [.ref gt, .int (nI (lvl (Sm M))), .int (nI (cb (SL (Sm M) (lvl (Sm M))) 100000))])), (gt, xI cy 25 f2), (ab b, .inr (0, [.ref qi, .ref qd, .int (nI n)])), (qi, xI cy cap fi)]) [0, 1, 2, 3, 4, 5] rfl
  have hD := hD.sub (ws' := [(a4, .inr (4, [.ref aB, .ref o2, .ref o3, .ref oA, .ref oB, .ref oC, .ref qL, .ref qM, .int (nI k), .int (nI now)])), (aB, xB cy 6 (fun j => some (ab j))), (o3, .inr (3, [.ref gt, .int (nI (lvl (Sm M))), .int (nI (cb (SL (Sm M) (lvl (Sm M))) 100000))])), (gt, xI cy 25 f2), (ab b, .inr (0, [.ref qi, .ref qd, .int (nI n)])), (qi, xI cy cap fi)]) [0, 1, 2, 3, 4, 5] (by decide) rfl
  refine lv_iload_n hx hb dX4_sampledAt_14 rfl (lv_at hl 3 rfl) ?_
  refine lv_if_lt (tgt := 29) hx hb dX4_sampledAt_15 (by decide) (fun c_5 => ?_) (fun c_5 => ?_)
  · subst hQ
    exact xthr (text := "the sample has not so many") (is := 166) (ik := 117) (ic := 121) hx hb hlf hts hown hE (Or.inl rfl) (by decide +kernel) (by decide +kernel) (by decide +kernel) (by decide +kernel) xngIO xotIO (by decide +kernel) hS (hl.1.trans hml.symm) dX4_sampledAt_29 dX4_sampledAt_32 dX4_sampledAt_33 dX4_sampledAt_35 dX4_sampledAt_38 htab hlocks (Nat.le_of_ble_eq_true rfl) (Nat.le_of_ble_eq_true rfl) (Nat.le_of_ble_eq_true rfl) (Nat.le_of_ble_eq_true rfl) f2 hP hD (Nat.le_of_ble_eq_true rfl) (Nat.le_of_ble_eq_true rfl)
  · refine lv_iload_n hx hb dX4_sampledAt_18 rfl (lv_at hl 3 rfl) ?_
    refine lv_aload_n hx hb dX4_sampledAt_19 rfl (lv_at hl 1 rfl) ?_
    refine va_get (D := D) (ci := 4) (v := .ref o3) (C := RX4) (T := TX4) (N := 10) hx hb hts (by decide +kernel) hown hE.1 hP 0 rfl rfl 2 (by decide) (hts (.fieldLink RX4 39 "DistinctDale" "thinning" "LDistinctDale$Thinning;") (by decide +kernel)) (fun _ h9 => h9) rfl dX4_sampledAt_20 ?_
    refine va_get (D := D) (ci := 3) (v := .int (nI (cb (SL (Sm M) (lvl (Sm M))) 100000))) (C := RX3) (T := TX3) (N := 3) hx hb hts (by decide +kernel) hown hE.1 hP 2 rfl rfl 2 (by decide) (hts (.fieldLink RX4 165 "DistinctDale$Thinning" "size" "I") (by decide +kernel)) (fun _ h9 => h9) rfl dX4_sampledAt_23 ?_
    refine lv_icmp_lt (tgt := 39) hx hb dX4_sampledAt_26 (by decide) (fun c_6 => ?_) (fun c_6 => ?_)
    · exact absurd (Int32.lt_of_lt_of_le c_6 (hbad.resolve_left c_5)) (fun q9 => Int32.lt_irrefl q9)
    · subst hQ
      exact xthr (text := "the sample has not so many") (is := 166) (ik := 117) (ic := 121) hx hb hlf hts hown hE (Or.inl rfl) (by decide +kernel) (by decide +kernel) (by decide +kernel) (by decide +kernel) xngIO xotIO (by decide +kernel) hS (hl.1.trans hml.symm) dX4_sampledAt_29 dX4_sampledAt_32 dX4_sampledAt_33 dX4_sampledAt_35 dX4_sampledAt_38 htab hlocks (Nat.le_of_ble_eq_true rfl) (Nat.le_of_ble_eq_true rfl) (Nat.le_of_ble_eq_true rfl) (Nat.le_of_ble_eq_true rfl) f2 hP hD (Nat.le_of_ble_eq_true rfl) (Nat.le_of_ble_eq_true rfl)
end XX4T
