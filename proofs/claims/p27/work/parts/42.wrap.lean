section X42
set_option maxHeartbeats 4000000 in
set_option maxRecDepth 100000 in
theorem w_add {S : Type} (l : Launch) (D : va_G) (cy : Nat → ClassId) (t0 : Nat) (a4 : Nat) (fs : List Value) (p0 p1 : Int32) (W0 : va_W) (hW : W0[0]? = some (a4, .inr (4, fs))) {F LO mc ms : Nat} {b0 : Bool} {OP : S → Prop} {w1 : S → va_W} (hF : F + 1 ≤ 8) (hLO : LO ≤ 169) (hm : mc ≤ 3) (hs : ms ≤ 9606) (hc : xWi (S := S) l yX4_add wsX4_add ({ frames := F, cells := mc, slots := ms, locals := LO } : Room) D cy t0 ([.ref a4, .int p0, .int p1]) W0 (fun r v => r = xb b0 ∧ OP v) w1 mc ms) : xWi (S := S) l yL_add wsL_add ({ frames := 8, cells := 3, slots := 9606, locals := 230 } : Room) D cy t0 ([.ref a4, .int p0, .int p1]) W0 (fun r v => r = xb b0 ∧ OP v) w1 3 9606 := by
  refine xofWiW (cc := cL_add) (maxL := 4) (hh := [(0, 14, 15, 14), (0, 14, 19, 17)]) (by decide) rfl (Nat.le_of_ble_eq_true rfl) ?_
  intro p e s m below meth c Q A ls hx hb hml hts hown hE hA H locs hP hD hl hS htab kret
  have hl : lv_has ls 4 [(0, .ref a4), (1, .int p0), (2, .int p1)] := hl
  refine lv_aload_n hx hb dL_add_0 rfl (lv_at hl 0 rfl) ?_
  refine lv_iload_n hx hb dL_add_1 rfl (lv_at hl 1 rfl) ?_
  refine lv_iload_n hx hb dL_add_2 rfl (lv_at hl 2 rfl) ?_
  refine xc0i (va_runV (As := [.int p0, .int p1]) (rest := []) ⟨hx, hb, hml, hown, hts⟩ (hc H.size) (cwV 2 hts gL_add_X4_add rfl rfl rfl (by decide +kernel) ⟨hF, (by show 8 + (4 + 11) + LO ≤ 230; omega)⟩) (gvW hW hE hS hA hP hD) rfl rfl hl.1 rfl (lv_room (Nat.le_of_ble_eq_true rfl)) dL_add_3 ⟨(by show 0 + mc ≤ 3; omega), (by show 0 + ms ≤ 9606; omega)⟩) hP hD hS hA (fun r u H locs hq hP hD hS => ?_)
  obtain ⟨hq1, hq⟩ := hq
  obtain rfl : r = xb b0 := hq1
  refine xb_beq (tgt := 13) hx hb dL_add_6 (by decide) (fun c_1 => ?_) (fun c_1 => ?_)
  · subst c_1
    refine lv_iconst (v := nI 0) hx hb dL_add_13 (by decide) ?_
    exact kret _ u _ _ _ _ _ _ dL_add_14 ⟨rfl, hq⟩ hP hD hS (by show 0 + mc ≤ 3; omega) (by show 0 + ms ≤ 9606; omega)
  · subst c_1
    refine lv_iconst (v := nI 1) hx hb dL_add_9 (by decide) ?_
    refine lv_goto (tgt := 14) hx hb dL_add_10 (by decide) ?_
    exact kret _ u _ _ _ _ _ _ dL_add_14 ⟨rfl, hq⟩ hP hD hS (by show 0 + mc ≤ 3; omega) (by show 0 + ms ≤ 9606; omega)
set_option maxHeartbeats 4000000 in
set_option maxRecDepth 100000 in
theorem w_addT {S : Type} (l : Launch) (D : va_G) (cy : Nat → ClassId) (t0 : Nat) (a4 : Nat) (fs : List Value) (p0 p1 : Int32) (W0 : va_W) (hW : W0[0]? = some (a4, .inr (4, fs))) {F LO : Nat} {w1 : S → va_W} (hF : F + 1 ≤ 8) (hLO : LO ≤ 169) (hc : xT l yX4_add wsX4_add ({ frames := F, cells := 1, slots := 6, locals := LO } : Room) D cy t0 ([.ref a4, .int p0, .int p1]) W0 xIO w1 1 6) : xWi (S := S) l yL_add wsL_add ({ frames := 8, cells := 3, slots := 9606, locals := 230 } : Room) D cy t0 ([.ref a4, .int p0, .int p1]) W0 (fun r _ => r = -99999) w1 3 9606 := by
  refine xofWiW (cc := cL_add) (maxL := 4) (hh := [(0, 14, 15, 14), (0, 14, 19, 17)]) (by decide) rfl (Nat.le_of_ble_eq_true rfl) ?_
  intro p e s m below meth c Q A ls hx hb hml hts hown hE hA H locs hP hD hl hS htab kret
  have hl : lv_has ls 4 [(0, .ref a4), (1, .int p0), (2, .int p1)] := hl
  refine lv_aload_n hx hb dL_add_0 rfl (lv_at hl 0 rfl) ?_
  refine lv_iload_n hx hb dL_add_1 rfl (lv_at hl 1 rfl) ?_
  refine lv_iload_n hx hb dL_add_2 rfl (lv_at hl 2 rfl) ?_
  refine xcT (wr := []) (vx_runV (As := [.int p0, .int p1]) (rest := []) ⟨hx, hb, hml, hown, hts⟩ (hc H.size) (cwV 2 hts gL_add_X4_add rfl rfl rfl (by decide +kernel) ⟨hF, (by show 8 + (4 + 11) + LO ≤ 230; omega)⟩) (gvW hW hE hS hA hP hD) rfl rfl hl.1 rfl (lv_room (Nat.le_of_ble_eq_true rfl)) dL_add_3 ⟨Nat.le_of_ble_eq_true rfl, Nat.le_of_ble_eq_true rfl⟩) hP hD hS hA (xix 0 W0.length) [] (xix_map W0 []) rfl (by decide) xix_no (fun u q ce H locs hP hD hS hce hcv hcl => ?_)
  refine vx_catch (name := xIO) hown [] ⟨0, 14, 15, 14⟩ [⟨0, 14, 19, 17⟩] htab (fun z hz => by cases hz) (by decide) (by decide) (hts (.classLink RL 14 xIO) (by decide +kernel)) (va_Nw.use rfl hE.2.1.2.2.1.1) hce hcv hcl ?_
  refine lv_astore_n (lv' := [(3, .ref q), (0, .ref a4), (1, .int p0), (2, .int p1)]) hx hb dL_add_15 rfl hl (by decide) rfl (fun ls hl => ?_)
  refine lv_ldc (v := (-99999)) hx hb hown (hts (.constant RL 16 (-99999)) (by decide +kernel)) dL_add_16 ?_
  exact kret _ u _ _ _ _ _ _ dL_add_18 rfl hP hD hS (Nat.le_of_ble_eq_true rfl) (Nat.le_of_ble_eq_true rfl)
set_option maxHeartbeats 4000000 in
set_option maxRecDepth 100000 in
theorem w_addV {S : Type} (l : Launch) (D : va_G) (cy : Nat → ClassId) (t0 : Nat) (a4 : Nat) (fs : List Value) (p0 p1 : Int32) (W0 : va_W) (hW : W0[0]? = some (a4, .inr (4, fs))) {F LO : Nat} {w1 : S → va_W} (hF : F + 1 ≤ 8) (hLO : LO ≤ 169) (hc : xT l yX4_add wsX4_add ({ frames := F, cells := 1, slots := 6, locals := LO } : Room) D cy t0 ([.ref a4, .int p0, .int p1]) W0 xIA w1 1 6) : xWi (S := S) l yL_add wsL_add ({ frames := 8, cells := 3, slots := 9606, locals := 230 } : Room) D cy t0 ([.ref a4, .int p0, .int p1]) W0 (fun r _ => r = -99999) w1 3 9606 := by
  refine xofWiW (cc := cL_add) (maxL := 4) (hh := [(0, 14, 15, 14), (0, 14, 19, 17)]) (by decide) rfl (Nat.le_of_ble_eq_true rfl) ?_
  intro p e s m below meth c Q A ls hx hb hml hts hown hE hA H locs hP hD hl hS htab kret
  have hl : lv_has ls 4 [(0, .ref a4), (1, .int p0), (2, .int p1)] := hl
  refine lv_aload_n hx hb dL_add_0 rfl (lv_at hl 0 rfl) ?_
  refine lv_iload_n hx hb dL_add_1 rfl (lv_at hl 1 rfl) ?_
  refine lv_iload_n hx hb dL_add_2 rfl (lv_at hl 2 rfl) ?_
  refine xcT (wr := []) (vx_runV (As := [.int p0, .int p1]) (rest := []) ⟨hx, hb, hml, hown, hts⟩ (hc H.size) (cwV 2 hts gL_add_X4_add rfl rfl rfl (by decide +kernel) ⟨hF, (by show 8 + (4 + 11) + LO ≤ 230; omega)⟩) (gvW hW hE hS hA hP hD) rfl rfl hl.1 rfl (lv_room (Nat.le_of_ble_eq_true rfl)) dL_add_3 ⟨Nat.le_of_ble_eq_true rfl, Nat.le_of_ble_eq_true rfl⟩) hP hD hS hA (xix 0 W0.length) [] (xix_map W0 []) rfl (by decide) xix_no (fun u q ce H locs hP hD hS hce hcv hcl => ?_)
  refine vx_catch (name := xIA) hown [⟨0, 14, 15, 14⟩] ⟨0, 14, 19, 17⟩ [] htab (fun z hz => by
      cases hz with
      | head => exact Or.inr ⟨by decide, xIO, hts (.classLink RL 14 xIO) (by decide +kernel), hE.2.1.2.2.1.2.2.2⟩
      | tail _ h9 => cases h9) (by decide) (by decide) (hts (.classLink RL 17 xIA) (by decide +kernel)) (va_Nw.use rfl hE.2.1.2.2.1.2.1) hce hcv hcl ?_
  refine lv_astore_n (lv' := [(3, .ref q), (0, .ref a4), (1, .int p0), (2, .int p1)]) hx hb dL_add_19 rfl hl (by decide) rfl (fun ls hl => ?_)
  refine lv_ldc (v := (-99999)) hx hb hown (hts (.constant RL 16 (-99999)) (by decide +kernel)) dL_add_20 ?_
  exact kret _ u _ _ _ _ _ _ dL_add_22 rfl hP hD hS (Nat.le_of_ble_eq_true rfl) (Nat.le_of_ble_eq_true rfl)
set_option maxHeartbeats 4000000 in
set_option maxRecDepth 100000 in
theorem w_addLine {S : Type} (l : Launch) (D : va_G) (cy : Nat → ClassId) (t0 : Nat) (a4 : Nat) (fs : List Value) (p0 p1 p2 p3 : Int32) (W0 : va_W) (hW : W0[0]? = some (a4, .inr (4, fs))) {F LO mc ms : Nat} {r0 : Int32} {OP : S → Prop} {w1 : S → va_W} (hF : F + 1 ≤ 8) (hLO : LO ≤ 169) (hm : mc ≤ 3) (hs : ms ≤ 9606) (hc : xWi (S := S) l yX4_addLine wsX4_addLine ({ frames := F, cells := mc, slots := ms, locals := LO } : Room) D cy t0 ([.ref a4, .int p0, .int p1, .int p2, .int p3]) W0 (fun r v => r = r0 ∧ OP v) w1 mc ms) : xWi (S := S) l yL_addLine wsL_addLine ({ frames := 8, cells := 3, slots := 9606, locals := 230 } : Room) D cy t0 ([.ref a4, .int p0, .int p1, .int p2, .int p3]) W0 (fun r v => r = r0 ∧ OP v) w1 3 9606 := by
  refine xofWiW (cc := cL_addLine) (maxL := 6) (hh := [(0, 9, 10, 14), (0, 9, 15, 17)]) (by decide) rfl (Nat.le_of_ble_eq_true rfl) ?_
  intro p e s m below meth c Q A ls hx hb hml hts hown hE hA H locs hP hD hl hS htab kret
  have hl : lv_has ls 6 [(0, .ref a4), (1, .int p0), (2, .int p1), (3, .int p2), (4, .int p3)] := hl
  refine lv_aload_n hx hb dL_addLine_0 rfl (lv_at hl 0 rfl) ?_
  refine lv_iload_n hx hb dL_addLine_1 rfl (lv_at hl 1 rfl) ?_
  refine lv_iload_n hx hb dL_addLine_2 rfl (lv_at hl 2 rfl) ?_
  refine lv_iload_n hx hb dL_addLine_3 rfl (lv_at hl 3 rfl) ?_
  refine lv_iload hx hb dL_addLine_4 (lv_at hl 4 rfl) ?_
  refine xc0i (va_runV (As := [.int p0, .int p1, .int p2, .int p3]) (rest := []) ⟨hx, hb, hml, hown, hts⟩ (hc H.size) (cwV 4 hts gL_addLine_X4_addLine rfl rfl rfl (by decide +kernel) ⟨hF, (by show 8 + (6 + 11) + LO ≤ 230; omega)⟩) (gvW hW hE hS hA hP hD) rfl rfl hl.1 rfl (lv_room (Nat.le_of_ble_eq_true rfl)) dL_addLine_6 ⟨(by show 0 + mc ≤ 3; omega), (by show 0 + ms ≤ 9606; omega)⟩) hP hD hS hA (fun r u H locs hq hP hD hS => ?_)
  obtain ⟨hq1, hq⟩ := hq
  subst hq1
  exact kret _ u _ _ _ _ _ _ dL_addLine_9 ⟨rfl, hq⟩ hP hD hS (by show 0 + mc ≤ 3; omega) (by show 0 + ms ≤ 9606; omega)
set_option maxHeartbeats 4000000 in
set_option maxRecDepth 100000 in
theorem w_addLineT {S : Type} (l : Launch) (D : va_G) (cy : Nat → ClassId) (t0 : Nat) (a4 : Nat) (fs : List Value) (p0 p1 p2 p3 : Int32) (W0 : va_W) (hW : W0[0]? = some (a4, .inr (4, fs))) {F LO : Nat} {w1 : S → va_W} (hF : F + 1 ≤ 8) (hLO : LO ≤ 169) (hc : xT l yX4_addLine wsX4_addLine ({ frames := F, cells := 1, slots := 6, locals := LO } : Room) D cy t0 ([.ref a4, .int p0, .int p1, .int p2, .int p3]) W0 xIO w1 1 6) : xWi (S := S) l yL_addLine wsL_addLine ({ frames := 8, cells := 3, slots := 9606, locals := 230 } : Room) D cy t0 ([.ref a4, .int p0, .int p1, .int p2, .int p3]) W0 (fun r _ => r = -99999) w1 3 9606 := by
  refine xofWiW (cc := cL_addLine) (maxL := 6) (hh := [(0, 9, 10, 14), (0, 9, 15, 17)]) (by decide) rfl (Nat.le_of_ble_eq_true rfl) ?_
  intro p e s m below meth c Q A ls hx hb hml hts hown hE hA H locs hP hD hl hS htab kret
  have hl : lv_has ls 6 [(0, .ref a4), (1, .int p0), (2, .int p1), (3, .int p2), (4, .int p3)] := hl
  refine lv_aload_n hx hb dL_addLine_0 rfl (lv_at hl 0 rfl) ?_
  refine lv_iload_n hx hb dL_addLine_1 rfl (lv_at hl 1 rfl) ?_
  refine lv_iload_n hx hb dL_addLine_2 rfl (lv_at hl 2 rfl) ?_
  refine lv_iload_n hx hb dL_addLine_3 rfl (lv_at hl 3 rfl) ?_
  refine lv_iload hx hb dL_addLine_4 (lv_at hl 4 rfl) ?_
  refine xcT (wr := []) (vx_runV (As := [.int p0, .int p1, .int p2, .int p3]) (rest := []) ⟨hx, hb, hml, hown, hts⟩ (hc H.size) (cwV 4 hts gL_addLine_X4_addLine rfl rfl rfl (by decide +kernel) ⟨hF, (by show 8 + (6 + 11) + LO ≤ 230; omega)⟩) (gvW hW hE hS hA hP hD) rfl rfl hl.1 rfl (lv_room (Nat.le_of_ble_eq_true rfl)) dL_addLine_6 ⟨Nat.le_of_ble_eq_true rfl, Nat.le_of_ble_eq_true rfl⟩) hP hD hS hA (xix 0 W0.length) [] (xix_map W0 []) rfl (by decide) xix_no (fun u q ce H locs hP hD hS hce hcv hcl => ?_)
  refine vx_catch (name := xIO) hown [] ⟨0, 9, 10, 14⟩ [⟨0, 9, 15, 17⟩] htab (fun z hz => by cases hz) (by decide) (by decide) (hts (.classLink RL 14 xIO) (by decide +kernel)) (va_Nw.use rfl hE.2.1.2.2.1.1) hce hcv hcl ?_
  refine lv_astore (lv' := [(5, .ref q), (0, .ref a4), (1, .int p0), (2, .int p1), (3, .int p2), (4, .int p3)]) hx hb dL_addLine_10 hl (by decide) rfl (fun ls hl => ?_)
  refine lv_ldc (v := (-99999)) hx hb hown (hts (.constant RL 16 (-99999)) (by decide +kernel)) dL_addLine_12 ?_
  exact kret _ u _ _ _ _ _ _ dL_addLine_14 rfl hP hD hS (Nat.le_of_ble_eq_true rfl) (Nat.le_of_ble_eq_true rfl)
set_option maxHeartbeats 4000000 in
set_option maxRecDepth 100000 in
theorem w_addLineV {S : Type} (l : Launch) (D : va_G) (cy : Nat → ClassId) (t0 : Nat) (a4 : Nat) (fs : List Value) (p0 p1 p2 p3 : Int32) (W0 : va_W) (hW : W0[0]? = some (a4, .inr (4, fs))) {F LO : Nat} {w1 : S → va_W} (hF : F + 1 ≤ 8) (hLO : LO ≤ 169) (hc : xT l yX4_addLine wsX4_addLine ({ frames := F, cells := 1, slots := 6, locals := LO } : Room) D cy t0 ([.ref a4, .int p0, .int p1, .int p2, .int p3]) W0 xIA w1 1 6) : xWi (S := S) l yL_addLine wsL_addLine ({ frames := 8, cells := 3, slots := 9606, locals := 230 } : Room) D cy t0 ([.ref a4, .int p0, .int p1, .int p2, .int p3]) W0 (fun r _ => r = -99999) w1 3 9606 := by
  refine xofWiW (cc := cL_addLine) (maxL := 6) (hh := [(0, 9, 10, 14), (0, 9, 15, 17)]) (by decide) rfl (Nat.le_of_ble_eq_true rfl) ?_
  intro p e s m below meth c Q A ls hx hb hml hts hown hE hA H locs hP hD hl hS htab kret
  have hl : lv_has ls 6 [(0, .ref a4), (1, .int p0), (2, .int p1), (3, .int p2), (4, .int p3)] := hl
  refine lv_aload_n hx hb dL_addLine_0 rfl (lv_at hl 0 rfl) ?_
  refine lv_iload_n hx hb dL_addLine_1 rfl (lv_at hl 1 rfl) ?_
  refine lv_iload_n hx hb dL_addLine_2 rfl (lv_at hl 2 rfl) ?_
  refine lv_iload_n hx hb dL_addLine_3 rfl (lv_at hl 3 rfl) ?_
  refine lv_iload hx hb dL_addLine_4 (lv_at hl 4 rfl) ?_
  refine xcT (wr := []) (vx_runV (As := [.int p0, .int p1, .int p2, .int p3]) (rest := []) ⟨hx, hb, hml, hown, hts⟩ (hc H.size) (cwV 4 hts gL_addLine_X4_addLine rfl rfl rfl (by decide +kernel) ⟨hF, (by show 8 + (6 + 11) + LO ≤ 230; omega)⟩) (gvW hW hE hS hA hP hD) rfl rfl hl.1 rfl (lv_room (Nat.le_of_ble_eq_true rfl)) dL_addLine_6 ⟨Nat.le_of_ble_eq_true rfl, Nat.le_of_ble_eq_true rfl⟩) hP hD hS hA (xix 0 W0.length) [] (xix_map W0 []) rfl (by decide) xix_no (fun u q ce H locs hP hD hS hce hcv hcl => ?_)
  refine vx_catch (name := xIA) hown [⟨0, 9, 10, 14⟩] ⟨0, 9, 15, 17⟩ [] htab (fun z hz => by
      cases hz with
      | head => exact Or.inr ⟨by decide, xIO, hts (.classLink RL 14 xIO) (by decide +kernel), hE.2.1.2.2.1.2.2.2⟩
      | tail _ h9 => cases h9) (by decide) (by decide) (hts (.classLink RL 17 xIA) (by decide +kernel)) (va_Nw.use rfl hE.2.1.2.2.1.2.1) hce hcv hcl ?_
  refine lv_astore (lv' := [(5, .ref q), (0, .ref a4), (1, .int p0), (2, .int p1), (3, .int p2), (4, .int p3)]) hx hb dL_addLine_15 hl (by decide) rfl (fun ls hl => ?_)
  refine lv_ldc (v := (-99999)) hx hb hown (hts (.constant RL 16 (-99999)) (by decide +kernel)) dL_addLine_17 ?_
  exact kret _ u _ _ _ _ _ _ dL_addLine_19 rfl hP hD hS (Nat.le_of_ble_eq_true rfl) (Nat.le_of_ble_eq_true rfl)
set_option maxHeartbeats 4000000 in
set_option maxRecDepth 100000 in
theorem w_empty {S : Type} (l : Launch) (D : va_G) (cy : Nat → ClassId) (t0 : Nat) (a4 : Nat) (fs : List Value) (p0 : Int32) (W0 : va_W) (hW : W0[0]? = some (a4, .inr (4, fs))) {F LO mc ms : Nat} {r0 : Int32} {OP : S → Prop} {w1 : S → va_W} (hF : F + 1 ≤ 8) (hLO : LO ≤ 169) (hm : mc ≤ 3) (hs : ms ≤ 9606) (hc : xWi (S := S) l yX4_empty wsX4_empty ({ frames := F, cells := mc, slots := ms, locals := LO } : Room) D cy t0 ([.ref a4, .int p0]) W0 (fun r v => r = r0 ∧ OP v) w1 mc ms) : xWi (S := S) l yL_empty wsL_empty ({ frames := 8, cells := 3, slots := 9606, locals := 230 } : Room) D cy t0 ([.ref a4, .int p0]) W0 (fun r v => r = r0 ∧ OP v) w1 3 9606 := by
  refine xofWiW (cc := cL_empty) (maxL := 3) (hh := [(0, 5, 6, 14)]) (by decide) rfl (Nat.le_of_ble_eq_true rfl) ?_
  intro p e s m below meth c Q A ls hx hb hml hts hown hE hA H locs hP hD hl hS htab kret
  have hl : lv_has ls 3 [(0, .ref a4), (1, .int p0)] := hl
  refine lv_aload_n hx hb dL_empty_0 rfl (lv_at hl 0 rfl) ?_
  refine lv_iload_n hx hb dL_empty_1 rfl (lv_at hl 1 rfl) ?_
  refine xc0i (va_runV (As := [.int p0]) (rest := []) ⟨hx, hb, hml, hown, hts⟩ (hc H.size) (cwV 1 hts gL_empty_X4_empty rfl rfl rfl (by decide +kernel) ⟨hF, (by show 8 + (2 + 11) + LO ≤ 230; omega)⟩) (gvW hW hE hS hA hP hD) rfl rfl hl.1 rfl (lv_room (Nat.le_of_ble_eq_true rfl)) dL_empty_2 ⟨(by show 0 + mc ≤ 3; omega), (by show 0 + ms ≤ 9606; omega)⟩) hP hD hS hA (fun r u H locs hq hP hD hS => ?_)
  obtain ⟨hq1, hq⟩ := hq
  subst hq1
  exact kret _ u _ _ _ _ _ _ dL_empty_5 ⟨rfl, hq⟩ hP hD hS (by show 0 + mc ≤ 3; omega) (by show 0 + ms ≤ 9606; omega)
set_option maxHeartbeats 4000000 in
set_option maxRecDepth 100000 in
theorem w_emptyT {S : Type} (l : Launch) (D : va_G) (cy : Nat → ClassId) (t0 : Nat) (a4 : Nat) (fs : List Value) (p0 : Int32) (W0 : va_W) (hW : W0[0]? = some (a4, .inr (4, fs))) {F LO : Nat} {w1 : S → va_W} (hF : F + 1 ≤ 8) (hLO : LO ≤ 169) (hc : xT l yX4_empty wsX4_empty ({ frames := F, cells := 1, slots := 6, locals := LO } : Room) D cy t0 ([.ref a4, .int p0]) W0 xIO w1 1 6) : xWi (S := S) l yL_empty wsL_empty ({ frames := 8, cells := 3, slots := 9606, locals := 230 } : Room) D cy t0 ([.ref a4, .int p0]) W0 (fun r _ => r = -99999) w1 3 9606 := by
  refine xofWiW (cc := cL_empty) (maxL := 3) (hh := [(0, 5, 6, 14)]) (by decide) rfl (Nat.le_of_ble_eq_true rfl) ?_
  intro p e s m below meth c Q A ls hx hb hml hts hown hE hA H locs hP hD hl hS htab kret
  have hl : lv_has ls 3 [(0, .ref a4), (1, .int p0)] := hl
  refine lv_aload_n hx hb dL_empty_0 rfl (lv_at hl 0 rfl) ?_
  refine lv_iload_n hx hb dL_empty_1 rfl (lv_at hl 1 rfl) ?_
  refine xcT (wr := []) (vx_runV (As := [.int p0]) (rest := []) ⟨hx, hb, hml, hown, hts⟩ (hc H.size) (cwV 1 hts gL_empty_X4_empty rfl rfl rfl (by decide +kernel) ⟨hF, (by show 8 + (2 + 11) + LO ≤ 230; omega)⟩) (gvW hW hE hS hA hP hD) rfl rfl hl.1 rfl (lv_room (Nat.le_of_ble_eq_true rfl)) dL_empty_2 ⟨Nat.le_of_ble_eq_true rfl, Nat.le_of_ble_eq_true rfl⟩) hP hD hS hA (xix 0 W0.length) [] (xix_map W0 []) rfl (by decide) xix_no (fun u q ce H locs hP hD hS hce hcv hcl => ?_)
  refine vx_catch (name := xIO) hown [] ⟨0, 5, 6, 14⟩ [] htab (fun z hz => by cases hz) (by decide) (by decide) (hts (.classLink RL 14 xIO) (by decide +kernel)) (va_Nw.use rfl hE.2.1.2.2.1.1) hce hcv hcl ?_
  refine lv_astore_n (lv' := [(2, .ref q), (0, .ref a4), (1, .int p0)]) hx hb dL_empty_6 rfl hl (by decide) rfl (fun ls hl => ?_)
  refine lv_ldc (v := (-99999)) hx hb hown (hts (.constant RL 16 (-99999)) (by decide +kernel)) dL_empty_7 ?_
  exact kret _ u _ _ _ _ _ _ dL_empty_9 rfl hP hD hS (Nat.le_of_ble_eq_true rfl) (Nat.le_of_ble_eq_true rfl)
set_option maxHeartbeats 4000000 in
set_option maxRecDepth 100000 in
theorem w_merge {S : Type} (l : Launch) (D : va_G) (cy : Nat → ClassId) (t0 : Nat) (a4 : Nat) (fs : List Value) (p0 p1 : Int32) (W0 : va_W) (hW : W0[0]? = some (a4, .inr (4, fs))) {F LO mc ms : Nat} {r0 : Int32} {OP : S → Prop} {w1 : S → va_W} (hF : F + 1 ≤ 8) (hLO : LO ≤ 169) (hm : mc ≤ 3) (hs : ms ≤ 9606) (hc : xWi (S := S) l yX4_merge wsX4_merge ({ frames := F, cells := mc, slots := ms, locals := LO } : Room) D cy t0 ([.ref a4, .int p0, .int p1]) W0 (fun r v => r = r0 ∧ OP v) w1 mc ms) : xWi (S := S) l yL_merge wsL_merge ({ frames := 8, cells := 3, slots := 9606, locals := 230 } : Room) D cy t0 ([.ref a4, .int p0, .int p1]) W0 (fun r v => r = r0 ∧ OP v) w1 3 9606 := by
  refine xofWiW (cc := cL_merge) (maxL := 4) (hh := [(0, 6, 7, 14)]) (by decide) rfl (Nat.le_of_ble_eq_true rfl) ?_
  intro p e s m below meth c Q A ls hx hb hml hts hown hE hA H locs hP hD hl hS htab kret
  have hl : lv_has ls 4 [(0, .ref a4), (1, .int p0), (2, .int p1)] := hl
  refine lv_aload_n hx hb dL_merge_0 rfl (lv_at hl 0 rfl) ?_
  refine lv_iload_n hx hb dL_merge_1 rfl (lv_at hl 1 rfl) ?_
  refine lv_iload_n hx hb dL_merge_2 rfl (lv_at hl 2 rfl) ?_
  refine xc0i (va_runV (As := [.int p0, .int p1]) (rest := []) ⟨hx, hb, hml, hown, hts⟩ (hc H.size) (cwV 2 hts gL_merge_X4_merge rfl rfl rfl (by decide +kernel) ⟨hF, (by show 8 + (5 + 11) + LO ≤ 230; omega)⟩) (gvW hW hE hS hA hP hD) rfl rfl hl.1 rfl (lv_room (Nat.le_of_ble_eq_true rfl)) dL_merge_3 ⟨(by show 0 + mc ≤ 3; omega), (by show 0 + ms ≤ 9606; omega)⟩) hP hD hS hA (fun r u H locs hq hP hD hS => ?_)
  obtain ⟨hq1, hq⟩ := hq
  subst hq1
  exact kret _ u _ _ _ _ _ _ dL_merge_6 ⟨rfl, hq⟩ hP hD hS (by show 0 + mc ≤ 3; omega) (by show 0 + ms ≤ 9606; omega)
set_option maxHeartbeats 4000000 in
set_option maxRecDepth 100000 in
theorem w_mergeT {S : Type} (l : Launch) (D : va_G) (cy : Nat → ClassId) (t0 : Nat) (a4 : Nat) (fs : List Value) (p0 p1 : Int32) (W0 : va_W) (hW : W0[0]? = some (a4, .inr (4, fs))) {F LO : Nat} {w1 : S → va_W} (hF : F + 1 ≤ 8) (hLO : LO ≤ 169) (hc : xT l yX4_merge wsX4_merge ({ frames := F, cells := 1, slots := 6, locals := LO } : Room) D cy t0 ([.ref a4, .int p0, .int p1]) W0 xIO w1 1 6) : xWi (S := S) l yL_merge wsL_merge ({ frames := 8, cells := 3, slots := 9606, locals := 230 } : Room) D cy t0 ([.ref a4, .int p0, .int p1]) W0 (fun r _ => r = -99999) w1 3 9606 := by
  refine xofWiW (cc := cL_merge) (maxL := 4) (hh := [(0, 6, 7, 14)]) (by decide) rfl (Nat.le_of_ble_eq_true rfl) ?_
  intro p e s m below meth c Q A ls hx hb hml hts hown hE hA H locs hP hD hl hS htab kret
  have hl : lv_has ls 4 [(0, .ref a4), (1, .int p0), (2, .int p1)] := hl
  refine lv_aload_n hx hb dL_merge_0 rfl (lv_at hl 0 rfl) ?_
  refine lv_iload_n hx hb dL_merge_1 rfl (lv_at hl 1 rfl) ?_
  refine lv_iload_n hx hb dL_merge_2 rfl (lv_at hl 2 rfl) ?_
  refine xcT (wr := []) (vx_runV (As := [.int p0, .int p1]) (rest := []) ⟨hx, hb, hml, hown, hts⟩ (hc H.size) (cwV 2 hts gL_merge_X4_merge rfl rfl rfl (by decide +kernel) ⟨hF, (by show 8 + (5 + 11) + LO ≤ 230; omega)⟩) (gvW hW hE hS hA hP hD) rfl rfl hl.1 rfl (lv_room (Nat.le_of_ble_eq_true rfl)) dL_merge_3 ⟨Nat.le_of_ble_eq_true rfl, Nat.le_of_ble_eq_true rfl⟩) hP hD hS hA (xix 0 W0.length) [] (xix_map W0 []) rfl (by decide) xix_no (fun u q ce H locs hP hD hS hce hcv hcl => ?_)
  refine vx_catch (name := xIO) hown [] ⟨0, 6, 7, 14⟩ [] htab (fun z hz => by cases hz) (by decide) (by decide) (hts (.classLink RL 14 xIO) (by decide +kernel)) (va_Nw.use rfl hE.2.1.2.2.1.1) hce hcv hcl ?_
  refine lv_astore_n (lv' := [(3, .ref q), (0, .ref a4), (1, .int p0), (2, .int p1)]) hx hb dL_merge_7 rfl hl (by decide) rfl (fun ls hl => ?_)
  refine lv_ldc (v := (-99999)) hx hb hown (hts (.constant RL 16 (-99999)) (by decide +kernel)) dL_merge_8 ?_
  exact kret _ u _ _ _ _ _ _ dL_merge_10 rfl hP hD hS (Nat.le_of_ble_eq_true rfl) (Nat.le_of_ble_eq_true rfl)
set_option maxHeartbeats 4000000 in
set_option maxRecDepth 100000 in
theorem w_pass {S : Type} (l : Launch) (D : va_G) (cy : Nat → ClassId) (t0 : Nat) (a4 : Nat) (fs : List Value) (p0 : Int32) (W0 : va_W) (hW : W0[0]? = some (a4, .inr (4, fs))) {F LO mc ms : Nat} {r0 : Int32} {OP : S → Prop} {w1 : S → va_W} (hF : F + 1 ≤ 8) (hLO : LO ≤ 169) (hm : mc ≤ 3) (hs : ms ≤ 9606) (hc : xWi (S := S) l yX4_pass wsX4_pass ({ frames := F, cells := mc, slots := ms, locals := LO } : Room) D cy t0 ([.ref a4, .int p0]) W0 (fun r v => r = r0 ∧ OP v) w1 mc ms) : xWi (S := S) l yL_pass wsL_pass ({ frames := 8, cells := 3, slots := 9606, locals := 230 } : Room) D cy t0 ([.ref a4, .int p0]) W0 (fun r v => r = r0 ∧ OP v) w1 3 9606 := by
  refine xofWiW (cc := cL_pass) (maxL := 3) (hh := [(0, 5, 6, 17)]) (by decide) rfl (Nat.le_of_ble_eq_true rfl) ?_
  intro p e s m below meth c Q A ls hx hb hml hts hown hE hA H locs hP hD hl hS htab kret
  have hl : lv_has ls 3 [(0, .ref a4), (1, .int p0)] := hl
  refine lv_aload_n hx hb dL_pass_0 rfl (lv_at hl 0 rfl) ?_
  refine lv_iload_n hx hb dL_pass_1 rfl (lv_at hl 1 rfl) ?_
  refine xc0i (va_runV (As := [.int p0]) (rest := []) ⟨hx, hb, hml, hown, hts⟩ (hc H.size) (cwV 1 hts gL_pass_X4_pass rfl rfl rfl (by decide +kernel) ⟨hF, (by show 8 + (2 + 11) + LO ≤ 230; omega)⟩) (gvW hW hE hS hA hP hD) rfl rfl hl.1 rfl (lv_room (Nat.le_of_ble_eq_true rfl)) dL_pass_2 ⟨(by show 0 + mc ≤ 3; omega), (by show 0 + ms ≤ 9606; omega)⟩) hP hD hS hA (fun r u H locs hq hP hD hS => ?_)
  obtain ⟨hq1, hq⟩ := hq
  subst hq1
  exact kret _ u _ _ _ _ _ _ dL_pass_5 ⟨rfl, hq⟩ hP hD hS (by show 0 + mc ≤ 3; omega) (by show 0 + ms ≤ 9606; omega)
set_option maxHeartbeats 4000000 in
set_option maxRecDepth 100000 in
theorem w_passV {S : Type} (l : Launch) (D : va_G) (cy : Nat → ClassId) (t0 : Nat) (a4 : Nat) (fs : List Value) (p0 : Int32) (W0 : va_W) (hW : W0[0]? = some (a4, .inr (4, fs))) {F LO : Nat} {w1 : S → va_W} (hF : F + 1 ≤ 8) (hLO : LO ≤ 169) (hc : xT l yX4_pass wsX4_pass ({ frames := F, cells := 1, slots := 6, locals := LO } : Room) D cy t0 ([.ref a4, .int p0]) W0 xIA w1 1 6) : xWi (S := S) l yL_pass wsL_pass ({ frames := 8, cells := 3, slots := 9606, locals := 230 } : Room) D cy t0 ([.ref a4, .int p0]) W0 (fun r _ => r = -99999) w1 3 9606 := by
  refine xofWiW (cc := cL_pass) (maxL := 3) (hh := [(0, 5, 6, 17)]) (by decide) rfl (Nat.le_of_ble_eq_true rfl) ?_
  intro p e s m below meth c Q A ls hx hb hml hts hown hE hA H locs hP hD hl hS htab kret
  have hl : lv_has ls 3 [(0, .ref a4), (1, .int p0)] := hl
  refine lv_aload_n hx hb dL_pass_0 rfl (lv_at hl 0 rfl) ?_
  refine lv_iload_n hx hb dL_pass_1 rfl (lv_at hl 1 rfl) ?_
  refine xcT (wr := []) (vx_runV (As := [.int p0]) (rest := []) ⟨hx, hb, hml, hown, hts⟩ (hc H.size) (cwV 1 hts gL_pass_X4_pass rfl rfl rfl (by decide +kernel) ⟨hF, (by show 8 + (2 + 11) + LO ≤ 230; omega)⟩) (gvW hW hE hS hA hP hD) rfl rfl hl.1 rfl (lv_room (Nat.le_of_ble_eq_true rfl)) dL_pass_2 ⟨Nat.le_of_ble_eq_true rfl, Nat.le_of_ble_eq_true rfl⟩) hP hD hS hA (xix 0 W0.length) [] (xix_map W0 []) rfl (by decide) xix_no (fun u q ce H locs hP hD hS hce hcv hcl => ?_)
  refine vx_catch (name := xIA) hown [] ⟨0, 5, 6, 17⟩ [] htab (fun z hz => by cases hz) (by decide) (by decide) (hts (.classLink RL 17 xIA) (by decide +kernel)) (va_Nw.use rfl hE.2.1.2.2.1.2.1) hce hcv hcl ?_
  refine lv_astore_n (lv' := [(2, .ref q), (0, .ref a4), (1, .int p0)]) hx hb dL_pass_6 rfl hl (by decide) rfl (fun ls hl => ?_)
  refine lv_ldc (v := (-99999)) hx hb hown (hts (.constant RL 16 (-99999)) (by decide +kernel)) dL_pass_7 ?_
  exact kret _ u _ _ _ _ _ _ dL_pass_9 rfl hP hD hS (Nat.le_of_ble_eq_true rfl) (Nat.le_of_ble_eq_true rfl)
set_option maxHeartbeats 4000000 in
set_option maxRecDepth 100000 in
theorem w_keptAtT {S : Type} (l : Launch) (D : va_G) (cy : Nat → ClassId) (t0 : Nat) (a4 : Nat) (fs : List Value) (p0 p1 : Int32) (W0 : va_W) (hW : W0[0]? = some (a4, .inr (4, fs))) {F LO : Nat} {w1 : S → va_W} (hF : F + 1 ≤ 8) (hLO : LO ≤ 169) (hc : xT l yX4_keptAt wsX4_keptAt ({ frames := F, cells := 1, slots := 6, locals := LO } : Room) D cy t0 ([.ref a4, .int p0, .int p1]) W0 xIO w1 1 6) : xWi (S := S) l yL_keptAt wsL_keptAt ({ frames := 8, cells := 3, slots := 9606, locals := 230 } : Room) D cy t0 ([.ref a4, .int p0, .int p1]) W0 (fun r _ => r = -1) w1 3 9606 := by
  refine xofWiW (cc := cL_keptAt) (maxL := 4) (hh := [(0, 6, 7, 14)]) (by decide) rfl (Nat.le_of_ble_eq_true rfl) ?_
  intro p e s m below meth c Q A ls hx hb hml hts hown hE hA H locs hP hD hl hS htab kret
  have hl : lv_has ls 4 [(0, .ref a4), (1, .int p0), (2, .int p1)] := hl
  refine lv_aload_n hx hb dL_keptAt_0 rfl (lv_at hl 0 rfl) ?_
  refine lv_iload_n hx hb dL_keptAt_1 rfl (lv_at hl 1 rfl) ?_
  refine lv_iload_n hx hb dL_keptAt_2 rfl (lv_at hl 2 rfl) ?_
  refine xcT (wr := []) (vx_runV (As := [.int p0, .int p1]) (rest := []) ⟨hx, hb, hml, hown, hts⟩ (hc H.size) (cwV 2 hts gL_keptAt_X4_keptAt rfl rfl rfl (by decide +kernel) ⟨hF, (by show 8 + (3 + 11) + LO ≤ 230; omega)⟩) (gvW hW hE hS hA hP hD) rfl rfl hl.1 rfl (lv_room (Nat.le_of_ble_eq_true rfl)) dL_keptAt_3 ⟨Nat.le_of_ble_eq_true rfl, Nat.le_of_ble_eq_true rfl⟩) hP hD hS hA (xix 0 W0.length) [] (xix_map W0 []) rfl (by decide) xix_no (fun u q ce H locs hP hD hS hce hcv hcl => ?_)
  refine vx_catch (name := xIO) hown [] ⟨0, 6, 7, 14⟩ [] htab (fun z hz => by cases hz) (by decide) (by decide) (hts (.classLink RL 14 xIO) (by decide +kernel)) (va_Nw.use rfl hE.2.1.2.2.1.1) hce hcv hcl ?_
  refine lv_astore_n (lv' := [(3, .ref q), (0, .ref a4), (1, .int p0), (2, .int p1)]) hx hb dL_keptAt_7 rfl hl (by decide) rfl (fun ls hl => ?_)
  refine lv_iconst (v := (-1)) hx hb dL_keptAt_8 (by decide) ?_
  exact kret _ u _ _ _ _ _ _ dL_keptAt_9 rfl hP hD hS (Nat.le_of_ble_eq_true rfl) (Nat.le_of_ble_eq_true rfl)
end X42
