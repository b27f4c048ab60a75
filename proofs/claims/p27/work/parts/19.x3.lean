section XX3
set_option maxHeartbeats 4000000 in
set_option maxRecDepth 100000 in
theorem c_tfg (l : Launch) (D : va_G) (cy : Nat → ClassId) (t0 : Nat) (o3 gt : Nat) (lv0 sz0 : Int32) (f : Nat → Int32) : xWv (S := Nat → Int32) l yX3_forget wsX3_forget ({ frames := 1, cells := 0, slots := 0, locals := 22 } : Room) D cy t0 ([.ref o3]) ([(o3, .inr (3, [.ref gt, .int lv0, .int sz0])), (gt, xI cy 25 f)]) (fun u => ∀ r, r < 25 → u r = nI 0) (fun u => [(o3, .inr (3, [.ref gt, .int lv0, .int (nI 0)])), (gt, xI cy 25 u)]) 0 0 := by
  refine xofWv (cc := cX3_forget) (maxL := 2) (by decide) rfl (Nat.le_of_ble_eq_true rfl) ?_
  intro p e s m below meth c Q A ls hx hb hml hts hown hin hE hA H locs hP hD hl hS kret
  have hl : lv_has ls 2 [(0, .ref o3)] := hl
  refine lv_aload_n hx hb dX3_forget_0 rfl (lv_at hl 0 rfl) ?_
  refine lv_iconst (v := nI 0) hx hb dX3_forget_1 (by decide) ?_
  refine va_put (D := D) (ci := 3) (v := .int (nI 0)) (ty := .int) (C := RX3) (T := TX3) (N := 3) hx hb hts (by decide +kernel) tyX3 tyX3_ok nmX3 hown hE.1 hP hD hS 0 rfl rfl 2 (by decide) (hts (.fieldLink RX3 19 "DistinctDale$Thinning" "size" "I") (by decide +kernel)) (fun _ h9 => h9) rfl (by decide +kernel) rfl rfl (Nat.le_of_ble_eq_true rfl) dX3_forget_2 (fun H locs hP hD hS => ?_)
  have hP : xP D [(o3, .inr (3, [.ref gt, .int lv0, .int (nI 0)])), (gt, xI cy 25 f)] H := hP
  have hD : va_D A [(o3, .inr (3, [.ref gt, .int lv0, .int (nI 0)])), (gt, xI cy 25 f)] := hD
  refine lv_iconst (v := nI 0) hx hb dX3_forget_5 (by decide) ?_
  refine lv_istore_n (lv' := [(1, .int (nI 0)), (0, .ref o3)]) hx hb dX3_forget_6 rfl hl (by decide) rfl (fun ls hl => ?_)
  have lz0 : ∀ (n9 : Nat), ∀ (j : Nat) (f2 : Nat → Int32), (hj : j ≤ 25) → (hz : ∀ r, r < j → f2 r = nI 0) → 25 - j < n9 → ∀ (H : Heap) (locs : List Loc), xP D [(o3, .inr (3, [.ref gt, .int lv0, .int (nI 0)])), (gt, xI cy 25 f2)] H → va_D A [(o3, .inr (3, [.ref gt, .int lv0, .int (nI 0)])), (gt, xI cy 25 f2)] → va_S A s.heap H locs → ∀ (ls : Array Slot), lv_has ls 2 [(0, .ref o3), (1, .int (nI j))] → W p l e ({ frames := 1, cells := 0, slots := 0, locals := 22 } : Room) s m [.ref o3].toArray below meth c H locs 0 0 Q (F0 m 7 ls []) := by
    intro n9
    induction n9 with
    | zero => intro j f2 hj hz hm; exact absurd hm (Nat.not_lt_zero _)
    | succ n9 ih_lz0 =>
      intro j f2 hj hz hm H locs hP hD hS ls hl
      refine lv_iload_n hx hb dX3_forget_7 rfl (lv_at hl 1 rfl) ?_
      refine lv_bipush (v := nI 24) hx hb dX3_forget_8 (by decide) ?_
      refine xb_icmp_gt (tgt := 28) (a := j) (b := 24) (by omega) (by omega) hx hb dX3_forget_10 (by decide) (fun c_1 => ?_) (fun c_1 => ?_)
      · exact kret f2 _ _ _ _ _ _ dX3_forget_28 (fun r hr => hz r (by omega)) hP hD hS (Nat.le_of_ble_eq_true rfl) (Nat.le_of_ble_eq_true rfl)
      · refine lv_aload_n hx hb dX3_forget_13 rfl (lv_at hl 0 rfl) ?_
        refine va_get (D := D) (ci := 3) (v := .ref gt) (C := RX3) (T := TX3) (N := 3) hx hb hts (by decide +kernel) hown hE.1 hP 0 rfl rfl 0 (by decide) (hts (.fieldLink RX3 11 "DistinctDale$Thinning" "itemsByLowZeros" "[I") (by decide +kernel)) (fun _ h9 => h9) rfl dX3_forget_14 ?_
        refine lv_iload_n hx hb dX3_forget_17 rfl (lv_at hl 1 rfl) ?_
        refine lv_iconst (v := nI 0) hx hb dX3_forget_18 (by decide) ?_
        refine xcWv (wr := [(o3, .inr (3, [.ref gt, .int lv0, .int (nI 0)]))]) (va_runSN (As := [.ref gt, .int (nI j), .int (nI 0)]) (rest := []) ⟨hx, hb, hml, hown, hts⟩ ((c_put l D cy t0 gt 25 f2 (nI j) (nI 0) (by omega)) H.size) ⟨va_cnB 3 hts ggX3_forget_X4_put rfl rfl rfl (xN12 hE.2.1.1) (hts (.initialized RX4) (by decide +kernel)) (by decide +kernel) ⟨Nat.le_of_ble_eq_true rfl, Nat.le_of_ble_eq_true rfl⟩, (hts (.static yX4_put) (by decide +kernel)), trivial⟩ (xPw.give (wc := [(gt, xI cy 25 f2)]) hE hS hA hP hD [1] (by decide) rfl) rfl rfl hl.1 rfl (lv_room (Nat.le_of_ble_eq_true rfl)) dX3_forget_19 ⟨(Nat.zero_le _), (Nat.zero_le _)⟩) hP hD hS hA [1] [0] rfl rfl (by decide) (by decide) (fun u_4 H locs hr_3 hP hD hS => ?_)
        obtain rfl : u_4 = upd f2 j (nI 0) := by rw [hr_3, xput_in (by omega) (by omega)]
        have hP := hP.sub (ws' := [(o3, .inr (3, [.ref gt, .int lv0, .int (nI 0)])), (gt, xI cy 25 (upd f2 j (nI 0)))]) [0, 1] rfl
        have hD := hD.sub (ws' := [(o3, .inr (3, [.ref gt, .int lv0, .int (nI 0)])), (gt, xI cy 25 (upd f2 j (nI 0)))]) [0, 1] (by decide) rfl
        refine lv_iinc (v := nI (j + 1)) (lv' := [(1, .int (nI (j + 1))), (0, .ref o3)]) hx hb dX3_forget_22 hl (k := 1) rfl (nI_add _ 1) (by decide) rfl (fun ls hl => ?_)
        refine lv_goto (tgt := 7) hx hb dX3_forget_25 (by decide) ?_
        have hz2 : ∀ r, r < j + 1 → upd f2 j (nI 0) r = nI 0 := fun r hr => by
          rcases Nat.lt_or_ge r j with q | q
          · rw [upd_n (by omega)]; exact hz r q
          · have e9 : r = j := by omega
            rw [e9, upd_s]
        exact ih_lz0 (j + 1) (upd f2 j (nI 0)) (by omega) hz2 (by omega) _ _ hP hD hS _ (lv_sub hl [1, 0] rfl)
  exact lz0 26 0 f (Nat.zero_le _) (fun r hr => absurd hr (Nat.not_lt_zero _)) (by omega) _ _ hP hD hS _ (lv_sub hl [1, 0] rfl)
set_option maxHeartbeats 4000000 in
set_option maxRecDepth 100000 in
theorem c_tct (l : Launch) (D : va_G) (cy : Nat → ClassId) (t0 : Nat) (o3 gt h z c9 sz : Nat) (lv0 : Int32) (f : Nat → Int32) (hh : h < 16777213) (hz : lz h 24 0 = z) (hz24 : z ≤ 24) (hf : f z = nI c9) (hc : c9 ≤ 100000) (hsz : sz ≤ 100000) : xWv (S := Nat → Int32) l yX3_count wsX3_count ({ frames := 1, cells := 0, slots := 0, locals := 22 } : Room) D cy t0 ([.ref o3, .int (nI h)]) ([(o3, .inr (3, [.ref gt, .int lv0, .int (nI sz)])), (gt, xI cy 25 f)]) (fun u => u = upd f z (nI (c9 + 1))) (fun u => [(o3, .inr (3, [.ref gt, .int lv0, .int (nI (sz + 1))])), (gt, xI cy 25 u)]) 0 0 := by
  refine xofWv (cc := cX3_count) (maxL := 3) (by decide) rfl (Nat.le_of_ble_eq_true rfl) ?_
  intro p e s m below meth c Q A ls hx hb hml hts hown hin hE hA H locs hP hD hl hS kret
  have hl : lv_has ls 3 [(0, .ref o3), (1, .int (nI h))] := hl
  refine lv_iload_n hx hb dX3_count_0 rfl (lv_at hl 1 rfl) ?_
  refine lv_bipush (v := nI 24) hx hb dX3_count_1 (by decide) ?_
  refine xcRi (va_runSN (As := [.int (nI h), .int (nI 24)]) (rest := []) ⟨hx, hb, hml, hown, hts⟩ (c_lowZeros l D cy t0 h 24 (by omega) (by omega)) ⟨va_cnB 2 hts ggX3_count_X4_lowZeros rfl rfl rfl (xN15 hE.2.1.1) (hts (.initialized RX4) (by decide +kernel)) (by decide +kernel) ⟨Nat.le_of_ble_eq_true rfl, Nat.le_of_ble_eq_true rfl⟩, (hts (.static yX4_lowZeros) (by decide +kernel)), trivial⟩ (xPr.give (wc := []) hE hS hP [] rfl) rfl rfl hl.1 rfl (lv_room (Nat.le_of_ble_eq_true rfl)) dX3_count_3 ⟨(Nat.zero_le _), (Nat.zero_le _)⟩) (fun r_1 hr_2 => ?_)
  obtain rfl : r_1 = nI z := hr_2.trans (congrArg nI hz)
  refine lv_istore_n (lv' := [(2, .int (nI z)), (0, .ref o3), (1, .int (nI h))]) hx hb dX3_count_6 rfl hl (by decide) rfl (fun ls hl => ?_)
  refine lv_aload_n hx hb dX3_count_7 rfl (lv_at hl 1 rfl) ?_
  refine va_get (D := D) (ci := 3) (v := .ref gt) (C := RX3) (T := TX3) (N := 3) hx hb hts (by decide +kernel) hown hE.1 hP 0 rfl rfl 0 (by decide) (hts (.fieldLink RX3 11 "DistinctDale$Thinning" "itemsByLowZeros" "[I") (by decide +kernel)) (fun _ h9 => h9) rfl dX3_count_8 ?_
  refine lv_iload_n hx hb dX3_count_11 rfl (lv_at hl 0 rfl) ?_
  refine lv_aload_n hx hb dX3_count_12 rfl (lv_at hl 1 rfl) ?_
  refine va_get (D := D) (ci := 3) (v := .ref gt) (C := RX3) (T := TX3) (N := 3) hx hb hts (by decide +kernel) hown hE.1 hP 0 rfl rfl 0 (by decide) (hts (.fieldLink RX3 11 "DistinctDale$Thinning" "itemsByLowZeros" "[I") (by decide +kernel)) (fun _ h9 => h9) rfl dX3_count_13 ?_
  refine lv_iload_n hx hb dX3_count_16 rfl (lv_at hl 0 rfl) ?_
  refine xcRi (va_runSN (As := [.ref gt, .int (nI z)]) (rest := [.int (nI z), .ref gt]) ⟨hx, hb, hml, hown, hts⟩ (c_at l D cy t0 gt 25 f (nI z) (by omega)) ⟨va_cnB 2 hts ggX3_count_X4_at rfl rfl rfl (xN13 hE.2.1.1) (hts (.initialized RX4) (by decide +kernel)) (by decide +kernel) ⟨Nat.le_of_ble_eq_true rfl, Nat.le_of_ble_eq_true rfl⟩, (hts (.static yX4_at) (by decide +kernel)), trivial⟩ (xPr.give (wc := [(gt, xI cy 25 f)]) hE hS hP [1] rfl) rfl rfl hl.1 rfl (lv_room (Nat.le_of_ble_eq_true rfl)) dX3_count_17 ⟨(Nat.zero_le _), (Nat.zero_le _)⟩) (fun r_3 hr_4 => ?_)
  obtain rfl : r_3 = nI c9 := by rw [hr_4, xat_in (by omega) (by omega)]; exact hf
  refine lv_iconst (v := nI 1) hx hb dX3_count_20 (by decide) ?_
  refine lv_iadd hx hb dX3_count_21 ?_
  refine lv_eqi (z := nI (c9 + 1)) (nI_add _ _) ?_
  refine xcWv (wr := [(o3, .inr (3, [.ref gt, .int lv0, .int (nI sz)]))]) (va_runSN (As := [.ref gt, .int (nI z), .int (nI (c9 + 1))]) (rest := []) ⟨hx, hb, hml, hown, hts⟩ ((c_put l D cy t0 gt 25 f (nI z) (nI (c9 + 1)) (by omega)) H.size) ⟨va_cnB 3 hts ggX3_count_X4_put rfl rfl rfl (xN12 hE.2.1.1) (hts (.initialized RX4) (by decide +kernel)) (by decide +kernel) ⟨Nat.le_of_ble_eq_true rfl, Nat.le_of_ble_eq_true rfl⟩, (hts (.static yX4_put) (by decide +kernel)), trivial⟩ (xPw.give (wc := [(gt, xI cy 25 f)]) hE hS hA hP hD [1] (by decide) rfl) rfl rfl hl.1 rfl (lv_room (Nat.le_of_ble_eq_true rfl)) dX3_count_22 ⟨(Nat.zero_le _), (Nat.zero_le _)⟩) hP hD hS hA [1] [0] rfl rfl (by decide) (by decide) (fun u_7 H locs hr_6 hP hD hS => ?_)
  obtain rfl : u_7 = upd f z (nI (c9 + 1)) := by rw [hr_6, xput_in (by omega) (by omega)]
  have hP := hP.sub (ws' := [(o3, .inr (3, [.ref gt, .int lv0, .int (nI sz)])), (gt, xI cy 25 (upd f z (nI (c9 + 1))))]) [0, 1] rfl
  have hD := hD.sub (ws' := [(o3, .inr (3, [.ref gt, .int lv0, .int (nI sz)])), (gt, xI cy 25 (upd f z (nI (c9 + 1))))]) [0, 1] (by decide) rfl
  refine lv_aload_n hx hb dX3_count_25 rfl (lv_at hl 1 rfl) ?_
  refine lv_dup hx hb dX3_count_26 rfl ?_
  refine va_get (D := D) (ci := 3) (v := .int (nI sz)) (C := RX3) (T := TX3) (N := 3) hx hb hts (by decide +kernel) hown hE.1 hP 0 rfl rfl 2 (by decide) (hts (.fieldLink RX3 19 "DistinctDale$Thinning" "size" "I") (by decide +kernel)) (fun _ h9 => h9) rfl dX3_count_27 ?_
  refine lv_iconst (v := nI 1) hx hb dX3_count_30 (by decide) ?_
  refine lv_iadd hx hb dX3_count_31 ?_
  refine lv_eqi (z := nI (sz + 1)) (nI_add _ _) ?_
  refine va_put (D := D) (ci := 3) (v := .int (nI (sz + 1))) (ty := .int) (C := RX3) (T := TX3) (N := 3) hx hb hts (by decide +kernel) tyX3 tyX3_ok nmX3 hown hE.1 hP hD hS 0 rfl rfl 2 (by decide) (hts (.fieldLink RX3 19 "DistinctDale$Thinning" "size" "I") (by decide +kernel)) (fun _ h9 => h9) rfl (by decide +kernel) rfl rfl (Nat.le_of_ble_eq_true rfl) dX3_count_32 (fun H locs hP hD hS => ?_)
  have hP : xP D [(o3, .inr (3, [.ref gt, .int lv0, .int (nI (sz + 1))])), (gt, xI cy 25 (upd f z (nI (c9 + 1))))] H := hP
  have hD : va_D A [(o3, .inr (3, [.ref gt, .int lv0, .int (nI (sz + 1))])), (gt, xI cy 25 (upd f z (nI (c9 + 1))))] := hD
  exact kret (upd f z (nI (c9 + 1))) _ _ _ _ _ _ dX3_count_35 rfl hP hD hS (Nat.le_of_ble_eq_true rfl) (Nat.le_of_ble_eq_true rfl)
set_option maxHeartbeats 4000000 in
set_option maxRecDepth 100000 in
theorem c_tst (l : Launch) (D : va_G) (cy : Nat → ClassId) (t0 : Nat) (P : Nat → Bool) (o3 gt : Nat) (lv0 : Int32) (f3 : Nat → Int32) (hR : ZC P 100000 f3) : xWv (S := Unit) l yX3_settle wsX3_settle ({ frames := 1, cells := 0, slots := 0, locals := 21 } : Room) D cy t0 ([.ref o3]) ([(o3, .inr (3, [.ref gt, .int lv0, .int (nI (cb P 100000))])), (gt, xI cy 25 f3)]) (fun _ => True) (fun _ => [(o3, .inr (3, [.ref gt, .int (nI (lvl P)), .int (nI (cb (SL P (lvl P)) 100000))])), (gt, xI cy 25 f3)]) 0 0 := by
  refine xofWv (cc := cX3_settle) (maxL := 1) (by decide) rfl (Nat.le_of_ble_eq_true rfl) ?_
  intro p e s m below meth c Q A ls hx hb hml hts hown hin hE hA H locs hP hD hl hS kret
  have hl : lv_has ls 1 [(0, .ref o3)] := hl
  have e0 : cb P 100000 = cb (SL P 0) 100000 := cb_congr (fun x _ => (SL_0 x).symm)
  rw [e0] at hP hD
  refine lv_aload_n hx hb dX3_settle_0 rfl (lv_at hl 0 rfl) ?_
  refine lv_iconst (v := nI 0) hx hb dX3_settle_1 (by decide) ?_
  refine va_put (D := D) (ci := 3) (v := .int (nI 0)) (ty := .int) (C := RX3) (T := TX3) (N := 3) hx hb hts (by decide +kernel) tyX3 tyX3_ok nmX3 hown hE.1 hP hD hS 0 rfl rfl 1 (by decide) (hts (.fieldLink RX3 15 "DistinctDale$Thinning" "levelFound" "I") (by decide +kernel)) (fun _ h9 => h9) rfl (by decide +kernel) rfl rfl (Nat.le_of_ble_eq_true rfl) dX3_settle_2 (fun H locs hP hD hS => ?_)
  have hP : xP D [(o3, .inr (3, [.ref gt, .int (nI 0), .int (nI (cb (SL P 0) 100000))])), (gt, xI cy 25 f3)] H := hP
  have hD : va_D A [(o3, .inr (3, [.ref gt, .int (nI 0), .int (nI (cb (SL P 0) 100000))])), (gt, xI cy 25 f3)] := hD
  have lv : ∀ (n9 : Nat), ∀ (lv : Nat), (hlv : lv ≤ 24) → (hle : lvl P = lvF P (24 - lv) lv) → 24 - lv < n9 → ∀ (H : Heap) (locs : List Loc), xP D [(o3, .inr (3, [.ref gt, .int (nI lv), .int (nI (cb (SL P lv) 100000))])), (gt, xI cy 25 f3)] H → va_D A [(o3, .inr (3, [.ref gt, .int (nI lv), .int (nI (cb (SL P lv) 100000))])), (gt, xI cy 25 f3)] → va_S A s.heap H locs → ∀ (ls : Array Slot), lv_has ls 1 [(0, .ref o3)] → W p l e ({ frames := 1, cells := 0, slots := 0, locals := 21 } : Room) s m [.ref o3].toArray below meth c H locs 0 0 Q (F0 m 5 ls []) := by
    intro n9
    induction n9 with
    | zero => intro lv hlv hle hm; exact absurd hm (Nat.not_lt_zero _)
    | succ n9 ih_lv =>
      intro lv hlv hle hm H locs hP hD hS ls hl
      have hsb := cb_le (P := SL P lv) (n := 100000)
      refine lv_aload_n hx hb dX3_settle_5 rfl (lv_at hl 0 rfl) ?_
      refine va_get (D := D) (ci := 3) (v := .int (nI (cb (SL P lv) 100000))) (C := RX3) (T := TX3) (N := 3) hx hb hts (by decide +kernel) hown hE.1 hP 0 rfl rfl 2 (by decide) (hts (.fieldLink RX3 19 "DistinctDale$Thinning" "size" "I") (by decide +kernel)) (fun _ h9 => h9) rfl dX3_settle_6 ?_
      refine lv_bipush (v := nI 16) hx hb dX3_settle_9 (by decide) ?_
      refine xb_icmp_le (tgt := 56) (a := cb (SL P lv) 100000) (b := 16) (by omega) (by omega) hx hb dX3_settle_11 (by decide) (fun c_1 => ?_) (fun c_1 => ?_)
      · have elv : lvl P = lv := by
          rw [hle]
          rcases Nat.lt_or_ge lv 24 with q | q
          · exact lv_stop q (by omega)
          · exact lv_end (by omega)
        rw [← elv] at hP hD
        exact kret () _ _ _ _ _ _ dX3_settle_56 trivial hP hD hS (Nat.le_of_ble_eq_true rfl) (Nat.le_of_ble_eq_true rfl)
      · refine lv_aload_n hx hb dX3_settle_14 rfl (lv_at hl 0 rfl) ?_
        refine va_get (D := D) (ci := 3) (v := .int (nI lv)) (C := RX3) (T := TX3) (N := 3) hx hb hts (by decide +kernel) hown hE.1 hP 0 rfl rfl 1 (by decide) (hts (.fieldLink RX3 15 "DistinctDale$Thinning" "levelFound" "I") (by decide +kernel)) (fun _ h9 => h9) rfl dX3_settle_15 ?_
        refine lv_bipush (v := nI 24) hx hb dX3_settle_18 (by decide) ?_
        refine xb_icmp_ge (tgt := 56) (a := lv) (b := 24) (by omega) (by omega) hx hb dX3_settle_20 (by decide) (fun c_2 => ?_) (fun c_2 => ?_)
        · have elv : lvl P = lv := by rw [hle]; exact lv_end (by omega)
          rw [← elv] at hP hD
          exact kret () _ _ _ _ _ _ dX3_settle_56 trivial hP hD hS (Nat.le_of_ble_eq_true rfl) (Nat.le_of_ble_eq_true rfl)
        · refine lv_aload_n hx hb dX3_settle_23 rfl (lv_at hl 0 rfl) ?_
          refine lv_dup hx hb dX3_settle_24 rfl ?_
          refine va_get (D := D) (ci := 3) (v := .int (nI (cb (SL P lv) 100000))) (C := RX3) (T := TX3) (N := 3) hx hb hts (by decide +kernel) hown hE.1 hP 0 rfl rfl 2 (by decide) (hts (.fieldLink RX3 19 "DistinctDale$Thinning" "size" "I") (by decide +kernel)) (fun _ h9 => h9) rfl dX3_settle_25 ?_
          refine lv_aload_n hx hb dX3_settle_28 rfl (lv_at hl 0 rfl) ?_
          refine va_get (D := D) (ci := 3) (v := .ref gt) (C := RX3) (T := TX3) (N := 3) hx hb hts (by decide +kernel) hown hE.1 hP 0 rfl rfl 0 (by decide) (hts (.fieldLink RX3 11 "DistinctDale$Thinning" "itemsByLowZeros" "[I") (by decide +kernel)) (fun _ h9 => h9) rfl dX3_settle_29 ?_
          refine lv_aload_n hx hb dX3_settle_32 rfl (lv_at hl 0 rfl) ?_
          refine va_get (D := D) (ci := 3) (v := .int (nI lv)) (C := RX3) (T := TX3) (N := 3) hx hb hts (by decide +kernel) hown hE.1 hP 0 rfl rfl 1 (by decide) (hts (.fieldLink RX3 15 "DistinctDale$Thinning" "levelFound" "I") (by decide +kernel)) (fun _ h9 => h9) rfl dX3_settle_33 ?_
          refine xcRi (va_runSN (As := [.ref gt, .int (nI lv)]) (rest := [.int (nI (cb (SL P lv) 100000)), .ref o3]) ⟨hx, hb, hml, hown, hts⟩ (c_at l D cy t0 gt 25 f3 (nI lv) (by omega)) ⟨va_cnB 2 hts ggX3_settle_X4_at rfl rfl rfl (xN13 hE.2.1.1) (hts (.initialized RX4) (by decide +kernel)) (by decide +kernel) ⟨Nat.le_of_ble_eq_true rfl, Nat.le_of_ble_eq_true rfl⟩, (hts (.static yX4_at) (by decide +kernel)), trivial⟩ (xPr.give (wc := [(gt, xI cy 25 f3)]) hE hS hP [1] rfl) rfl rfl hl.1 rfl (lv_room (Nat.le_of_ble_eq_true rfl)) dX3_settle_36 ⟨(Nat.zero_le _), (Nat.zero_le _)⟩) (fun r_3 hr_4 => ?_)
          obtain rfl : r_3 = nI (cb (SZq P lv) 100000) := by rw [hr_4, xat_in (by omega) (by omega)]; exact hR _ (by omega)
          have hst := SL_step P lv 100000
          refine lv_isub hx hb dX3_settle_39 ?_
          refine lv_eqi (z := nI (cb (SL P (lv + 1)) 100000)) ((pk_sub (by omega)).trans (congrArg nI (by omega))) ?_
          refine va_put (D := D) (ci := 3) (v := .int (nI (cb (SL P (lv + 1)) 100000))) (ty := .int) (C := RX3) (T := TX3) (N := 3) hx hb hts (by decide +kernel) tyX3 tyX3_ok nmX3 hown hE.1 hP hD hS 0 rfl rfl 2 (by decide) (hts (.fieldLink RX3 19 "DistinctDale$Thinning" "size" "I") (by decide +kernel)) (fun _ h9 => h9) rfl (by decide +kernel) rfl rfl (Nat.le_of_ble_eq_true rfl) dX3_settle_40 (fun H locs hP hD hS => ?_)
          have hP : xP D [(o3, .inr (3, [.ref gt, .int (nI lv), .int (nI (cb (SL P (lv + 1)) 100000))])), (gt, xI cy 25 f3)] H := hP
          have hD : va_D A [(o3, .inr (3, [.ref gt, .int (nI lv), .int (nI (cb (SL P (lv + 1)) 100000))])), (gt, xI cy 25 f3)] := hD
          refine lv_aload_n hx hb dX3_settle_43 rfl (lv_at hl 0 rfl) ?_
          refine lv_dup hx hb dX3_settle_44 rfl ?_
          refine va_get (D := D) (ci := 3) (v := .int (nI lv)) (C := RX3) (T := TX3) (N := 3) hx hb hts (by decide +kernel) hown hE.1 hP 0 rfl rfl 1 (by decide) (hts (.fieldLink RX3 15 "DistinctDale$Thinning" "levelFound" "I") (by decide +kernel)) (fun _ h9 => h9) rfl dX3_settle_45 ?_
          refine lv_iconst (v := nI 1) hx hb dX3_settle_48 (by decide) ?_
          refine lv_iadd hx hb dX3_settle_49 ?_
          refine lv_eqi (z := nI (lv + 1)) (nI_add _ _) ?_
          refine va_put (D := D) (ci := 3) (v := .int (nI (lv + 1))) (ty := .int) (C := RX3) (T := TX3) (N := 3) hx hb hts (by decide +kernel) tyX3 tyX3_ok nmX3 hown hE.1 hP hD hS 0 rfl rfl 1 (by decide) (hts (.fieldLink RX3 15 "DistinctDale$Thinning" "levelFound" "I") (by decide +kernel)) (fun _ h9 => h9) rfl (by decide +kernel) rfl rfl (Nat.le_of_ble_eq_true rfl) dX3_settle_50 (fun H locs hP hD hS => ?_)
          have hP : xP D [(o3, .inr (3, [.ref gt, .int (nI (lv + 1)), .int (nI (cb (SL P (lv + 1)) 100000))])), (gt, xI cy 25 f3)] H := hP
          have hD : va_D A [(o3, .inr (3, [.ref gt, .int (nI (lv + 1)), .int (nI (cb (SL P (lv + 1)) 100000))])), (gt, xI cy 25 f3)] := hD
          refine lv_goto (tgt := 5) hx hb dX3_settle_53 (by decide) ?_
          exact ih_lv (lv + 1) (by omega) (by rw [hle]; exact lv_step (by omega) (by omega)) (by omega) _ _ hP hD hS _ (lv_sub hl [0] rfl)
  exact lv 25 0 (Nat.zero_le _) rfl (by omega) _ _ hP hD hS _ (lv_sub hl [0] rfl)
set_option maxHeartbeats 4000000 in
set_option maxRecDepth 100000 in
theorem c_thin (l : Launch) (D : va_G) (cy : Nat → ClassId) (t0 : Nat) (P : Nat → Bool) (o3 gt h0 qi qd n cap : Nat) (lv0 sz0 : Int32) (f fi : Nat → Int32) (hV : RW P 100000 n fi) (hn : n ≤ cap) (hcap : cap ≤ 100000) : xWv (S := Nat → Int32) l yX3_thin wsX3_thin ({ frames := 2, cells := 0, slots := 0, locals := 44 } : Room) D cy t0 ([.ref o3, .ref h0]) ([(o3, .inr (3, [.ref gt, .int lv0, .int sz0])), (gt, xI cy 25 f), (h0, .inr (0, [.ref qi, .ref qd, .int (nI n)])), (qi, xI cy cap fi)]) (fun _ => True) (fun u => [(o3, .inr (3, [.ref gt, .int (nI (lvl P)), .int (nI (cb (SL P (lvl P)) 100000))])), (gt, xI cy 25 u), (h0, .inr (0, [.ref qi, .ref qd, .int (nI n)])), (qi, xI cy cap fi)]) 0 0 := by
  refine xofWv (cc := cX3_thin) (maxL := 3) (by decide) rfl (Nat.le_of_ble_eq_true rfl) ?_
  intro p e s m below meth c Q A ls hx hb hml hts hown hin hE hA H locs hP hD hl hS kret
  have hl : lv_has ls 3 [(0, .ref o3), (1, .ref h0)] := hl
  have hV1 := hV.1
  refine lv_aload_n hx hb dX3_thin_0 rfl (lv_at hl 0 rfl) ?_
  refine xcWv (wr := [(h0, .inr (0, [.ref qi, .ref qd, .int (nI n)])), (qi, xI cy cap fi)]) (va_runV (As := []) (rest := []) ⟨hx, hb, hml, hown, hts⟩ ((c_tfg l D cy t0 o3 gt lv0 sz0 f) H.size) (cwV 0 hts gX3_thin_X3_forget rfl rfl rfl (by decide +kernel) ⟨Nat.le_of_ble_eq_true rfl, Nat.le_of_ble_eq_true rfl⟩) (xPw.giveV (wc := [(o3, .inr (3, [.ref gt, .int lv0, .int sz0])), (gt, xI cy 25 f)]) hE hS hA hP hD [0, 1] (by decide) rfl 0 3 rfl rfl) rfl rfl hl.1 rfl (lv_room (Nat.le_of_ble_eq_true rfl)) dX3_thin_1 ⟨(Nat.zero_le _), (Nat.zero_le _)⟩) hP hD hS hA [0, 1] [2, 3] rfl rfl (by decide) (by decide) (fun u_3 H locs hr_2 hP hD hS => ?_)
  obtain ⟨f2, rfl⟩ : ∃ z9, z9 = u_3 := ⟨_, rfl⟩
  have hz : ∀ r, r < 25 → f2 r = nI 0 := hr_2
  have hP := hP.sub (ws' := [(o3, .inr (3, [.ref gt, .int lv0, .int (nI 0)])), (gt, xI cy 25 f2), (h0, .inr (0, [.ref qi, .ref qd, .int (nI n)])), (qi, xI cy cap fi)]) [2, 3, 0, 1] rfl
  have hD := hD.sub (ws' := [(o3, .inr (3, [.ref gt, .int lv0, .int (nI 0)])), (gt, xI cy 25 f2), (h0, .inr (0, [.ref qi, .ref qd, .int (nI n)])), (qi, xI cy cap fi)]) [2, 3, 0, 1] (by decide) rfl
  refine lv_iconst (v := nI 0) hx hb dX3_thin_4 (by decide) ?_
  refine lv_istore_n (lv' := [(2, .int (nI 0)), (0, .ref o3), (1, .ref h0)]) hx hb dX3_thin_5 rfl hl (by decide) rfl (fun ls hl => ?_)
  have lp : ∀ (n9 : Nat), ∀ (lo : Nat) (f3 : Nat → Int32), (hlo : lo ≤ 100000) → (hR : ZC P lo f3) → n - cb P lo < n9 → ∀ (H : Heap) (locs : List Loc), xP D [(o3, .inr (3, [.ref gt, .int lv0, .int (nI (cb P lo))])), (gt, xI cy 25 f3), (h0, .inr (0, [.ref qi, .ref qd, .int (nI n)])), (qi, xI cy cap fi)] H → va_D A [(o3, .inr (3, [.ref gt, .int lv0, .int (nI (cb P lo))])), (gt, xI cy 25 f3), (h0, .inr (0, [.ref qi, .ref qd, .int (nI n)])), (qi, xI cy cap fi)] → va_S A s.heap H locs → ∀ (ls : Array Slot), lv_has ls 3 [(0, .ref o3), (1, .ref h0), (2, .int (nI (cb P lo)))] → W p l e ({ frames := 2, cells := 0, slots := 0, locals := 44 } : Room) s m [.ref o3, .ref h0].toArray below meth c H locs 0 0 Q (F0 m 6 ls []) := by
    intro n9
    induction n9 with
    | zero => intro lo f3 hlo hR hm; exact absurd hm (Nat.not_lt_zero _)
    | succ n9 ih_lp =>
      intro lo f3 hlo hR hm H locs hP hD hS ls hl
      have hlc : cb P lo ≤ cb P 100000 := cb_mono hlo
      have hcl := cb_le (P := P) (n := lo)
      refine lv_iload_n hx hb dX3_thin_6 rfl (lv_at hl 2 rfl) ?_
      refine lv_aload_n hx hb dX3_thin_7 rfl (lv_at hl 1 rfl) ?_
      refine va_get (D := D) (ci := 0) (v := .int (nI n)) (C := RX0) (T := TX0) (N := 3) hx hb hts (by decide +kernel) hown hE.1 hP 2 rfl rfl 2 (by decide) (hts (.fieldLink RX3 25 "DistinctDale$Basket" "size" "I") (by decide +kernel)) (fun _ h9 => h9) rfl dX3_thin_8 ?_
      refine xb_icmp_ge (tgt := 35) (a := cb P lo) (b := n) (by omega) (by omega) hx hb dX3_thin_11 (by decide) (fun c_4 => ?_) (fun c_4 => ?_)
      · have hRN : ZC P 100000 f3 := hR.skip hlo (cb_nomore (by omega))
        have e5 : cb P lo = cb P 100000 := by omega
        rw [e5] at hP hD
        refine lv_aload_n hx hb dX3_thin_35 rfl (lv_at hl 0 rfl) ?_
        refine xcWv (wr := [(h0, .inr (0, [.ref qi, .ref qd, .int (nI n)])), (qi, xI cy cap fi)]) (va_runV (As := []) (rest := []) ⟨hx, hb, hml, hown, hts⟩ ((c_tst l D cy t0 P o3 gt lv0 f3 hRN) H.size) (cwV 0 hts gX3_thin_X3_settle rfl rfl rfl (by decide +kernel) ⟨Nat.le_of_ble_eq_true rfl, Nat.le_of_ble_eq_true rfl⟩) (xPw.giveV (wc := [(o3, .inr (3, [.ref gt, .int lv0, .int (nI (cb P 100000))])), (gt, xI cy 25 f3)]) hE hS hA hP hD [0, 1] (by decide) rfl 0 3 rfl rfl) rfl rfl hl.1 rfl (lv_room (Nat.le_of_ble_eq_true rfl)) dX3_thin_36 ⟨(Nat.zero_le _), (Nat.zero_le _)⟩) hP hD hS hA [0, 1] [2, 3] rfl rfl (by decide) (by decide) (fun u_7 H locs hr_6 hP hD hS => ?_)
        have hP := hP.sub (ws' := [(o3, .inr (3, [.ref gt, .int (nI (lvl P)), .int (nI (cb (SL P (lvl P)) 100000))])), (gt, xI cy 25 f3), (h0, .inr (0, [.ref qi, .ref qd, .int (nI n)])), (qi, xI cy cap fi)]) [2, 3, 0, 1] rfl
        have hD := hD.sub (ws' := [(o3, .inr (3, [.ref gt, .int (nI (lvl P)), .int (nI (cb (SL P (lvl P)) 100000))])), (gt, xI cy 25 f3), (h0, .inr (0, [.ref qi, .ref qd, .int (nI n)])), (qi, xI cy cap fi)]) [2, 3, 0, 1] (by decide) rfl
        exact kret f3 _ _ _ _ _ _ dX3_thin_39 trivial hP hD hS (Nat.le_of_ble_eq_true rfl) (Nat.le_of_ble_eq_true rfl)
      · refine lv_aload_n hx hb dX3_thin_14 rfl (lv_at hl 0 rfl) ?_
        refine lv_aload_n hx hb dX3_thin_15 rfl (lv_at hl 1 rfl) ?_
        refine va_get (D := D) (ci := 0) (v := .ref qi) (C := RX0) (T := TX0) (N := 3) hx hb hts (by decide +kernel) hown hE.1 hP 2 rfl rfl 0 (by decide) (hts (.fieldLink RX3 28 "DistinctDale$Basket" "items" "[I") (by decide +kernel)) (fun _ h9 => h9) rfl dX3_thin_16 ?_
        refine lv_iload_n hx hb dX3_thin_19 rfl (lv_at hl 2 rfl) ?_
        refine xcRi (va_runSN (As := [.ref qi, .int (nI (cb P lo))]) (rest := [.ref o3]) ⟨hx, hb, hml, hown, hts⟩ (c_at l D cy t0 qi cap fi (nI (cb P lo)) (by omega)) ⟨va_cnB 2 hts ggX3_thin_X4_at rfl rfl rfl (xN13 hE.2.1.1) (hts (.initialized RX4) (by decide +kernel)) (by decide +kernel) ⟨Nat.le_of_ble_eq_true rfl, Nat.le_of_ble_eq_true rfl⟩, (hts (.static yX4_at) (by decide +kernel)), trivial⟩ (xPr.give (wc := [(qi, xI cy cap fi)]) hE hS hP [3] rfl) rfl rfl hl.1 rfl (lv_room (Nat.le_of_ble_eq_true rfl)) dX3_thin_20 ⟨(Nat.zero_le _), (Nat.zero_le _)⟩) (fun r_8 hr_9 => ?_)
        obtain ⟨x, hx1, hx2, hx3, hx4, hx5, hx6⟩ := hV.next hlo (by omega)
        obtain rfl : r_8 = nI x := by rw [hr_9, xat_in (by omega) (by omega), hx6]
        refine xcRi (va_runSN (As := [.int (nI x)]) (rest := [.ref o3]) ⟨hx, hb, hml, hown, hts⟩ (c_hashFor l D cy t0 x hx2) ⟨va_cnB 1 hts ggX3_thin_X4_hashFor rfl rfl rfl (xN14 hE.2.1.1) (hts (.initialized RX4) (by decide +kernel)) (by decide +kernel) ⟨Nat.le_of_ble_eq_true rfl, Nat.le_of_ble_eq_true rfl⟩, (hts (.static yX4_hashFor) (by decide +kernel)), trivial⟩ (xPr.give (wc := []) hE hS hP [] rfl) rfl rfl hl.1 rfl (lv_room (Nat.le_of_ble_eq_true rfl)) dX3_thin_23 ⟨(Nat.zero_le _), (Nat.zero_le _)⟩) (fun r_10 hr_11 => ?_)
        obtain rfl : r_10 = nI (hsh x) := hr_11
        have hhl := hsh_lt x
        have hzl := zr_le x
        have hcz := cb_le (P := SZq P (zr x)) (n := x)
        refine xcWv (wr := [(h0, .inr (0, [.ref qi, .ref qd, .int (nI n)])), (qi, xI cy cap fi)]) (va_runV (As := [.int (nI (hsh x))]) (rest := []) ⟨hx, hb, hml, hown, hts⟩ ((c_tct l D cy t0 o3 gt (hsh x) (zr x) (cb (SZq P (zr x)) x) (cb P lo) lv0 f3 hhl rfl hzl ((hR.skip hx1 hx5) _ (by omega)) (by omega) (by omega)) H.size) (cwV 1 hts gX3_thin_X3_count rfl rfl rfl (by decide +kernel) ⟨Nat.le_of_ble_eq_true rfl, Nat.le_of_ble_eq_true rfl⟩) (xPw.giveV (wc := [(o3, .inr (3, [.ref gt, .int lv0, .int (nI (cb P lo))])), (gt, xI cy 25 f3)]) hE hS hA hP hD [0, 1] (by decide) rfl 0 3 rfl rfl) rfl rfl hl.1 rfl (lv_room (Nat.le_of_ble_eq_true rfl)) dX3_thin_26 ⟨(Nat.zero_le _), (Nat.zero_le _)⟩) hP hD hS hA [0, 1] [2, 3] rfl rfl (by decide) (by decide) (fun u_14 H locs hr_13 hP hD hS => ?_)
        obtain rfl : u_14 = upd f3 (zr x) (nI (cb (SZq P (zr x)) x + 1)) := hr_13
        have hP := hP.sub (ws' := [(o3, .inr (3, [.ref gt, .int lv0, .int (nI (cb P lo + 1))])), (gt, xI cy 25 (upd f3 (zr x) (nI (cb (SZq P (zr x)) x + 1)))), (h0, .inr (0, [.ref qi, .ref qd, .int (nI n)])), (qi, xI cy cap fi)]) [2, 3, 0, 1] rfl
        have hD := hD.sub (ws' := [(o3, .inr (3, [.ref gt, .int lv0, .int (nI (cb P lo + 1))])), (gt, xI cy 25 (upd f3 (zr x) (nI (cb (SZq P (zr x)) x + 1)))), (h0, .inr (0, [.ref qi, .ref qd, .int (nI n)])), (qi, xI cy cap fi)]) [2, 3, 0, 1] (by decide) rfl
        refine lv_iinc (v := nI (cb P lo + 1)) (lv' := [(2, .int (nI (cb P lo + 1))), (0, .ref o3), (1, .ref h0)]) hx hb dX3_thin_29 hl (k := 2) rfl (nI_add _ 1) (by decide) rfl (fun ls hl => ?_)
        refine lv_goto (tgt := 6) hx hb dX3_thin_32 (by decide) ?_
        have e1 : cb P lo + 1 = cb P (x + 1) := by rw [cb_t hx3]; omega
        rw [e1] at hl hP hD
        exact ih_lp (x + 1) (upd f3 (zr x) (nI (cb (SZq P (zr x)) x + 1))) (by omega) ((hR.skip hx1 hx5).step hx3) (by omega) _ _ hP hD hS _ (lv_sub hl [1, 2, 0] rfl)
  exact lp (n + 1) 0 f2 (Nat.zero_le _) (fun r hr => hz r (by omega)) (by omega) _ _ hP hD hS _ (lv_sub hl [1, 2, 0] rfl)
set_option maxHeartbeats 4000000 in
set_option maxRecDepth 100000 in
theorem c_itemAt (l : Launch) (D : va_G) (cy : Nat → ClassId) (t0 : Nat) (P : Nat → Bool) (o3 gt h0 qi qd n cap lv ix : Nat) (sz0 : Int32) (fi : Nat → Int32) (hlv : lv ≤ 24) (hV : RW P 100000 n fi) (hn : n ≤ cap) (hcap : cap ≤ 100000) (hixl : ix < cb (SL P lv) 100000) : xRi l yX3_itemAt wsX3_itemAt ({ frames := 1, cells := 0, slots := 0, locals := 22 } : Room) D cy t0 ([.ref o3, .ref h0, .int (nI ix)]) ([(o3, .inr (3, [.ref gt, .int (nI lv), .int sz0])), (h0, .inr (0, [.ref qi, .ref qd, .int (nI n)])), (qi, xI cy cap fi)]) (fun r => r = nI (nthB (SL P lv) ix 100000)) := by
  refine xofRi (cc := cX3_itemAt) (maxL := 6) (by decide) rfl (Nat.le_of_ble_eq_true rfl) (fun _ _ => rfl) ?_
  intro p e s m below meth c Q ls hx hb hml hts hown hE hP hl hS kret
  have hl : lv_has ls 6 [(0, .ref o3), (1, .ref h0), (2, .int (nI ix))] := hl
  have hV1 := hV.1
  have hsb : ∀ x, (SL P lv) x = true → P x = true := fun x h => by unfold SL at h; simp at h; exact h.1
  have hixN := cb_le (P := (SL P lv)) (n := 100000)
  refine lv_iconst (v := nI 0) hx hb dX3_itemAt_0 (by decide) ?_
  refine lv_istore_n (lv' := [(3, .int (nI 0)), (0, .ref o3), (1, .ref h0), (2, .int (nI ix))]) hx hb dX3_itemAt_1 rfl hl (by decide) rfl (fun ls hl => ?_)
  refine lv_iconst (v := nI 0) hx hb dX3_itemAt_2 (by decide) ?_
  refine lv_istore (lv' := [(4, .int (nI 0)), (3, .int (nI 0)), (0, .ref o3), (1, .ref h0), (2, .int (nI ix))]) hx hb dX3_itemAt_3 hl (by decide) rfl (fun ls hl => ?_)
  have lp : ∀ (n9 : Nat), ∀ (lo : Nat), (hlo : lo ≤ 100000) → (hix : cb (SL P lv) lo ≤ ix) → n - cb P lo < n9 → ∀ (ls : Array Slot), lv_has ls 6 [(0, .ref o3), (1, .ref h0), (2, .int (nI ix)), (3, .int (nI (cb (SL P lv) lo))), (4, .int (nI (cb P lo)))] → W p l e ({ frames := 1, cells := 0, slots := 0, locals := 22 } : Room) s m [.ref o3, .ref h0, .int (nI ix)].toArray below meth c s.heap [] 0 0 Q (F0 m 5 ls []) := by
    intro n9
    induction n9 with
    | zero => intro lo hlo hix hm; exact absurd hm (Nat.not_lt_zero _)
    | succ n9 ih_lp =>
      intro lo hlo hix hm ls hl
      have hlc : cb P lo ≤ cb P 100000 := cb_mono hlo
      have hcl := cb_le (P := P) (n := lo)
      have hcs := cb_le (P := (SL P lv)) (n := lo)
      refine lv_iload hx hb dX3_itemAt_5 (lv_at hl 4 rfl) ?_
      refine lv_aload_n hx hb dX3_itemAt_7 rfl (lv_at hl 1 rfl) ?_
      refine va_get (D := D) (ci := 0) (v := .int (nI n)) (C := RX0) (T := TX0) (N := 3) hx hb hts (by decide +kernel) hown hE.1 hP 1 rfl rfl 2 (by decide) (hts (.fieldLink RX3 25 "DistinctDale$Basket" "size" "I") (by decide +kernel)) (fun _ h9 => h9) rfl dX3_itemAt_8 ?_
      refine xb_icmp_ge (tgt := 59) (a := cb P lo) (b := n) (by omega) (by omega) hx hb dX3_itemAt_11 (by decide) (fun c_1 => ?_) (fun c_1 => ?_)
      · have hq : cb (SL P lv) 100000 = cb (SL P lv) lo := cb_stop hlo (by omega) hsb
        exact absurd hixl (by omega)
      · refine lv_aload_n hx hb dX3_itemAt_14 rfl (lv_at hl 1 rfl) ?_
        refine va_get (D := D) (ci := 0) (v := .ref qi) (C := RX0) (T := TX0) (N := 3) hx hb hts (by decide +kernel) hown hE.1 hP 1 rfl rfl 0 (by decide) (hts (.fieldLink RX3 28 "DistinctDale$Basket" "items" "[I") (by decide +kernel)) (fun _ h9 => h9) rfl dX3_itemAt_15 ?_
        refine lv_iload hx hb dX3_itemAt_18 (lv_at hl 4 rfl) ?_
        refine xcRi (va_runSN (As := [.ref qi, .int (nI (cb P lo))]) (rest := []) ⟨hx, hb, hml, hown, hts⟩ (c_at l D cy t0 qi cap fi (nI (cb P lo)) (by omega)) ⟨va_cnB 2 hts ggX3_itemAt_X4_at rfl rfl rfl (xN13 hE.2.1.1) (hts (.initialized RX4) (by decide +kernel)) (by decide +kernel) ⟨Nat.le_of_ble_eq_true rfl, Nat.le_of_ble_eq_true rfl⟩, (hts (.static yX4_at) (by decide +kernel)), trivial⟩ (xPr.give (wc := [(qi, xI cy cap fi)]) hE hS hP [2] rfl) rfl rfl hl.1 rfl (lv_room (Nat.le_of_ble_eq_true rfl)) dX3_itemAt_20 ⟨(Nat.zero_le _), (Nat.zero_le _)⟩) (fun r_2 hr_3 => ?_)
        obtain ⟨x, hx1, hx2, hx3, hx4, hx5, hx6⟩ := hV.next hlo (by omega)
        obtain rfl : r_2 = nI x := by rw [hr_3, xat_in (by omega) (by omega), hx6]
        refine lv_istore (lv' := [(5, .int (nI x)), (0, .ref o3), (1, .ref h0), (2, .int (nI ix)), (3, .int (nI (cb (SL P lv) lo))), (4, .int (nI (cb P lo)))]) hx hb dX3_itemAt_23 hl (by decide) rfl (fun ls hl => ?_)
        refine lv_iload hx hb dX3_itemAt_25 (lv_at hl 0 rfl) ?_
        refine xcRi (va_runSN (As := [.int (nI x)]) (rest := []) ⟨hx, hb, hml, hown, hts⟩ (c_hashFor l D cy t0 x hx2) ⟨va_cnB 1 hts ggX3_itemAt_X4_hashFor rfl rfl rfl (xN14 hE.2.1.1) (hts (.initialized RX4) (by decide +kernel)) (by decide +kernel) ⟨Nat.le_of_ble_eq_true rfl, Nat.le_of_ble_eq_true rfl⟩, (hts (.static yX4_hashFor) (by decide +kernel)), trivial⟩ (xPr.give (wc := []) hE hS hP [] rfl) rfl rfl hl.1 rfl (lv_room (Nat.le_of_ble_eq_true rfl)) dX3_itemAt_27 ⟨(Nat.zero_le _), (Nat.zero_le _)⟩) (fun r_4 hr_5 => ?_)
        obtain rfl : r_4 = nI (hsh x) := hr_5
        have hhl := hsh_lt x
        refine lv_bipush (v := nI 24) hx hb dX3_itemAt_30 (by decide) ?_
        refine xcRi (va_runSN (As := [.int (nI (hsh x)), .int (nI 24)]) (rest := []) ⟨hx, hb, hml, hown, hts⟩ (c_lowZeros l D cy t0 (hsh x) 24 (by omega) (by omega)) ⟨va_cnB 2 hts ggX3_itemAt_X4_lowZeros rfl rfl rfl (xN15 hE.2.1.1) (hts (.initialized RX4) (by decide +kernel)) (by decide +kernel) ⟨Nat.le_of_ble_eq_true rfl, Nat.le_of_ble_eq_true rfl⟩, (hts (.static yX4_lowZeros) (by decide +kernel)), trivial⟩ (xPr.give (wc := []) hE hS hP [] rfl) rfl rfl hl.1 rfl (lv_room (Nat.le_of_ble_eq_true rfl)) dX3_itemAt_32 ⟨(Nat.zero_le _), (Nat.zero_le _)⟩) (fun r_6 hr_7 => ?_)
        obtain rfl : r_6 = nI (zr x) := hr_7
        have hzl := zr_le x
        refine lv_aload_n hx hb dX3_itemAt_35 rfl (lv_at hl 1 rfl) ?_
        refine va_get (D := D) (ci := 3) (v := .int (nI lv)) (C := RX3) (T := TX3) (N := 3) hx hb hts (by decide +kernel) hown hE.1 hP 0 rfl rfl 1 (by decide) (hts (.fieldLink RX3 15 "DistinctDale$Thinning" "levelFound" "I") (by decide +kernel)) (fun _ h9 => h9) rfl dX3_itemAt_36 ?_
        refine xb_icmp_lt (tgt := 53) (a := zr x) (b := lv) (by omega) (by omega) hx hb dX3_itemAt_39 (by decide) (fun c_8 => ?_) (fun c_8 => ?_)
        · refine lv_iinc (v := nI (cb P lo + 1)) (lv' := [(4, .int (nI (cb P lo + 1))), (5, .int (nI x)), (0, .ref o3), (1, .ref h0), (2, .int (nI ix)), (3, .int (nI (cb (SL P lv) lo)))]) hx hb dX3_itemAt_53 hl (k := 5) rfl (nI_add _ 1) (by decide) rfl (fun ls hl => ?_)
          refine lv_goto (tgt := 5) hx hb dX3_itemAt_56 (by decide) ?_
          have e1 : cb P lo + 1 = cb P (x + 1) := by rw [cb_t hx3]; omega
          have e0 : cb (SL P lv) x = cb (SL P lv) lo := cb_to hx1 hx5 hsb
          have e2 : cb (SL P lv) lo = cb (SL P lv) (x + 1) := by rw [cb_f (by unfold SL; simp [hx3]; omega), e0]
          rw [e1, e2] at hl
          exact ih_lp (x + 1) (by omega) (by omega) (by omega) _ (lv_sub hl [2, 3, 4, 5, 0] rfl)
        · refine lv_iload_n hx hb dX3_itemAt_42 rfl (lv_at hl 4 rfl) ?_
          refine lv_iload_n hx hb dX3_itemAt_43 rfl (lv_at hl 3 rfl) ?_
          refine xb_icmp_ne (tgt := 50) (a := cb (SL P lv) lo) (b := ix) (by omega) (by omega) hx hb dX3_itemAt_44 (by decide) (fun c_9 => ?_) (fun c_9 => ?_)
          · refine lv_iinc (v := nI (cb (SL P lv) lo + 1)) (lv' := [(3, .int (nI (cb (SL P lv) lo + 1))), (5, .int (nI x)), (0, .ref o3), (1, .ref h0), (2, .int (nI ix)), (4, .int (nI (cb P lo)))]) hx hb dX3_itemAt_50 hl (k := 4) rfl (nI_add _ 1) (by decide) rfl (fun ls hl => ?_)
            refine lv_iinc (v := nI (cb P lo + 1)) (lv' := [(4, .int (nI (cb P lo + 1))), (3, .int (nI (cb (SL P lv) lo + 1))), (5, .int (nI x)), (0, .ref o3), (1, .ref h0), (2, .int (nI ix))]) hx hb dX3_itemAt_53 hl (k := 5) rfl (nI_add _ 1) (by decide) rfl (fun ls hl => ?_)
            refine lv_goto (tgt := 5) hx hb dX3_itemAt_56 (by decide) ?_
            have e1 : cb P lo + 1 = cb P (x + 1) := by rw [cb_t hx3]; omega
            have e0 : cb (SL P lv) x = cb (SL P lv) lo := cb_to hx1 hx5 hsb
            have e2 : cb (SL P lv) lo + 1 = cb (SL P lv) (x + 1) := by rw [cb_t (by unfold SL; simp [hx3]; omega), e0]
            rw [e1, e2] at hl
            exact ih_lp (x + 1) (by omega) (by omega) (by omega) _ (lv_sub hl [3, 4, 5, 1, 0] rfl)
          · refine lv_iload hx hb dX3_itemAt_47 (lv_at hl 0 rfl) ?_
            have e0 : cb (SL P lv) x = cb (SL P lv) lo := cb_to hx1 hx5 hsb
            exact kret _ _ _ dX3_itemAt_49 (congrArg nI (nthB_eq hx2 (by unfold SL; simp [hx3]; omega) (by omega)).symm)
  exact lp (n + 1) 0 (Nat.zero_le _) (Nat.zero_le _) (by omega) _ (lv_sub hl [2, 3, 4, 1, 0] rfl)
end XX3
