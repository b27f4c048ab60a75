section XX2
set_option maxHeartbeats 4000000 in
set_option maxRecDepth 100000 in
theorem c_rank (l : Launch) (D : va_G) (cy : Nat → ClassId) (t0 : Nat) (m9 : Nat → Nat) (o2 gr h : Nat) (f : Nat → Int32) (hh : h < 16777213) (hm9 : ∀ r, m9 r ≤ 21) (hf : ∀ r, r < 16 → f r = nI (m9 r)) : xWv (S := Nat → Int32) l yX2_rank wsX2_rank ({ frames := 1, cells := 0, slots := 0, locals := 22 } : Room) D cy t0 ([.ref o2, .int (nI h)]) ([(o2, .inr (2, [.ref gr])), (gr, xI cy 16 f)]) (fun u => ∀ r, r < 16 → u r = nI (if r = h % 16 then max (m9 r) (rnk h) else m9 r)) (fun u => [(o2, .inr (2, [.ref gr])), (gr, xI cy 16 u)]) 0 0 := by
  refine xofWv (cc := cX2_rank) (maxL := 4) (by decide) rfl (Nat.le_of_ble_eq_true rfl) ?_
  intro p e s m below meth c Q A ls hx hb hml hts hown hin hE hA H locs hP hD hl hS kret
  have hl : lv_has ls 4 [(0, .ref o2), (1, .int (nI h))] := hl
  have hr9 := rnk_le h
  have hm8 := hm9 (h % 16)
  refine lv_iload_n hx hb dX2_rank_0 rfl (lv_at hl 1 rfl) ?_
  refine lv_bipush (v := nI 16) hx hb dX2_rank_1 (by decide) ?_
  refine lv_irem hx hb dX2_rank_3 (by decide) ?_
  refine lv_eqi (z := nI (h % 16)) (pk_rem (by omega) (by omega) (by omega)) ?_
  refine lv_istore_n (lv' := [(2, .int (nI (h % 16))), (0, .ref o2), (1, .int (nI h))]) hx hb dX2_rank_4 rfl hl (by decide) rfl (fun ls hl => ?_)
  refine lv_iconst (v := nI 1) hx hb dX2_rank_5 (by decide) ?_
  refine lv_iload_n hx hb dX2_rank_6 rfl (lv_at hl 2 rfl) ?_
  refine lv_bipush (v := nI 16) hx hb dX2_rank_7 (by decide) ?_
  refine lv_idiv hx hb dX2_rank_9 (by decide) ?_
  refine lv_eqi (z := nI (h / 16)) (pk_div (by omega) (by omega) (by omega)) ?_
  refine lv_bipush (v := nI 20) hx hb dX2_rank_10 (by decide) ?_
  refine xcRi (va_runSN (As := [.int (nI (h / 16)), .int (nI 20)]) (rest := [.int (nI 1)]) ⟨hx, hb, hml, hown, hts⟩ (c_lowZeros l D cy t0 (h / 16) 20 (by omega) (by omega)) ⟨va_cnB 2 hts ggX2_rank_X4_lowZeros rfl rfl rfl (xN11 hE.2.1.1) (hts (.initialized RX4) (by decide +kernel)) (by decide +kernel) ⟨Nat.le_of_ble_eq_true rfl, Nat.le_of_ble_eq_true rfl⟩, (hts (.static yX4_lowZeros) (by decide +kernel)), trivial⟩ (xPr.give (wc := []) hE hS hP [] rfl) rfl rfl hl.1 rfl (lv_room (Nat.le_of_ble_eq_true rfl)) dX2_rank_12 ⟨(Nat.zero_le _), (Nat.zero_le _)⟩) (fun r_1 hr_2 => ?_)
  obtain rfl : r_1 = nI (lz (h / 16) 20 0) := hr_2
  refine lv_iadd hx hb dX2_rank_15 ?_
  refine lv_eqi (z := nI (rnk h)) (nI_add _ _) ?_
  refine lv_istore_n (lv' := [(3, .int (nI (rnk h))), (2, .int (nI (h % 16))), (0, .ref o2), (1, .int (nI h))]) hx hb dX2_rank_16 rfl hl (by decide) rfl (fun ls hl => ?_)
  refine lv_iload_n hx hb dX2_rank_17 rfl (lv_at hl 0 rfl) ?_
  refine lv_aload_n hx hb dX2_rank_18 rfl (lv_at hl 2 rfl) ?_
  refine va_get (D := D) (ci := 2) (v := .ref gr) (C := RX2) (T := TX2) (N := 1) hx hb hts (by decide +kernel) hown hE.1 hP 0 rfl rfl 0 (by decide) (hts (.fieldLink RX2 11 "DistinctDale$Registers" "ranks" "[I") (by decide +kernel)) (fun _ h9 => h9) rfl dX2_rank_19 ?_
  refine lv_iload_n hx hb dX2_rank_22 rfl (lv_at hl 1 rfl) ?_
  refine xcRi (va_runSN (As := [.ref gr, .int (nI (h % 16))]) (rest := [.int (nI (rnk h))]) ⟨hx, hb, hml, hown, hts⟩ (c_at l D cy t0 gr 16 f (nI (h % 16)) (by omega)) ⟨va_cnB 2 hts ggX2_rank_X4_at rfl rfl rfl (xN9 hE.2.1.1) (hts (.initialized RX4) (by decide +kernel)) (by decide +kernel) ⟨Nat.le_of_ble_eq_true rfl, Nat.le_of_ble_eq_true rfl⟩, (hts (.static yX4_at) (by decide +kernel)), trivial⟩ (xPr.give (wc := [(gr, xI cy 16 f)]) hE hS hP [1] rfl) rfl rfl hl.1 rfl (lv_room (Nat.le_of_ble_eq_true rfl)) dX2_rank_23 ⟨(Nat.zero_le _), (Nat.zero_le _)⟩) (fun r_3 hr_4 => ?_)
  obtain rfl : r_3 = nI (m9 (h % 16)) := by rw [hr_4, xat_in (by omega) (by omega), hf _ (by omega)]
  refine xb_icmp_le (tgt := 38) (a := rnk h) (b := m9 (h % 16)) (by omega) (by omega) hx hb dX2_rank_26 (by decide) (fun c_5 => ?_) (fun c_5 => ?_)
  · exact kret f _ _ _ _ _ _ dX2_rank_38 (rk_no hf c_5) hP hD hS (Nat.le_of_ble_eq_true rfl) (Nat.le_of_ble_eq_true rfl)
  · refine lv_aload_n hx hb dX2_rank_29 rfl (lv_at hl 2 rfl) ?_
    refine va_get (D := D) (ci := 2) (v := .ref gr) (C := RX2) (T := TX2) (N := 1) hx hb hts (by decide +kernel) hown hE.1 hP 0 rfl rfl 0 (by decide) (hts (.fieldLink RX2 11 "DistinctDale$Registers" "ranks" "[I") (by decide +kernel)) (fun _ h9 => h9) rfl dX2_rank_30 ?_
    refine lv_iload_n hx hb dX2_rank_33 rfl (lv_at hl 1 rfl) ?_
    refine lv_iload_n hx hb dX2_rank_34 rfl (lv_at hl 0 rfl) ?_
    refine xcWv (wr := [(o2, .inr (2, [.ref gr]))]) (va_runSN (As := [.ref gr, .int (nI (h % 16)), .int (nI (rnk h))]) (rest := []) ⟨hx, hb, hml, hown, hts⟩ ((c_put l D cy t0 gr 16 f (nI (h % 16)) (nI (rnk h)) (by omega)) H.size) ⟨va_cnB 3 hts ggX2_rank_X4_put rfl rfl rfl (xN8 hE.2.1.1) (hts (.initialized RX4) (by decide +kernel)) (by decide +kernel) ⟨Nat.le_of_ble_eq_true rfl, Nat.le_of_ble_eq_true rfl⟩, (hts (.static yX4_put) (by decide +kernel)), trivial⟩ (xPw.give (wc := [(gr, xI cy 16 f)]) hE hS hA hP hD [1] (by decide) rfl) rfl rfl hl.1 rfl (lv_room (Nat.le_of_ble_eq_true rfl)) dX2_rank_35 ⟨(Nat.zero_le _), (Nat.zero_le _)⟩) hP hD hS hA [1] [0] rfl rfl (by decide) (by decide) (fun u_8 H locs hr_7 hP hD hS => ?_)
    obtain rfl : u_8 = upd f (h % 16) (nI (rnk h)) := by rw [hr_7, xput_in (by omega) (by omega)]
    have hP := hP.sub (ws' := [(o2, .inr (2, [.ref gr])), (gr, xI cy 16 (upd f (h % 16) (nI (rnk h))))]) [0, 1] rfl
    have hD := hD.sub (ws' := [(o2, .inr (2, [.ref gr])), (gr, xI cy 16 (upd f (h % 16) (nI (rnk h))))]) [0, 1] (by decide) rfl
    exact kret (upd f (h % 16) (nI (rnk h))) _ _ _ _ _ _ dX2_rank_38 (rk_yes hf c_5) hP hD hS (Nat.le_of_ble_eq_true rfl) (Nat.le_of_ble_eq_true rfl)
set_option maxHeartbeats 4000000 in
set_option maxRecDepth 100000 in
theorem c_rankThose (l : Launch) (D : va_G) (cy : Nat → ClassId) (t0 : Nat) (M : Nat → Int32) (bd : Int32) (o2 gr h0 qi qd n cap : Nat) (f fi fd : Nat → Int32) (hV : BR M n cap fi fd) : xWv (S := Nat → Int32) l yX2_rankThoseAbove wsX2_rankThoseAbove ({ frames := 2, cells := 0, slots := 0, locals := 45 } : Room) D cy t0 ([.ref o2, .int bd, .ref h0]) ([(o2, .inr (2, [.ref gr])), (gr, xI cy 16 f), (h0, .inr (0, [.ref qi, .ref qd, .int (nI n)])), (qi, xI cy cap fi), (qd, xI cy cap fd)]) (fun u => RG (Tm M bd) 100000 u) (fun u => [(o2, .inr (2, [.ref gr])), (gr, xI cy 16 u), (h0, .inr (0, [.ref qi, .ref qd, .int (nI n)])), (qi, xI cy cap fi), (qd, xI cy cap fd)]) 0 0 := by
  refine xofWv (cc := cX2_rankThoseAbove) (maxL := 4) (by decide) rfl (Nat.le_of_ble_eq_true rfl) ?_
  intro p e s m below meth c Q A ls hx hb hml hts hown hin hE hA H locs hP hD hl hS kret
  have hl : lv_has ls 4 [(0, .ref o2), (1, .int bd), (2, .ref h0)] := hl
  have hV1 := hV.1.1
  have hV3 := hV.2.2.1
  have hV4 := hV.2.2.2
  refine lv_iconst (v := nI 0) hx hb dX2_rankThoseAbove_0 (by decide) ?_
  refine lv_istore_n (lv' := [(3, .int (nI 0)), (0, .ref o2), (1, .int bd), (2, .ref h0)]) hx hb dX2_rankThoseAbove_1 rfl hl (by decide) rfl (fun ls hl => ?_)
  have lz0 : ∀ (n9 : Nat), ∀ (j : Nat) (f2 : Nat → Int32), (hj : j ≤ 16) → (hz : ∀ r, r < j → f2 r = nI 0) → 16 - j < n9 → ∀ (H : Heap) (locs : List Loc), xP D [(o2, .inr (2, [.ref gr])), (gr, xI cy 16 f2), (h0, .inr (0, [.ref qi, .ref qd, .int (nI n)])), (qi, xI cy cap fi), (qd, xI cy cap fd)] H → va_D A [(o2, .inr (2, [.ref gr])), (gr, xI cy 16 f2), (h0, .inr (0, [.ref qi, .ref qd, .int (nI n)])), (qi, xI cy cap fi), (qd, xI cy cap fd)] → va_S A s.heap H locs → ∀ (ls : Array Slot), lv_has ls 4 [(0, .ref o2), (1, .int bd), (2, .ref h0), (3, .int (nI j))] → W p l e ({ frames := 2, cells := 0, slots := 0, locals := 45 } : Room) s m [.ref o2, .int bd, .ref h0].toArray below meth c H locs 0 0 Q (F0 m 2 ls []) := by
    intro n9
    induction n9 with
    | zero => intro j f2 hj hz hm; exact absurd hm (Nat.not_lt_zero _)
    | succ n9 ih_lz0 =>
      intro j f2 hj hz hm H locs hP hD hS ls hl
      refine lv_iload_n hx hb dX2_rankThoseAbove_2 rfl (lv_at hl 3 rfl) ?_
      refine lv_bipush (v := nI 16) hx hb dX2_rankThoseAbove_3 (by decide) ?_
      refine xb_icmp_ge (tgt := 23) (a := j) (b := 16) (by omega) (by omega) hx hb dX2_rankThoseAbove_5 (by decide) (fun c_1 => ?_) (fun c_1 => ?_)
      · refine lv_iconst (v := nI 0) hx hb dX2_rankThoseAbove_23 (by decide) ?_
        refine lv_istore_n (lv' := [(3, .int (nI 0)), (0, .ref o2), (1, .int bd), (2, .ref h0)]) hx hb dX2_rankThoseAbove_24 rfl hl (by decide) rfl (fun ls hl => ?_)
        have lp : ∀ (n9 : Nat), ∀ (lo : Nat) (f3 : Nat → Int32), (hlo : lo ≤ 100000) → (hR : RG (Tm M bd) lo f3) → n - cb (Sm M) lo < n9 → ∀ (H : Heap) (locs : List Loc), xP D [(o2, .inr (2, [.ref gr])), (gr, xI cy 16 f3), (h0, .inr (0, [.ref qi, .ref qd, .int (nI n)])), (qi, xI cy cap fi), (qd, xI cy cap fd)] H → va_D A [(o2, .inr (2, [.ref gr])), (gr, xI cy 16 f3), (h0, .inr (0, [.ref qi, .ref qd, .int (nI n)])), (qi, xI cy cap fi), (qd, xI cy cap fd)] → va_S A s.heap H locs → ∀ (ls : Array Slot), lv_has ls 4 [(0, .ref o2), (1, .int bd), (2, .ref h0), (3, .int (nI (cb (Sm M) lo)))] → W p l e ({ frames := 2, cells := 0, slots := 0, locals := 45 } : Room) s m [.ref o2, .int bd, .ref h0].toArray below meth c H locs 0 0 Q (F0 m 25 ls []) := by
          intro n9
          induction n9 with
          | zero => intro lo f3 hlo hR hm; exact absurd hm (Nat.not_lt_zero _)
          | succ n9 ih_lp =>
            intro lo f3 hlo hR hm H locs hP hD hS ls hl
            have hlc : cb (Sm M) lo ≤ cb (Sm M) 100000 := cb_mono hlo
            have hcl := cb_le (P := Sm M) (n := lo)
            refine lv_iload_n hx hb dX2_rankThoseAbove_25 rfl (lv_at hl 3 rfl) ?_
            refine lv_aload_n hx hb dX2_rankThoseAbove_26 rfl (lv_at hl 2 rfl) ?_
            refine va_get (D := D) (ci := 0) (v := .int (nI n)) (C := RX0) (T := TX0) (N := 3) hx hb hts (by decide +kernel) hown hE.1 hP 2 rfl rfl 2 (by decide) (hts (.fieldLink RX2 23 "DistinctDale$Basket" "size" "I") (by decide +kernel)) (fun _ h9 => h9) rfl dX2_rankThoseAbove_27 ?_
            refine xb_icmp_ge (tgt := 66) (a := cb (Sm M) lo) (b := n) (by omega) (by omega) hx hb dX2_rankThoseAbove_30 (by decide) (fun c_2 => ?_) (fun c_2 => ?_)
            · exact kret f3 _ _ _ _ _ _ dX2_rankThoseAbove_66 (hR.skip hlo (fun y h1 h2 => by unfold Tm; rw [cb_nomore (P := Sm M) (by omega) y h1 h2]; rfl)) hP hD hS (Nat.le_of_ble_eq_true rfl) (Nat.le_of_ble_eq_true rfl)
            · refine lv_aload_n hx hb dX2_rankThoseAbove_33 rfl (lv_at hl 2 rfl) ?_
              refine va_get (D := D) (ci := 0) (v := .ref qd) (C := RX0) (T := TX0) (N := 3) hx hb hts (by decide +kernel) hown hE.1 hP 2 rfl rfl 1 (by decide) (hts (.fieldLink RX2 29 "DistinctDale$Basket" "dates" "[I") (by decide +kernel)) (fun _ h9 => h9) rfl dX2_rankThoseAbove_34 ?_
              refine lv_iload_n hx hb dX2_rankThoseAbove_37 rfl (lv_at hl 3 rfl) ?_
              refine xcRi (va_runSN (As := [.ref qd, .int (nI (cb (Sm M) lo))]) (rest := []) ⟨hx, hb, hml, hown, hts⟩ (c_at l D cy t0 qd cap fd (nI (cb (Sm M) lo)) (by omega)) ⟨va_cnB 2 hts ggX2_rankThoseAbove_X4_at rfl rfl rfl (xN9 hE.2.1.1) (hts (.initialized RX4) (by decide +kernel)) (by decide +kernel) ⟨Nat.le_of_ble_eq_true rfl, Nat.le_of_ble_eq_true rfl⟩, (hts (.static yX4_at) (by decide +kernel)), trivial⟩ (xPr.give (wc := [(qd, xI cy cap fd)]) hE hS hP [4] rfl) rfl rfl hl.1 rfl (lv_room (Nat.le_of_ble_eq_true rfl)) dX2_rankThoseAbove_38 ⟨(Nat.zero_le _), (Nat.zero_le _)⟩) (fun r_3 hr_4 => ?_)
              obtain ⟨x, hx1, hx2, hx3, hx4, hx5, hx6⟩ := hV.1.next hlo (by omega)
              have hxd : fd (cb (Sm M) lo) = M x := by rw [← hx4]; exact hV.2.1 x hx2 hx3
              obtain rfl : r_3 = M x := by rw [hr_4, xat_in (by omega) (by omega), hxd]
              refine lv_iload_n hx hb dX2_rankThoseAbove_41 rfl (lv_at hl 1 rfl) ?_
              refine lv_icmp_le (tgt := 60) hx hb dX2_rankThoseAbove_42 (by decide) (fun c_5 => ?_) (fun c_5 => ?_)
              · refine lv_iinc (v := nI (cb (Sm M) lo + 1)) (lv' := [(3, .int (nI (cb (Sm M) lo + 1))), (0, .ref o2), (1, .int bd), (2, .ref h0)]) hx hb dX2_rankThoseAbove_60 hl (k := 3) rfl (nI_add _ 1) (by decide) rfl (fun ls hl => ?_)
                refine lv_goto (tgt := 25) hx hb dX2_rankThoseAbove_63 (by decide) ?_
                have e1 : cb (Sm M) lo + 1 = cb (Sm M) (x + 1) := by rw [cb_t hx3]; omega
                rw [e1] at hl
                have hT : Tm M bd x = false := by unfold Tm; rw [hx3]; simp; exact c_5
                have hR2 : RG (Tm M bd) (x + 1) f3 := hR.skip (by omega) (fun y h1 h2 => by
                  rcases Nat.lt_or_ge y x with q | q
                  · unfold Tm; rw [hx5 y h1 q]; rfl
                  · have e9 : y = x := by omega
                    rw [e9]; exact hT)
                exact ih_lp (x + 1) f3 (by omega) hR2 (by omega) _ _ hP hD hS _ (lv_sub hl [1, 2, 3, 0] rfl)
              · refine lv_aload_n hx hb dX2_rankThoseAbove_45 rfl (lv_at hl 0 rfl) ?_
                refine lv_aload_n hx hb dX2_rankThoseAbove_46 rfl (lv_at hl 2 rfl) ?_
                refine va_get (D := D) (ci := 0) (v := .ref qi) (C := RX0) (T := TX0) (N := 3) hx hb hts (by decide +kernel) hown hE.1 hP 2 rfl rfl 0 (by decide) (hts (.fieldLink RX2 36 "DistinctDale$Basket" "items" "[I") (by decide +kernel)) (fun _ h9 => h9) rfl dX2_rankThoseAbove_47 ?_
                refine lv_iload_n hx hb dX2_rankThoseAbove_50 rfl (lv_at hl 3 rfl) ?_
                refine xcRi (va_runSN (As := [.ref qi, .int (nI (cb (Sm M) lo))]) (rest := [.ref o2]) ⟨hx, hb, hml, hown, hts⟩ (c_at l D cy t0 qi cap fi (nI (cb (Sm M) lo)) (by omega)) ⟨va_cnB 2 hts ggX2_rankThoseAbove_X4_at rfl rfl rfl (xN9 hE.2.1.1) (hts (.initialized RX4) (by decide +kernel)) (by decide +kernel) ⟨Nat.le_of_ble_eq_true rfl, Nat.le_of_ble_eq_true rfl⟩, (hts (.static yX4_at) (by decide +kernel)), trivial⟩ (xPr.give (wc := [(qi, xI cy cap fi)]) hE hS hP [3] rfl) rfl rfl hl.1 rfl (lv_room (Nat.le_of_ble_eq_true rfl)) dX2_rankThoseAbove_51 ⟨(Nat.zero_le _), (Nat.zero_le _)⟩) (fun r_6 hr_7 => ?_)
                obtain rfl : r_6 = nI x := by rw [hr_7, xat_in (by omega) (by omega), hx6]
                refine xcRi (va_runSN (As := [.int (nI x)]) (rest := [.ref o2]) ⟨hx, hb, hml, hown, hts⟩ (c_hashFor l D cy t0 x hx2) ⟨va_cnB 1 hts ggX2_rankThoseAbove_X4_hashFor rfl rfl rfl (xN10 hE.2.1.1) (hts (.initialized RX4) (by decide +kernel)) (by decide +kernel) ⟨Nat.le_of_ble_eq_true rfl, Nat.le_of_ble_eq_true rfl⟩, (hts (.static yX4_hashFor) (by decide +kernel)), trivial⟩ (xPr.give (wc := []) hE hS hP [] rfl) rfl rfl hl.1 rfl (lv_room (Nat.le_of_ble_eq_true rfl)) dX2_rankThoseAbove_54 ⟨(Nat.zero_le _), (Nat.zero_le _)⟩) (fun r_8 hr_9 => ?_)
                obtain rfl : r_8 = nI (hsh x) := hr_9
                have hhl := hsh_lt x
                refine xcWv (wr := [(h0, .inr (0, [.ref qi, .ref qd, .int (nI n)])), (qi, xI cy cap fi), (qd, xI cy cap fd)]) (va_runV (As := [.int (nI (hsh x))]) (rest := []) ⟨hx, hb, hml, hown, hts⟩ ((c_rank l D cy t0 (fun r => mxr (Tm M bd) r lo) o2 gr (hsh x) f3 hhl (fun r => mxr_le lo) hR) H.size) (cwV 1 hts gX2_rankThoseAbove_X2_rank rfl rfl rfl (by decide +kernel) ⟨Nat.le_of_ble_eq_true rfl, Nat.le_of_ble_eq_true rfl⟩) (xPw.giveV (wc := [(o2, .inr (2, [.ref gr])), (gr, xI cy 16 f3)]) hE hS hA hP hD [0, 1] (by decide) rfl 0 2 rfl rfl) rfl rfl hl.1 rfl (lv_room (Nat.le_of_ble_eq_true rfl)) dX2_rankThoseAbove_57 ⟨(Nat.zero_le _), (Nat.zero_le _)⟩) hP hD hS hA [0, 1] [2, 3, 4] rfl rfl (by decide) (by decide) (fun u_12 H locs hr_11 hP hD hS => ?_)
                obtain ⟨f4, rfl⟩ : ∃ z9, z9 = u_12 := ⟨_, rfl⟩
                have hf4 : ∀ r, r < 16 → f4 r = nI (if r = hsh x % 16 then max (mxr (Tm M bd) r lo) (rnk (hsh x)) else mxr (Tm M bd) r lo) := hr_11
                have hP := hP.sub (ws' := [(o2, .inr (2, [.ref gr])), (gr, xI cy 16 f4), (h0, .inr (0, [.ref qi, .ref qd, .int (nI n)])), (qi, xI cy cap fi), (qd, xI cy cap fd)]) [3, 4, 0, 1, 2] rfl
                have hD := hD.sub (ws' := [(o2, .inr (2, [.ref gr])), (gr, xI cy 16 f4), (h0, .inr (0, [.ref qi, .ref qd, .int (nI n)])), (qi, xI cy cap fi), (qd, xI cy cap fd)]) [3, 4, 0, 1, 2] (by decide) rfl
                refine lv_iinc (v := nI (cb (Sm M) lo + 1)) (lv' := [(3, .int (nI (cb (Sm M) lo + 1))), (0, .ref o2), (1, .int bd), (2, .ref h0)]) hx hb dX2_rankThoseAbove_60 hl (k := 3) rfl (nI_add _ 1) (by decide) rfl (fun ls hl => ?_)
                refine lv_goto (tgt := 25) hx hb dX2_rankThoseAbove_63 (by decide) ?_
                have e1 : cb (Sm M) lo + 1 = cb (Sm M) (x + 1) := by rw [cb_t hx3]; omega
                rw [e1] at hl
                have hT : Tm M bd x = true := by unfold Tm; rw [hx3]; simp; exact Int32.not_le.mp c_5
                have hR1 : RG (Tm M bd) x f3 := hR.skip hx1 (fun y h1 h2 => by unfold Tm; rw [hx5 y h1 h2]; rfl)
                have hR2 : RG (Tm M bd) (x + 1) f4 := RG.step (f := f3) hT (fun r hr => by rw [hf4 r hr, mxr_none hx1 (fun y h1 h2 => by unfold Tm; rw [hx5 y h1 h2]; rfl)])
                exact ih_lp (x + 1) f4 (by omega) hR2 (by omega) _ _ hP hD hS _ (lv_sub hl [1, 2, 3, 0] rfl)
        exact lp (n + 1) 0 f2 (Nat.zero_le _) (fun r hr => hz r (by omega)) (by omega) _ _ hP hD hS _ (lv_sub hl [1, 2, 3, 0] rfl)
      · refine lv_aload_n hx hb dX2_rankThoseAbove_8 rfl (lv_at hl 0 rfl) ?_
        refine va_get (D := D) (ci := 2) (v := .ref gr) (C := RX2) (T := TX2) (N := 1) hx hb hts (by decide +kernel) hown hE.1 hP 0 rfl rfl 0 (by decide) (hts (.fieldLink RX2 11 "DistinctDale$Registers" "ranks" "[I") (by decide +kernel)) (fun _ h9 => h9) rfl dX2_rankThoseAbove_9 ?_
        refine lv_iload_n hx hb dX2_rankThoseAbove_12 rfl (lv_at hl 3 rfl) ?_
        refine lv_iconst (v := nI 0) hx hb dX2_rankThoseAbove_13 (by decide) ?_
        refine xcWv (wr := [(o2, .inr (2, [.ref gr])), (h0, .inr (0, [.ref qi, .ref qd, .int (nI n)])), (qi, xI cy cap fi), (qd, xI cy cap fd)]) (va_runSN (As := [.ref gr, .int (nI j), .int (nI 0)]) (rest := []) ⟨hx, hb, hml, hown, hts⟩ ((c_put l D cy t0 gr 16 f2 (nI j) (nI 0) (by omega)) H.size) ⟨va_cnB 3 hts ggX2_rankThoseAbove_X4_put rfl rfl rfl (xN8 hE.2.1.1) (hts (.initialized RX4) (by decide +kernel)) (by decide +kernel) ⟨Nat.le_of_ble_eq_true rfl, Nat.le_of_ble_eq_true rfl⟩, (hts (.static yX4_put) (by decide +kernel)), trivial⟩ (xPw.give (wc := [(gr, xI cy 16 f2)]) hE hS hA hP hD [1] (by decide) rfl) rfl rfl hl.1 rfl (lv_room (Nat.le_of_ble_eq_true rfl)) dX2_rankThoseAbove_14 ⟨(Nat.zero_le _), (Nat.zero_le _)⟩) hP hD hS hA [1] [0, 2, 3, 4] rfl rfl (by decide) (by decide) (fun u_15 H locs hr_14 hP hD hS => ?_)
        obtain rfl : u_15 = upd f2 j (nI 0) := by rw [hr_14, xput_in (by omega) (by omega)]
        have hP := hP.sub (ws' := [(o2, .inr (2, [.ref gr])), (gr, xI cy 16 (upd f2 j (nI 0))), (h0, .inr (0, [.ref qi, .ref qd, .int (nI n)])), (qi, xI cy cap fi), (qd, xI cy cap fd)]) [0, 4, 1, 2, 3] rfl
        have hD := hD.sub (ws' := [(o2, .inr (2, [.ref gr])), (gr, xI cy 16 (upd f2 j (nI 0))), (h0, .inr (0, [.ref qi, .ref qd, .int (nI n)])), (qi, xI cy cap fi), (qd, xI cy cap fd)]) [0, 4, 1, 2, 3] (by decide) rfl
        refine lv_iinc (v := nI (j + 1)) (lv' := [(3, .int (nI (j + 1))), (0, .ref o2), (1, .int bd), (2, .ref h0)]) hx hb dX2_rankThoseAbove_17 hl (k := 3) rfl (nI_add _ 1) (by decide) rfl (fun ls hl => ?_)
        refine lv_goto (tgt := 2) hx hb dX2_rankThoseAbove_20 (by decide) ?_
        have hz2 : ∀ r, r < j + 1 → upd f2 j (nI 0) r = nI 0 := fun r hr => by
          rcases Nat.lt_or_ge r j with q | q
          · rw [upd_n (by omega)]; exact hz r q
          · have e9 : r = j := by omega
            rw [e9, upd_s]
        exact ih_lz0 (j + 1) (upd f2 j (nI 0)) (by omega) hz2 (by omega) _ _ hP hD hS _ (lv_sub hl [1, 2, 3, 0] rfl)
  exact lz0 17 0 f (Nat.zero_le _) (fun r hr => absurd hr (Nat.not_lt_zero _)) (by omega) _ _ hP hD hS _ (lv_sub hl [1, 2, 3, 0] rfl)
set_option maxHeartbeats 4000000 in
set_option maxRecDepth 100000 in
theorem c_rankAll (l : Launch) (D : va_G) (cy : Nat → ClassId) (t0 : Nat) (M : Nat → Int32) (o2 gr h0 qi qd n cap : Nat) (f fi fd : Nat → Int32) (hM : MV M) (hV : BR M n cap fi fd) : xWv (S := Nat → Int32) l yX2_rankAllOf wsX2_rankAllOf ({ frames := 3, cells := 0, slots := 0, locals := 68 } : Room) D cy t0 ([.ref o2, .ref h0]) ([(o2, .inr (2, [.ref gr])), (gr, xI cy 16 f), (h0, .inr (0, [.ref qi, .ref qd, .int (nI n)])), (qi, xI cy cap fi), (qd, xI cy cap fd)]) (fun u => RG (Sm M) 100000 u) (fun u => [(o2, .inr (2, [.ref gr])), (gr, xI cy 16 u), (h0, .inr (0, [.ref qi, .ref qd, .int (nI n)])), (qi, xI cy cap fi), (qd, xI cy cap fd)]) 0 0 := by
  refine xofWv (cc := cX2_rankAllOf) (maxL := 2) (by decide) rfl (Nat.le_of_ble_eq_true rfl) ?_
  intro p e s m below meth c Q A ls hx hb hml hts hown hin hE hA H locs hP hD hl hS kret
  have hl : lv_has ls 2 [(0, .ref o2), (1, .ref h0)] := hl
  refine lv_aload_n hx hb dX2_rankAllOf_0 rfl (lv_at hl 0 rfl) ?_
  refine lv_iconst (v := (-1)) hx hb dX2_rankAllOf_1 (by decide) ?_
  refine lv_aload_n hx hb dX2_rankAllOf_2 rfl (lv_at hl 1 rfl) ?_
  refine xcWv (wr := []) (va_runV (As := [.int (-1), .ref h0]) (rest := []) ⟨hx, hb, hml, hown, hts⟩ ((c_rankThose l D cy t0 M (-1) o2 gr h0 qi qd n cap f fi fd hV) H.size) (cwV 2 hts gX2_rankAllOf_X2_rankThoseAbove rfl rfl rfl (by decide +kernel) ⟨Nat.le_of_ble_eq_true rfl, Nat.le_of_ble_eq_true rfl⟩) (xPw.giveV (wc := [(o2, .inr (2, [.ref gr])), (gr, xI cy 16 f), (h0, .inr (0, [.ref qi, .ref qd, .int (nI n)])), (qi, xI cy cap fi), (qd, xI cy cap fd)]) hE hS hA hP hD [0, 1, 2, 3, 4] (by decide) rfl 0 2 rfl rfl) rfl rfl hl.1 rfl (lv_room (Nat.le_of_ble_eq_true rfl)) dX2_rankAllOf_3 ⟨(Nat.zero_le _), (Nat.zero_le _)⟩) hP hD hS hA [0, 1, 2, 3, 4] [] rfl rfl (by decide) (by decide) (fun u_3 H locs hr_2 hP hD hS => ?_)
  obtain ⟨f4, rfl⟩ : ∃ z9, z9 = u_3 := ⟨_, rfl⟩
  have hf4 : RG (Tm M (-1)) 100000 f4 := hr_2
  have hP : xP D [(o2, .inr (2, [.ref gr])), (gr, xI cy 16 f4), (h0, .inr (0, [.ref qi, .ref qd, .int (nI n)])), (qi, xI cy cap fi), (qd, xI cy cap fd)] H := hP
  have hD : va_D A [(o2, .inr (2, [.ref gr])), (gr, xI cy 16 f4), (h0, .inr (0, [.ref qi, .ref qd, .int (nI n)])), (qi, xI cy cap fi), (qd, xI cy cap fd)] := hD
  exact kret f4 _ _ _ _ _ _ dX2_rankAllOf_6 (fun r hr => by rw [hf4 r hr]; exact congrArg nI (mxr_congr (fun x _ => Tm_all hM x))) hP hD hS (Nat.le_of_ble_eq_true rfl) (Nat.le_of_ble_eq_true rfl)
set_option maxHeartbeats 4000000 in
set_option maxRecDepth 100000 in
theorem c_atT (l : Launch) (D : va_G) (cy : Nat → ClassId) (t0 : Nat) (z9 : Nat) (hz9 : z9 < 17) : xRi l yX4_at wsX4_at ({ frames := 0, cells := 0, slots := 0, locals := 0 } : Room) D cy t0 ([.ref t0, .int (nI z9)]) ([]) (fun r => r = nI (tabN.getD z9 0)) := by
  refine xofRi (cc := cX4_at) (maxL := 2) (by decide) rfl (Nat.le_of_ble_eq_true rfl) (fun _ _ => rfl) ?_
  intro p e s m below meth c Q ls hx hb hml hts hown hE hP hl hS kret
  have hl : lv_has ls 2 [(0, .ref t0), (1, .int (nI z9))] := hl
  refine lv_aload_n hx hb dX4_at_0 rfl (lv_at hl 0 rfl) ?_
  refine lv_ifnull hx hb dX4_at_1 ?_
  refine lv_iload_n hx hb dX4_at_4 rfl (lv_at hl 1 rfl) ?_
  refine xb_if_lt (tgt := 20) (a := z9) (by omega) hx hb dX4_at_5 (by decide) (fun c_1 => ?_) (fun c_1 => ?_)
  · exact c_1.elim
  · refine lv_iload_n hx hb dX4_at_8 rfl (lv_at hl 1 rfl) ?_
    refine lv_aload_n hx hb dX4_at_9 rfl (lv_at hl 0 rfl) ?_
    refine va_tlen (v := nI 17) hx hb hE.2.2.2.2 hS rfl dX4_at_10 ?_
    refine xb_icmp_ge (tgt := 20) (a := z9) (b := 17) (by omega) (by omega) hx hb dX4_at_11 (by decide) (fun c_2 => ?_) (fun c_2 => ?_)
    · exact absurd c_2 (by omega)
    · refine lv_aload_n hx hb dX4_at_14 rfl (lv_at hl 0 rfl) ?_
      refine lv_iload_n hx hb dX4_at_15 rfl (lv_at hl 1 rfl) ?_
      refine va_ti (v := .int (nI (tabN.getD z9 0))) hx hb hE.2.2.2.2 hS (vp_in_nI (by omega) (by omega)) (by rw [nI_clamp (by omega)]; exact congrArg Value.int (tab_eq z9 (by omega)).1) dX4_at_16 ?_
      refine lv_goto (tgt := 21) hx hb dX4_at_17 (by decide) ?_
      exact kret _ _ _ dX4_at_21 rfl
set_option maxHeartbeats 4000000 in
set_option maxRecDepth 100000 in
theorem c_regEst (l : Launch) (D : va_G) (cy : Nat → ClassId) (t0 : Nat) (m9 : Nat → Nat) (o2 gr : Nat) (f : Nat → Int32) (hm9 : ∀ r, m9 r ≤ 21) (hf : ∀ r, r < 16 → f r = nI (m9 r)) : xRl l yX2_estimate wsX2_estimate ({ frames := 1, cells := 0, slots := 0, locals := 21 } : Room) D cy t0 ([.ref o2]) ([(o2, .inr (2, [.ref gr])), (gr, xI cy 16 f)]) (fun r => r = lN (regE m9)) := by
  refine xofRl (cc := cX2_estimate) (maxL := 6) (by decide) rfl (Nat.le_of_ble_eq_true rfl) ?_
  intro p e s m below meth c Q ls hx hb hml hts hown hE hP hl hS kret
  have hl : lv_has ls 6 [(0, .ref o2)] := hl
  refine lv_lconst (v := lN 0) hx hb dX2_estimate_0 (by decide) ?_
  refine lv_lstore_n (lv' := [(1, .long (lN 0)), (0, .ref o2)]) hx hb dX2_estimate_1 rfl hl (by decide) rfl (fun ls hl => ?_)
  refine lv_iconst (v := nI 0) hx hb dX2_estimate_2 (by decide) ?_
  refine lv_istore_n (lv' := [(3, .int (nI 0)), (1, .long (lN 0)), (0, .ref o2)]) hx hb dX2_estimate_3 rfl hl (by decide) rfl (fun ls hl => ?_)
  refine lv_iconst (v := nI 0) hx hb dX2_estimate_4 (by decide) ?_
  refine lv_istore (lv' := [(4, .int (nI 0)), (3, .int (nI 0)), (1, .long (lN 0)), (0, .ref o2)]) hx hb dX2_estimate_5 hl (by decide) rfl (fun ls hl => ?_)
  have lp : ∀ (n9 : Nat), ∀ (j : Nat), (hj : j ≤ 16) → 16 - j < n9 → ∀ (ls : Array Slot), lv_has ls 6 [(0, .ref o2), (1, .long (lN (sumR m9 j))), (3, .int (nI (cb (empR m9) j))), (4, .int (nI j))] → W p l e ({ frames := 1, cells := 0, slots := 0, locals := 21 } : Room) s m [.ref o2].toArray below meth c s.heap [] 0 0 Q (F0 m 7 ls []) := by
    intro n9
    induction n9 with
    | zero => intro j hj hm; exact absurd hm (Nat.not_lt_zero _)
    | succ n9 ih_lp =>
      intro j hj hm ls hl
      have hsl := sumR_le (m := m9) j
      have hcl := cb_le (P := empR m9) (n := j)
      refine lv_iload hx hb dX2_estimate_7 (lv_at hl 3 rfl) ?_
      refine lv_bipush (v := nI 16) hx hb dX2_estimate_9 (by decide) ?_
      refine xb_icmp_ge (tgt := 53) (a := j) (b := 16) (by omega) (by omega) hx hb dX2_estimate_11 (by decide) (fun c_1 => ?_) (fun c_1 => ?_)
      · obtain rfl : j = 16 := by omega
        have hsp : 0 < sumR m9 16 := sumR_pos (hm9 15)
        refine lv_lload_n hx hb dX2_estimate_53 rfl (lv_at hl 1 rfl) ?_
        refine lv_lconst (v := lN 0) hx hb dX2_estimate_54 (by decide) ?_
        refine W.lcmp hx hb dX2_estimate_55 ?_
        refine xlc_le (tgt := 67) (a := sumR m9 16) (b := 0) (by omega) (by omega) hx hb dX2_estimate_56 (by decide) (fun c_2 => ?_) (fun c_2 => ?_)
        · exact absurd c_2 (by omega)
        · refine lv_ldc2 (v := lN 2890512990208) hx hb hown (hts (.constantLong RX2 48 (2890512990208)) (by decide +kernel)) dX2_estimate_59 ?_
          refine lv_lload_n hx hb dX2_estimate_62 rfl (lv_at hl 1 rfl) ?_
          refine lv_ldiv hx hb dX2_estimate_63 (fun q => by have := (pk_lEQ (a := sumR m9 16) (b := 0) (by omega) (by omega)).mp q; omega) ?_
          refine lv_eql (z := lN (2890512990208 / sumR m9 16)) (pk_lDiv (by omega) (by omega) (by omega)) ?_
          refine lv_goto (tgt := 68) hx hb dX2_estimate_64 (by decide) ?_
          have hdv : 2890512990208 / sumR m9 16 ≤ 2890512990208 := Nat.div_le_self _ _
          refine lv_lstore (lv' := [(4, .long (lN (2890512990208 / sumR m9 16))), (0, .ref o2), (1, .long (lN (sumR m9 16))), (3, .int (nI (cb (empR m9) 16)))]) hx hb dX2_estimate_68 hl (by decide) rfl (fun ls hl => ?_)
          refine lv_lload hx hb dX2_estimate_70 (lv_at hl 0 rfl) ?_
          refine lv_ldc2 (v := lN 40000) hx hb hown (hts (.constantLong RX2 50 (40000)) (by decide +kernel)) dX2_estimate_72 ?_
          refine W.lcmp hx hb dX2_estimate_75 ?_
          refine xlc_gt (tgt := 94) (a := 2890512990208 / sumR m9 16) (b := 40000) (by omega) (by omega) hx hb dX2_estimate_76 (by decide) (fun c_3 => ?_) (fun c_3 => ?_)
          · refine lv_lload hx hb dX2_estimate_94 (lv_at hl 0 rfl) ?_
            exact kret _ _ _ dX2_estimate_96 (by unfold regE; rw [if_neg (fun q => by omega)])
          · refine lv_iload_n hx hb dX2_estimate_79 rfl (lv_at hl 3 rfl) ?_
            refine xb_if_le (tgt := 94) (a := cb (empR m9) 16) (by omega) hx hb dX2_estimate_80 (by decide) (fun c_4 => ?_) (fun c_4 => ?_)
            · refine lv_lload hx hb dX2_estimate_94 (lv_at hl 0 rfl) ?_
              exact kret _ _ _ dX2_estimate_96 (by unfold regE; rw [if_neg (fun q => by omega)])
            · refine va_gets (v := .ref t0) hx hb hE.2.2.2.1 hS hown (hts (.fieldLink RX2 52 "DistinctDale$Registers" "ESTIMATE_BY_ZEROS" "[I") (by decide +kernel)) (fun _ h9 => h9) dX2_estimate_83 ?_
              refine lv_iload_n hx hb dX2_estimate_86 rfl (lv_at hl 3 rfl) ?_
              refine xcRi (va_runSN (As := [.ref t0, .int (nI (cb (empR m9) 16))]) (rest := []) ⟨hx, hb, hml, hown, hts⟩ (c_atT l D cy t0 (cb (empR m9) 16) (by omega)) ⟨va_cnB 2 hts ggX2_estimate_X4_at rfl rfl rfl (xN9 hE.2.1.1) (hts (.initialized RX4) (by decide +kernel)) (by decide +kernel) ⟨Nat.le_of_ble_eq_true rfl, Nat.le_of_ble_eq_true rfl⟩, (hts (.static yX4_at) (by decide +kernel)), trivial⟩ (xPr.give (wc := []) hE hS hP [] rfl) rfl rfl hl.1 rfl (lv_room (Nat.le_of_ble_eq_true rfl)) dX2_estimate_87 ⟨(Nat.zero_le _), (Nat.zero_le _)⟩) (fun r_5 hr_6 => ?_)
              obtain rfl : r_5 = nI (tabN.getD (cb (empR m9) 16) 0) := hr_6
              have htb := (tab_eq (cb (empR m9) 16) (by omega)).2
              refine lv_i2l (v := lN (tabN.getD (cb (empR m9) 16) 0)) hx hb dX2_estimate_90 (nI_l (by omega)) ?_
              refine lv_goto (tgt := 96) hx hb dX2_estimate_91 (by decide) ?_
              exact kret _ _ _ dX2_estimate_96 (by unfold regE; rw [if_pos ⟨c_3, c_4⟩])
      · refine lv_aload_n hx hb dX2_estimate_14 rfl (lv_at hl 0 rfl) ?_
        refine va_get (D := D) (ci := 2) (v := .ref gr) (C := RX2) (T := TX2) (N := 1) hx hb hts (by decide +kernel) hown hE.1 hP 0 rfl rfl 0 (by decide) (hts (.fieldLink RX2 11 "DistinctDale$Registers" "ranks" "[I") (by decide +kernel)) (fun _ h9 => h9) rfl dX2_estimate_15 ?_
        refine lv_iload hx hb dX2_estimate_18 (lv_at hl 3 rfl) ?_
        refine xcRi (va_runSN (As := [.ref gr, .int (nI j)]) (rest := []) ⟨hx, hb, hml, hown, hts⟩ (c_at l D cy t0 gr 16 f (nI j) (by omega)) ⟨va_cnB 2 hts ggX2_estimate_X4_at rfl rfl rfl (xN9 hE.2.1.1) (hts (.initialized RX4) (by decide +kernel)) (by decide +kernel) ⟨Nat.le_of_ble_eq_true rfl, Nat.le_of_ble_eq_true rfl⟩, (hts (.static yX4_at) (by decide +kernel)), trivial⟩ (xPr.give (wc := [(gr, xI cy 16 f)]) hE hS hP [1] rfl) rfl rfl hl.1 rfl (lv_room (Nat.le_of_ble_eq_true rfl)) dX2_estimate_20 ⟨(Nat.zero_le _), (Nat.zero_le _)⟩) (fun r_7 hr_8 => ?_)
        obtain rfl : r_7 = nI (m9 j) := by rw [hr_8, xat_in (by omega) (by omega), hf _ (by omega)]
        have hmj := hm9 j
        refine lv_istore (lv' := [(5, .int (nI (m9 j))), (0, .ref o2), (1, .long (lN (sumR m9 j))), (3, .int (nI (cb (empR m9) j))), (4, .int (nI j))]) hx hb dX2_estimate_23 hl (by decide) rfl (fun ls hl => ?_)
        refine lv_lload_n hx hb dX2_estimate_25 rfl (lv_at hl 2 rfl) ?_
        refine lv_ldc (v := nI 16777216) hx hb hown (hts (.constant RX2 47 (16777216)) (by decide +kernel)) dX2_estimate_26 ?_
        refine lv_iload hx hb dX2_estimate_28 (lv_at hl 0 rfl) ?_
        refine lv_ishr hx hb dX2_estimate_30 ?_
        refine lv_eqi (z := nI (16777216 / 2 ^ m9 j)) (shrz (by omega) (by omega)) ?_
        refine lv_i2l (v := lN (16777216 / 2 ^ m9 j)) hx hb dX2_estimate_31 (nI_l (Nat.lt_of_le_of_lt (Nat.div_le_self _ _) (by omega))) ?_
        refine lv_ladd hx hb dX2_estimate_32 ?_
        refine lv_eql (z := lN (sumR m9 (j + 1))) (lN_add _ _) ?_
        refine lv_lstore_n (lv' := [(1, .long (lN (sumR m9 (j + 1)))), (5, .int (nI (m9 j))), (0, .ref o2), (3, .int (nI (cb (empR m9) j))), (4, .int (nI j))]) hx hb dX2_estimate_33 rfl hl (by decide) rfl (fun ls hl => ?_)
        refine lv_iload_n hx hb dX2_estimate_34 rfl (lv_at hl 3 rfl) ?_
        refine lv_iload hx hb dX2_estimate_35 (lv_at hl 1 rfl) ?_
        refine xb_if_ne (tgt := 44) (a := m9 j) (by omega) hx hb dX2_estimate_37 (by decide) (fun c_9 => ?_) (fun c_9 => ?_)
        · refine lv_iconst (v := nI 0) hx hb dX2_estimate_44 (by decide) ?_
          refine lv_iadd hx hb dX2_estimate_45 ?_
          refine lv_eqi (z := nI (cb (empR m9) j + 0)) (nI_add _ _) ?_
          refine lv_istore_n (lv' := [(3, .int (nI (cb (empR m9) j + 0))), (1, .long (lN (sumR m9 (j + 1)))), (5, .int (nI (m9 j))), (0, .ref o2), (4, .int (nI j))]) hx hb dX2_estimate_46 rfl hl (by decide) rfl (fun ls hl => ?_)
          refine lv_iinc (v := nI (j + 1)) (lv' := [(4, .int (nI (j + 1))), (3, .int (nI (cb (empR m9) j + 0))), (1, .long (lN (sumR m9 (j + 1)))), (5, .int (nI (m9 j))), (0, .ref o2)]) hx hb dX2_estimate_47 hl (k := 4) rfl (nI_add _ 1) (by decide) rfl (fun ls hl => ?_)
          refine lv_goto (tgt := 7) hx hb dX2_estimate_50 (by decide) ?_
          have e1 : cb (empR m9) j + 0 = cb (empR m9) (j + 1) := by rw [cb_f (by unfold empR; simp; exact c_9)]; rfl
          rw [e1] at hl
          exact ih_lp (j + 1) (by omega) (by omega) _ (lv_sub hl [4, 2, 1, 0] rfl)
        · refine lv_iconst (v := nI 1) hx hb dX2_estimate_40 (by decide) ?_
          refine lv_goto (tgt := 45) hx hb dX2_estimate_41 (by decide) ?_
          refine lv_iadd hx hb dX2_estimate_45 ?_
          refine lv_eqi (z := nI (cb (empR m9) j + 1)) (nI_add _ _) ?_
          refine lv_istore_n (lv' := [(3, .int (nI (cb (empR m9) j + 1))), (1, .long (lN (sumR m9 (j + 1)))), (5, .int (nI (m9 j))), (0, .ref o2), (4, .int (nI j))]) hx hb dX2_estimate_46 rfl hl (by decide) rfl (fun ls hl => ?_)
          refine lv_iinc (v := nI (j + 1)) (lv' := [(4, .int (nI (j + 1))), (3, .int (nI (cb (empR m9) j + 1))), (1, .long (lN (sumR m9 (j + 1)))), (5, .int (nI (m9 j))), (0, .ref o2)]) hx hb dX2_estimate_47 hl (k := 4) rfl (nI_add _ 1) (by decide) rfl (fun ls hl => ?_)
          refine lv_goto (tgt := 7) hx hb dX2_estimate_50 (by decide) ?_
          have e1 : cb (empR m9) j + 1 = cb (empR m9) (j + 1) := by rw [cb_t (by unfold empR; simp; exact c_9)]
          rw [e1] at hl
          exact ih_lp (j + 1) (by omega) (by omega) _ (lv_sub hl [4, 2, 1, 0] rfl)
  exact lp 17 0 (Nat.zero_le _) (by omega) _ (lv_sub hl [3, 2, 1, 0] rfl)
end XX2
