section XX1
set_option maxHeartbeats 4000000 in
set_option maxRecDepth 100000 in
theorem c_forget (l : Launch) (D : va_G) (cy : Nat → ClassId) (t0 : Nat) (o1 g1 k z : Nat) : xWv (S := Unit) l yX1_forget wsX1_forget ({ frames := 0, cells := 0, slots := 0, locals := 0 } : Room) D cy t0 ([.ref o1]) ([(o1, .inr (1, [.ref g1, .int (nI k), .int (nI z)]))]) (fun _ => True) (fun _ => [(o1, .inr (1, [.ref g1, .int (nI k), .int (nI 0)]))]) 0 0 := by
  refine xofWv (cc := cX1_forget) (maxL := 1) (by decide) rfl (Nat.le_of_ble_eq_true rfl) ?_
  intro p e s m below meth c Q A ls hx hb hml hts hown hin hE hA H locs hP hD hl hS kret
  have hl : lv_has ls 1 [(0, .ref o1)] := hl
  refine lv_aload_n hx hb dX1_forget_0 rfl (lv_at hl 0 rfl) ?_
  refine lv_iconst (v := nI 0) hx hb dX1_forget_1 (by decide) ?_
  refine va_put (D := D) (ci := 1) (v := .int (nI 0)) (ty := .int) (C := RX1) (T := TX1) (N := 3) hx hb hts (by decide +kernel) tyX1 tyX1_ok nmX1 hown hE.1 hP hD hS 0 rfl rfl 2 (by decide) (hts (.fieldLink RX1 15 "DistinctDale$LeastHashes" "size" "I") (by decide +kernel)) (fun _ h9 => h9) rfl (by decide +kernel) rfl rfl (Nat.le_of_ble_eq_true rfl) dX1_forget_2 (fun H locs hP hD hS => ?_)
  have hP : xP D [(o1, .inr (1, [.ref g1, .int (nI k), .int (nI 0)]))] H := hP
  have hD : va_D A [(o1, .inr (1, [.ref g1, .int (nI k), .int (nI 0)]))] := hD
  exact kret () _ _ _ _ _ _ dX1_forget_5 trivial hP hD hS (Nat.le_of_ble_eq_true rfl) (Nat.le_of_ble_eq_true rfl)
set_option maxHeartbeats 4000000 in
set_option maxRecDepth 100000 in
theorem c_offer (l : Launch) (D : va_G) (cy : Nat → ClassId) (t0 : Nat) (Hs : Nat → Bool) (o1 g1 k z h : Nat) (g : Nat → Int32) (hk2 : 2 ≤ k) (hk : k ≤ 32) (hL : LH k Hs z g) (hh : h < 16777213) : xWv (S := Nat × (Nat → Int32)) l yX1_offer wsX1_offer ({ frames := 1, cells := 0, slots := 0, locals := 22 } : Room) D cy t0 ([.ref o1, .int (nI h)]) ([(o1, .inr (1, [.ref g1, .int (nI k), .int (nI z)])), (g1, xI cy 32 g)]) (fun u => LH k (insS Hs h) u.1 u.2) (fun u => [(o1, .inr (1, [.ref g1, .int (nI k), .int (nI u.1)])), (g1, xI cy 32 u.2)]) 0 0 := by
  refine xofWv (cc := cX1_offer) (maxL := 5) (by decide) rfl (Nat.le_of_ble_eq_true rfl) ?_
  intro p e s m below meth c Q A ls hx hb hml hts hown hin hE hA H locs hP hD hl hS kret
  have hl : lv_has ls 5 [(0, .ref o1), (1, .int (nI h))] := hl
  have hL1 := hL.1
  have hcb : cb Hs h ≤ cb Hs 16777213 := cb_mono (by omega)
  refine lv_aload_n hx hb dX1_offer_0 rfl (lv_at hl 0 rfl) ?_
  refine va_get (D := D) (ci := 1) (v := .int (nI z)) (C := RX1) (T := TX1) (N := 3) hx hb hts (by decide +kernel) hown hE.1 hP 0 rfl rfl 2 (by decide) (hts (.fieldLink RX1 15 "DistinctDale$LeastHashes" "size" "I") (by decide +kernel)) (fun _ h9 => h9) rfl dX1_offer_1 ?_
  refine lv_aload_n hx hb dX1_offer_4 rfl (lv_at hl 0 rfl) ?_
  refine va_get (D := D) (ci := 1) (v := .int (nI k)) (C := RX1) (T := TX1) (N := 3) hx hb hts (by decide +kernel) hown hE.1 hP 0 rfl rfl 1 (by decide) (hts (.fieldLink RX1 19 "DistinctDale$LeastHashes" "limit" "I") (by decide +kernel)) (fun _ h9 => h9) rfl dX1_offer_5 ?_
  refine xb_icmp_lt (tgt := 15) (a := z) (b := k) (by omega) (by omega) hx hb dX1_offer_8 (by decide) (fun c_1 => ?_) (fun c_1 => ?_)
  · refine lv_iconst (v := nI 0) hx hb dX1_offer_15 (by decide) ?_
    refine lv_istore_n (lv' := [(2, .int (nI 0)), (0, .ref o1), (1, .int (nI h))]) hx hb dX1_offer_16 rfl hl (by decide) rfl (fun ls hl => ?_)
    refine lv_iload_n hx hb dX1_offer_17 rfl (lv_at hl 0 rfl) ?_
    refine xb_if_eq (tgt := 39) (a := 0) (by omega) hx hb dX1_offer_18 (by decide) (fun c_2 => ?_) (fun c_2 => ?_)
    · refine lv_aload_n hx hb dX1_offer_39 rfl (lv_at hl 1 rfl) ?_
      refine va_get (D := D) (ci := 1) (v := .int (nI z)) (C := RX1) (T := TX1) (N := 3) hx hb hts (by decide +kernel) hown hE.1 hP 0 rfl rfl 2 (by decide) (hts (.fieldLink RX1 15 "DistinctDale$LeastHashes" "size" "I") (by decide +kernel)) (fun _ h9 => h9) rfl dX1_offer_40 ?_
      refine lv_istore_n (lv' := [(3, .int (nI z)), (2, .int (nI 0)), (0, .ref o1), (1, .int (nI h))]) hx hb dX1_offer_43 rfl hl (by decide) rfl (fun ls hl => ?_)
      have j89 : (hb9 : Hs h = false) → ∀ (H : Heap) (locs : List Loc), xP D [(o1, .inr (1, [.ref g1, .int (nI k), .int (nI z)])), (g1, xI cy 32 g)] H → va_D A [(o1, .inr (1, [.ref g1, .int (nI k), .int (nI z)])), (g1, xI cy 32 g)] → va_S A s.heap H locs → ∀ (ls : Array Slot), lv_has ls 5 [(0, .ref o1), (1, .int (nI h)), (2, .int (nI 0)), (3, .int (nI (cb Hs h)))] → W p l e ({ frames := 1, cells := 0, slots := 0, locals := 22 } : Room) s m [.ref o1, .int (nI h)].toArray below meth c H locs 0 0 Q (F0 m 89 ls []) := by
        intro hb9 H locs hP hD hS ls hl
        refine lv_aload_n hx hb dX1_offer_89 rfl (lv_at hl 0 rfl) ?_
        refine lv_iload_n hx hb dX1_offer_90 rfl (lv_at hl 2 rfl) ?_
        refine xb_if_eq (tgt := 101) (a := 0) (by omega) hx hb dX1_offer_91 (by decide) (fun c_3 => ?_) (fun c_3 => ?_)
        · refine lv_aload_n hx hb dX1_offer_101 rfl (lv_at hl 0 rfl) ?_
          refine va_get (D := D) (ci := 1) (v := .int (nI z)) (C := RX1) (T := TX1) (N := 3) hx hb hts (by decide +kernel) hown hE.1 hP 0 rfl rfl 2 (by decide) (hts (.fieldLink RX1 15 "DistinctDale$LeastHashes" "size" "I") (by decide +kernel)) (fun _ h9 => h9) rfl dX1_offer_102 ?_
          refine lv_iconst (v := nI 1) hx hb dX1_offer_105 (by decide) ?_
          refine lv_iadd hx hb dX1_offer_106 ?_
          refine lv_eqi (z := nI (z + 1)) (nI_add _ _) ?_
          refine va_put (D := D) (ci := 1) (v := .int (nI (z + 1))) (ty := .int) (C := RX1) (T := TX1) (N := 3) hx hb hts (by decide +kernel) tyX1 tyX1_ok nmX1 hown hE.1 hP hD hS 0 rfl rfl 2 (by decide) (hts (.fieldLink RX1 15 "DistinctDale$LeastHashes" "size" "I") (by decide +kernel)) (fun _ h9 => h9) rfl (by decide +kernel) rfl rfl (Nat.le_of_ble_eq_true rfl) dX1_offer_107 (fun H locs hP hD hS => ?_)
          have hP : xP D [(o1, .inr (1, [.ref g1, .int (nI k), .int (nI (z + 1))])), (g1, xI cy 32 g)] H := hP
          have hD : va_D A [(o1, .inr (1, [.ref g1, .int (nI k), .int (nI (z + 1))])), (g1, xI cy 32 g)] := hD
          refine lv_aload_n hx hb dX1_offer_110 rfl (lv_at hl 0 rfl) ?_
          refine va_get (D := D) (ci := 1) (v := .int (nI (z + 1))) (C := RX1) (T := TX1) (N := 3) hx hb hts (by decide +kernel) hown hE.1 hP 0 rfl rfl 2 (by decide) (hts (.fieldLink RX1 15 "DistinctDale$LeastHashes" "size" "I") (by decide +kernel)) (fun _ h9 => h9) rfl dX1_offer_111 ?_
          refine lv_iconst (v := nI 1) hx hb dX1_offer_114 (by decide) ?_
          refine lv_isub hx hb dX1_offer_115 ?_
          refine lv_eqi (z := nI z) ((pk_sub (by omega)).trans (congrArg nI (by omega))) ?_
          refine lv_istore (lv' := [(4, .int (nI z)), (0, .ref o1), (1, .int (nI h)), (2, .int (nI 0)), (3, .int (nI (cb Hs h)))]) hx hb dX1_offer_116 hl (by decide) rfl (fun ls hl => ?_)
          have lq : ∀ (n9 : Nat), ∀ (i : Nat) (g2 : Nat → Int32), (hi1 : cb Hs h ≤ i) → (hi2 : i < z + 1) → (hg1 : ∀ j, j ≤ i → g2 j = g j) → (hg2 : ∀ j, i < j → j < z + 1 → g2 j = g (j - 1)) → i < n9 → ∀ (H : Heap) (locs : List Loc), xP D [(o1, .inr (1, [.ref g1, .int (nI k), .int (nI (z + 1))])), (g1, xI cy 32 g2)] H → va_D A [(o1, .inr (1, [.ref g1, .int (nI k), .int (nI (z + 1))])), (g1, xI cy 32 g2)] → va_S A s.heap H locs → ∀ (ls : Array Slot), lv_has ls 5 [(0, .ref o1), (1, .int (nI h)), (2, .int (nI 0)), (3, .int (nI (cb Hs h))), (4, .int (nI i))] → W p l e ({ frames := 1, cells := 0, slots := 0, locals := 22 } : Room) s m [.ref o1, .int (nI h)].toArray below meth c H locs 0 0 Q (F0 m 118 ls []) := by
            intro n9
            induction n9 with
            | zero => intro i g2 hi1 hi2 hg1 hg2 hm; exact absurd hm (Nat.not_lt_zero _)
            | succ n9 ih_lq =>
              intro i g2 hi1 hi2 hg1 hg2 hm H locs hP hD hS ls hl
              refine lv_iload hx hb dX1_offer_118 (lv_at hl 4 rfl) ?_
              refine lv_iload_n hx hb dX1_offer_120 rfl (lv_at hl 3 rfl) ?_
              refine xb_icmp_le (tgt := 150) (a := i) (b := cb Hs h) (by omega) (by omega) hx hb dX1_offer_121 (by decide) (fun c_4 => ?_) (fun c_4 => ?_)
              · refine lv_aload_n hx hb dX1_offer_150 rfl (lv_at hl 0 rfl) ?_
                refine va_get (D := D) (ci := 1) (v := .ref g1) (C := RX1) (T := TX1) (N := 3) hx hb hts (by decide +kernel) hown hE.1 hP 0 rfl rfl 0 (by decide) (hts (.fieldLink RX1 9 "DistinctDale$LeastHashes" "hashes" "[I") (by decide +kernel)) (fun _ h9 => h9) rfl dX1_offer_151 ?_
                refine lv_iload_n hx hb dX1_offer_154 rfl (lv_at hl 3 rfl) ?_
                refine lv_iload_n hx hb dX1_offer_155 rfl (lv_at hl 1 rfl) ?_
                refine xcWv (wr := [(o1, .inr (1, [.ref g1, .int (nI k), .int (nI (z + 1))]))]) (va_runSN (As := [.ref g1, .int (nI (cb Hs h)), .int (nI h)]) (rest := []) ⟨hx, hb, hml, hown, hts⟩ ((c_put l D cy t0 g1 32 g2 (nI (cb Hs h)) (nI h) (by omega)) H.size) ⟨va_cnB 3 hts ggX1_offer_X4_put rfl rfl rfl (xN7 hE.2.1.1) (hts (.initialized RX4) (by decide +kernel)) (by decide +kernel) ⟨Nat.le_of_ble_eq_true rfl, Nat.le_of_ble_eq_true rfl⟩, (hts (.static yX4_put) (by decide +kernel)), trivial⟩ (xPw.give (wc := [(g1, xI cy 32 g2)]) hE hS hA hP hD [1] (by decide) rfl) rfl rfl hl.1 rfl (lv_room (Nat.le_of_ble_eq_true rfl)) dX1_offer_156 ⟨(Nat.zero_le _), (Nat.zero_le _)⟩) hP hD hS hA [1] [0] rfl rfl (by decide) (by decide) (fun u_7 H locs hr_6 hP hD hS => ?_)
                obtain rfl : u_7 = upd g2 (cb Hs h) (nI h) := by rw [hr_6, xput_in (by omega) (by omega)]
                have hP := hP.sub (ws' := [(o1, .inr (1, [.ref g1, .int (nI k), .int (nI (z + 1))])), (g1, xI cy 32 (upd g2 (cb Hs h) (nI h)))]) [0, 1] rfl
                have hD := hD.sub (ws' := [(o1, .inr (1, [.ref g1, .int (nI k), .int (nI (z + 1))])), (g1, xI cy 32 (upd g2 (cb Hs h) (nI h)))]) [0, 1] (by decide) rfl
                exact kret (z + 1, upd g2 (cb Hs h) (nI h)) _ _ _ _ _ _ dX1_offer_159 (hL.ins hh hb9 (show z + 1 = min k (z + 1) by omega) (fun j hj => by show upd g2 (cb Hs h) (nI h) j = _; rw [upd_n (by omega)]; exact hg1 j (by omega)) upd_s (fun j h1 (h2 : j < z + 1) => by show upd g2 (cb Hs h) (nI h) j = _; rw [upd_n (by omega)]; exact hg2 j (by omega) h2)) hP hD hS (Nat.le_of_ble_eq_true rfl) (Nat.le_of_ble_eq_true rfl)
              · refine lv_aload_n hx hb dX1_offer_124 rfl (lv_at hl 0 rfl) ?_
                refine va_get (D := D) (ci := 1) (v := .ref g1) (C := RX1) (T := TX1) (N := 3) hx hb hts (by decide +kernel) hown hE.1 hP 0 rfl rfl 0 (by decide) (hts (.fieldLink RX1 9 "DistinctDale$LeastHashes" "hashes" "[I") (by decide +kernel)) (fun _ h9 => h9) rfl dX1_offer_125 ?_
                refine lv_iload hx hb dX1_offer_128 (lv_at hl 4 rfl) ?_
                refine lv_aload_n hx hb dX1_offer_130 rfl (lv_at hl 0 rfl) ?_
                refine va_get (D := D) (ci := 1) (v := .ref g1) (C := RX1) (T := TX1) (N := 3) hx hb hts (by decide +kernel) hown hE.1 hP 0 rfl rfl 0 (by decide) (hts (.fieldLink RX1 9 "DistinctDale$LeastHashes" "hashes" "[I") (by decide +kernel)) (fun _ h9 => h9) rfl dX1_offer_131 ?_
                refine lv_iload hx hb dX1_offer_134 (lv_at hl 4 rfl) ?_
                refine lv_iconst (v := nI 1) hx hb dX1_offer_136 (by decide) ?_
                refine lv_isub hx hb dX1_offer_137 ?_
                refine lv_eqi (z := nI (i - 1)) (pk_sub (by omega)) ?_
                refine xcRi (va_runSN (As := [.ref g1, .int (nI (i - 1))]) (rest := [.int (nI i), .ref g1]) ⟨hx, hb, hml, hown, hts⟩ (c_at l D cy t0 g1 32 g2 (nI (i - 1)) (by omega)) ⟨va_cnB 2 hts ggX1_offer_X4_at rfl rfl rfl (xN5 hE.2.1.1) (hts (.initialized RX4) (by decide +kernel)) (by decide +kernel) ⟨Nat.le_of_ble_eq_true rfl, Nat.le_of_ble_eq_true rfl⟩, (hts (.static yX4_at) (by decide +kernel)), trivial⟩ (xPr.give (wc := [(g1, xI cy 32 g2)]) hE hS hP [1] rfl) rfl rfl hl.1 rfl (lv_room (Nat.le_of_ble_eq_true rfl)) dX1_offer_138 ⟨(Nat.zero_le _), (Nat.zero_le _)⟩) (fun r_8 hr_9 => ?_)
                obtain rfl : r_8 = g (i - 1) := by rw [hr_9, xat_in (by omega) (by omega), hg1 _ (by omega)]
                refine xcWv (wr := [(o1, .inr (1, [.ref g1, .int (nI k), .int (nI (z + 1))]))]) (va_runSN (As := [.ref g1, .int (nI i), .int (g (i - 1))]) (rest := []) ⟨hx, hb, hml, hown, hts⟩ ((c_put l D cy t0 g1 32 g2 (nI i) (g (i - 1)) (by omega)) H.size) ⟨va_cnB 3 hts ggX1_offer_X4_put rfl rfl rfl (xN7 hE.2.1.1) (hts (.initialized RX4) (by decide +kernel)) (by decide +kernel) ⟨Nat.le_of_ble_eq_true rfl, Nat.le_of_ble_eq_true rfl⟩, (hts (.static yX4_put) (by decide +kernel)), trivial⟩ (xPw.give (wc := [(g1, xI cy 32 g2)]) hE hS hA hP hD [1] (by decide) rfl) rfl rfl hl.1 rfl (lv_room (Nat.le_of_ble_eq_true rfl)) dX1_offer_141 ⟨(Nat.zero_le _), (Nat.zero_le _)⟩) hP hD hS hA [1] [0] rfl rfl (by decide) (by decide) (fun u_12 H locs hr_11 hP hD hS => ?_)
                obtain rfl : u_12 = upd g2 i (g (i - 1)) := by rw [hr_11, xput_in (by omega) (by omega)]
                have hP := hP.sub (ws' := [(o1, .inr (1, [.ref g1, .int (nI k), .int (nI (z + 1))])), (g1, xI cy 32 (upd g2 i (g (i - 1))))]) [0, 1] rfl
                have hD := hD.sub (ws' := [(o1, .inr (1, [.ref g1, .int (nI k), .int (nI (z + 1))])), (g1, xI cy 32 (upd g2 i (g (i - 1))))]) [0, 1] (by decide) rfl
                refine lv_iinc (v := nI (i - 1)) (lv' := [(4, .int (nI (i - 1))), (0, .ref o1), (1, .int (nI h)), (2, .int (nI 0)), (3, .int (nI (cb Hs h)))]) hx hb dX1_offer_144 hl (k := 4) rfl (dec1 (by omega)) (by decide) rfl (fun ls hl => ?_)
                refine lv_goto (tgt := 118) hx hb dX1_offer_147 (by decide) ?_
                exact ih_lq (i - 1) (upd g2 i (g (i - 1))) (by omega) (by omega) (fun j hj => by rw [upd_n (by omega)]; exact hg1 j (by omega)) (sh_step (by omega) hg2) (by omega) _ _ hP hD hS _ (lv_sub hl [1, 2, 3, 4, 0] rfl)
          exact lq (z + 1) z g (by omega) (by omega) (fun _ _ => rfl) (fun j h1 h2 => absurd h1 (by omega)) (by omega) _ _ hP hD hS _ (lv_sub hl [1, 2, 3, 4, 0] rfl)
        · exact absurd rfl c_3
      have j68 : ∀ (H : Heap) (locs : List Loc), xP D [(o1, .inr (1, [.ref g1, .int (nI k), .int (nI z)])), (g1, xI cy 32 g)] H → va_D A [(o1, .inr (1, [.ref g1, .int (nI k), .int (nI z)])), (g1, xI cy 32 g)] → va_S A s.heap H locs → ∀ (ls : Array Slot), lv_has ls 5 [(0, .ref o1), (1, .int (nI h)), (2, .int (nI 0)), (3, .int (nI (cb Hs h)))] → W p l e ({ frames := 1, cells := 0, slots := 0, locals := 22 } : Room) s m [.ref o1, .int (nI h)].toArray below meth c H locs 0 0 Q (F0 m 68 ls []) := by
        intro H locs hP hD hS ls hl
        refine lv_iload_n hx hb dX1_offer_68 rfl (lv_at hl 3 rfl) ?_
        refine lv_aload_n hx hb dX1_offer_69 rfl (lv_at hl 0 rfl) ?_
        refine va_get (D := D) (ci := 1) (v := .int (nI z)) (C := RX1) (T := TX1) (N := 3) hx hb hts (by decide +kernel) hown hE.1 hP 0 rfl rfl 2 (by decide) (hts (.fieldLink RX1 15 "DistinctDale$LeastHashes" "size" "I") (by decide +kernel)) (fun _ h9 => h9) rfl dX1_offer_70 ?_
        refine xb_icmp_ge (tgt := 89) (a := cb Hs h) (b := z) (by omega) (by omega) hx hb dX1_offer_73 (by decide) (fun c_13 => ?_) (fun c_13 => ?_)
        · have hbq : Hs h = false := by
            cases hq : Hs h with
            | false => rfl
            | true => have := cb_lt (P := Hs) hh hq; omega
          exact j89  hbq  _ _ hP hD hS _ (lv_sub hl [0, 1, 2, 3] rfl)
        · refine lv_aload_n hx hb dX1_offer_76 rfl (lv_at hl 0 rfl) ?_
          refine va_get (D := D) (ci := 1) (v := .ref g1) (C := RX1) (T := TX1) (N := 3) hx hb hts (by decide +kernel) hown hE.1 hP 0 rfl rfl 0 (by decide) (hts (.fieldLink RX1 9 "DistinctDale$LeastHashes" "hashes" "[I") (by decide +kernel)) (fun _ h9 => h9) rfl dX1_offer_77 ?_
          refine lv_iload_n hx hb dX1_offer_80 rfl (lv_at hl 3 rfl) ?_
          refine xcRi (va_runSN (As := [.ref g1, .int (nI (cb Hs h))]) (rest := []) ⟨hx, hb, hml, hown, hts⟩ (c_at l D cy t0 g1 32 g (nI (cb Hs h)) (by omega)) ⟨va_cnB 2 hts ggX1_offer_X4_at rfl rfl rfl (xN5 hE.2.1.1) (hts (.initialized RX4) (by decide +kernel)) (by decide +kernel) ⟨Nat.le_of_ble_eq_true rfl, Nat.le_of_ble_eq_true rfl⟩, (hts (.static yX4_at) (by decide +kernel)), trivial⟩ (xPr.give (wc := [(g1, xI cy 32 g)]) hE hS hP [1] rfl) rfl rfl hl.1 rfl (lv_room (Nat.le_of_ble_eq_true rfl)) dX1_offer_81 ⟨(Nat.zero_le _), (Nat.zero_le _)⟩) (fun r_14 hr_15 => ?_)
          obtain ⟨t3, hv1, hv2, hv3, hv4⟩ := hL.at (j := cb Hs h) (by omega)
          obtain rfl : r_14 = nI t3 := by rw [hr_15, xat_in (by omega) (by omega), hv4]
          refine lv_iload_n hx hb dX1_offer_84 rfl (lv_at hl 1 rfl) ?_
          refine xb_icmp_ne (tgt := 89) (a := t3) (b := h) (by omega) (by omega) hx hb dX1_offer_85 (by decide) (fun c_16 => ?_) (fun c_16 => ?_)
          · have hbq : Hs h = false := by
              cases hq : Hs h with
              | false => rfl
              | true => exact absurd (cb_inj hv2 hq hv3) c_16
            exact j89  hbq  _ _ hP hD hS _ (lv_sub hl [0, 1, 2, 3] rfl)
          · exact kret (z, g) _ _ _ _ _ _ dX1_offer_88 (hL.congr (insS_in (by rw [← c_16]; exact hv2))) hP hD hS (Nat.le_of_ble_eq_true rfl) (Nat.le_of_ble_eq_true rfl)
      have lp : ∀ (n9 : Nat), ∀ (p9 : Nat), (hp : p9 ≤ z) → (hr : cb Hs h ≤ p9) → p9 < n9 → ∀ (H : Heap) (locs : List Loc), xP D [(o1, .inr (1, [.ref g1, .int (nI k), .int (nI z)])), (g1, xI cy 32 g)] H → va_D A [(o1, .inr (1, [.ref g1, .int (nI k), .int (nI z)])), (g1, xI cy 32 g)] → va_S A s.heap H locs → ∀ (ls : Array Slot), lv_has ls 5 [(0, .ref o1), (1, .int (nI h)), (2, .int (nI 0)), (3, .int (nI p9))] → W p l e ({ frames := 1, cells := 0, slots := 0, locals := 22 } : Room) s m [.ref o1, .int (nI h)].toArray below meth c H locs 0 0 Q (F0 m 44 ls []) := by
        intro n9
        induction n9 with
        | zero => intro p9 hp hr hm; exact absurd hm (Nat.not_lt_zero _)
        | succ n9 ih_lp =>
          intro p9 hp hr hm H locs hP hD hS ls hl
          refine lv_iload_n hx hb dX1_offer_44 rfl (lv_at hl 3 rfl) ?_
          refine xb_if_le (tgt := 68) (a := p9) (by omega) hx hb dX1_offer_45 (by decide) (fun c_17 => ?_) (fun c_17 => ?_)
          · have eo : p9 = cb Hs h := by omega
            rw [eo] at hl
            exact j68    _ _ hP hD hS _ (lv_sub hl [0, 1, 2, 3] rfl)
          · refine lv_aload_n hx hb dX1_offer_48 rfl (lv_at hl 0 rfl) ?_
            refine va_get (D := D) (ci := 1) (v := .ref g1) (C := RX1) (T := TX1) (N := 3) hx hb hts (by decide +kernel) hown hE.1 hP 0 rfl rfl 0 (by decide) (hts (.fieldLink RX1 9 "DistinctDale$LeastHashes" "hashes" "[I") (by decide +kernel)) (fun _ h9 => h9) rfl dX1_offer_49 ?_
            refine lv_iload_n hx hb dX1_offer_52 rfl (lv_at hl 3 rfl) ?_
            refine lv_iconst (v := nI 1) hx hb dX1_offer_53 (by decide) ?_
            refine lv_isub hx hb dX1_offer_54 ?_
            refine lv_eqi (z := nI (p9 - 1)) (pk_sub (by omega)) ?_
            refine xcRi (va_runSN (As := [.ref g1, .int (nI (p9 - 1))]) (rest := []) ⟨hx, hb, hml, hown, hts⟩ (c_at l D cy t0 g1 32 g (nI (p9 - 1)) (by omega)) ⟨va_cnB 2 hts ggX1_offer_X4_at rfl rfl rfl (xN5 hE.2.1.1) (hts (.initialized RX4) (by decide +kernel)) (by decide +kernel) ⟨Nat.le_of_ble_eq_true rfl, Nat.le_of_ble_eq_true rfl⟩, (hts (.static yX4_at) (by decide +kernel)), trivial⟩ (xPr.give (wc := [(g1, xI cy 32 g)]) hE hS hP [1] rfl) rfl rfl hl.1 rfl (lv_room (Nat.le_of_ble_eq_true rfl)) dX1_offer_55 ⟨(Nat.zero_le _), (Nat.zero_le _)⟩) (fun r_18 hr_19 => ?_)
            obtain ⟨t2, hu1, hu2, hu3, hu4⟩ := hL.at (j := p9 - 1) (by omega)
            obtain rfl : r_18 = nI t2 := by rw [hr_19, xat_in (by omega) (by omega), hu4]
            refine lv_iload_n hx hb dX1_offer_58 rfl (lv_at hl 1 rfl) ?_
            refine xb_icmp_lt (tgt := 68) (a := t2) (b := h) (by omega) (by omega) hx hb dX1_offer_59 (by decide) (fun c_20 => ?_) (fun c_20 => ?_)
            · have hq9 := cb_lt c_20 hu2
              have eo : p9 = cb Hs h := by omega
              rw [eo] at hl
              exact j68    _ _ hP hD hS _ (lv_sub hl [0, 1, 2, 3] rfl)
            · refine lv_iinc (v := nI (p9 - 1)) (lv' := [(3, .int (nI (p9 - 1))), (0, .ref o1), (1, .int (nI h)), (2, .int (nI 0))]) hx hb dX1_offer_62 hl (k := 3) rfl (dec1 (by omega)) (by decide) rfl (fun ls hl => ?_)
              refine lv_goto (tgt := 44) hx hb dX1_offer_65 (by decide) ?_
              have hq := cb_mono (P := Hs) c_20
              exact ih_lp (p9 - 1) (by omega) (by omega) (by omega) _ _ hP hD hS _ (lv_sub hl [1, 2, 3, 0] rfl)
      exact lp (z + 1) z (Nat.le_refl _) (by omega) (by omega) _ _ hP hD hS _ (lv_sub hl [2, 3, 1, 0] rfl)
    · exact absurd rfl c_2
  · refine lv_iconst (v := nI 1) hx hb dX1_offer_11 (by decide) ?_
    refine lv_goto (tgt := 16) hx hb dX1_offer_12 (by decide) ?_
    refine lv_istore_n (lv' := [(2, .int (nI 1)), (0, .ref o1), (1, .int (nI h))]) hx hb dX1_offer_16 rfl hl (by decide) rfl (fun ls hl => ?_)
    refine lv_iload_n hx hb dX1_offer_17 rfl (lv_at hl 0 rfl) ?_
    refine xb_if_eq (tgt := 39) (a := 1) (by omega) hx hb dX1_offer_18 (by decide) (fun c_21 => ?_) (fun c_21 => ?_)
    · exact absurd c_21 (by decide)
    · refine lv_iload_n hx hb dX1_offer_21 rfl (lv_at hl 2 rfl) ?_
      refine lv_aload_n hx hb dX1_offer_22 rfl (lv_at hl 1 rfl) ?_
      refine va_get (D := D) (ci := 1) (v := .ref g1) (C := RX1) (T := TX1) (N := 3) hx hb hts (by decide +kernel) hown hE.1 hP 0 rfl rfl 0 (by decide) (hts (.fieldLink RX1 9 "DistinctDale$LeastHashes" "hashes" "[I") (by decide +kernel)) (fun _ h9 => h9) rfl dX1_offer_23 ?_
      refine lv_aload_n hx hb dX1_offer_26 rfl (lv_at hl 1 rfl) ?_
      refine va_get (D := D) (ci := 1) (v := .int (nI z)) (C := RX1) (T := TX1) (N := 3) hx hb hts (by decide +kernel) hown hE.1 hP 0 rfl rfl 2 (by decide) (hts (.fieldLink RX1 15 "DistinctDale$LeastHashes" "size" "I") (by decide +kernel)) (fun _ h9 => h9) rfl dX1_offer_27 ?_
      refine lv_iconst (v := nI 1) hx hb dX1_offer_30 (by decide) ?_
      refine lv_isub hx hb dX1_offer_31 ?_
      refine lv_eqi (z := nI (z - 1)) (pk_sub (by omega)) ?_
      refine xcRi (va_runSN (As := [.ref g1, .int (nI (z - 1))]) (rest := [.int (nI h)]) ⟨hx, hb, hml, hown, hts⟩ (c_at l D cy t0 g1 32 g (nI (z - 1)) (by omega)) ⟨va_cnB 2 hts ggX1_offer_X4_at rfl rfl rfl (xN5 hE.2.1.1) (hts (.initialized RX4) (by decide +kernel)) (by decide +kernel) ⟨Nat.le_of_ble_eq_true rfl, Nat.le_of_ble_eq_true rfl⟩, (hts (.static yX4_at) (by decide +kernel)), trivial⟩ (xPr.give (wc := [(g1, xI cy 32 g)]) hE hS hP [1] rfl) rfl rfl hl.1 rfl (lv_room (Nat.le_of_ble_eq_true rfl)) dX1_offer_32 ⟨(Nat.zero_le _), (Nat.zero_le _)⟩) (fun r_22 hr_23 => ?_)
      obtain ⟨t, ht1, ht2, ht3, ht4⟩ := hL.at (j := z - 1) (by omega)
      obtain rfl : r_22 = nI t := by rw [hr_23, xat_in (by omega) (by omega), ht4]
      refine xb_icmp_lt (tgt := 39) (a := h) (b := t) (by omega) (by omega) hx hb dX1_offer_35 (by decide) (fun c_24 => ?_) (fun c_24 => ?_)
      · have hct := cb_mono (P := Hs) (Nat.le_of_lt c_24)
        refine lv_aload_n hx hb dX1_offer_39 rfl (lv_at hl 1 rfl) ?_
        refine va_get (D := D) (ci := 1) (v := .int (nI z)) (C := RX1) (T := TX1) (N := 3) hx hb hts (by decide +kernel) hown hE.1 hP 0 rfl rfl 2 (by decide) (hts (.fieldLink RX1 15 "DistinctDale$LeastHashes" "size" "I") (by decide +kernel)) (fun _ h9 => h9) rfl dX1_offer_40 ?_
        refine lv_istore_n (lv' := [(3, .int (nI z)), (2, .int (nI 1)), (0, .ref o1), (1, .int (nI h))]) hx hb dX1_offer_43 rfl hl (by decide) rfl (fun ls hl => ?_)
        have j89 : (hb9 : Hs h = false) → ∀ (H : Heap) (locs : List Loc), xP D [(o1, .inr (1, [.ref g1, .int (nI k), .int (nI z)])), (g1, xI cy 32 g)] H → va_D A [(o1, .inr (1, [.ref g1, .int (nI k), .int (nI z)])), (g1, xI cy 32 g)] → va_S A s.heap H locs → ∀ (ls : Array Slot), lv_has ls 5 [(0, .ref o1), (1, .int (nI h)), (2, .int (nI 1)), (3, .int (nI (cb Hs h)))] → W p l e ({ frames := 1, cells := 0, slots := 0, locals := 22 } : Room) s m [.ref o1, .int (nI h)].toArray below meth c H locs 0 0 Q (F0 m 89 ls []) := by
          intro hb9 H locs hP hD hS ls hl
          refine lv_aload_n hx hb dX1_offer_89 rfl (lv_at hl 0 rfl) ?_
          refine lv_iload_n hx hb dX1_offer_90 rfl (lv_at hl 2 rfl) ?_
          refine xb_if_eq (tgt := 101) (a := 1) (by omega) hx hb dX1_offer_91 (by decide) (fun c_25 => ?_) (fun c_25 => ?_)
          · exact absurd c_25 (by decide)
          · refine lv_aload_n hx hb dX1_offer_94 rfl (lv_at hl 0 rfl) ?_
            refine va_get (D := D) (ci := 1) (v := .int (nI k)) (C := RX1) (T := TX1) (N := 3) hx hb hts (by decide +kernel) hown hE.1 hP 0 rfl rfl 1 (by decide) (hts (.fieldLink RX1 19 "DistinctDale$LeastHashes" "limit" "I") (by decide +kernel)) (fun _ h9 => h9) rfl dX1_offer_95 ?_
            refine lv_goto (tgt := 107) hx hb dX1_offer_98 (by decide) ?_
            refine va_put (D := D) (ci := 1) (v := .int (nI k)) (ty := .int) (C := RX1) (T := TX1) (N := 3) hx hb hts (by decide +kernel) tyX1 tyX1_ok nmX1 hown hE.1 hP hD hS 0 rfl rfl 2 (by decide) (hts (.fieldLink RX1 15 "DistinctDale$LeastHashes" "size" "I") (by decide +kernel)) (fun _ h9 => h9) rfl (by decide +kernel) rfl rfl (Nat.le_of_ble_eq_true rfl) dX1_offer_107 (fun H locs hP hD hS => ?_)
            have hP : xP D [(o1, .inr (1, [.ref g1, .int (nI k), .int (nI k)])), (g1, xI cy 32 g)] H := hP
            have hD : va_D A [(o1, .inr (1, [.ref g1, .int (nI k), .int (nI k)])), (g1, xI cy 32 g)] := hD
            refine lv_aload_n hx hb dX1_offer_110 rfl (lv_at hl 0 rfl) ?_
            refine va_get (D := D) (ci := 1) (v := .int (nI k)) (C := RX1) (T := TX1) (N := 3) hx hb hts (by decide +kernel) hown hE.1 hP 0 rfl rfl 2 (by decide) (hts (.fieldLink RX1 15 "DistinctDale$LeastHashes" "size" "I") (by decide +kernel)) (fun _ h9 => h9) rfl dX1_offer_111 ?_
            refine lv_iconst (v := nI 1) hx hb dX1_offer_114 (by decide) ?_
            refine lv_isub hx hb dX1_offer_115 ?_
            refine lv_eqi (z := nI (k - 1)) (pk_sub (by omega)) ?_
            refine lv_istore (lv' := [(4, .int (nI (k - 1))), (0, .ref o1), (1, .int (nI h)), (2, .int (nI 1)), (3, .int (nI (cb Hs h)))]) hx hb dX1_offer_116 hl (by decide) rfl (fun ls hl => ?_)
            have lq : ∀ (n9 : Nat), ∀ (i : Nat) (g2 : Nat → Int32), (hi1 : cb Hs h ≤ i) → (hi2 : i < k) → (hg1 : ∀ j, j ≤ i → g2 j = g j) → (hg2 : ∀ j, i < j → j < k → g2 j = g (j - 1)) → i < n9 → ∀ (H : Heap) (locs : List Loc), xP D [(o1, .inr (1, [.ref g1, .int (nI k), .int (nI k)])), (g1, xI cy 32 g2)] H → va_D A [(o1, .inr (1, [.ref g1, .int (nI k), .int (nI k)])), (g1, xI cy 32 g2)] → va_S A s.heap H locs → ∀ (ls : Array Slot), lv_has ls 5 [(0, .ref o1), (1, .int (nI h)), (2, .int (nI 1)), (3, .int (nI (cb Hs h))), (4, .int (nI i))] → W p l e ({ frames := 1, cells := 0, slots := 0, locals := 22 } : Room) s m [.ref o1, .int (nI h)].toArray below meth c H locs 0 0 Q (F0 m 118 ls []) := by
              intro n9
              induction n9 with
              | zero => intro i g2 hi1 hi2 hg1 hg2 hm; exact absurd hm (Nat.not_lt_zero _)
              | succ n9 ih_lq =>
                intro i g2 hi1 hi2 hg1 hg2 hm H locs hP hD hS ls hl
                refine lv_iload hx hb dX1_offer_118 (lv_at hl 4 rfl) ?_
                refine lv_iload_n hx hb dX1_offer_120 rfl (lv_at hl 3 rfl) ?_
                refine xb_icmp_le (tgt := 150) (a := i) (b := cb Hs h) (by omega) (by omega) hx hb dX1_offer_121 (by decide) (fun c_26 => ?_) (fun c_26 => ?_)
                · refine lv_aload_n hx hb dX1_offer_150 rfl (lv_at hl 0 rfl) ?_
                  refine va_get (D := D) (ci := 1) (v := .ref g1) (C := RX1) (T := TX1) (N := 3) hx hb hts (by decide +kernel) hown hE.1 hP 0 rfl rfl 0 (by decide) (hts (.fieldLink RX1 9 "DistinctDale$LeastHashes" "hashes" "[I") (by decide +kernel)) (fun _ h9 => h9) rfl dX1_offer_151 ?_
                  refine lv_iload_n hx hb dX1_offer_154 rfl (lv_at hl 3 rfl) ?_
                  refine lv_iload_n hx hb dX1_offer_155 rfl (lv_at hl 1 rfl) ?_
                  refine xcWv (wr := [(o1, .inr (1, [.ref g1, .int (nI k), .int (nI k)]))]) (va_runSN (As := [.ref g1, .int (nI (cb Hs h)), .int (nI h)]) (rest := []) ⟨hx, hb, hml, hown, hts⟩ ((c_put l D cy t0 g1 32 g2 (nI (cb Hs h)) (nI h) (by omega)) H.size) ⟨va_cnB 3 hts ggX1_offer_X4_put rfl rfl rfl (xN7 hE.2.1.1) (hts (.initialized RX4) (by decide +kernel)) (by decide +kernel) ⟨Nat.le_of_ble_eq_true rfl, Nat.le_of_ble_eq_true rfl⟩, (hts (.static yX4_put) (by decide +kernel)), trivial⟩ (xPw.give (wc := [(g1, xI cy 32 g2)]) hE hS hA hP hD [1] (by decide) rfl) rfl rfl hl.1 rfl (lv_room (Nat.le_of_ble_eq_true rfl)) dX1_offer_156 ⟨(Nat.zero_le _), (Nat.zero_le _)⟩) hP hD hS hA [1] [0] rfl rfl (by decide) (by decide) (fun u_29 H locs hr_28 hP hD hS => ?_)
                  obtain rfl : u_29 = upd g2 (cb Hs h) (nI h) := by rw [hr_28, xput_in (by omega) (by omega)]
                  have hP := hP.sub (ws' := [(o1, .inr (1, [.ref g1, .int (nI k), .int (nI k)])), (g1, xI cy 32 (upd g2 (cb Hs h) (nI h)))]) [0, 1] rfl
                  have hD := hD.sub (ws' := [(o1, .inr (1, [.ref g1, .int (nI k), .int (nI k)])), (g1, xI cy 32 (upd g2 (cb Hs h) (nI h)))]) [0, 1] (by decide) rfl
                  exact kret (k, upd g2 (cb Hs h) (nI h)) _ _ _ _ _ _ dX1_offer_159 (hL.ins hh hb9 (show k = min k (z + 1) by omega) (fun j hj => by show upd g2 (cb Hs h) (nI h) j = _; rw [upd_n (by omega)]; exact hg1 j (by omega)) upd_s (fun j h1 (h2 : j < k) => by show upd g2 (cb Hs h) (nI h) j = _; rw [upd_n (by omega)]; exact hg2 j (by omega) h2)) hP hD hS (Nat.le_of_ble_eq_true rfl) (Nat.le_of_ble_eq_true rfl)
                · refine lv_aload_n hx hb dX1_offer_124 rfl (lv_at hl 0 rfl) ?_
                  refine va_get (D := D) (ci := 1) (v := .ref g1) (C := RX1) (T := TX1) (N := 3) hx hb hts (by decide +kernel) hown hE.1 hP 0 rfl rfl 0 (by decide) (hts (.fieldLink RX1 9 "DistinctDale$LeastHashes" "hashes" "[I") (by decide +kernel)) (fun _ h9 => h9) rfl dX1_offer_125 ?_
                  refine lv_iload hx hb dX1_offer_128 (lv_at hl 4 rfl) ?_
                  refine lv_aload_n hx hb dX1_offer_130 rfl (lv_at hl 0 rfl) ?_
                  refine va_get (D := D) (ci := 1) (v := .ref g1) (C := RX1) (T := TX1) (N := 3) hx hb hts (by decide +kernel) hown hE.1 hP 0 rfl rfl 0 (by decide) (hts (.fieldLink RX1 9 "DistinctDale$LeastHashes" "hashes" "[I") (by decide +kernel)) (fun _ h9 => h9) rfl dX1_offer_131 ?_
                  refine lv_iload hx hb dX1_offer_134 (lv_at hl 4 rfl) ?_
                  refine lv_iconst (v := nI 1) hx hb dX1_offer_136 (by decide) ?_
                  refine lv_isub hx hb dX1_offer_137 ?_
                  refine lv_eqi (z := nI (i - 1)) (pk_sub (by omega)) ?_
                  refine xcRi (va_runSN (As := [.ref g1, .int (nI (i - 1))]) (rest := [.int (nI i), .ref g1]) ⟨hx, hb, hml, hown, hts⟩ (c_at l D cy t0 g1 32 g2 (nI (i - 1)) (by omega)) ⟨va_cnB 2 hts ggX1_offer_X4_at rfl rfl rfl (xN5 hE.2.1.1) (hts (.initialized RX4) (by decide +kernel)) (by decide +kernel) ⟨Nat.le_of_ble_eq_true rfl, Nat.le_of_ble_eq_true rfl⟩, (hts (.static yX4_at) (by decide +kernel)), trivial⟩ (xPr.give (wc := [(g1, xI cy 32 g2)]) hE hS hP [1] rfl) rfl rfl hl.1 rfl (lv_room (Nat.le_of_ble_eq_true rfl)) dX1_offer_138 ⟨(Nat.zero_le _), (Nat.zero_le _)⟩) (fun r_30 hr_31 => ?_)
                  obtain rfl : r_30 = g (i - 1) := by rw [hr_31, xat_in (by omega) (by omega), hg1 _ (by omega)]
                  refine xcWv (wr := [(o1, .inr (1, [.ref g1, .int (nI k), .int (nI k)]))]) (va_runSN (As := [.ref g1, .int (nI i), .int (g (i - 1))]) (rest := []) ⟨hx, hb, hml, hown, hts⟩ ((c_put l D cy t0 g1 32 g2 (nI i) (g (i - 1)) (by omega)) H.size) ⟨va_cnB 3 hts ggX1_offer_X4_put rfl rfl rfl (xN7 hE.2.1.1) (hts (.initialized RX4) (by decide +kernel)) (by decide +kernel) ⟨Nat.le_of_ble_eq_true rfl, Nat.le_of_ble_eq_true rfl⟩, (hts (.static yX4_put) (by decide +kernel)), trivial⟩ (xPw.give (wc := [(g1, xI cy 32 g2)]) hE hS hA hP hD [1] (by decide) rfl) rfl rfl hl.1 rfl (lv_room (Nat.le_of_ble_eq_true rfl)) dX1_offer_141 ⟨(Nat.zero_le _), (Nat.zero_le _)⟩) hP hD hS hA [1] [0] rfl rfl (by decide) (by decide) (fun u_34 H locs hr_33 hP hD hS => ?_)
                  obtain rfl : u_34 = upd g2 i (g (i - 1)) := by rw [hr_33, xput_in (by omega) (by omega)]
                  have hP := hP.sub (ws' := [(o1, .inr (1, [.ref g1, .int (nI k), .int (nI k)])), (g1, xI cy 32 (upd g2 i (g (i - 1))))]) [0, 1] rfl
                  have hD := hD.sub (ws' := [(o1, .inr (1, [.ref g1, .int (nI k), .int (nI k)])), (g1, xI cy 32 (upd g2 i (g (i - 1))))]) [0, 1] (by decide) rfl
                  refine lv_iinc (v := nI (i - 1)) (lv' := [(4, .int (nI (i - 1))), (0, .ref o1), (1, .int (nI h)), (2, .int (nI 1)), (3, .int (nI (cb Hs h)))]) hx hb dX1_offer_144 hl (k := 4) rfl (dec1 (by omega)) (by decide) rfl (fun ls hl => ?_)
                  refine lv_goto (tgt := 118) hx hb dX1_offer_147 (by decide) ?_
                  exact ih_lq (i - 1) (upd g2 i (g (i - 1))) (by omega) (by omega) (fun j hj => by rw [upd_n (by omega)]; exact hg1 j (by omega)) (sh_step (by omega) hg2) (by omega) _ _ hP hD hS _ (lv_sub hl [1, 2, 3, 4, 0] rfl)
            exact lq ((k - 1) + 1) (k - 1) g (by omega) (by omega) (fun _ _ => rfl) (fun j h1 h2 => absurd h1 (by omega)) (by omega) _ _ hP hD hS _ (lv_sub hl [1, 2, 3, 4, 0] rfl)
        have j68 : ∀ (H : Heap) (locs : List Loc), xP D [(o1, .inr (1, [.ref g1, .int (nI k), .int (nI z)])), (g1, xI cy 32 g)] H → va_D A [(o1, .inr (1, [.ref g1, .int (nI k), .int (nI z)])), (g1, xI cy 32 g)] → va_S A s.heap H locs → ∀ (ls : Array Slot), lv_has ls 5 [(0, .ref o1), (1, .int (nI h)), (2, .int (nI 1)), (3, .int (nI (cb Hs h)))] → W p l e ({ frames := 1, cells := 0, slots := 0, locals := 22 } : Room) s m [.ref o1, .int (nI h)].toArray below meth c H locs 0 0 Q (F0 m 68 ls []) := by
          intro H locs hP hD hS ls hl
          refine lv_iload_n hx hb dX1_offer_68 rfl (lv_at hl 3 rfl) ?_
          refine lv_aload_n hx hb dX1_offer_69 rfl (lv_at hl 0 rfl) ?_
          refine va_get (D := D) (ci := 1) (v := .int (nI z)) (C := RX1) (T := TX1) (N := 3) hx hb hts (by decide +kernel) hown hE.1 hP 0 rfl rfl 2 (by decide) (hts (.fieldLink RX1 15 "DistinctDale$LeastHashes" "size" "I") (by decide +kernel)) (fun _ h9 => h9) rfl dX1_offer_70 ?_
          refine xb_icmp_ge (tgt := 89) (a := cb Hs h) (b := z) (by omega) (by omega) hx hb dX1_offer_73 (by decide) (fun c_35 => ?_) (fun c_35 => ?_)
          · exact absurd c_35 (by omega)
          · refine lv_aload_n hx hb dX1_offer_76 rfl (lv_at hl 0 rfl) ?_
            refine va_get (D := D) (ci := 1) (v := .ref g1) (C := RX1) (T := TX1) (N := 3) hx hb hts (by decide +kernel) hown hE.1 hP 0 rfl rfl 0 (by decide) (hts (.fieldLink RX1 9 "DistinctDale$LeastHashes" "hashes" "[I") (by decide +kernel)) (fun _ h9 => h9) rfl dX1_offer_77 ?_
            refine lv_iload_n hx hb dX1_offer_80 rfl (lv_at hl 3 rfl) ?_
            refine xcRi (va_runSN (As := [.ref g1, .int (nI (cb Hs h))]) (rest := []) ⟨hx, hb, hml, hown, hts⟩ (c_at l D cy t0 g1 32 g (nI (cb Hs h)) (by omega)) ⟨va_cnB 2 hts ggX1_offer_X4_at rfl rfl rfl (xN5 hE.2.1.1) (hts (.initialized RX4) (by decide +kernel)) (by decide +kernel) ⟨Nat.le_of_ble_eq_true rfl, Nat.le_of_ble_eq_true rfl⟩, (hts (.static yX4_at) (by decide +kernel)), trivial⟩ (xPr.give (wc := [(g1, xI cy 32 g)]) hE hS hP [1] rfl) rfl rfl hl.1 rfl (lv_room (Nat.le_of_ble_eq_true rfl)) dX1_offer_81 ⟨(Nat.zero_le _), (Nat.zero_le _)⟩) (fun r_36 hr_37 => ?_)
            obtain ⟨t3, hv1, hv2, hv3, hv4⟩ := hL.at (j := cb Hs h) (by omega)
            obtain rfl : r_36 = nI t3 := by rw [hr_37, xat_in (by omega) (by omega), hv4]
            refine lv_iload_n hx hb dX1_offer_84 rfl (lv_at hl 1 rfl) ?_
            refine xb_icmp_ne (tgt := 89) (a := t3) (b := h) (by omega) (by omega) hx hb dX1_offer_85 (by decide) (fun c_38 => ?_) (fun c_38 => ?_)
            · have hbq : Hs h = false := by
                cases hq : Hs h with
                | false => rfl
                | true => exact absurd (cb_inj hv2 hq hv3) c_38
              exact j89  hbq  _ _ hP hD hS _ (lv_sub hl [0, 1, 2, 3] rfl)
            · exact kret (z, g) _ _ _ _ _ _ dX1_offer_88 (hL.congr (insS_in (by rw [← c_38]; exact hv2))) hP hD hS (Nat.le_of_ble_eq_true rfl) (Nat.le_of_ble_eq_true rfl)
        have lp : ∀ (n9 : Nat), ∀ (p9 : Nat), (hp : p9 ≤ z) → (hr : cb Hs h ≤ p9) → p9 < n9 → ∀ (H : Heap) (locs : List Loc), xP D [(o1, .inr (1, [.ref g1, .int (nI k), .int (nI z)])), (g1, xI cy 32 g)] H → va_D A [(o1, .inr (1, [.ref g1, .int (nI k), .int (nI z)])), (g1, xI cy 32 g)] → va_S A s.heap H locs → ∀ (ls : Array Slot), lv_has ls 5 [(0, .ref o1), (1, .int (nI h)), (2, .int (nI 1)), (3, .int (nI p9))] → W p l e ({ frames := 1, cells := 0, slots := 0, locals := 22 } : Room) s m [.ref o1, .int (nI h)].toArray below meth c H locs 0 0 Q (F0 m 44 ls []) := by
          intro n9
          induction n9 with
          | zero => intro p9 hp hr hm; exact absurd hm (Nat.not_lt_zero _)
          | succ n9 ih_lp =>
            intro p9 hp hr hm H locs hP hD hS ls hl
            refine lv_iload_n hx hb dX1_offer_44 rfl (lv_at hl 3 rfl) ?_
            refine xb_if_le (tgt := 68) (a := p9) (by omega) hx hb dX1_offer_45 (by decide) (fun c_39 => ?_) (fun c_39 => ?_)
            · have eo : p9 = cb Hs h := by omega
              rw [eo] at hl
              exact j68    _ _ hP hD hS _ (lv_sub hl [0, 1, 2, 3] rfl)
            · refine lv_aload_n hx hb dX1_offer_48 rfl (lv_at hl 0 rfl) ?_
              refine va_get (D := D) (ci := 1) (v := .ref g1) (C := RX1) (T := TX1) (N := 3) hx hb hts (by decide +kernel) hown hE.1 hP 0 rfl rfl 0 (by decide) (hts (.fieldLink RX1 9 "DistinctDale$LeastHashes" "hashes" "[I") (by decide +kernel)) (fun _ h9 => h9) rfl dX1_offer_49 ?_
              refine lv_iload_n hx hb dX1_offer_52 rfl (lv_at hl 3 rfl) ?_
              refine lv_iconst (v := nI 1) hx hb dX1_offer_53 (by decide) ?_
              refine lv_isub hx hb dX1_offer_54 ?_
              refine lv_eqi (z := nI (p9 - 1)) (pk_sub (by omega)) ?_
              refine xcRi (va_runSN (As := [.ref g1, .int (nI (p9 - 1))]) (rest := []) ⟨hx, hb, hml, hown, hts⟩ (c_at l D cy t0 g1 32 g (nI (p9 - 1)) (by omega)) ⟨va_cnB 2 hts ggX1_offer_X4_at rfl rfl rfl (xN5 hE.2.1.1) (hts (.initialized RX4) (by decide +kernel)) (by decide +kernel) ⟨Nat.le_of_ble_eq_true rfl, Nat.le_of_ble_eq_true rfl⟩, (hts (.static yX4_at) (by decide +kernel)), trivial⟩ (xPr.give (wc := [(g1, xI cy 32 g)]) hE hS hP [1] rfl) rfl rfl hl.1 rfl (lv_room (Nat.le_of_ble_eq_true rfl)) dX1_offer_55 ⟨(Nat.zero_le _), (Nat.zero_le _)⟩) (fun r_40 hr_41 => ?_)
              obtain ⟨t2, hu1, hu2, hu3, hu4⟩ := hL.at (j := p9 - 1) (by omega)
              obtain rfl : r_40 = nI t2 := by rw [hr_41, xat_in (by omega) (by omega), hu4]
              refine lv_iload_n hx hb dX1_offer_58 rfl (lv_at hl 1 rfl) ?_
              refine xb_icmp_lt (tgt := 68) (a := t2) (b := h) (by omega) (by omega) hx hb dX1_offer_59 (by decide) (fun c_42 => ?_) (fun c_42 => ?_)
              · have hq9 := cb_lt c_42 hu2
                have eo : p9 = cb Hs h := by omega
                rw [eo] at hl
                exact j68    _ _ hP hD hS _ (lv_sub hl [0, 1, 2, 3] rfl)
              · refine lv_iinc (v := nI (p9 - 1)) (lv' := [(3, .int (nI (p9 - 1))), (0, .ref o1), (1, .int (nI h)), (2, .int (nI 1))]) hx hb dX1_offer_62 hl (k := 3) rfl (dec1 (by omega)) (by decide) rfl (fun ls hl => ?_)
                refine lv_goto (tgt := 44) hx hb dX1_offer_65 (by decide) ?_
                have hq := cb_mono (P := Hs) c_42
                exact ih_lp (p9 - 1) (by omega) (by omega) (by omega) _ _ hP hD hS _ (lv_sub hl [1, 2, 3, 0] rfl)
        exact lp (z + 1) z (Nat.le_refl _) (by omega) (by omega) _ _ hP hD hS _ (lv_sub hl [2, 3, 1, 0] rfl)
      · exact kret (z, g) _ _ _ _ _ _ dX1_offer_38 (hL.skip (by omega) ht1 hh ht2 (by omega) c_24) hP hD hS (Nat.le_of_ble_eq_true rfl) (Nat.le_of_ble_eq_true rfl)
set_option maxHeartbeats 4000000 in
set_option maxRecDepth 100000 in
theorem c_keepThose (l : Launch) (D : va_G) (cy : Nat → ClassId) (t0 : Nat) (P : Nat → Bool) (o1 g1 k z h0 qi qd n cap : Nat) (g fi : Nat → Int32) (hk2 : 2 ≤ k) (hk : k ≤ 32) (hV : RW P 100000 n fi) (hn : n ≤ cap) (hcap : cap ≤ 100000) : xWv (S := Nat × (Nat → Int32)) l yX1_keepThoseOf wsX1_keepThoseOf ({ frames := 2, cells := 0, slots := 0, locals := 46 } : Room) D cy t0 ([.ref o1, .ref h0]) ([(o1, .inr (1, [.ref g1, .int (nI k), .int (nI z)])), (g1, xI cy 32 g), (h0, .inr (0, [.ref qi, .ref qd, .int (nI n)])), (qi, xI cy cap fi)]) (fun u => LH k (hs P 100000) u.1 u.2) (fun u => [(o1, .inr (1, [.ref g1, .int (nI k), .int (nI u.1)])), (g1, xI cy 32 u.2), (h0, .inr (0, [.ref qi, .ref qd, .int (nI n)])), (qi, xI cy cap fi)]) 0 0 := by
  refine xofWv (cc := cX1_keepThoseOf) (maxL := 3) (by decide) rfl (Nat.le_of_ble_eq_true rfl) ?_
  intro p e s m below meth c Q A ls hx hb hml hts hown hin hE hA H locs hP hD hl hS kret
  have hl : lv_has ls 3 [(0, .ref o1), (1, .ref h0)] := hl
  have hV1 := hV.1
  refine lv_aload_n hx hb dX1_keepThoseOf_0 rfl (lv_at hl 0 rfl) ?_
  refine xcWv (wr := [(g1, xI cy 32 g), (h0, .inr (0, [.ref qi, .ref qd, .int (nI n)])), (qi, xI cy cap fi)]) (va_runV (As := []) (rest := []) ⟨hx, hb, hml, hown, hts⟩ ((c_forget l D cy t0 o1 g1 k z) H.size) (cwV 0 hts gX1_keepThoseOf_X1_forget rfl rfl rfl (by decide +kernel) ⟨Nat.le_of_ble_eq_true rfl, Nat.le_of_ble_eq_true rfl⟩) (xPw.giveV (wc := [(o1, .inr (1, [.ref g1, .int (nI k), .int (nI z)]))]) hE hS hA hP hD [0] (by decide) rfl 0 1 rfl rfl) rfl rfl hl.1 rfl (lv_room (Nat.le_of_ble_eq_true rfl)) dX1_keepThoseOf_1 ⟨(Nat.zero_le _), (Nat.zero_le _)⟩) hP hD hS hA [0] [1, 2, 3] rfl rfl (by decide) (by decide) (fun u_3 H locs hr_2 hP hD hS => ?_)
  have hP := hP.sub (ws' := [(o1, .inr (1, [.ref g1, .int (nI k), .int (nI 0)])), (g1, xI cy 32 g), (h0, .inr (0, [.ref qi, .ref qd, .int (nI n)])), (qi, xI cy cap fi)]) [3, 0, 1, 2] rfl
  have hD := hD.sub (ws' := [(o1, .inr (1, [.ref g1, .int (nI k), .int (nI 0)])), (g1, xI cy 32 g), (h0, .inr (0, [.ref qi, .ref qd, .int (nI n)])), (qi, xI cy cap fi)]) [3, 0, 1, 2] (by decide) rfl
  refine lv_iconst (v := nI 0) hx hb dX1_keepThoseOf_4 (by decide) ?_
  refine lv_istore_n (lv' := [(2, .int (nI 0)), (0, .ref o1), (1, .ref h0)]) hx hb dX1_keepThoseOf_5 rfl hl (by decide) rfl (fun ls hl => ?_)
  have lp : ∀ (n9 : Nat), ∀ (lo : Nat) (z2 : Nat) (g2 : Nat → Int32), (hlo : lo ≤ 100000) → (hL : LH k (hs P lo) z2 g2) → n - cb P lo < n9 → ∀ (H : Heap) (locs : List Loc), xP D [(o1, .inr (1, [.ref g1, .int (nI k), .int (nI z2)])), (g1, xI cy 32 g2), (h0, .inr (0, [.ref qi, .ref qd, .int (nI n)])), (qi, xI cy cap fi)] H → va_D A [(o1, .inr (1, [.ref g1, .int (nI k), .int (nI z2)])), (g1, xI cy 32 g2), (h0, .inr (0, [.ref qi, .ref qd, .int (nI n)])), (qi, xI cy cap fi)] → va_S A s.heap H locs → ∀ (ls : Array Slot), lv_has ls 3 [(0, .ref o1), (1, .ref h0), (2, .int (nI (cb P lo)))] → W p l e ({ frames := 2, cells := 0, slots := 0, locals := 46 } : Room) s m [.ref o1, .ref h0].toArray below meth c H locs 0 0 Q (F0 m 6 ls []) := by
    intro n9
    induction n9 with
    | zero => intro lo z2 g2 hlo hL hm; exact absurd hm (Nat.not_lt_zero _)
    | succ n9 ih_lp =>
      intro lo z2 g2 hlo hL hm H locs hP hD hS ls hl
      have hlc : cb P lo ≤ cb P 100000 := cb_mono hlo
      refine lv_iload_n hx hb dX1_keepThoseOf_6 rfl (lv_at hl 2 rfl) ?_
      refine lv_aload_n hx hb dX1_keepThoseOf_7 rfl (lv_at hl 1 rfl) ?_
      refine va_get (D := D) (ci := 0) (v := .int (nI n)) (C := RX0) (T := TX0) (N := 3) hx hb hts (by decide +kernel) hown hE.1 hP 2 rfl rfl 2 (by decide) (hts (.fieldLink RX1 25 "DistinctDale$Basket" "size" "I") (by decide +kernel)) (fun _ h9 => h9) rfl dX1_keepThoseOf_8 ?_
      refine xb_icmp_ge (tgt := 35) (a := cb P lo) (b := n) (by omega) (by omega) hx hb dX1_keepThoseOf_11 (by decide) (fun c_4 => ?_) (fun c_4 => ?_)
      · exact kret (z2, g2) _ _ _ _ _ _ dX1_keepThoseOf_35 (hL.congr (fun y => hs_none hlo (cb_nomore (by omega)) y)) hP hD hS (Nat.le_of_ble_eq_true rfl) (Nat.le_of_ble_eq_true rfl)
      · refine lv_aload_n hx hb dX1_keepThoseOf_14 rfl (lv_at hl 0 rfl) ?_
        refine lv_aload_n hx hb dX1_keepThoseOf_15 rfl (lv_at hl 1 rfl) ?_
        refine va_get (D := D) (ci := 0) (v := .ref qi) (C := RX0) (T := TX0) (N := 3) hx hb hts (by decide +kernel) hown hE.1 hP 2 rfl rfl 0 (by decide) (hts (.fieldLink RX1 28 "DistinctDale$Basket" "items" "[I") (by decide +kernel)) (fun _ h9 => h9) rfl dX1_keepThoseOf_16 ?_
        refine lv_iload_n hx hb dX1_keepThoseOf_19 rfl (lv_at hl 2 rfl) ?_
        refine xcRi (va_runSN (As := [.ref qi, .int (nI (cb P lo))]) (rest := [.ref o1]) ⟨hx, hb, hml, hown, hts⟩ (c_at l D cy t0 qi cap fi (nI (cb P lo)) (by omega)) ⟨va_cnB 2 hts ggX1_keepThoseOf_X4_at rfl rfl rfl (xN5 hE.2.1.1) (hts (.initialized RX4) (by decide +kernel)) (by decide +kernel) ⟨Nat.le_of_ble_eq_true rfl, Nat.le_of_ble_eq_true rfl⟩, (hts (.static yX4_at) (by decide +kernel)), trivial⟩ (xPr.give (wc := [(qi, xI cy cap fi)]) hE hS hP [3] rfl) rfl rfl hl.1 rfl (lv_room (Nat.le_of_ble_eq_true rfl)) dX1_keepThoseOf_20 ⟨(Nat.zero_le _), (Nat.zero_le _)⟩) (fun r_5 hr_6 => ?_)
        obtain ⟨x, hx1, hx2, hx3, hx4, hx5, hx6⟩ := hV.next hlo (by omega)
        obtain rfl : r_5 = nI x := by rw [hr_6, xat_in (by omega) (by omega), hx6]
        refine xcRi (va_runSN (As := [.int (nI x)]) (rest := [.ref o1]) ⟨hx, hb, hml, hown, hts⟩ (c_hashFor l D cy t0 x hx2) ⟨va_cnB 1 hts ggX1_keepThoseOf_X4_hashFor rfl rfl rfl (xN6 hE.2.1.1) (hts (.initialized RX4) (by decide +kernel)) (by decide +kernel) ⟨Nat.le_of_ble_eq_true rfl, Nat.le_of_ble_eq_true rfl⟩, (hts (.static yX4_hashFor) (by decide +kernel)), trivial⟩ (xPr.give (wc := []) hE hS hP [] rfl) rfl rfl hl.1 rfl (lv_room (Nat.le_of_ble_eq_true rfl)) dX1_keepThoseOf_23 ⟨(Nat.zero_le _), (Nat.zero_le _)⟩) (fun r_7 hr_8 => ?_)
        obtain rfl : r_7 = nI (hsh x) := hr_8
        have hhl := hsh_lt x
        refine xcWv (wr := [(h0, .inr (0, [.ref qi, .ref qd, .int (nI n)])), (qi, xI cy cap fi)]) (va_runV (As := [.int (nI (hsh x))]) (rest := []) ⟨hx, hb, hml, hown, hts⟩ ((c_offer l D cy t0 (hs P lo) o1 g1 k z2 (hsh x) g2 hk2 hk hL hhl) H.size) (cwV 1 hts gX1_keepThoseOf_X1_offer rfl rfl rfl (by decide +kernel) ⟨Nat.le_of_ble_eq_true rfl, Nat.le_of_ble_eq_true rfl⟩) (xPw.giveV (wc := [(o1, .inr (1, [.ref g1, .int (nI k), .int (nI z2)])), (g1, xI cy 32 g2)]) hE hS hA hP hD [0, 1] (by decide) rfl 0 1 rfl rfl) rfl rfl hl.1 rfl (lv_room (Nat.le_of_ble_eq_true rfl)) dX1_keepThoseOf_26 ⟨(Nat.zero_le _), (Nat.zero_le _)⟩) hP hD hS hA [0, 1] [2, 3] rfl rfl (by decide) (by decide) (fun u_11 H locs hr_10 hP hD hS => ?_)
        obtain ⟨z3, g3⟩ := u_11
        have hL3 : LH k (insS (hs P lo) (hsh x)) z3 g3 := hr_10
        have hP := hP.sub (ws' := [(o1, .inr (1, [.ref g1, .int (nI k), .int (nI z3)])), (g1, xI cy 32 g3), (h0, .inr (0, [.ref qi, .ref qd, .int (nI n)])), (qi, xI cy cap fi)]) [2, 3, 0, 1] rfl
        have hD := hD.sub (ws' := [(o1, .inr (1, [.ref g1, .int (nI k), .int (nI z3)])), (g1, xI cy 32 g3), (h0, .inr (0, [.ref qi, .ref qd, .int (nI n)])), (qi, xI cy cap fi)]) [2, 3, 0, 1] (by decide) rfl
        refine lv_iinc (v := nI (cb P lo + 1)) (lv' := [(2, .int (nI (cb P lo + 1))), (0, .ref o1), (1, .ref h0)]) hx hb dX1_keepThoseOf_29 hl (k := 2) rfl (nI_add _ 1) (by decide) rfl (fun ls hl => ?_)
        refine lv_goto (tgt := 6) hx hb dX1_keepThoseOf_32 (by decide) ?_
        have e1 : cb P lo + 1 = cb P (x + 1) := by rw [cb_t hx3]; omega
        rw [e1] at hl
        exact ih_lp (x + 1) z3 g3 (by omega) (hL3.congr (hs_step hx1 hx5 hx3)) (by omega) _ _ hP hD hS _ (lv_sub hl [1, 2, 0] rfl)
  exact lp (n + 1) 0 0 g (Nat.zero_le _) (LH0 (fun _ => rfl)) (by omega) _ _ hP hD hS _ (lv_sub hl [1, 2, 0] rfl)
set_option maxHeartbeats 4000000 in
set_option maxRecDepth 100000 in
theorem c_offerAll (l : Launch) (D : va_G) (cy : Nat → ClassId) (t0 : Nat) (Hs H2 : Nat → Bool) (o1 g1 k z o2 gg k2 z2 : Nat) (g g2 : Nat → Int32) (hk2 : 2 ≤ k) (hk : k ≤ 32) (hL0 : LH k Hs z g) (hL2 : LH k2 H2 z2 g2) (hz2 : z2 ≤ 32) (hK2 : ∀ y, 16777213 ≤ y → kS k2 H2 y = false) : xWv (S := Nat × (Nat → Int32)) l yX1_offerAllOf wsX1_offerAllOf ({ frames := 2, cells := 0, slots := 0, locals := 46 } : Room) D cy t0 ([.ref o1, .ref o2]) ([(o1, .inr (1, [.ref g1, .int (nI k), .int (nI z)])), (g1, xI cy 32 g), (o2, .inr (1, [.ref gg, .int (nI k2), .int (nI z2)])), (gg, xI cy 32 g2)]) (fun u => LH k (orS Hs (kS k2 H2)) u.1 u.2) (fun u => [(o1, .inr (1, [.ref g1, .int (nI k), .int (nI u.1)])), (g1, xI cy 32 u.2), (o2, .inr (1, [.ref gg, .int (nI k2), .int (nI z2)])), (gg, xI cy 32 g2)]) 0 0 := by
  refine xofWv (cc := cX1_offerAllOf) (maxL := 3) (by decide) rfl (Nat.le_of_ble_eq_true rfl) ?_
  intro p e s m below meth c Q A ls hx hb hml hts hown hin hE hA H locs hP hD hl hS kret
  have hl : lv_has ls 3 [(0, .ref o1), (1, .ref o2)] := hl
  refine lv_iconst (v := nI 0) hx hb dX1_offerAllOf_0 (by decide) ?_
  refine lv_istore_n (lv' := [(2, .int (nI 0)), (0, .ref o1), (1, .ref o2)]) hx hb dX1_offerAllOf_1 rfl hl (by decide) rfl (fun ls hl => ?_)
  have lp : ∀ (n9 : Nat), ∀ (lo : Nat) (z3 : Nat) (g3 : Nat → Int32), (hlo : lo ≤ 16777213) → (hL : LH k (upS Hs (kS k2 H2) lo) z3 g3) → z2 - cb (kS k2 H2) lo < n9 → ∀ (H : Heap) (locs : List Loc), xP D [(o1, .inr (1, [.ref g1, .int (nI k), .int (nI z3)])), (g1, xI cy 32 g3), (o2, .inr (1, [.ref gg, .int (nI k2), .int (nI z2)])), (gg, xI cy 32 g2)] H → va_D A [(o1, .inr (1, [.ref g1, .int (nI k), .int (nI z3)])), (g1, xI cy 32 g3), (o2, .inr (1, [.ref gg, .int (nI k2), .int (nI z2)])), (gg, xI cy 32 g2)] → va_S A s.heap H locs → ∀ (ls : Array Slot), lv_has ls 3 [(0, .ref o1), (1, .ref o2), (2, .int (nI (cb (kS k2 H2) lo)))] → W p l e ({ frames := 2, cells := 0, slots := 0, locals := 46 } : Room) s m [.ref o1, .ref o2].toArray below meth c H locs 0 0 Q (F0 m 2 ls []) := by
    intro n9
    induction n9 with
    | zero => intro lo z3 g3 hlo hL hm; exact absurd hm (Nat.not_lt_zero _)
    | succ n9 ih_lp =>
      intro lo z3 g3 hlo hL hm H locs hP hD hS ls hl
      have hcl := cb_le (P := (kS k2 H2)) (n := lo)
      refine lv_iload_n hx hb dX1_offerAllOf_2 rfl (lv_at hl 2 rfl) ?_
      refine lv_aload_n hx hb dX1_offerAllOf_3 rfl (lv_at hl 1 rfl) ?_
      refine va_get (D := D) (ci := 1) (v := .int (nI z2)) (C := RX1) (T := TX1) (N := 3) hx hb hts (by decide +kernel) hown hE.1 hP 2 rfl rfl 2 (by decide) (hts (.fieldLink RX1 15 "DistinctDale$LeastHashes" "size" "I") (by decide +kernel)) (fun _ h9 => h9) rfl dX1_offerAllOf_4 ?_
      refine xb_icmp_ge (tgt := 28) (a := cb (kS k2 H2) lo) (b := z2) (by omega) (by omega) hx hb dX1_offerAllOf_7 (by decide) (fun c_1 => ?_) (fun c_1 => ?_)
      · exact kret (z3, g3) _ _ _ _ _ _ dX1_offerAllOf_28 (hL.congr (upS_end (hL2.cnt (by omega) hlo) hK2)) hP hD hS (Nat.le_of_ble_eq_true rfl) (Nat.le_of_ble_eq_true rfl)
      · refine lv_aload_n hx hb dX1_offerAllOf_10 rfl (lv_at hl 0 rfl) ?_
        refine lv_aload_n hx hb dX1_offerAllOf_11 rfl (lv_at hl 1 rfl) ?_
        refine va_get (D := D) (ci := 1) (v := .ref gg) (C := RX1) (T := TX1) (N := 3) hx hb hts (by decide +kernel) hown hE.1 hP 2 rfl rfl 0 (by decide) (hts (.fieldLink RX1 9 "DistinctDale$LeastHashes" "hashes" "[I") (by decide +kernel)) (fun _ h9 => h9) rfl dX1_offerAllOf_12 ?_
        refine lv_iload_n hx hb dX1_offerAllOf_15 rfl (lv_at hl 2 rfl) ?_
        refine xcRi (va_runSN (As := [.ref gg, .int (nI (cb (kS k2 H2) lo))]) (rest := [.ref o1]) ⟨hx, hb, hml, hown, hts⟩ (c_at l D cy t0 gg 32 g2 (nI (cb (kS k2 H2) lo)) (by omega)) ⟨va_cnB 2 hts ggX1_offerAllOf_X4_at rfl rfl rfl (xN5 hE.2.1.1) (hts (.initialized RX4) (by decide +kernel)) (by decide +kernel) ⟨Nat.le_of_ble_eq_true rfl, Nat.le_of_ble_eq_true rfl⟩, (hts (.static yX4_at) (by decide +kernel)), trivial⟩ (xPr.give (wc := [(gg, xI cy 32 g2)]) hE hS hP [3] rfl) rfl rfl hl.1 rfl (lv_room (Nat.le_of_ble_eq_true rfl)) dX1_offerAllOf_16 ⟨(Nat.zero_le _), (Nat.zero_le _)⟩) (fun r_2 hr_3 => ?_)
        obtain ⟨t, ht1, ht2, ht3, ht4, ht5, ht6⟩ := hL2.next hlo (by omega)
        obtain rfl : r_2 = nI t := by rw [hr_3, xat_in (by omega) (by omega), ht6]
        refine xcWv (wr := [(o2, .inr (1, [.ref gg, .int (nI k2), .int (nI z2)])), (gg, xI cy 32 g2)]) (va_runV (As := [.int (nI t)]) (rest := []) ⟨hx, hb, hml, hown, hts⟩ ((c_offer l D cy t0 (upS Hs (kS k2 H2) lo) o1 g1 k z3 t g3 hk2 hk hL ht2) H.size) (cwV 1 hts gX1_offerAllOf_X1_offer rfl rfl rfl (by decide +kernel) ⟨Nat.le_of_ble_eq_true rfl, Nat.le_of_ble_eq_true rfl⟩) (xPw.giveV (wc := [(o1, .inr (1, [.ref g1, .int (nI k), .int (nI z3)])), (g1, xI cy 32 g3)]) hE hS hA hP hD [0, 1] (by decide) rfl 0 1 rfl rfl) rfl rfl hl.1 rfl (lv_room (Nat.le_of_ble_eq_true rfl)) dX1_offerAllOf_19 ⟨(Nat.zero_le _), (Nat.zero_le _)⟩) hP hD hS hA [0, 1] [2, 3] rfl rfl (by decide) (by decide) (fun u_6 H locs hr_5 hP hD hS => ?_)
        obtain ⟨z4, g4⟩ := u_6
        have hL4 : LH k (insS (upS Hs (kS k2 H2) lo) t) z4 g4 := hr_5
        have hP := hP.sub (ws' := [(o1, .inr (1, [.ref g1, .int (nI k), .int (nI z4)])), (g1, xI cy 32 g4), (o2, .inr (1, [.ref gg, .int (nI k2), .int (nI z2)])), (gg, xI cy 32 g2)]) [2, 3, 0, 1] rfl
        have hD := hD.sub (ws' := [(o1, .inr (1, [.ref g1, .int (nI k), .int (nI z4)])), (g1, xI cy 32 g4), (o2, .inr (1, [.ref gg, .int (nI k2), .int (nI z2)])), (gg, xI cy 32 g2)]) [2, 3, 0, 1] (by decide) rfl
        refine lv_iinc (v := nI (cb (kS k2 H2) lo + 1)) (lv' := [(2, .int (nI (cb (kS k2 H2) lo + 1))), (0, .ref o1), (1, .ref o2)]) hx hb dX1_offerAllOf_22 hl (k := 2) rfl (nI_add _ 1) (by decide) rfl (fun ls hl => ?_)
        refine lv_goto (tgt := 2) hx hb dX1_offerAllOf_25 (by decide) ?_
        have e1 : cb (kS k2 H2) lo + 1 = cb (kS k2 H2) (t + 1) := by rw [cb_t ht3]; omega
        rw [e1] at hl
        exact ih_lp (t + 1) z4 g4 (by omega) (hL4.congr (upS_step ht1 ht5 ht3)) (by omega) _ _ hP hD hS _ (lv_sub hl [1, 2, 0] rfl)
  exact lp (z2 + 1) 0 z g (Nat.zero_le _) (hL0.congr upS_0) (by omega) _ _ hP hD hS _ (lv_sub hl [1, 2, 0] rfl)
set_option maxHeartbeats 4000000 in
set_option maxRecDepth 100000 in
theorem c_has (l : Launch) (D : va_G) (cy : Nat → ClassId) (t0 : Nat) (Hs : Nat → Bool) (o1 g1 k z h : Nat) (g : Nat → Int32) (hk : z ≤ 32) (hL : LH k Hs z g) (hh : h < 16777213) : xRi l yX1_has wsX1_has ({ frames := 1, cells := 0, slots := 0, locals := 21 } : Room) D cy t0 ([.ref o1, .int (nI h)]) ([(o1, .inr (1, [.ref g1, .int (nI k), .int (nI z)])), (g1, xI cy 32 g)]) (fun r => r = xb (kS k Hs h)) := by
  refine xofRi (cc := cX1_has) (maxL := 3) (by decide) rfl (Nat.le_of_ble_eq_true rfl) (fun r h => by rw [h]; exact xb_nar _) ?_
  intro p e s m below meth c Q ls hx hb hml hts hown hE hP hl hS kret
  have hl : lv_has ls 3 [(0, .ref o1), (1, .int (nI h))] := hl
  refine lv_iconst (v := nI 0) hx hb dX1_has_0 (by decide) ?_
  refine lv_istore_n (lv' := [(2, .int (nI 0)), (0, .ref o1), (1, .int (nI h))]) hx hb dX1_has_1 rfl hl (by decide) rfl (fun ls hl => ?_)
  have lp : ∀ (n9 : Nat), ∀ (lo : Nat), (hlo : lo ≤ 16777213) → (hno : ∀ y, y < lo → kS k Hs y = true → y ≠ h) → z - cb (kS k Hs) lo < n9 → ∀ (ls : Array Slot), lv_has ls 3 [(0, .ref o1), (1, .int (nI h)), (2, .int (nI (cb (kS k Hs) lo)))] → W p l e ({ frames := 1, cells := 0, slots := 0, locals := 21 } : Room) s m [.ref o1, .int (nI h)].toArray below meth c s.heap [] 0 0 Q (F0 m 2 ls []) := by
    intro n9
    induction n9 with
    | zero => intro lo hlo hno hm; exact absurd hm (Nat.not_lt_zero _)
    | succ n9 ih_lp =>
      intro lo hlo hno hm ls hl
      have hcl := cb_le (P := kS k Hs) (n := lo)
      refine lv_iload_n hx hb dX1_has_2 rfl (lv_at hl 2 rfl) ?_
      refine lv_aload_n hx hb dX1_has_3 rfl (lv_at hl 0 rfl) ?_
      refine va_get (D := D) (ci := 1) (v := .int (nI z)) (C := RX1) (T := TX1) (N := 3) hx hb hts (by decide +kernel) hown hE.1 hP 0 rfl rfl 2 (by decide) (hts (.fieldLink RX1 15 "DistinctDale$LeastHashes" "size" "I") (by decide +kernel)) (fun _ h9 => h9) rfl dX1_has_4 ?_
      refine xb_icmp_ge (tgt := 30) (a := cb (kS k Hs) lo) (b := z) (by omega) (by omega) hx hb dX1_has_7 (by decide) (fun c_1 => ?_) (fun c_1 => ?_)
      · refine lv_iconst (v := nI 0) hx hb dX1_has_30 (by decide) ?_
        have hf : kS k Hs h = false := by
          cases hb2 : kS k Hs h with
          | false => rfl
          | true =>
            rcases Nat.lt_or_ge h lo with q | q
            · exact absurd rfl (hno h q hb2)
            · rw [hL.cnt (by omega) hlo h q hh] at hb2; cases hb2
        exact kret _ _ _ dX1_has_31 (by rw [hf]; rfl)
      · refine lv_aload_n hx hb dX1_has_10 rfl (lv_at hl 0 rfl) ?_
        refine va_get (D := D) (ci := 1) (v := .ref g1) (C := RX1) (T := TX1) (N := 3) hx hb hts (by decide +kernel) hown hE.1 hP 0 rfl rfl 0 (by decide) (hts (.fieldLink RX1 9 "DistinctDale$LeastHashes" "hashes" "[I") (by decide +kernel)) (fun _ h9 => h9) rfl dX1_has_11 ?_
        refine lv_iload_n hx hb dX1_has_14 rfl (lv_at hl 2 rfl) ?_
        refine xcRi (va_runSN (As := [.ref g1, .int (nI (cb (kS k Hs) lo))]) (rest := []) ⟨hx, hb, hml, hown, hts⟩ (c_at l D cy t0 g1 32 g (nI (cb (kS k Hs) lo)) (by omega)) ⟨va_cnB 2 hts ggX1_has_X4_at rfl rfl rfl (xN5 hE.2.1.1) (hts (.initialized RX4) (by decide +kernel)) (by decide +kernel) ⟨Nat.le_of_ble_eq_true rfl, Nat.le_of_ble_eq_true rfl⟩, (hts (.static yX4_at) (by decide +kernel)), trivial⟩ (xPr.give (wc := [(g1, xI cy 32 g)]) hE hS hP [1] rfl) rfl rfl hl.1 rfl (lv_room (Nat.le_of_ble_eq_true rfl)) dX1_has_15 ⟨(Nat.zero_le _), (Nat.zero_le _)⟩) (fun r_2 hr_3 => ?_)
        obtain ⟨t, ht1, ht2, ht3, ht4, ht5, ht6⟩ := hL.next hlo (by omega)
        obtain rfl : r_2 = nI t := by rw [hr_3, xat_in (by omega) (by omega), ht6]
        refine lv_iload_n hx hb dX1_has_18 rfl (lv_at hl 1 rfl) ?_
        refine xb_icmp_ne (tgt := 24) (a := t) (b := h) (by omega) (by omega) hx hb dX1_has_19 (by decide) (fun c_4 => ?_) (fun c_4 => ?_)
        · refine lv_iinc (v := nI (cb (kS k Hs) lo + 1)) (lv' := [(2, .int (nI (cb (kS k Hs) lo + 1))), (0, .ref o1), (1, .int (nI h))]) hx hb dX1_has_24 hl (k := 2) rfl (nI_add _ 1) (by decide) rfl (fun ls hl => ?_)
          refine lv_goto (tgt := 2) hx hb dX1_has_27 (by decide) ?_
          have e1 : cb (kS k Hs) lo + 1 = cb (kS k Hs) (t + 1) := by rw [cb_t ht3]; omega
          rw [e1] at hl
          have hno2 : ∀ y, y < t + 1 → kS k Hs y = true → y ≠ h := fun y h1 h2 => by
            rcases Nat.lt_or_ge y lo with q | q
            · exact hno y q h2
            · rcases Nat.lt_or_ge y t with q2 | q2
              · rw [ht5 y q q2] at h2; cases h2
              · have : y = t := by omega
                rw [this]; exact c_4
          exact ih_lp (t + 1) (by omega) hno2 (by omega) _ (lv_sub hl [1, 2, 0] rfl)
        · refine lv_iconst (v := nI 1) hx hb dX1_has_22 (by decide) ?_
          exact kret _ _ _ dX1_has_23 (by rw [← c_4, ht3]; rfl)
  exact lp (z + 1) 0 (Nat.zero_le _) (fun y hy => absurd hy (Nat.not_lt_zero _)) (by omega) _ (lv_sub hl [1, 2, 0] rfl)
set_option maxHeartbeats 4000000 in
set_option maxRecDepth 100000 in
theorem c_est (l : Launch) (D : va_G) (cy : Nat → ClassId) (t0 : Nat) (Hs : Nat → Bool) (o1 g1 k z : Nat) (g : Nat → Int32) (hk2 : 2 ≤ k) (hk : k ≤ 32) (hL : LH k Hs z g) : xRi l yX1_estimate wsX1_estimate ({ frames := 1, cells := 0, slots := 0, locals := 21 } : Room) D cy t0 ([.ref o1]) ([(o1, .inr (1, [.ref g1, .int (nI k), .int (nI z)])), (g1, xI cy 32 g)]) (fun r => r = nI (estV k Hs)) := by
  refine xofRi (cc := cX1_estimate) (maxL := 2) (by decide) rfl (Nat.le_of_ble_eq_true rfl) (fun _ _ => rfl) ?_
  intro p e s m below meth c Q ls hx hb hml hts hown hE hP hl hS kret
  have hl : lv_has ls 2 [(0, .ref o1)] := hl
  have hL1 := hL.1
  have hmul : (k - 1) * 16777213 ≤ 31 * 16777213 := Nat.mul_le_mul (by omega) (Nat.le_refl _)
  refine lv_aload_n hx hb dX1_estimate_0 rfl (lv_at hl 0 rfl) ?_
  refine va_get (D := D) (ci := 1) (v := .ref g1) (C := RX1) (T := TX1) (N := 3) hx hb hts (by decide +kernel) hown hE.1 hP 0 rfl rfl 0 (by decide) (hts (.fieldLink RX1 9 "DistinctDale$LeastHashes" "hashes" "[I") (by decide +kernel)) (fun _ h9 => h9) rfl dX1_estimate_1 ?_
  refine lv_aload_n hx hb dX1_estimate_4 rfl (lv_at hl 0 rfl) ?_
  refine va_get (D := D) (ci := 1) (v := .int (nI z)) (C := RX1) (T := TX1) (N := 3) hx hb hts (by decide +kernel) hown hE.1 hP 0 rfl rfl 2 (by decide) (hts (.fieldLink RX1 15 "DistinctDale$LeastHashes" "size" "I") (by decide +kernel)) (fun _ h9 => h9) rfl dX1_estimate_5 ?_
  refine lv_iconst (v := nI 1) hx hb dX1_estimate_8 (by decide) ?_
  refine lv_isub hx hb dX1_estimate_9 ?_
  rcases Nat.eq_zero_or_pos z with hz0 | hz0
  · have hmid := hz0
    refine xcRi (va_runSN (As := [.ref g1, .int ((nI z) - (nI 1))]) (rest := []) ⟨hx, hb, hml, hown, hts⟩ (c_at l D cy t0 g1 32 g (nI z - nI 1) (by omega)) ⟨va_cnB 2 hts ggX1_estimate_X4_at rfl rfl rfl (xN5 hE.2.1.1) (hts (.initialized RX4) (by decide +kernel)) (by decide +kernel) ⟨Nat.le_of_ble_eq_true rfl, Nat.le_of_ble_eq_true rfl⟩, (hts (.static yX4_at) (by decide +kernel)), trivial⟩ (xPr.give (wc := [(g1, xI cy 32 g)]) hE hS hP [1] rfl) rfl rfl hl.1 rfl (lv_room (Nat.le_of_ble_eq_true rfl)) dX1_estimate_10 ⟨(Nat.zero_le _), (Nat.zero_le _)⟩) (fun r_1 hr_2 => ?_)
    obtain rfl : r_1 = -1 := by rw [hr_2, xat_mm0 hz0]
    refine lv_istore_n (lv' := [(1, .int (-1)), (0, .ref o1)]) hx hb dX1_estimate_13 rfl hl (by decide) rfl (fun ls hl => ?_)
    refine lv_aload_n hx hb dX1_estimate_14 rfl (lv_at hl 1 rfl) ?_
    refine va_get (D := D) (ci := 1) (v := .int (nI z)) (C := RX1) (T := TX1) (N := 3) hx hb hts (by decide +kernel) hown hE.1 hP 0 rfl rfl 2 (by decide) (hts (.fieldLink RX1 15 "DistinctDale$LeastHashes" "size" "I") (by decide +kernel)) (fun _ h9 => h9) rfl dX1_estimate_15 ?_
    refine lv_aload_n hx hb dX1_estimate_18 rfl (lv_at hl 1 rfl) ?_
    refine va_get (D := D) (ci := 1) (v := .int (nI k)) (C := RX1) (T := TX1) (N := 3) hx hb hts (by decide +kernel) hown hE.1 hP 0 rfl rfl 1 (by decide) (hts (.fieldLink RX1 19 "DistinctDale$LeastHashes" "limit" "I") (by decide +kernel)) (fun _ h9 => h9) rfl dX1_estimate_19 ?_
    refine xb_icmp_lt (tgt := 29) (a := z) (b := k) (by omega) (by omega) hx hb dX1_estimate_22 (by decide) (fun c_3 => ?_) (fun c_3 => ?_)
    · refine lv_aload_n hx hb dX1_estimate_29 rfl (lv_at hl 1 rfl) ?_
      refine va_get (D := D) (ci := 1) (v := .int (nI z)) (C := RX1) (T := TX1) (N := 3) hx hb hts (by decide +kernel) hown hE.1 hP 0 rfl rfl 2 (by decide) (hts (.fieldLink RX1 15 "DistinctDale$LeastHashes" "size" "I") (by decide +kernel)) (fun _ h9 => h9) rfl dX1_estimate_30 ?_
      exact kret _ _ _ dX1_estimate_33 (by rw [estV_lo (by omega)]; exact congrArg nI (by omega))
    · exact absurd c_3 (by omega)
  · obtain ⟨t, ht1, ht2, ht3, ht4⟩ := hL.at (j := z - 1) (by omega)
    refine xcRi (va_runSN (As := [.ref g1, .int ((nI z) - (nI 1))]) (rest := []) ⟨hx, hb, hml, hown, hts⟩ (c_at l D cy t0 g1 32 g (nI z - nI 1) (by omega)) ⟨va_cnB 2 hts ggX1_estimate_X4_at rfl rfl rfl (xN5 hE.2.1.1) (hts (.initialized RX4) (by decide +kernel)) (by decide +kernel) ⟨Nat.le_of_ble_eq_true rfl, Nat.le_of_ble_eq_true rfl⟩, (hts (.static yX4_at) (by decide +kernel)), trivial⟩ (xPr.give (wc := [(g1, xI cy 32 g)]) hE hS hP [1] rfl) rfl rfl hl.1 rfl (lv_room (Nat.le_of_ble_eq_true rfl)) dX1_estimate_10 ⟨(Nat.zero_le _), (Nat.zero_le _)⟩) (fun r_4 hr_5 => ?_)
    obtain rfl : r_4 = nI t := by rw [hr_5, xat_mm (j := z - 1) (by omega) (by omega) (by omega), ht4]
    refine lv_istore_n (lv' := [(1, .int (nI t)), (0, .ref o1)]) hx hb dX1_estimate_13 rfl hl (by decide) rfl (fun ls hl => ?_)
    refine lv_aload_n hx hb dX1_estimate_14 rfl (lv_at hl 1 rfl) ?_
    refine va_get (D := D) (ci := 1) (v := .int (nI z)) (C := RX1) (T := TX1) (N := 3) hx hb hts (by decide +kernel) hown hE.1 hP 0 rfl rfl 2 (by decide) (hts (.fieldLink RX1 15 "DistinctDale$LeastHashes" "size" "I") (by decide +kernel)) (fun _ h9 => h9) rfl dX1_estimate_15 ?_
    refine lv_aload_n hx hb dX1_estimate_18 rfl (lv_at hl 1 rfl) ?_
    refine va_get (D := D) (ci := 1) (v := .int (nI k)) (C := RX1) (T := TX1) (N := 3) hx hb hts (by decide +kernel) hown hE.1 hP 0 rfl rfl 1 (by decide) (hts (.fieldLink RX1 19 "DistinctDale$LeastHashes" "limit" "I") (by decide +kernel)) (fun _ h9 => h9) rfl dX1_estimate_19 ?_
    refine xb_icmp_lt (tgt := 29) (a := z) (b := k) (by omega) (by omega) hx hb dX1_estimate_22 (by decide) (fun c_6 => ?_) (fun c_6 => ?_)
    · refine lv_aload_n hx hb dX1_estimate_29 rfl (lv_at hl 1 rfl) ?_
      refine va_get (D := D) (ci := 1) (v := .int (nI z)) (C := RX1) (T := TX1) (N := 3) hx hb hts (by decide +kernel) hown hE.1 hP 0 rfl rfl 2 (by decide) (hts (.fieldLink RX1 15 "DistinctDale$LeastHashes" "size" "I") (by decide +kernel)) (fun _ h9 => h9) rfl dX1_estimate_30 ?_
      exact kret _ _ _ dX1_estimate_33 (by rw [estV_lo (by omega)]; exact congrArg nI (by omega))
    · refine lv_iload_n hx hb dX1_estimate_25 rfl (lv_at hl 0 rfl) ?_
      refine xb_if_gt (tgt := 34) (a := t) (by omega) hx hb dX1_estimate_26 (by decide) (fun c_7 => ?_) (fun c_7 => ?_)
      · refine lv_aload_n hx hb dX1_estimate_34 rfl (lv_at hl 1 rfl) ?_
        refine va_get (D := D) (ci := 1) (v := .int (nI k)) (C := RX1) (T := TX1) (N := 3) hx hb hts (by decide +kernel) hown hE.1 hP 0 rfl rfl 1 (by decide) (hts (.fieldLink RX1 19 "DistinctDale$LeastHashes" "limit" "I") (by decide +kernel)) (fun _ h9 => h9) rfl dX1_estimate_35 ?_
        refine lv_iconst (v := nI 1) hx hb dX1_estimate_38 (by decide) ?_
        refine lv_isub hx hb dX1_estimate_39 ?_
        refine lv_eqi (z := nI (k - 1)) (pk_sub (by omega)) ?_
        refine lv_ldc (v := nI 16777213) hx hb hown (hts (.constant RX1 43 (16777213)) (by decide +kernel)) dX1_estimate_40 ?_
        refine lv_imul hx hb dX1_estimate_42 ?_
        refine lv_eqi (z := nI ((k - 1) * 16777213)) (pk_mul _ _) ?_
        refine lv_iload_n hx hb dX1_estimate_43 rfl (lv_at hl 0 rfl) ?_
        refine lv_idiv hx hb dX1_estimate_44 (nI_ne0 (by omega) (by omega)) ?_
        refine lv_eqi (z := nI ((k - 1) * 16777213 / t)) (pk_div (by omega) (by omega) (by omega)) ?_
        exact kret _ _ _ dX1_estimate_45 (by rw [estV_hi (by omega) ht1 ht2 (by omega)])
      · exact absurd c_7 (by have := cb_le (P := Hs) (n := t); omega)
set_option maxHeartbeats 4000000 in
set_option maxRecDepth 100000 in
theorem c_estPart (l : Launch) (D : va_G) (cy : Nat → ClassId) (t0 : Nat) (Hs : Nat → Bool) (o1 g1 k z c9 : Nat) (g : Nat → Int32) (hk2 : 2 ≤ k) (hk : k ≤ 32) (hL : LH k Hs z g) (hc9 : c9 ≤ 32) : xRi l yX1_estimateOfPart wsX1_estimateOfPart ({ frames := 2, cells := 0, slots := 0, locals := 42 } : Room) D cy t0 ([.ref o1, .int (nI c9)]) ([(o1, .inr (1, [.ref g1, .int (nI k), .int (nI z)])), (g1, xI cy 32 g)]) (fun r => r = nI (partV k Hs c9)) := by
  refine xofRi (cc := cX1_estimateOfPart) (maxL := 2) (by decide) rfl (Nat.le_of_ble_eq_true rfl) (fun _ _ => rfl) ?_
  intro p e s m below meth c Q ls hx hb hml hts hown hE hP hl hS kret
  have hl : lv_has ls 2 [(0, .ref o1), (1, .int (nI c9))] := hl
  have hL1 := hL.1
  have hev := estV_le (Hs := Hs) hk
  have hmul : estV k Hs * c9 ≤ estV k Hs * 32 := Nat.mul_le_mul (Nat.le_refl _) hc9
  refine lv_aload_n hx hb dX1_estimateOfPart_0 rfl (lv_at hl 0 rfl) ?_
  refine va_get (D := D) (ci := 1) (v := .int (nI z)) (C := RX1) (T := TX1) (N := 3) hx hb hts (by decide +kernel) hown hE.1 hP 0 rfl rfl 2 (by decide) (hts (.fieldLink RX1 15 "DistinctDale$LeastHashes" "size" "I") (by decide +kernel)) (fun _ h9 => h9) rfl dX1_estimateOfPart_1 ?_
  refine xb_if_le (tgt := 25) (a := z) (by omega) hx hb dX1_estimateOfPart_4 (by decide) (fun c_1 => ?_) (fun c_1 => ?_)
  · refine lv_iconst (v := nI 0) hx hb dX1_estimateOfPart_25 (by decide) ?_
    exact kret _ _ _ dX1_estimateOfPart_26 (by unfold partV; rw [← hL1, show z = 0 by omega, Nat.div_zero])
  · refine lv_aload_n hx hb dX1_estimateOfPart_7 rfl (lv_at hl 0 rfl) ?_
    refine xcRi (va_runV (As := []) (rest := []) ⟨hx, hb, hml, hown, hts⟩ (c_est l D cy t0 Hs o1 g1 k z g hk2 hk hL) (cwV 0 hts gX1_estimateOfPart_X1_estimate rfl rfl rfl (by decide +kernel) ⟨Nat.le_of_ble_eq_true rfl, Nat.le_of_ble_eq_true rfl⟩) (xPr.giveV (wc := [(o1, .inr (1, [.ref g1, .int (nI k), .int (nI z)])), (g1, xI cy 32 g)]) hE hS hP [0, 1] rfl 0 1 rfl rfl) rfl rfl hl.1 rfl (lv_room (Nat.le_of_ble_eq_true rfl)) dX1_estimateOfPart_8 ⟨(Nat.zero_le _), (Nat.zero_le _)⟩) (fun r_2 hr_3 => ?_)
    obtain rfl : r_2 = nI (estV k Hs) := hr_3
    refine lv_i2l (v := lN (estV k Hs)) hx hb dX1_estimateOfPart_11 (nI_l (by omega)) ?_
    refine lv_iload_n hx hb dX1_estimateOfPart_12 rfl (lv_at hl 1 rfl) ?_
    refine lv_i2l (v := lN c9) hx hb dX1_estimateOfPart_13 (nI_l (by omega)) ?_
    refine lv_lmul hx hb dX1_estimateOfPart_14 ?_
    refine lv_eql (z := lN ((estV k Hs) * c9)) (lN_mul _ _) ?_
    refine lv_aload_n hx hb dX1_estimateOfPart_15 rfl (lv_at hl 0 rfl) ?_
    refine va_get (D := D) (ci := 1) (v := .int (nI z)) (C := RX1) (T := TX1) (N := 3) hx hb hts (by decide +kernel) hown hE.1 hP 0 rfl rfl 2 (by decide) (hts (.fieldLink RX1 15 "DistinctDale$LeastHashes" "size" "I") (by decide +kernel)) (fun _ h9 => h9) rfl dX1_estimateOfPart_16 ?_
    refine lv_i2l (v := lN z) hx hb dX1_estimateOfPart_19 (nI_l (by omega)) ?_
    refine lv_ldiv hx hb dX1_estimateOfPart_20 (fun q => by have := (pk_lEQ (a := z) (b := 0) (by omega) (by omega)).mp q; omega) ?_
    refine lv_eql (z := lN (estV k Hs * c9 / z)) (pk_lDiv (by omega) (by omega) (by omega)) ?_
    refine lv_l2i (v := nI (estV k Hs * c9 / z)) hx hb dX1_estimateOfPart_21 (lN_i _) ?_
    refine lv_goto (tgt := 26) hx hb dX1_estimateOfPart_22 (by decide) ?_
    exact kret _ _ _ dX1_estimateOfPart_26 (by unfold partV; rw [← hL1])
end XX1
