section XBKW
set_option maxHeartbeats 4000000 in
set_option maxRecDepth 100000 in
theorem c_dateFor (l : Launch) (D : va_G) (cy : Nat → ClassId) (t0 : Nat) (M : Nat → Int32) (h0 qi qd n cap x : Nat) (fi fd : Nat → Int32) (hA : BR M n cap fi fd) (hxN : x < 100000) : xRi l yX0_dateFor wsX0_dateFor ({ frames := 1, cells := 0, slots := 0, locals := 21 } : Room) D cy t0 ([.ref h0, .int (nI x)]) ([(h0, .inr (0, [.ref qi, .ref qd, .int (nI n)])), (qi, xI cy cap fi), (qd, xI cy cap fd)]) (fun r => r = M x) := by
  refine xofRi (cc := cX0_dateFor) (maxL := 4) (by decide) rfl (Nat.le_of_ble_eq_true rfl) (fun _ _ => rfl) ?_
  intro p e s m below meth c Q ls hx hb hml hts hown hE hP hl hS kret
  have hl : lv_has ls 4 [(0, .ref h0), (1, .int (nI x))] := hl
  refine lv_iconst (v := nI 0) hx hb dX0_dateFor_0 (by decide) ?_
  refine lv_istore_n (lv' := [(2, .int (nI 0)), (0, .ref h0), (1, .int (nI x))]) hx hb dX0_dateFor_1 rfl hl (by decide) rfl (fun ls hl => ?_)
  refine lv_ldc (v := nI 65536) hx hb hown (hts (.constant RX0 43 (65536)) (by decide +kernel)) dX0_dateFor_2 ?_
  refine lv_istore_n (lv' := [(3, .int (nI 65536)), (2, .int (nI 0)), (0, .ref h0), (1, .int (nI x))]) hx hb dX0_dateFor_4 rfl hl (by decide) rfl (fun ls hl => ?_)
  have lp : ∀ (n9 : Nat), ∀ (b : Nat) (s2 : Nat), (hs2 : s2 ≤ 65536) → (hs : (s2 = 0 ∧ cb (Sm M) x = b) ∨ ∃ e9, e9 ≤ 16 ∧ s2 = 2 ^ e9 ∧ b ≤ cb (Sm M) x ∧ cb (Sm M) x < b + 2 * 2 ^ e9) → s2 < n9 → ∀ (ls : Array Slot), lv_has ls 4 [(0, .ref h0), (1, .int (nI x)), (2, .int (nI b)), (3, .int (nI s2))] → W p l e ({ frames := 1, cells := 0, slots := 0, locals := 21 } : Room) s m [.ref h0, .int (nI x)].toArray below meth c s.heap [] 0 0 Q (F0 m 5 ls []) := by
    intro n9
    induction n9 with
    | zero => intro b s2 hs2 hs hm; exact absurd hm (Nat.not_lt_zero _)
    | succ n9 ih_lp =>
      intro b s2 hs2 hs hm ls hl
      have hbx : b ≤ cb (Sm M) x := by
        rcases hs with q | ⟨e9, q⟩ <;> omega
      have hxn : cb (Sm M) x ≤ cb (Sm M) 100000 := cb_mono (by omega)
      have hA1 := hA.1.1
      have hA3 := hA.2.2.1
      have hA4 := hA.2.2.2
      refine lv_iload_n hx hb dX0_dateFor_5 rfl (lv_at hl 3 rfl) ?_
      refine xb_if_le (tgt := 46) (a := s2) (by omega) hx hb dX0_dateFor_6 (by decide) (fun c_1 => ?_) (fun c_1 => ?_)
      · have hbq : cb (Sm M) x = b := by
          rcases hs with q | ⟨e9, _, q, _⟩
          · exact q.2
          · have := Nat.two_pow_pos e9; omega
        refine lv_iload_n hx hb dX0_dateFor_46 rfl (lv_at hl 2 rfl) ?_
        refine lv_aload_n hx hb dX0_dateFor_47 rfl (lv_at hl 0 rfl) ?_
        refine va_get (D := D) (ci := 0) (v := .int (nI n)) (C := RX0) (T := TX0) (N := 3) hx hb hts (by decide +kernel) hown hE.1 hP 0 rfl rfl 2 (by decide) (hts (.fieldLink RX0 18 "DistinctDale$Basket" "size" "I") (by decide +kernel)) (fun _ h9 => h9) rfl dX0_dateFor_48 ?_
        refine xb_icmp_ge (tgt := 77) (a := b) (b := n) (by omega) (by omega) hx hb dX0_dateFor_51 (by decide) (fun c_2 => ?_) (fun c_2 => ?_)
        · refine lv_iconst (v := (-1)) hx hb dX0_dateFor_77 (by decide) ?_
          have hno : M x = -1 := by
            apply Sm_f.mp
            cases hq : Sm M x with
            | false => rfl
            | true => have := cb_lt hxN hq; omega
          exact kret _ _ _ dX0_dateFor_78 hno.symm
        · refine lv_aload_n hx hb dX0_dateFor_54 rfl (lv_at hl 0 rfl) ?_
          refine va_get (D := D) (ci := 0) (v := .ref qi) (C := RX0) (T := TX0) (N := 3) hx hb hts (by decide +kernel) hown hE.1 hP 0 rfl rfl 0 (by decide) (hts (.fieldLink RX0 11 "DistinctDale$Basket" "items" "[I") (by decide +kernel)) (fun _ h9 => h9) rfl dX0_dateFor_55 ?_
          refine lv_iload_n hx hb dX0_dateFor_58 rfl (lv_at hl 2 rfl) ?_
          refine xcRi (va_runSN (As := [.ref qi, .int (nI b)]) (rest := []) ⟨hx, hb, hml, hown, hts⟩ (c_at l D cy t0 qi cap fi (nI b) (by omega)) ⟨va_cnB 2 hts ggX0_dateFor_X4_at rfl rfl rfl (xN3 hE.2.1.1) (hts (.initialized RX4) (by decide +kernel)) (by decide +kernel) ⟨Nat.le_of_ble_eq_true rfl, Nat.le_of_ble_eq_true rfl⟩, (hts (.static yX4_at) (by decide +kernel)), trivial⟩ (xPr.give (wc := [(qi, xI cy cap fi)]) hE hS hP [1] rfl) rfl rfl hl.1 rfl (lv_room (Nat.le_of_ble_eq_true rfl)) dX0_dateFor_59 ⟨(Nat.zero_le _), (Nat.zero_le _)⟩) (fun r_3 hr_4 => ?_)
          obtain ⟨y, hy1, hy2, hy3, hy4⟩ := hA.1.at (j := b) (by omega)
          obtain rfl : r_3 = nI y := by rw [hr_4, xat_in (by omega) (by omega), hy4]
          refine lv_iload_n hx hb dX0_dateFor_62 rfl (lv_at hl 1 rfl) ?_
          refine xb_icmp_ne (tgt := 77) (a := y) (b := x) (by omega) (by omega) hx hb dX0_dateFor_63 (by decide) (fun c_5 => ?_) (fun c_5 => ?_)
          · refine lv_iconst (v := (-1)) hx hb dX0_dateFor_77 (by decide) ?_
            have hno : M x = -1 := by
              apply Sm_f.mp
              cases hq : Sm M x with
              | false => rfl
              | true => exact absurd (cb_inj hy2 hq (by omega)) c_5
            exact kret _ _ _ dX0_dateFor_78 hno.symm
          · refine lv_aload_n hx hb dX0_dateFor_66 rfl (lv_at hl 0 rfl) ?_
            refine va_get (D := D) (ci := 0) (v := .ref qd) (C := RX0) (T := TX0) (N := 3) hx hb hts (by decide +kernel) hown hE.1 hP 0 rfl rfl 1 (by decide) (hts (.fieldLink RX0 15 "DistinctDale$Basket" "dates" "[I") (by decide +kernel)) (fun _ h9 => h9) rfl dX0_dateFor_67 ?_
            refine lv_iload_n hx hb dX0_dateFor_70 rfl (lv_at hl 2 rfl) ?_
            refine xcRi (va_runSN (As := [.ref qd, .int (nI b)]) (rest := []) ⟨hx, hb, hml, hown, hts⟩ (c_at l D cy t0 qd cap fd (nI b) (by omega)) ⟨va_cnB 2 hts ggX0_dateFor_X4_at rfl rfl rfl (xN3 hE.2.1.1) (hts (.initialized RX4) (by decide +kernel)) (by decide +kernel) ⟨Nat.le_of_ble_eq_true rfl, Nat.le_of_ble_eq_true rfl⟩, (hts (.static yX4_at) (by decide +kernel)), trivial⟩ (xPr.give (wc := [(qd, xI cy cap fd)]) hE hS hP [2] rfl) rfl rfl hl.1 rfl (lv_room (Nat.le_of_ble_eq_true rfl)) dX0_dateFor_71 ⟨(Nat.zero_le _), (Nat.zero_le _)⟩) (fun r_6 hr_7 => ?_)
            obtain rfl : r_6 = fd b := by rw [hr_7, xat_in (by omega) (by omega)]
            refine lv_goto (tgt := 78) hx hb dX0_dateFor_74 (by decide) ?_
            have hyes : fd b = M x := by
              rw [← hbq]
              exact hA.2.1 x hxN (by rw [← c_5]; exact hy2)
            exact kret _ _ _ dX0_dateFor_78 hyes
      · obtain ⟨e9, he, hse, hb1, hb2⟩ := hs.resolve_left (by omega)
        refine lv_iload_n hx hb dX0_dateFor_9 rfl (lv_at hl 2 rfl) ?_
        refine lv_iload_n hx hb dX0_dateFor_10 rfl (lv_at hl 3 rfl) ?_
        refine lv_iadd hx hb dX0_dateFor_11 ?_
        refine lv_eqi (z := nI (b + s2)) (nI_add _ _) ?_
        refine lv_aload_n hx hb dX0_dateFor_12 rfl (lv_at hl 0 rfl) ?_
        refine va_get (D := D) (ci := 0) (v := .int (nI n)) (C := RX0) (T := TX0) (N := 3) hx hb hts (by decide +kernel) hown hE.1 hP 0 rfl rfl 2 (by decide) (hts (.fieldLink RX0 18 "DistinctDale$Basket" "size" "I") (by decide +kernel)) (fun _ h9 => h9) rfl dX0_dateFor_13 ?_
        refine xb_icmp_gt (tgt := 39) (a := b + s2) (b := n) (by omega) (by omega) hx hb dX0_dateFor_16 (by decide) (fun c_8 => ?_) (fun c_8 => ?_)
        · refine lv_iload_n hx hb dX0_dateFor_39 rfl (lv_at hl 3 rfl) ?_
          refine lv_iconst (v := nI 2) hx hb dX0_dateFor_40 (by decide) ?_
          refine lv_idiv hx hb dX0_dateFor_41 (by decide) ?_
          refine lv_eqi (z := nI (s2 / 2)) (pk_div (by omega) (by omega) (by omega)) ?_
          refine lv_istore_n (lv' := [(3, .int (nI (s2 / 2))), (0, .ref h0), (1, .int (nI x)), (2, .int (nI b))]) hx hb dX0_dateFor_42 rfl hl (by decide) rfl (fun ls hl => ?_)
          refine lv_goto (tgt := 5) hx hb dX0_dateFor_43 (by decide) ?_
          have hq1 := hbx
          exact ih_lp b (s2 / 2) (by omega) (bs_step hse he hbx (by omega)) (by omega) _ (lv_sub hl [1, 2, 3, 0] rfl)
        · refine lv_aload_n hx hb dX0_dateFor_19 rfl (lv_at hl 0 rfl) ?_
          refine va_get (D := D) (ci := 0) (v := .ref qi) (C := RX0) (T := TX0) (N := 3) hx hb hts (by decide +kernel) hown hE.1 hP 0 rfl rfl 0 (by decide) (hts (.fieldLink RX0 11 "DistinctDale$Basket" "items" "[I") (by decide +kernel)) (fun _ h9 => h9) rfl dX0_dateFor_20 ?_
          refine lv_iload_n hx hb dX0_dateFor_23 rfl (lv_at hl 2 rfl) ?_
          refine lv_iload_n hx hb dX0_dateFor_24 rfl (lv_at hl 3 rfl) ?_
          refine lv_iadd hx hb dX0_dateFor_25 ?_
          refine lv_eqi (z := nI (b + s2)) (nI_add _ _) ?_
          refine lv_iconst (v := nI 1) hx hb dX0_dateFor_26 (by decide) ?_
          refine lv_isub hx hb dX0_dateFor_27 ?_
          refine lv_eqi (z := nI (b + s2 - 1)) (pk_sub (by omega)) ?_
          refine xcRi (va_runSN (As := [.ref qi, .int (nI (b + s2 - 1))]) (rest := []) ⟨hx, hb, hml, hown, hts⟩ (c_at l D cy t0 qi cap fi (nI (b + s2 - 1)) (by omega)) ⟨va_cnB 2 hts ggX0_dateFor_X4_at rfl rfl rfl (xN3 hE.2.1.1) (hts (.initialized RX4) (by decide +kernel)) (by decide +kernel) ⟨Nat.le_of_ble_eq_true rfl, Nat.le_of_ble_eq_true rfl⟩, (hts (.static yX4_at) (by decide +kernel)), trivial⟩ (xPr.give (wc := [(qi, xI cy cap fi)]) hE hS hP [1] rfl) rfl rfl hl.1 rfl (lv_room (Nat.le_of_ble_eq_true rfl)) dX0_dateFor_28 ⟨(Nat.zero_le _), (Nat.zero_le _)⟩) (fun r_9 hr_10 => ?_)
          obtain ⟨y, hy1, hy2, hy3, hy4⟩ := hA.1.at (j := b + s2 - 1) (by omega)
          obtain rfl : r_9 = nI y := by rw [hr_10, xat_in (by omega) (by omega), hy4]
          refine lv_iload_n hx hb dX0_dateFor_31 rfl (lv_at hl 1 rfl) ?_
          refine xb_icmp_ge (tgt := 39) (a := y) (b := x) (by omega) (by omega) hx hb dX0_dateFor_32 (by decide) (fun c_11 => ?_) (fun c_11 => ?_)
          · refine lv_iload_n hx hb dX0_dateFor_39 rfl (lv_at hl 3 rfl) ?_
            refine lv_iconst (v := nI 2) hx hb dX0_dateFor_40 (by decide) ?_
            refine lv_idiv hx hb dX0_dateFor_41 (by decide) ?_
            refine lv_eqi (z := nI (s2 / 2)) (pk_div (by omega) (by omega) (by omega)) ?_
            refine lv_istore_n (lv' := [(3, .int (nI (s2 / 2))), (0, .ref h0), (1, .int (nI x)), (2, .int (nI b))]) hx hb dX0_dateFor_42 rfl hl (by decide) rfl (fun ls hl => ?_)
            refine lv_goto (tgt := 5) hx hb dX0_dateFor_43 (by decide) ?_
            have hq1 := cb_mono (P := Sm M) c_11
            exact ih_lp b (s2 / 2) (by omega) (bs_step hse he hbx (by omega)) (by omega) _ (lv_sub hl [1, 2, 3, 0] rfl)
          · refine lv_iload_n hx hb dX0_dateFor_35 rfl (lv_at hl 2 rfl) ?_
            refine lv_iload_n hx hb dX0_dateFor_36 rfl (lv_at hl 3 rfl) ?_
            refine lv_iadd hx hb dX0_dateFor_37 ?_
            refine lv_eqi (z := nI (b + s2)) (nI_add _ _) ?_
            refine lv_istore_n (lv' := [(2, .int (nI (b + s2))), (0, .ref h0), (1, .int (nI x)), (3, .int (nI s2))]) hx hb dX0_dateFor_38 rfl hl (by decide) rfl (fun ls hl => ?_)
            refine lv_iload_n hx hb dX0_dateFor_39 rfl (lv_at hl 3 rfl) ?_
            refine lv_iconst (v := nI 2) hx hb dX0_dateFor_40 (by decide) ?_
            refine lv_idiv hx hb dX0_dateFor_41 (by decide) ?_
            refine lv_eqi (z := nI (s2 / 2)) (pk_div (by omega) (by omega) (by omega)) ?_
            refine lv_istore_n (lv' := [(3, .int (nI (s2 / 2))), (2, .int (nI (b + s2))), (0, .ref h0), (1, .int (nI x))]) hx hb dX0_dateFor_42 rfl hl (by decide) rfl (fun ls hl => ?_)
            refine lv_goto (tgt := 5) hx hb dX0_dateFor_43 (by decide) ?_
            have hq1 := cb_lt c_11 hy2
            exact ih_lp (b + s2) (s2 / 2) (by omega) (bs_step hse he (by omega) (by omega)) (by omega) _ (lv_sub hl [2, 3, 1, 0] rfl)
  exact lp 65537 0 65536 (by omega) (Or.inr ⟨16, by omega, by decide, by omega, by have := cb_le (P := Sm M) (n := x); omega⟩) (by omega) _ (lv_sub hl [2, 3, 1, 0] rfl)
set_option maxHeartbeats 4000000 in
set_option maxRecDepth 100000 in
theorem c_copyOf (l : Launch) (D : va_G) (cy : Nat → ClassId) (t0 : Nat) (q n r : Nat) (f : Nat → Int32) (hnr : n < r) (hr : r ≤ 100000) : xWr (S := Nat → Int32) l yJ7_copyOf_59c91 wsJ7_copyOf_59c91 ({ frames := 1, cells := 1, slots := r, locals := 60 } : Room) D cy t0 ([.ref q, .int (nI r)]) ([(q, xI cy n f)]) (fun u => ∀ j, j < n → u j = f j) (fun u a => [(q, xI cy n f), (a, xI cy r u)]) 1 r := by
  refine xofWr (cc := cJ7_copyOf_59c91) (maxL := 3) (by decide) rfl (Nat.le_of_ble_eq_true rfl) (Or.inr ⟨_, rfl⟩) ?_
  intro p e s m below meth c Q A ls hx hb hml hts hown hE hA H locs hP hD hl hS kret
  have hl : lv_has ls 3 [(0, .ref q), (1, .int (nI r))] := hl
  refine lv_iload_n hx hb dJ7_copyOf_59c91_0 rfl (lv_at hl 1 rfl) ?_
  refine lv_aload_n hx hb dJ7_copyOf_59c91_1 rfl (lv_at hl 0 rfl) ?_
  refine va_alen (D := D) (v := nI n) hx hb hE.1 hP 0 0 rfl rfl rfl dJ7_copyOf_59c91_2 ?_
  refine xb_icmp_ne (tgt := 14) (a := r) (b := n) (by omega) (by omega) hx hb dJ7_copyOf_59c91_3 (by decide) (fun c_1 => ?_) (fun c_1 => ?_)
  · refine lv_iload_n hx hb dJ7_copyOf_59c91_14 rfl (lv_at hl 1 rfl) ?_
    refine xnewI (N := r) hx hb (hts (.arrayClass .int) (by decide +kernel)) hE.1 hP hD hS hA rfl (by omega) (Nat.le_of_ble_eq_true rfl) (by show 0 + r ≤ r; omega) dJ7_copyOf_59c91_15 (fun q2 H hP hD hS => ?_)
    have hP : xP D [(q, xI cy n f), (q2, xI cy r (fun _ => 0))] H := hP
    have hD : va_D A [(q, xI cy n f), (q2, xI cy r (fun _ => 0))] := hD
    refine lv_astore_n (lv' := [(2, .ref q2), (0, .ref q), (1, .int (nI r))]) hx hb dJ7_copyOf_59c91_17 rfl hl (by decide) rfl (fun ls hl => ?_)
    refine lv_aload_n hx hb dJ7_copyOf_59c91_18 rfl (lv_at hl 1 rfl) ?_
    refine lv_iconst (v := nI 0) hx hb dJ7_copyOf_59c91_19 (by decide) ?_
    refine lv_aload_n hx hb dJ7_copyOf_59c91_20 rfl (lv_at hl 0 rfl) ?_
    refine lv_iconst (v := nI 0) hx hb dJ7_copyOf_59c91_21 (by decide) ?_
    refine lv_aload_n hx hb dJ7_copyOf_59c91_22 rfl (lv_at hl 1 rfl) ?_
    refine va_alen (D := D) (v := nI n) hx hb hE.1 hP 0 0 rfl rfl rfl dJ7_copyOf_59c91_23 ?_
    refine lv_iload_n hx hb dJ7_copyOf_59c91_24 rfl (lv_at hl 2 rfl) ?_
    refine va_mmin hx hb (hml.trans hl.1.symm) hown (hts (.methodLink RJ7 304 Lib.Math.min.name) (by decide +kernel)) (hts (.static Lib.Math.min.name) (by decide +kernel)) (hts (.initialized "java/lang/Math") (by decide +kernel)) (hts (.code Lib.Math.min.name Lib.Math.min.code 2 (some .int)) (by decide +kernel)) (Nat.le_of_ble_eq_true rfl) (Nat.le_of_ble_eq_true rfl) (Nat.le_of_ble_eq_true rfl) (by show 0 + r ≤ r; omega) dJ7_copyOf_59c91_25 ?_
    refine lv_eqi (z := nI n) ((xmin_nI (by omega) (by omega)).trans (congrArg nI (Nat.min_eq_left (by omega)))) ?_
    refine va_copyi (D := D) hx hb (hml.trans hl.1.symm) hown (hts (.methodLink RJ7 150 arraycopyName) (by decide +kernel)) (hts (.native arraycopyName) (by decide +kernel)) (hts (.static arraycopyName) (by decide +kernel)) (hts (.initialized "java/lang/System") (by decide +kernel)) hE.1 hP hD hS 0 1 0 0 rfl rfl rfl rfl rfl (by decide) (by decide) (nI_pos (by omega)) (by rw [nI_clamp (n := 0) (by omega), nI_clamp (n := n) (by omega)]; omega) (by rw [nI_clamp (n := 0) (by omega), nI_clamp (n := n) (by omega)]; omega) (fun _ _ => rfl) (Nat.le_of_ble_eq_true rfl) (Nat.le_of_ble_eq_true rfl) dJ7_copyOf_59c91_28 (fun H locs hP hD hS => ?_)
    have hP : xP D [(q, xI cy n f), (q2, xI cy r (va_cpy f (fun _ => 0) (nI 0).toNatClampNeg (nI 0).toNatClampNeg (nI n).toNatClampNeg))] H := hP
    have hD : va_D A [(q, xI cy n f), (q2, xI cy r (va_cpy f (fun _ => 0) (nI 0).toNatClampNeg (nI 0).toNatClampNeg (nI n).toNatClampNeg))] := hD
    refine lv_aload_n hx hb dJ7_copyOf_59c91_31 rfl (lv_at hl 0 rfl) ?_
    exact kret (va_cpy f (fun _ => 0) (nI 0).toNatClampNeg (nI 0).toNatClampNeg (nI n).toNatClampNeg) _ _ _ _ _ _ _ dJ7_copyOf_59c91_32 (fun j hj => by rw [nI_clamp (n := 0) (by omega), nI_clamp (n := n) (by omega)]; exact cpy_lt hj) hP hD hS (Nat.le_of_ble_eq_true rfl) (by omega)
  · exact absurd c_1 (by omega)
set_option maxHeartbeats 4000000 in
set_option maxRecDepth 100000 in
theorem c_makeRoom (l : Launch) (D : va_G) (cy : Nat → ClassId) (t0 : Nat) (h0 qi qd n cap w : Nat) (fi fd : Nat → Int32) (hcap : cap ≤ 100000) (hw : w ≤ 100000) : xWv (S := Nat × Nat × (Nat → Int32) × (Nat → Int32)) l yX0_makeRoomFor wsX0_makeRoomFor ({ frames := 2, cells := mcR w cap, slots := msR w cap, locals := 90 } : Room) D cy t0 ([.ref h0, .int (nI w)]) ([(h0, .inr (0, [.ref qi, .ref qd, .int (nI n)])), (qi, xI cy cap fi), (qd, xI cy cap fd)]) (fun u => (∀ j, j < cap → u.2.2.1 j = fi j) ∧ ∀ j, j < cap → u.2.2.2 j = fd j) (fun u => [(h0, .inr (0, [.ref u.1, .ref u.2.1, .int (nI n)])), (u.1, xI cy (capR w cap) u.2.2.1), (u.2.1, xI cy (capR w cap) u.2.2.2)]) (mcR w cap) (msR w cap) := by
  refine xofWv (cc := cX0_makeRoomFor) (maxL := 3) (by decide) rfl (Nat.le_of_ble_eq_true rfl) ?_
  intro p e s m below meth c Q A ls hx hb hml hts hown hin hE hA H locs hP hD hl hS kret
  have hl : lv_has ls 3 [(0, .ref h0), (1, .int (nI w))] := hl
  refine lv_ldc (v := nI 100000) hx hb hown (hts (.constant RX0 44 (100000)) (by decide +kernel)) dX0_makeRoomFor_0 ?_
  refine lv_iload_n hx hb dX0_makeRoomFor_2 rfl (lv_at hl 1 rfl) ?_
  refine lv_iconst (v := nI 2) hx hb dX0_makeRoomFor_3 (by decide) ?_
  refine lv_aload_n hx hb dX0_makeRoomFor_4 rfl (lv_at hl 0 rfl) ?_
  refine va_get (D := D) (ci := 0) (v := .ref qi) (C := RX0) (T := TX0) (N := 3) hx hb hts (by decide +kernel) hown hE.1 hP 0 rfl rfl 0 (by decide) (hts (.fieldLink RX0 11 "DistinctDale$Basket" "items" "[I") (by decide +kernel)) (fun _ h9 => h9) rfl dX0_makeRoomFor_5 ?_
  refine va_alen (D := D) (v := nI cap) hx hb hE.1 hP 1 0 rfl rfl rfl dX0_makeRoomFor_8 ?_
  refine lv_imul hx hb dX0_makeRoomFor_9 ?_
  refine lv_eqi (z := nI (2 * cap)) (pk_mul _ _) ?_
  refine va_mmax hx hb (hml.trans hl.1.symm) hown (hts (.methodLink RX0 33 Lib.Math.max.name) (by decide +kernel)) (hts (.static Lib.Math.max.name) (by decide +kernel)) (hts (.initialized "java/lang/Math") (by decide +kernel)) (hts (.code Lib.Math.max.name Lib.Math.max.code 2 (some .int)) (by decide +kernel)) (Nat.le_of_ble_eq_true rfl) (Nat.le_of_ble_eq_true rfl) (Nat.zero_le _) (Nat.zero_le _) dX0_makeRoomFor_10 ?_
  refine lv_eqi (z := nI (max w (2 * cap))) (xmax_nI (by omega) (by omega)) ?_
  refine va_mmin hx hb (hml.trans hl.1.symm) hown (hts (.methodLink RX0 45 Lib.Math.min.name) (by decide +kernel)) (hts (.static Lib.Math.min.name) (by decide +kernel)) (hts (.initialized "java/lang/Math") (by decide +kernel)) (hts (.code Lib.Math.min.name Lib.Math.min.code 2 (some .int)) (by decide +kernel)) (Nat.le_of_ble_eq_true rfl) (Nat.le_of_ble_eq_true rfl) (Nat.zero_le _) (Nat.zero_le _) dX0_makeRoomFor_13 ?_
  refine lv_eqi (z := nI (min 100000 (max w (2 * cap)))) (xmin_nI (by omega) (by omega)) ?_
  refine lv_istore_n (lv' := [(2, .int (nI (min 100000 (max w (2 * cap))))), (0, .ref h0), (1, .int (nI w))]) hx hb dX0_makeRoomFor_16 rfl hl (by decide) rfl (fun ls hl => ?_)
  refine lv_iload_n hx hb dX0_makeRoomFor_17 rfl (lv_at hl 2 rfl) ?_
  refine lv_aload_n hx hb dX0_makeRoomFor_18 rfl (lv_at hl 1 rfl) ?_
  refine va_get (D := D) (ci := 0) (v := .ref qi) (C := RX0) (T := TX0) (N := 3) hx hb hts (by decide +kernel) hown hE.1 hP 0 rfl rfl 0 (by decide) (hts (.fieldLink RX0 11 "DistinctDale$Basket" "items" "[I") (by decide +kernel)) (fun _ h9 => h9) rfl dX0_makeRoomFor_19 ?_
  refine va_alen (D := D) (v := nI cap) hx hb hE.1 hP 1 0 rfl rfl rfl dX0_makeRoomFor_22 ?_
  refine xb_icmp_le (tgt := 59) (a := w) (b := cap) (by omega) (by omega) hx hb dX0_makeRoomFor_23 (by decide) (fun c_1 => ?_) (fun c_1 => ?_)
  · have ecap : capR w cap = cap := capR_no (by omega)
    have hP : xP D [(h0, .inr (0, [.ref qi, .ref qd, .int (nI n)])), (qi, xI cy (capR w cap) fi), (qd, xI cy (capR w cap) fd)] H := by rw [ecap]; exact hP
    have hD : va_D A [(h0, .inr (0, [.ref qi, .ref qd, .int (nI n)])), (qi, xI cy (capR w cap) fi), (qd, xI cy (capR w cap) fd)] := by rw [ecap]; exact hD
    exact kret (qi, qd, fi, fd) _ _ _ _ _ _ dX0_makeRoomFor_59 ⟨fun _ _ => rfl, fun _ _ => rfl⟩ hP hD hS (Nat.zero_le _) (Nat.zero_le _)
  · refine lv_iload_n hx hb dX0_makeRoomFor_26 rfl (lv_at hl 0 rfl) ?_
    refine lv_aload_n hx hb dX0_makeRoomFor_27 rfl (lv_at hl 1 rfl) ?_
    refine va_get (D := D) (ci := 0) (v := .ref qi) (C := RX0) (T := TX0) (N := 3) hx hb hts (by decide +kernel) hown hE.1 hP 0 rfl rfl 0 (by decide) (hts (.fieldLink RX0 11 "DistinctDale$Basket" "items" "[I") (by decide +kernel)) (fun _ h9 => h9) rfl dX0_makeRoomFor_28 ?_
    refine va_alen (D := D) (v := nI cap) hx hb hE.1 hP 1 0 rfl rfl rfl dX0_makeRoomFor_31 ?_
    refine xb_icmp_le (tgt := 59) (a := min 100000 (max w (2 * cap))) (b := cap) (by omega) (by omega) hx hb dX0_makeRoomFor_32 (by decide) (fun c_2 => ?_) (fun c_2 => ?_)
    · exact absurd c_2 (by omega)
    · refine lv_aload_n hx hb dX0_makeRoomFor_35 rfl (lv_at hl 1 rfl) ?_
      refine lv_aload_n hx hb dX0_makeRoomFor_36 rfl (lv_at hl 1 rfl) ?_
      refine va_get (D := D) (ci := 0) (v := .ref qi) (C := RX0) (T := TX0) (N := 3) hx hb hts (by decide +kernel) hown hE.1 hP 0 rfl rfl 0 (by decide) (hts (.fieldLink RX0 11 "DistinctDale$Basket" "items" "[I") (by decide +kernel)) (fun _ h9 => h9) rfl dX0_makeRoomFor_37 ?_
      refine lv_iload_n hx hb dX0_makeRoomFor_40 rfl (lv_at hl 0 rfl) ?_
      refine xcWr (wr := [(h0, .inr (0, [.ref qi, .ref qd, .int (nI n)])), (qd, xI cy cap fd)]) (va_runS (As := [.ref qi, .int (nI (min 100000 (max w (2 * cap))))]) (rest := [.ref h0]) ⟨hx, hb, hml, hown, hts⟩ ((c_copyOf l D cy t0 qi cap (min 100000 (max w (2 * cap))) fi (by omega) (by omega)) H.size) (va_cwS 2 hts gX0_makeRoomFor_J7_copyOf_59c91 rfl rfl rfl (by decide +kernel) ⟨Nat.le_of_ble_eq_true rfl, Nat.le_of_ble_eq_true rfl⟩) (xPw.give (wc := [(qi, xI cy cap fi)]) hE hS hA hP hD [1] (by decide) rfl) rfl rfl hl.1 rfl (lv_room (Nat.le_of_ble_eq_true rfl)) dX0_makeRoomFor_41 ⟨(by show 0 + 1 ≤ mcR w cap; rw [mcR_yes (by omega)]; omega), (by show 0 + min 100000 (max w (2 * cap)) ≤ msR w cap; rw [msR_yes (by omega), capR_yes (by omega)]; omega)⟩) hP hD hS hA [1] [0, 2] rfl rfl (by decide) (by decide) (fun f1 q1 H locs hf1 hP hD hS => ?_)
      have hP := hP.sub (ws' := [(h0, .inr (0, [.ref qi, .ref qd, .int (nI n)])), (qi, xI cy cap fi), (qd, xI cy cap fd), (q1, xI cy (min 100000 (max w (2 * cap))) f1)]) [0, 2, 1, 3] rfl
      have hD := hD.sub (ws' := [(h0, .inr (0, [.ref qi, .ref qd, .int (nI n)])), (qi, xI cy cap fi), (qd, xI cy cap fd), (q1, xI cy (min 100000 (max w (2 * cap))) f1)]) [0, 2, 1, 3] (by decide) rfl
      refine va_put (D := D) (ci := 0) (v := .ref q1) (ty := .array .int) (C := RX0) (T := TX0) (N := 3) hx hb hts (by decide +kernel) tyX0 tyX0_ok nmX0 hown hE.1 hP hD hS 0 rfl rfl 0 (by decide) (hts (.fieldLink RX0 11 "DistinctDale$Basket" "items" "[I") (by decide +kernel)) (fun _ h9 => h9) rfl (by decide +kernel) rfl rfl (Nat.le_of_ble_eq_true rfl) dX0_makeRoomFor_44 (fun H locs hP hD hS => ?_)
      have hP : xP D [(h0, .inr (0, [.ref q1, .ref qd, .int (nI n)])), (qi, xI cy cap fi), (qd, xI cy cap fd), (q1, xI cy (min 100000 (max w (2 * cap))) f1)] H := hP
      have hD : va_D A [(h0, .inr (0, [.ref q1, .ref qd, .int (nI n)])), (qi, xI cy cap fi), (qd, xI cy cap fd), (q1, xI cy (min 100000 (max w (2 * cap))) f1)] := hD
      refine lv_aload_n hx hb dX0_makeRoomFor_47 rfl (lv_at hl 1 rfl) ?_
      refine lv_aload_n hx hb dX0_makeRoomFor_48 rfl (lv_at hl 1 rfl) ?_
      refine va_get (D := D) (ci := 0) (v := .ref qd) (C := RX0) (T := TX0) (N := 3) hx hb hts (by decide +kernel) hown hE.1 hP 0 rfl rfl 1 (by decide) (hts (.fieldLink RX0 15 "DistinctDale$Basket" "dates" "[I") (by decide +kernel)) (fun _ h9 => h9) rfl dX0_makeRoomFor_49 ?_
      refine lv_iload_n hx hb dX0_makeRoomFor_52 rfl (lv_at hl 0 rfl) ?_
      refine xcWr (wr := [(h0, .inr (0, [.ref q1, .ref qd, .int (nI n)])), (qi, xI cy cap fi), (q1, xI cy (min 100000 (max w (2 * cap))) f1)]) (va_runS (As := [.ref qd, .int (nI (min 100000 (max w (2 * cap))))]) (rest := [.ref h0]) ⟨hx, hb, hml, hown, hts⟩ ((c_copyOf l D cy t0 qd cap (min 100000 (max w (2 * cap))) fd (by omega) (by omega)) H.size) (va_cwS 2 hts gX0_makeRoomFor_J7_copyOf_59c91 rfl rfl rfl (by decide +kernel) ⟨Nat.le_of_ble_eq_true rfl, Nat.le_of_ble_eq_true rfl⟩) (xPw.give (wc := [(qd, xI cy cap fd)]) hE hS hA hP hD [2] (by decide) rfl) rfl rfl hl.1 rfl (lv_room (Nat.le_of_ble_eq_true rfl)) dX0_makeRoomFor_53 ⟨(by show 0 + 1 + 1 ≤ mcR w cap; rw [mcR_yes (by omega)]; omega), (by show 0 + min 100000 (max w (2 * cap)) + min 100000 (max w (2 * cap)) ≤ msR w cap; rw [msR_yes (by omega), capR_yes (by omega)]; omega)⟩) hP hD hS hA [2] [0, 1, 3] rfl rfl (by decide) (by decide) (fun f2 q2 H locs hf2 hP hD hS => ?_)
      have hP := hP.sub (ws' := [(h0, .inr (0, [.ref q1, .ref qd, .int (nI n)])), (qi, xI cy cap fi), (qd, xI cy cap fd), (q1, xI cy (min 100000 (max w (2 * cap))) f1), (q2, xI cy (min 100000 (max w (2 * cap))) f2)]) [0, 1, 3, 2, 4] rfl
      have hD := hD.sub (ws' := [(h0, .inr (0, [.ref q1, .ref qd, .int (nI n)])), (qi, xI cy cap fi), (qd, xI cy cap fd), (q1, xI cy (min 100000 (max w (2 * cap))) f1), (q2, xI cy (min 100000 (max w (2 * cap))) f2)]) [0, 1, 3, 2, 4] (by decide) rfl
      refine va_put (D := D) (ci := 0) (v := .ref q2) (ty := .array .int) (C := RX0) (T := TX0) (N := 3) hx hb hts (by decide +kernel) tyX0 tyX0_ok nmX0 hown hE.1 hP hD hS 0 rfl rfl 1 (by decide) (hts (.fieldLink RX0 15 "DistinctDale$Basket" "dates" "[I") (by decide +kernel)) (fun _ h9 => h9) rfl (by decide +kernel) rfl rfl (Nat.le_of_ble_eq_true rfl) dX0_makeRoomFor_56 (fun H locs hP hD hS => ?_)
      have hP : xP D [(h0, .inr (0, [.ref q1, .ref q2, .int (nI n)])), (qi, xI cy cap fi), (qd, xI cy cap fd), (q1, xI cy (min 100000 (max w (2 * cap))) f1), (q2, xI cy (min 100000 (max w (2 * cap))) f2)] H := hP
      have hD : va_D A [(h0, .inr (0, [.ref q1, .ref q2, .int (nI n)])), (qi, xI cy cap fi), (qd, xI cy cap fd), (q1, xI cy (min 100000 (max w (2 * cap))) f1), (q2, xI cy (min 100000 (max w (2 * cap))) f2)] := hD
      have hP := hP.sub (ws' := [(h0, .inr (0, [.ref q1, .ref q2, .int (nI n)])), (q1, xI cy (min 100000 (max w (2 * cap))) f1), (q2, xI cy (min 100000 (max w (2 * cap))) f2)]) [0, 3, 4] rfl
      have hD := hD.sub (ws' := [(h0, .inr (0, [.ref q1, .ref q2, .int (nI n)])), (q1, xI cy (min 100000 (max w (2 * cap))) f1), (q2, xI cy (min 100000 (max w (2 * cap))) f2)]) [0, 3, 4] (by decide) rfl
      have ecap : capR w cap = min 100000 (max w (2 * cap)) := capR_yes (by omega)
      rw [← ecap] at hP hD
      exact kret (q1, q2, f1, f2) _ _ _ _ _ _ dX0_makeRoomFor_59 ⟨hf1, hf2⟩ hP hD hS (by rw [mcR_yes (by omega)]; omega) (by rw [msR_yes (by omega), capR_yes (by omega)]; omega)
set_option maxHeartbeats 4000000 in
set_option maxRecDepth 100000 in
theorem c_drain (l : Launch) (D : va_G) (cy : Nat → ClassId) (t0 : Nat) (h0 qi qd n : Nat) : xWi (S := Unit) l yX0_drain wsX0_drain ({ frames := 0, cells := 0, slots := 0, locals := 0 } : Room) D cy t0 ([.ref h0]) ([(h0, .inr (0, [.ref qi, .ref qd, .int (nI n)]))]) (fun r _ => r = nI n) (fun _ => [(h0, .inr (0, [.ref qi, .ref qd, .int (nI 0)]))]) 0 0 := by
  refine xofWi (cc := cX0_drain) (maxL := 2) (by decide) rfl (Nat.le_of_ble_eq_true rfl) (fun _ _ _ => rfl) ?_
  intro p e s m below meth c Q A ls hx hb hml hts hown hE hA H locs hP hD hl hS kret
  have hl : lv_has ls 2 [(0, .ref h0)] := hl
  refine lv_aload_n hx hb dX0_drain_0 rfl (lv_at hl 0 rfl) ?_
  refine va_get (D := D) (ci := 0) (v := .int (nI n)) (C := RX0) (T := TX0) (N := 3) hx hb hts (by decide +kernel) hown hE.1 hP 0 rfl rfl 2 (by decide) (hts (.fieldLink RX0 18 "DistinctDale$Basket" "size" "I") (by decide +kernel)) (fun _ h9 => h9) rfl dX0_drain_1 ?_
  refine lv_istore_n (lv' := [(1, .int (nI n)), (0, .ref h0)]) hx hb dX0_drain_4 rfl hl (by decide) rfl (fun ls hl => ?_)
  refine lv_aload_n hx hb dX0_drain_5 rfl (lv_at hl 1 rfl) ?_
  refine lv_iconst (v := nI 0) hx hb dX0_drain_6 (by decide) ?_
  refine va_put (D := D) (ci := 0) (v := .int (nI 0)) (ty := .int) (C := RX0) (T := TX0) (N := 3) hx hb hts (by decide +kernel) tyX0 tyX0_ok nmX0 hown hE.1 hP hD hS 0 rfl rfl 2 (by decide) (hts (.fieldLink RX0 18 "DistinctDale$Basket" "size" "I") (by decide +kernel)) (fun _ h9 => h9) rfl (by decide +kernel) rfl rfl (Nat.le_of_ble_eq_true rfl) dX0_drain_7 (fun H locs hP hD hS => ?_)
  have hP : xP D [(h0, .inr (0, [.ref qi, .ref qd, .int (nI 0)]))] H := hP
  have hD : va_D A [(h0, .inr (0, [.ref qi, .ref qd, .int (nI 0)]))] := hD
  refine lv_iload_n hx hb dX0_drain_10 rfl (lv_at hl 0 rfl) ?_
  exact kret _ () _ _ _ _ _ _ dX0_drain_11 rfl hP hD hS (Nat.le_of_ble_eq_true rfl) (Nat.le_of_ble_eq_true rfl)
end XBKW
