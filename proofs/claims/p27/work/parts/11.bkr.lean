section XBKR
set_option maxHeartbeats 4000000 in
set_option maxRecDepth 100000 in
theorem c_countShared (l : Launch) (D : va_G) (cy : Nat → ClassId) (t0 : Nat) (P R : Nat → Bool) (h0 qi qd qo n no cap capo : Nat) (fi gi : Nat → Int32) (hA : RW P 100000 n fi) (hB : RW R 100000 no gi) (hn : n ≤ cap) (hno : no ≤ capo) (hcap : cap ≤ 100000) (hcapo : capo ≤ 100000) : xRi l yX0_countShared wsX0_countShared ({ frames := 1, cells := 0, slots := 0, locals := 21 } : Room) D cy t0 ([.ref h0, .ref qo, .int (nI no)]) ([(h0, .inr (0, [.ref qi, .ref qd, .int (nI n)])), (qi, xI cy cap fi), (qo, xI cy capo gi)]) (fun r => r = nI (cb (fun x => P x && R x) 100000)) := by
  refine xofRi (cc := cX0_countShared) (maxL := 7) (by decide) rfl (Nat.le_of_ble_eq_true rfl) (fun _ _ => rfl) ?_
  intro p e s m below meth c Q ls hx hb hml hts hown hE hP hl hS kret
  have hl : lv_has ls 7 [(0, .ref h0), (1, .ref qo), (2, .int (nI no))] := hl
  have hsub : ∀ x, (fun x => P x && R x) x = true → P x = true := fun x h => by simp at h; exact h.1
  have hA1 := hA.1
  have hB1 := hB.1
  refine lv_iconst (v := nI 0) hx hb dX0_countShared_0 (by decide) ?_
  refine lv_istore_n (lv' := [(3, .int (nI 0)), (0, .ref h0), (1, .ref qo), (2, .int (nI no))]) hx hb dX0_countShared_1 rfl hl (by decide) rfl (fun ls hl => ?_)
  refine lv_iconst (v := nI 0) hx hb dX0_countShared_2 (by decide) ?_
  refine lv_istore (lv' := [(4, .int (nI 0)), (3, .int (nI 0)), (0, .ref h0), (1, .ref qo), (2, .int (nI no))]) hx hb dX0_countShared_3 hl (by decide) rfl (fun ls hl => ?_)
  refine lv_iconst (v := nI 0) hx hb dX0_countShared_5 (by decide) ?_
  refine lv_istore (lv' := [(5, .int (nI 0)), (4, .int (nI 0)), (3, .int (nI 0)), (0, .ref h0), (1, .ref qo), (2, .int (nI no))]) hx hb dX0_countShared_6 hl (by decide) rfl (fun ls hl => ?_)
  have lo1 : ∀ (n9 : Nat), ∀ (lo : Nat) (o : Nat), (hlo : lo ≤ 100000) → (ho : o ≤ cb R lo) → cb P 100000 - cb P lo < n9 → ∀ (ls : Array Slot), lv_has ls 7 [(0, .ref h0), (1, .ref qo), (2, .int (nI no)), (3, .int (nI (cb (fun x => P x && R x) lo))), (4, .int (nI o)), (5, .int (nI (cb P lo)))] → W p l e ({ frames := 1, cells := 0, slots := 0, locals := 21 } : Room) s m [.ref h0, .ref qo, .int (nI no)].toArray below meth c s.heap [] 0 0 Q (F0 m 8 ls []) := by
    intro n9
    induction n9 with
    | zero => intro lo o hlo ho hm; exact absurd hm (Nat.not_lt_zero _)
    | succ n9 ih_lo1 =>
      intro lo o hlo ho hm ls hl
      have hl1 : cb P lo ≤ cb P 100000 := cb_mono hlo
      have hl2 : cb R lo ≤ cb R 100000 := cb_mono hlo
      have hl3 : cb (fun x => P x && R x) lo ≤ lo := cb_le
      refine lv_iload hx hb dX0_countShared_8 (lv_at hl 5 rfl) ?_
      refine lv_aload_n hx hb dX0_countShared_10 rfl (lv_at hl 0 rfl) ?_
      refine va_get (D := D) (ci := 0) (v := .int (nI n)) (C := RX0) (T := TX0) (N := 3) hx hb hts (by decide +kernel) hown hE.1 hP 0 rfl rfl 2 (by decide) (hts (.fieldLink RX0 18 "DistinctDale$Basket" "size" "I") (by decide +kernel)) (fun _ h9 => h9) rfl dX0_countShared_11 ?_
      refine xb_icmp_ge (tgt := 77) (a := cb P lo) (b := n) (by omega) (by omega) hx hb dX0_countShared_14 (by decide) (fun c_1 => ?_) (fun c_1 => ?_)
      · refine lv_iload_n hx hb dX0_countShared_77 rfl (lv_at hl 3 rfl) ?_
        exact kret _ _ _ dX0_countShared_78 (congrArg nI (cb_stop hlo (by omega) hsub).symm)
      · refine lv_aload_n hx hb dX0_countShared_17 rfl (lv_at hl 0 rfl) ?_
        refine va_get (D := D) (ci := 0) (v := .ref qi) (C := RX0) (T := TX0) (N := 3) hx hb hts (by decide +kernel) hown hE.1 hP 0 rfl rfl 0 (by decide) (hts (.fieldLink RX0 11 "DistinctDale$Basket" "items" "[I") (by decide +kernel)) (fun _ h9 => h9) rfl dX0_countShared_18 ?_
        refine lv_iload hx hb dX0_countShared_21 (lv_at hl 5 rfl) ?_
        refine xcRi (va_runSN (As := [.ref qi, .int (nI (cb P lo))]) (rest := []) ⟨hx, hb, hml, hown, hts⟩ (c_at l D cy t0 qi cap fi (nI (cb P lo)) (by omega)) ⟨va_cnB 2 hts ggX0_countShared_X4_at rfl rfl rfl (xN3 hE.2.1.1) (hts (.initialized RX4) (by decide +kernel)) (by decide +kernel) ⟨Nat.le_of_ble_eq_true rfl, Nat.le_of_ble_eq_true rfl⟩, (hts (.static yX4_at) (by decide +kernel)), trivial⟩ (xPr.give (wc := [(qi, xI cy cap fi)]) hE hS hP [1] rfl) rfl rfl hl.1 rfl (lv_room (Nat.le_of_ble_eq_true rfl)) dX0_countShared_23 ⟨(Nat.zero_le _), (Nat.zero_le _)⟩) (fun r_2 hr_3 => ?_)
        obtain ⟨x, hx1, hx2, hx3, hx4, hx5, hx6⟩ := hA.next hlo (by omega)
        obtain rfl : r_2 = nI x := by rw [hr_3, xat_in (by omega) (by omega), hx6]
        have hRx2 : cb R x ≤ cb R 100000 := cb_mono (by omega)
        refine lv_istore (lv' := [(6, .int (nI x)), (0, .ref h0), (1, .ref qo), (2, .int (nI no)), (3, .int (nI (cb (fun x => P x && R x) lo))), (4, .int (nI o)), (5, .int (nI (cb P lo)))]) hx hb dX0_countShared_26 hl (by decide) rfl (fun ls hl => ?_)
        have j51 : ∀ (ls : Array Slot), lv_has ls 7 [(0, .ref h0), (1, .ref qo), (2, .int (nI no)), (3, .int (nI (cb (fun x => P x && R x) lo))), (4, .int (nI (cb R x))), (5, .int (nI (cb P lo))), (6, .int (nI x))] → W p l e ({ frames := 1, cells := 0, slots := 0, locals := 21 } : Room) s m [.ref h0, .ref qo, .int (nI no)].toArray below meth c s.heap [] 0 0 Q (F0 m 51 ls []) := by
          intro ls hl
          refine lv_iload hx hb dX0_countShared_51 (lv_at hl 4 rfl) ?_
          refine lv_iload_n hx hb dX0_countShared_53 rfl (lv_at hl 2 rfl) ?_
          refine xb_icmp_ge (tgt := 71) (a := cb R x) (b := no) (by omega) (by omega) hx hb dX0_countShared_54 (by decide) (fun c_4 => ?_) (fun c_4 => ?_)
          · have hRx : R x = false := by
              cases hq : R x with
              | false => rfl
              | true => have := cb_lt (P := R) hx2 hq; omega
            refine lv_iinc (v := nI (cb P lo + 1)) (lv' := [(5, .int (nI (cb P lo + 1))), (0, .ref h0), (1, .ref qo), (2, .int (nI no)), (3, .int (nI (cb (fun x => P x && R x) lo))), (4, .int (nI (cb R x))), (6, .int (nI x))]) hx hb dX0_countShared_71 hl (k := 5) rfl (nI_add _ 1) (by decide) rfl (fun ls hl => ?_)
            refine lv_goto (tgt := 8) hx hb dX0_countShared_74 (by decide) ?_
            have e1 : cb P lo + 1 = cb P (x + 1) := by rw [cb_t hx3]; omega
            have hms : cb P 100000 - cb P (x + 1) < n9 := by omega
            have e2 : cb (fun x => P x && R x) lo = cb (fun x => P x && R x) (x + 1) := by rw [cb_f (by simp [hRx])]; rw [cb_to hx1 hx5 hsub]
            rw [e1, e2] at hl
            exact ih_lo1 (x + 1) (cb R x) (by omega) (cb_mono (by omega)) hms _ (lv_sub hl [1, 2, 3, 4, 5, 0] rfl)
          · refine lv_aload_n hx hb dX0_countShared_57 rfl (lv_at hl 1 rfl) ?_
            refine lv_iload hx hb dX0_countShared_58 (lv_at hl 4 rfl) ?_
            refine xcRi (va_runSN (As := [.ref qo, .int (nI (cb R x))]) (rest := []) ⟨hx, hb, hml, hown, hts⟩ (c_at l D cy t0 qo capo gi (nI (cb R x)) (by omega)) ⟨va_cnB 2 hts ggX0_countShared_X4_at rfl rfl rfl (xN3 hE.2.1.1) (hts (.initialized RX4) (by decide +kernel)) (by decide +kernel) ⟨Nat.le_of_ble_eq_true rfl, Nat.le_of_ble_eq_true rfl⟩, (hts (.static yX4_at) (by decide +kernel)), trivial⟩ (xPr.give (wc := [(qo, xI cy capo gi)]) hE hS hP [2] rfl) rfl rfl hl.1 rfl (lv_room (Nat.le_of_ble_eq_true rfl)) dX0_countShared_60 ⟨(Nat.zero_le _), (Nat.zero_le _)⟩) (fun r_5 hr_6 => ?_)
            obtain ⟨y, hy1, hy2, hy3, hy4⟩ := hB.at (j := cb R x) (by omega)
            obtain rfl : r_5 = nI y := by rw [hr_6, xat_in (by omega) (by omega), hy4]
            refine lv_iload hx hb dX0_countShared_63 (lv_at hl 6 rfl) ?_
            refine xb_icmp_ne (tgt := 71) (a := y) (b := x) (by omega) (by omega) hx hb dX0_countShared_65 (by decide) (fun c_7 => ?_) (fun c_7 => ?_)
            · have hRx : R x = false := by
                cases hq : R x with
                | false => rfl
                | true => exact absurd (cb_inj hy2 hq hy3) c_7
              refine lv_iinc (v := nI (cb P lo + 1)) (lv' := [(5, .int (nI (cb P lo + 1))), (0, .ref h0), (1, .ref qo), (2, .int (nI no)), (3, .int (nI (cb (fun x => P x && R x) lo))), (4, .int (nI (cb R x))), (6, .int (nI x))]) hx hb dX0_countShared_71 hl (k := 5) rfl (nI_add _ 1) (by decide) rfl (fun ls hl => ?_)
              refine lv_goto (tgt := 8) hx hb dX0_countShared_74 (by decide) ?_
              have e1 : cb P lo + 1 = cb P (x + 1) := by rw [cb_t hx3]; omega
              have hms : cb P 100000 - cb P (x + 1) < n9 := by omega
              have e2 : cb (fun x => P x && R x) lo = cb (fun x => P x && R x) (x + 1) := by rw [cb_f (by simp [hRx])]; rw [cb_to hx1 hx5 hsub]
              rw [e1, e2] at hl
              exact ih_lo1 (x + 1) (cb R x) (by omega) (cb_mono (by omega)) hms _ (lv_sub hl [1, 2, 3, 4, 5, 0] rfl)
            · have hRx : R x = true := by rw [← c_7]; exact hy2
              refine lv_iinc (v := nI (cb (fun x => P x && R x) lo + 1)) (lv' := [(3, .int (nI (cb (fun x => P x && R x) lo + 1))), (0, .ref h0), (1, .ref qo), (2, .int (nI no)), (4, .int (nI (cb R x))), (5, .int (nI (cb P lo))), (6, .int (nI x))]) hx hb dX0_countShared_68 hl (k := 3) rfl (nI_add _ 1) (by decide) rfl (fun ls hl => ?_)
              refine lv_iinc (v := nI (cb P lo + 1)) (lv' := [(5, .int (nI (cb P lo + 1))), (3, .int (nI (cb (fun x => P x && R x) lo + 1))), (0, .ref h0), (1, .ref qo), (2, .int (nI no)), (4, .int (nI (cb R x))), (6, .int (nI x))]) hx hb dX0_countShared_71 hl (k := 5) rfl (nI_add _ 1) (by decide) rfl (fun ls hl => ?_)
              refine lv_goto (tgt := 8) hx hb dX0_countShared_74 (by decide) ?_
              have e1 : cb P lo + 1 = cb P (x + 1) := by rw [cb_t hx3]; omega
              have hms : cb P 100000 - cb P (x + 1) < n9 := by omega
              have e2 : cb (fun x => P x && R x) lo + 1 = cb (fun x => P x && R x) (x + 1) := by rw [cb_t (by simp [hx3, hRx])]; rw [cb_to hx1 hx5 hsub]
              rw [e1, e2] at hl
              exact ih_lo1 (x + 1) (cb R x) (by omega) (cb_mono (by omega)) hms _ (lv_sub hl [2, 3, 4, 1, 5, 0] rfl)
        have lo2 : ∀ (n9 : Nat), ∀ (o2 : Nat), (ho2 : o2 ≤ cb R x) → cb R x - o2 < n9 → ∀ (ls : Array Slot), lv_has ls 7 [(0, .ref h0), (1, .ref qo), (2, .int (nI no)), (3, .int (nI (cb (fun x => P x && R x) lo))), (4, .int (nI o2)), (5, .int (nI (cb P lo))), (6, .int (nI x))] → W p l e ({ frames := 1, cells := 0, slots := 0, locals := 21 } : Room) s m [.ref h0, .ref qo, .int (nI no)].toArray below meth c s.heap [] 0 0 Q (F0 m 28 ls []) := by
          intro n9
          induction n9 with
          | zero => intro o2 ho2 hm; exact absurd hm (Nat.not_lt_zero _)
          | succ n9 ih_lo2 =>
            intro o2 ho2 hm ls hl
            refine lv_iload hx hb dX0_countShared_28 (lv_at hl 4 rfl) ?_
            refine lv_iload_n hx hb dX0_countShared_30 rfl (lv_at hl 2 rfl) ?_
            refine xb_icmp_ge (tgt := 51) (a := o2) (b := no) (by omega) (by omega) hx hb dX0_countShared_31 (by decide) (fun c_8 => ?_) (fun c_8 => ?_)
            · have eo : o2 = cb R x := by omega
              rw [eo] at hl
              exact j51    _ (lv_sub hl [0, 1, 2, 3, 4, 5, 6] rfl)
            · refine lv_aload_n hx hb dX0_countShared_34 rfl (lv_at hl 1 rfl) ?_
              refine lv_iload hx hb dX0_countShared_35 (lv_at hl 4 rfl) ?_
              refine xcRi (va_runSN (As := [.ref qo, .int (nI o2)]) (rest := []) ⟨hx, hb, hml, hown, hts⟩ (c_at l D cy t0 qo capo gi (nI o2) (by omega)) ⟨va_cnB 2 hts ggX0_countShared_X4_at rfl rfl rfl (xN3 hE.2.1.1) (hts (.initialized RX4) (by decide +kernel)) (by decide +kernel) ⟨Nat.le_of_ble_eq_true rfl, Nat.le_of_ble_eq_true rfl⟩, (hts (.static yX4_at) (by decide +kernel)), trivial⟩ (xPr.give (wc := [(qo, xI cy capo gi)]) hE hS hP [2] rfl) rfl rfl hl.1 rfl (lv_room (Nat.le_of_ble_eq_true rfl)) dX0_countShared_37 ⟨(Nat.zero_le _), (Nat.zero_le _)⟩) (fun r_9 hr_10 => ?_)
              obtain ⟨y, hy1, hy2, hy3, hy4⟩ := hB.at (j := o2) (by omega)
              obtain rfl : r_9 = nI y := by rw [hr_10, xat_in (by omega) (by omega), hy4]
              refine lv_iload hx hb dX0_countShared_40 (lv_at hl 6 rfl) ?_
              refine xb_icmp_ge (tgt := 51) (a := y) (b := x) (by omega) (by omega) hx hb dX0_countShared_42 (by decide) (fun c_11 => ?_) (fun c_11 => ?_)
              · have eo : o2 = cb R x := by
                  have := cb_mono (P := R) c_11
                  omega
                rw [eo] at hl
                exact j51    _ (lv_sub hl [0, 1, 2, 3, 4, 5, 6] rfl)
              · refine lv_iinc (v := nI (o2 + 1)) (lv' := [(4, .int (nI (o2 + 1))), (0, .ref h0), (1, .ref qo), (2, .int (nI no)), (3, .int (nI (cb (fun x => P x && R x) lo))), (5, .int (nI (cb P lo))), (6, .int (nI x))]) hx hb dX0_countShared_45 hl (k := 4) rfl (nI_add _ 1) (by decide) rfl (fun ls hl => ?_)
                refine lv_goto (tgt := 28) hx hb dX0_countShared_48 (by decide) ?_
                have hnx : o2 + 1 ≤ cb R x := by
                  have := cb_lt c_11 hy2
                  omega
                exact ih_lo2 (o2 + 1) hnx (by omega) _ (lv_sub hl [1, 2, 3, 4, 0, 5, 6] rfl)
        exact lo2 (cb R x + 1) o (Nat.le_trans ho (cb_mono hx1)) (by omega) _ (lv_sub hl [1, 2, 3, 4, 5, 6, 0] rfl)
  exact lo1 (cb P 100000 + 1) 0 0 (Nat.zero_le _) (Nat.zero_le _) (by omega) _ (lv_sub hl [3, 4, 5, 2, 1, 0] rfl)
end XBKR
