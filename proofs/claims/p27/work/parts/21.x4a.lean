section XX4A
set_option maxHeartbeats 4000000 in
set_option maxRecDepth 100000 in
theorem c_need (l : Launch) (D : va_G) (cy : Nat → ClassId) (t0 : Nat) (a4 aB o2 o3 oA oB oC qL qM k now : Nat) (ab : Nat → Nat) (b : Nat) (hb6 : b < 6) : xRa l yX4_need wsX4_need ({ frames := 0, cells := 0, slots := 0, locals := 0 } : Room) D cy t0 ([.ref a4, .int (nI b)]) ([(a4, .inr (4, [.ref aB, .ref o2, .ref o3, .ref oA, .ref oB, .ref oC, .ref qL, .ref qM, .int (nI k), .int (nI now)])), (aB, xB cy 6 (fun j => some (ab j)))]) (fun r => r = ab b) := by
  refine xofRa (cc := cX4_need) (maxL := 3) (by decide) rfl (Nat.le_of_ble_eq_true rfl) (Or.inl ⟨_, rfl⟩) ?_
  intro p e s m below meth c Q ls hx hb hml hts hown hE hP hl hS kret
  have hl : lv_has ls 3 [(0, .ref a4), (1, .int (nI b))] := hl
  refine lv_iload_n hx hb dX4_need_0 rfl (lv_at hl 1 rfl) ?_
  refine xb_if_lt (tgt := 22) (a := b) (by omega) hx hb dX4_need_1 (by decide) (fun c_1 => ?_) (fun c_1 => ?_)
  · exact c_1.elim
  · refine lv_iload_n hx hb dX4_need_4 rfl (lv_at hl 1 rfl) ?_
    refine lv_aload_n hx hb dX4_need_5 rfl (lv_at hl 0 rfl) ?_
    refine va_get (D := D) (ci := 4) (v := .ref aB) (C := RX4) (T := TX4) (N := 10) hx hb hts (by decide +kernel) hown hE.1 hP 0 rfl rfl 0 (by decide) (hts (.fieldLink RX4 24 "DistinctDale" "baskets" "[LDistinctDale$Basket;") (by decide +kernel)) (fun _ h9 => h9) rfl dX4_need_6 ?_
    refine va_alen (D := D) (v := nI 6) hx hb hE.1 hP 1 3 rfl rfl rfl dX4_need_9 ?_
    refine xb_icmp_ge (tgt := 22) (a := b) (b := 6) (by omega) (by omega) hx hb dX4_need_10 (by decide) (fun c_2 => ?_) (fun c_2 => ?_)
    · exact absurd c_2 (by omega)
    · refine lv_aload_n hx hb dX4_need_13 rfl (lv_at hl 0 rfl) ?_
      refine va_get (D := D) (ci := 4) (v := .ref aB) (C := RX4) (T := TX4) (N := 10) hx hb hts (by decide +kernel) hown hE.1 hP 0 rfl rfl 0 (by decide) (hts (.fieldLink RX4 24 "DistinctDale" "baskets" "[LDistinctDale$Basket;") (by decide +kernel)) (fun _ h9 => h9) rfl dX4_need_14 ?_
      refine lv_iload_n hx hb dX4_need_17 rfl (lv_at hl 1 rfl) ?_
      refine va_aldq (D := D) hx hb hE.1 hP 1 3 rfl rfl (vp_in_nI (by omega) (by omega)) dX4_need_18 ?_
      refine W.eq (g2 := F0 m 19 ls [.ref (ab b)]) (by rw [nI_clamp (by omega)]; rfl) ?_
      refine lv_goto (tgt := 23) hx hb dX4_need_19 (by decide) ?_
      refine lv_astore_n (lv' := [(2, .ref (ab b)), (0, .ref a4), (1, .int (nI b))]) hx hb dX4_need_23 rfl hl (by decide) rfl (fun ls hl => ?_)
      refine lv_aload_n hx hb dX4_need_24 rfl (lv_at hl 0 rfl) ?_
      refine lv_ifnonnull (tgt := 38) hx hb dX4_need_25 (by decide) ?_
      refine lv_aload_n hx hb dX4_need_38 rfl (lv_at hl 0 rfl) ?_
      exact kret _ _ _ dX4_need_39 rfl
set_option maxHeartbeats 4000000 in
set_option maxRecDepth 100000 in
theorem c_needT (l : Launch) (hlf : l.stackTraces = false) (D : va_G) (cy : Nat → ClassId) (t0 : Nat) (a4 aB o2 o3 oA oB oC qL qM k now : Nat) (ab : Nat → Nat) (p0 : Int32) (hbi : p0 < 0 ∨ nI 6 ≤ p0) : xT (S := Unit) l yX4_need wsX4_need ({ frames := 6, cells := 1, slots := 6, locals := 82 } : Room) D cy t0 ([.ref a4, .int p0]) ([(a4, .inr (4, [.ref aB, .ref o2, .ref o3, .ref oA, .ref oB, .ref oC, .ref qL, .ref qM, .int (nI k), .int (nI now)])), (aB, xB cy 6 (fun j => some (ab j)))]) xIO (fun _ => [(a4, .inr (4, [.ref aB, .ref o2, .ref o3, .ref oA, .ref oB, .ref oC, .ref qL, .ref qM, .int (nI k), .int (nI now)])), (aB, xB cy 6 (fun j => some (ab j)))]) 1 6 := by
  refine xofT (cc := cX4_need) (maxL := 3) (ret := (some (.object "DistinctDale$Basket"))) (by decide) rfl (Nat.le_of_ble_eq_true rfl) ?_
  intro p e s m below meth c Q A ls hx hb hml hts hown hE hA H locs hP hD hl hS htab hlocks hQ kout
  have hl : lv_has ls 3 [(0, .ref a4), (1, .int p0)] := hl
  refine lv_iload_n hx hb dX4_need_0 rfl (lv_at hl 1 rfl) ?_
  refine lv_if_lt (tgt := 22) hx hb dX4_need_1 (by decide) (fun c_1 => ?_) (fun c_1 => ?_)
  · refine lv_null hx hb dX4_need_22 ?_
    refine lv_astore_nN (lv' := [(2, .null), (0, .ref a4), (1, .int p0)]) hx hb dX4_need_23 rfl hl (by decide) rfl (fun ls hl => ?_)
    refine lv_aload_nN hx hb dX4_need_24 rfl (lv_at hl 0 rfl) ?_
    refine lv_ifnonnullN hx hb dX4_need_25 ?_
    subst hQ
    exact xthr (text := "no such basket") (is := 172) (ik := 117) (ic := 121) hx hb hlf hts hown hE (Or.inl rfl) (by decide +kernel) (by decide +kernel) (by decide +kernel) (by decide +kernel) xngIO xotIO (by decide +kernel) hS (hl.1.trans hml.symm) dX4_need_28 dX4_need_31 dX4_need_32 dX4_need_34 dX4_need_37 htab hlocks (Nat.le_of_ble_eq_true rfl) (Nat.le_of_ble_eq_true rfl) (Nat.le_of_ble_eq_true rfl) (Nat.le_of_ble_eq_true rfl) () hP hD (Nat.le_of_ble_eq_true rfl) (Nat.le_of_ble_eq_true rfl)
  · refine lv_iload_n hx hb dX4_need_4 rfl (lv_at hl 1 rfl) ?_
    refine lv_aload_n hx hb dX4_need_5 rfl (lv_at hl 0 rfl) ?_
    refine va_get (D := D) (ci := 4) (v := .ref aB) (C := RX4) (T := TX4) (N := 10) hx hb hts (by decide +kernel) hown hE.1 hP 0 rfl rfl 0 (by decide) (hts (.fieldLink RX4 24 "DistinctDale" "baskets" "[LDistinctDale$Basket;") (by decide +kernel)) (fun _ h9 => h9) rfl dX4_need_6 ?_
    refine va_alen (D := D) (v := nI 6) hx hb hE.1 hP 1 3 rfl rfl rfl dX4_need_9 ?_
    refine lv_icmp_ge (tgt := 22) hx hb dX4_need_10 (by decide) (fun c_2 => ?_) (fun c_2 => ?_)
    · refine lv_null hx hb dX4_need_22 ?_
      refine lv_astore_nN (lv' := [(2, .null), (0, .ref a4), (1, .int p0)]) hx hb dX4_need_23 rfl hl (by decide) rfl (fun ls hl => ?_)
      refine lv_aload_nN hx hb dX4_need_24 rfl (lv_at hl 0 rfl) ?_
      refine lv_ifnonnullN hx hb dX4_need_25 ?_
      subst hQ
      exact xthr (text := "no such basket") (is := 172) (ik := 117) (ic := 121) hx hb hlf hts hown hE (Or.inl rfl) (by decide +kernel) (by decide +kernel) (by decide +kernel) (by decide +kernel) xngIO xotIO (by decide +kernel) hS (hl.1.trans hml.symm) dX4_need_28 dX4_need_31 dX4_need_32 dX4_need_34 dX4_need_37 htab hlocks (Nat.le_of_ble_eq_true rfl) (Nat.le_of_ble_eq_true rfl) (Nat.le_of_ble_eq_true rfl) (Nat.le_of_ble_eq_true rfl) () hP hD (Nat.le_of_ble_eq_true rfl) (Nat.le_of_ble_eq_true rfl)
    · exact absurd (hbi.resolve_left c_1) c_2
set_option maxHeartbeats 4000000 in
set_option maxRecDepth 100000 in
theorem c_refuse (l : Launch) (D : va_G) (cy : Nat → ClassId) (t0 : Nat)  : xRv l yX4_refuseUnless wsX4_refuseUnless ({ frames := 0, cells := 0, slots := 0, locals := 0 } : Room) D cy t0 ([.int (nI 1)]) ([]) := by
  refine xofRv (cc := cX4_refuseUnless) (maxL := 1) (by decide) rfl (Nat.le_of_ble_eq_true rfl) ?_
  intro p e s m below meth c Q ls hx hb hml hts hown hE hP hl hS kret
  have hl : lv_has ls 1 [(0, .int (nI 1))] := hl
  refine lv_iload_n hx hb dX4_refuseUnless_0 rfl (lv_at hl 0 rfl) ?_
  refine xb_if_ne (tgt := 14) (a := 1) (by omega) hx hb dX4_refuseUnless_1 (by decide) (fun c_1 => ?_) (fun c_1 => ?_)
  · exact kret _ _ dX4_refuseUnless_14 trivial
  · exact absurd c_1 (by decide)
set_option maxHeartbeats 4000000 in
set_option maxRecDepth 100000 in
theorem c_refuseT (l : Launch) (hlf : l.stackTraces = false) (D : va_G) (cy : Nat → ClassId) (t0 : Nat)  : xT (S := Unit) l yX4_refuseUnless wsX4_refuseUnless ({ frames := 6, cells := 1, slots := 6, locals := 82 } : Room) D cy t0 ([.int (nI 0)]) ([]) xIA (fun _ => []) 1 6 := by
  refine xofT (cc := cX4_refuseUnless) (maxL := 1) (ret := none) (by decide) rfl (Nat.le_of_ble_eq_true rfl) ?_
  intro p e s m below meth c Q A ls hx hb hml hts hown hE hA H locs hP hD hl hS htab hlocks hQ kout
  have hl : lv_has ls 1 [(0, .int (nI 0))] := hl
  refine lv_iload_n hx hb dX4_refuseUnless_0 rfl (lv_at hl 0 rfl) ?_
  refine xb_if_ne (tgt := 14) (a := 0) (by omega) hx hb dX4_refuseUnless_1 (by decide) (fun c_1 => ?_) (fun c_1 => ?_)
  · exact absurd rfl c_1
  · subst hQ
    exact xthr (text := "an argument is out of range") (is := 176) (ik := 174) (ic := 178) hx hb hlf hts hown hE (Or.inr rfl) (by decide +kernel) (by decide +kernel) (by decide +kernel) (by decide +kernel) xngIA xotIA (by decide +kernel) hS (hl.1.trans hml.symm) dX4_refuseUnless_4 dX4_refuseUnless_7 dX4_refuseUnless_8 dX4_refuseUnless_10 dX4_refuseUnless_13 htab hlocks (Nat.le_of_ble_eq_true rfl) (Nat.le_of_ble_eq_true rfl) (Nat.le_of_ble_eq_true rfl) (Nat.le_of_ble_eq_true rfl) () hP hD (Nat.le_of_ble_eq_true rfl) (Nat.le_of_ble_eq_true rfl)
end XX4A
