section XLEAF
set_option maxHeartbeats 4000000 in
set_option maxRecDepth 100000 in
theorem c_at (l : Launch) (D : va_G) (cy : Nat → ClassId) (t0 : Nat) (q n : Nat) (f : Nat → Int32) (i : Int32) (hn : n < 2 ^ 31) : xRi l yX4_at wsX4_at ({ frames := 0, cells := 0, slots := 0, locals := 0 } : Room) D cy t0 ([.ref q, .int i]) ([(q, xI cy n f)]) (fun r => r = xat f n i) := by
  refine xofRi (cc := cX4_at) (maxL := 2) (by decide) rfl (Nat.le_of_ble_eq_true rfl) (fun _ _ => rfl) ?_
  intro p e s m below meth c Q ls hx hb hml hts hown hE hP hl hS kret
  have hl : lv_has ls 2 [(0, .ref q), (1, .int i)] := hl
  refine lv_aload_n hx hb dX4_at_0 rfl (lv_at hl 0 rfl) ?_
  refine lv_ifnull hx hb dX4_at_1 ?_
  refine lv_iload_n hx hb dX4_at_4 rfl (lv_at hl 1 rfl) ?_
  refine lv_if_lt (tgt := 20) hx hb dX4_at_5 (by decide) (fun c_1 => ?_) (fun c_1 => ?_)
  · refine lv_iconst (v := (-1)) hx hb dX4_at_20 (by decide) ?_
    exact kret _ _ _ dX4_at_21 (by rw [xat_neg c_1])
  · obtain ⟨j, hj, ej⟩ := nI_of c_1
    rw [ej] at hl
    refine lv_iload_n hx hb dX4_at_8 rfl (lv_at hl 1 rfl) ?_
    refine lv_aload_n hx hb dX4_at_9 rfl (lv_at hl 0 rfl) ?_
    refine va_alen (D := D) (v := nI n) hx hb hE.1 hP 0 0 rfl rfl rfl dX4_at_10 ?_
    refine xb_icmp_ge (tgt := 20) (a := j) (b := n) (by omega) (by omega) hx hb dX4_at_11 (by decide) (fun c_2 => ?_) (fun c_2 => ?_)
    · refine lv_iconst (v := (-1)) hx hb dX4_at_20 (by decide) ?_
      exact kret _ _ _ dX4_at_21 (by rw [ej, xat_out c_2 hj])
    · refine lv_aload_n hx hb dX4_at_14 rfl (lv_at hl 0 rfl) ?_
      refine lv_iload_n hx hb dX4_at_15 rfl (lv_at hl 1 rfl) ?_
      refine va_iald (D := D) hx hb hE.1 hP 0 0 rfl rfl (vp_in_nI (by omega) (by omega)) dX4_at_16 ?_
      rw [nI_clamp (by omega)]
      refine lv_goto (tgt := 21) hx hb dX4_at_17 (by decide) ?_
      exact kret _ _ _ dX4_at_21 (by rw [ej, xat_in (by omega) hn])
set_option maxHeartbeats 4000000 in
set_option maxRecDepth 100000 in
theorem c_put (l : Launch) (D : va_G) (cy : Nat → ClassId) (t0 : Nat) (q n : Nat) (f : Nat → Int32) (i x : Int32) (hn : n < 2 ^ 31) : xWv (S := Nat → Int32) l yX4_put wsX4_put ({ frames := 0, cells := 0, slots := 0, locals := 0 } : Room) D cy t0 ([.ref q, .int i, .int x]) ([(q, xI cy n f)]) (fun u => u = xput f n i x) (fun u => [(q, xI cy n u)]) 0 0 := by
  refine xofWv (cc := cX4_put) (maxL := 3) (by decide) rfl (Nat.le_of_ble_eq_true rfl) ?_
  intro p e s m below meth c Q A ls hx hb hml hts hown hin hE hA H locs hP hD hl hS kret
  have hl : lv_has ls 3 [(0, .ref q), (1, .int i), (2, .int x)] := hl
  refine lv_aload_n hx hb dX4_put_0 rfl (lv_at hl 0 rfl) ?_
  refine lv_ifnull hx hb dX4_put_1 ?_
  refine lv_iload_n hx hb dX4_put_4 rfl (lv_at hl 1 rfl) ?_
  refine lv_if_lt (tgt := 18) hx hb dX4_put_5 (by decide) (fun c_1 => ?_) (fun c_1 => ?_)
  · exact kret f _ _ _ _ _ _ dX4_put_18 (by rw [xput_neg c_1]) hP hD hS (Nat.le_of_ble_eq_true rfl) (Nat.le_of_ble_eq_true rfl)
  · obtain ⟨j, hj, ej⟩ := nI_of c_1
    rw [ej] at hl
    refine lv_iload_n hx hb dX4_put_8 rfl (lv_at hl 1 rfl) ?_
    refine lv_aload_n hx hb dX4_put_9 rfl (lv_at hl 0 rfl) ?_
    refine va_alen (D := D) (v := nI n) hx hb hE.1 hP 0 0 rfl rfl rfl dX4_put_10 ?_
    refine xb_icmp_ge (tgt := 18) (a := j) (b := n) (by omega) (by omega) hx hb dX4_put_11 (by decide) (fun c_2 => ?_) (fun c_2 => ?_)
    · exact kret f _ _ _ _ _ _ dX4_put_18 (by rw [ej, xput_out c_2 hj]) hP hD hS (Nat.le_of_ble_eq_true rfl) (Nat.le_of_ble_eq_true rfl)
    · refine lv_aload_n hx hb dX4_put_14 rfl (lv_at hl 0 rfl) ?_
      refine lv_iload_n hx hb dX4_put_15 rfl (lv_at hl 1 rfl) ?_
      refine lv_iload_n hx hb dX4_put_16 rfl (lv_at hl 2 rfl) ?_
      refine va_iast (D := D) hx hb hE.1 hP hD hS 0 0 rfl rfl (vp_in_nI (by omega) (by omega)) dX4_put_17 (fun H locs hP hD hS => ?_)
      rw [nI_clamp (by omega)] at hP hD
      have hP : xP D [(q, xI cy n (upd f j x))] H := hP
      have hD : va_D A [(q, xI cy n (upd f j x))] := hD
      exact kret (upd f j x) _ _ _ _ _ _ dX4_put_18 (by rw [ej, xput_in (by omega) hn]) hP hD hS (Nat.le_of_ble_eq_true rfl) (Nat.le_of_ble_eq_true rfl)
set_option maxHeartbeats 4000000 in
set_option maxRecDepth 100000 in
theorem c_isItem (l : Launch) (D : va_G) (cy : Nat → ClassId) (t0 : Nat) (x : Int32) : xRi l yX4_isItem wsX4_isItem ({ frames := 0, cells := 0, slots := 0, locals := 0 } : Room) D cy t0 ([.int x]) ([]) (fun r => r = xb (isIt x)) := by
  refine xofRi (cc := cX4_isItem) (maxL := 1) (by decide) rfl (Nat.le_of_ble_eq_true rfl) (fun r h => by rw [h]; exact xb_nar _) ?_
  intro p e s m below meth c Q ls hx hb hml hts hown hE hP hl hS kret
  have hl : lv_has ls 1 [(0, .int x)] := hl
  refine lv_iload_n hx hb dX4_isItem_0 rfl (lv_at hl 0 rfl) ?_
  refine lv_if_lt (tgt := 14) hx hb dX4_isItem_1 (by decide) (fun c_1 => ?_) (fun c_1 => ?_)
  · refine lv_iconst (v := nI 0) hx hb dX4_isItem_14 (by decide) ?_
    exact kret _ _ _ dX4_isItem_15 (by rw [isIt_neg c_1]; rfl)
  · obtain ⟨j, hj, ej⟩ := nI_of c_1
    rw [ej] at hl
    refine lv_iload_n hx hb dX4_isItem_4 rfl (lv_at hl 0 rfl) ?_
    refine lv_ldc (v := nI 100000) hx hb hown (hts (.constant RX4 154 (100000)) (by decide +kernel)) dX4_isItem_5 ?_
    refine xb_icmp_ge (tgt := 14) (a := j) (b := 100000) (by omega) (by omega) hx hb dX4_isItem_7 (by decide) (fun c_2 => ?_) (fun c_2 => ?_)
    · refine lv_iconst (v := nI 0) hx hb dX4_isItem_14 (by decide) ?_
      exact kret _ _ _ dX4_isItem_15 (by rw [ej, isIt_ge c_2 hj]; rfl)
    · refine lv_iconst (v := nI 1) hx hb dX4_isItem_10 (by decide) ?_
      refine lv_goto (tgt := 15) hx hb dX4_isItem_11 (by decide) ?_
      exact kret _ _ _ dX4_isItem_15 (by rw [ej, isIt_lt c_2]; rfl)
set_option maxHeartbeats 4000000 in
set_option maxRecDepth 100000 in
theorem c_hashFor (l : Launch) (D : va_G) (cy : Nat → ClassId) (t0 : Nat) (i : Nat) (hi : i < 100000) : xRi l yX4_hashFor wsX4_hashFor ({ frames := 0, cells := 0, slots := 0, locals := 0 } : Room) D cy t0 ([.int (nI i)]) ([]) (fun r => r = nI (hsh i)) := by
  refine xofRi (cc := cX4_hashFor) (maxL := 3) (by decide) rfl (Nat.le_of_ble_eq_true rfl) (fun _ _ => rfl) ?_
  intro p e s m below meth c Q ls hx hb hml hts hown hE hP hl hS kret
  have hl : lv_has ls 3 [(0, .int (nI i))] := hl
  refine lv_iload_n hx hb dX4_hashFor_0 rfl (lv_at hl 0 rfl) ?_
  refine lv_i2l (v := lN i) hx hb dX4_hashFor_1 (nI_l (by omega)) ?_
  refine lv_lstore_n (lv' := [(1, .long (lN i)), (0, .int (nI i))]) hx hb dX4_hashFor_2 rfl hl (by decide) rfl (fun ls hl => ?_)
  refine lv_ldc2 (v := lN 69) hx hb hown (hts (.constantLong RX4 190 (69)) (by decide +kernel)) dX4_hashFor_3 ?_
  refine lv_lload_n hx hb dX4_hashFor_6 rfl (lv_at hl 0 rfl) ?_
  refine lv_lmul hx hb dX4_hashFor_7 ?_
  refine lv_eql (z := lN (69 * i)) (lN_mul _ _) ?_
  refine lv_lload_n hx hb dX4_hashFor_8 rfl (lv_at hl 0 rfl) ?_
  refine lv_lmul hx hb dX4_hashFor_9 ?_
  refine lv_eql (z := lN ((69 * i) * i)) (lN_mul _ _) ?_
  refine lv_ldc2 (v := lN 48271) hx hb hown (hts (.constantLong RX4 192 (48271)) (by decide +kernel)) dX4_hashFor_10 ?_
  refine lv_lload_n hx hb dX4_hashFor_13 rfl (lv_at hl 0 rfl) ?_
  refine lv_lmul hx hb dX4_hashFor_14 ?_
  refine lv_eql (z := lN (48271 * i)) (lN_mul _ _) ?_
  refine lv_ladd hx hb dX4_hashFor_15 ?_
  refine lv_eql (z := lN (((69 * i) * i) + (48271 * i))) (lN_add _ _) ?_
  refine lv_ldc2 (v := lN 101) hx hb hown (hts (.constantLong RX4 194 (101)) (by decide +kernel)) dX4_hashFor_16 ?_
  refine lv_ladd hx hb dX4_hashFor_19 ?_
  refine lv_eql (z := lN ((((69 * i) * i) + (48271 * i)) + 101)) (lN_add _ _) ?_
  refine lv_ldc2 (v := lN 16777213) hx hb hown (hts (.constantLong RX4 196 (16777213)) (by decide +kernel)) dX4_hashFor_20 ?_
  refine lv_lrem hx hb dX4_hashFor_23 (by decide) ?_
  refine lv_eql (z := lN (hsh i)) (pk_lRem (by have := hsh_sq hi; omega) (by omega) (by omega)) ?_
  refine lv_l2i (v := nI (hsh i)) hx hb dX4_hashFor_24 (lN_i _) ?_
  exact kret _ _ _ dX4_hashFor_25 rfl
set_option maxHeartbeats 4000000 in
set_option maxRecDepth 100000 in
theorem c_lowZeros (l : Launch) (D : va_G) (cy : Nat → ClassId) (t0 : Nat) (v k : Nat) (hv : v < 2 ^ 31) (hk : k ≤ 31) : xRi l yX4_lowZeros wsX4_lowZeros ({ frames := 0, cells := 0, slots := 0, locals := 0 } : Room) D cy t0 ([.int (nI v), .int (nI k)]) ([]) (fun r => r = nI (lz v k 0)) := by
  refine xofRi (cc := cX4_lowZeros) (maxL := 3) (by decide) rfl (Nat.le_of_ble_eq_true rfl) (fun _ _ => rfl) ?_
  intro p e s m below meth c Q ls hx hb hml hts hown hE hP hl hS kret
  have hl : lv_has ls 3 [(0, .int (nI v)), (1, .int (nI k))] := hl
  refine lv_iconst (v := nI 0) hx hb dX4_lowZeros_0 (by decide) ?_
  refine lv_istore_n (lv' := [(2, .int (nI 0)), (0, .int (nI v)), (1, .int (nI k))]) hx hb dX4_lowZeros_1 rfl hl (by decide) rfl (fun ls hl => ?_)
  have lp : ∀ (n9 : Nat), ∀ (z : Nat), (hz : z ≤ k) → (hr : lz v k 0 = lz v (k - z) z) → k - z < n9 → ∀ (ls : Array Slot), lv_has ls 3 [(2, .int (nI z)), (0, .int (nI v)), (1, .int (nI k))] → W p l e ({ frames := 0, cells := 0, slots := 0, locals := 0 } : Room) s m [.int (nI v), .int (nI k)].toArray below meth c s.heap [] 0 0 Q (F0 m 2 ls []) := by
    intro n9
    induction n9 with
    | zero => intro z hz hr hm; exact absurd hm (Nat.not_lt_zero _)
    | succ n9 ih_lp =>
      intro z hz hr hm ls hl
      refine lv_iload_n hx hb dX4_lowZeros_2 rfl (lv_at hl 0 rfl) ?_
      refine lv_iload_n hx hb dX4_lowZeros_3 rfl (lv_at hl 2 rfl) ?_
      refine xb_icmp_ge (tgt := 24) (a := z) (b := k) (by omega) (by omega) hx hb dX4_lowZeros_4 (by decide) (fun c_1 => ?_) (fun c_1 => ?_)
      · refine lv_iload_n hx hb dX4_lowZeros_24 rfl (lv_at hl 2 rfl) ?_
        exact kret _ _ _ dX4_lowZeros_25 (by rw [hr]; exact (congrArg nI (lz_end (by omega))).symm)
      · refine lv_iload_n hx hb dX4_lowZeros_7 rfl (lv_at hl 1 rfl) ?_
        refine lv_iload_n hx hb dX4_lowZeros_8 rfl (lv_at hl 0 rfl) ?_
        refine lv_ishr hx hb dX4_lowZeros_9 ?_
        refine lv_eqi (z := nI (v / 2 ^ z)) (shrz hv (by omega)) ?_
        refine lv_iconst (v := nI 1) hx hb dX4_lowZeros_10 (by decide) ?_
        refine lv_iand hx hb dX4_lowZeros_11 ?_
        refine lv_eqi (z := nI (v / 2 ^ z % 2)) (and1 (Nat.lt_of_le_of_lt (Nat.div_le_self _ _) (by omega))) ?_
        refine lv_iconst (v := nI 1) hx hb dX4_lowZeros_12 (by decide) ?_
        refine xb_icmp_ne (tgt := 18) (a := v / 2 ^ z % 2) (b := 1) (by omega) (by omega) hx hb dX4_lowZeros_13 (by decide) (fun c_2 => ?_) (fun c_2 => ?_)
        · refine lv_iinc (v := nI (z + 1)) (lv' := [(2, .int (nI (z + 1))), (0, .int (nI v)), (1, .int (nI k))]) hx hb dX4_lowZeros_18 hl (k := 0) rfl (nI_add _ 1) (by decide) rfl (fun ls hl => ?_)
          refine lv_goto (tgt := 2) hx hb dX4_lowZeros_21 (by decide) ?_
          exact ih_lp (z + 1) (by omega) (by rw [hr]; exact lz_step (by omega) (by omega)) (by omega) _ (lv_sub hl [0, 1, 2] rfl)
        · refine lv_iload_n hx hb dX4_lowZeros_16 rfl (lv_at hl 0 rfl) ?_
          exact kret _ _ _ dX4_lowZeros_17 (by rw [hr]; exact (congrArg nI (lz_hit (by omega) c_2)).symm)
  exact lp (k + 1) 0 (Nat.zero_le _) rfl (by omega) _ (lv_sub hl [0, 1, 2] rfl)
end XLEAF
