section XX9G
theorem and31 (x : Int32) : ∃ j, j < 32 ∧ x &&& nI 31 = nI j := by
  have h1 : x.toBitVec.toNat &&& 31 ≤ 31 := Nat.and_le_right
  refine ⟨x.toBitVec.toNat &&& 31, by omega, ?_⟩
  apply Int32.toBitVec_inj.mp
  apply BitVec.eq_of_toNat_eq
  show (x.toBitVec &&& (nI 31).toBitVec).toNat = (BitVec.ofNat 32 (x.toBitVec.toNat &&& 31)).toNat
  rw [BitVec.toNat_and, BitVec.toNat_ofNat, Nat.mod_eq_of_lt (by omega)]
  rfl
theorem len_gt {L j : Nat} (hL : L ≤ 2561) (hj : j < 2 ^ 30) : nI L - nI 5 < nI j ↔ L < j + 5 := by
  rcases Nat.lt_or_ge L 5 with q | q
  · have h0 : nI L - nI 5 < 0 := by
      rcases (show L = 0 ∨ L = 1 ∨ L = 2 ∨ L = 3 ∨ L = 4 by omega) with rfl | rfl | rfl | rfl | rfl <;> decide +kernel
    exact ⟨fun _ => by omega, fun _ => Int32.lt_of_lt_of_le h0 (nI_pos' (by omega))⟩
  · obtain ⟨k, rfl⟩ : ∃ k, L = k + 5 := ⟨L - 5, by omega⟩
    rw [show nI (k + 5) - nI 5 = nI k from by rw [← nI_add k 5]; exact Int32.add_sub_cancel _ _, nI_ltI (by omega) (by omega)]
    omega
theorem LI.next {D : va_G} {cy : Nat → ClassId} {A : Nat → Prop} {aO a4 aB o2 gR o3 gT oA gA oB gB oC gC qL qM a5 mD mI mZ mK mO mE mR mF k t : Nat} {ab : Nat → Nat} {H : Heap} {cells slots : Nat} (hI : LI D cy A aO a4 aB o2 gR o3 gT oA gA oB gB oC gC qL qM a5 mD mI mZ mK mO mE mR mF k ab t H cells slots) : LI D cy A aO a4 aB o2 gR o3 gT oA gA oB gB oC gC qL qM a5 mD mI mZ mK mO mE mR mF k ab (t + 1) H cells slots := by
  obtain ⟨now, zA, zB, zC, nl, lv0, sz0, th, kM, oM, fo, fR, fT, fA, fB, fC, fL, fG, G, It, Zt, fK, fO, fE, fQ, fF, lst, σ, hR, hP, hD⟩ := hI
  exact ⟨now, zA, zB, zC, nl, lv0, sz0, th, kM, oM, fo, fR, fT, fA, fB, fC, fL, fG, G, It, Zt, fK, fO, fE, fQ, fF, lst, σ, hR.next (by omega) (by omega), hP, hD⟩
set_option maxHeartbeats 4000000 in
set_option maxRecDepth 100000 in
theorem lw_turn {p : Program} {l : Launch} {e : Env} {s : State} {m : MethodId} {below : List Frame} {meth : Method} {c : Code} {H : Heap} {locs : List Loc} {cells slots : Nat} {Q : State → Prop} {ls : Array Slot} {D : va_G} {cy : Nat → ClassId} {t0 : Nat} {A : Nat → Prop} {sb L : Nat} {xs : Nat → Int32} {aO a4 aB o2 gR o3 gT oA gA oB gB oC gC qL qM a5 mD mI mZ mK mO mE mR mF k t i : Nat} {ab : Nat → Nat} (hC : LC p l s m c D cy t0 A sb L xs) (hI : LI D cy A aO a4 aB o2 gR o3 gT oA gA oB gB oC gC qL qM a5 mD mI mZ mK mO mE mR mF k ab t H cells slots) (hS : va_S A s.heap H locs) (hl : lv_has ls 8 [(0, .ref sb), (1, .ref a4), (2, .ref a5), (3, .ref aO), (4, .int (nI i))]) (hi : i + 5 ≤ L) (hL : L ≤ 2561) (ht : t ≤ 512) (knext : ∀ (H : Heap) (locs : List Loc) (ls : Array Slot) (cells slots : Nat), LI D cy A aO a4 aB o2 gR o3 gT oA gA oB gB oC gC qL qM a5 mD mI mZ mK mO mE mR mF k ab (t + 1) H cells slots → va_S A s.heap H locs → lv_has ls 8 [(0, .ref sb), (1, .ref a4), (2, .ref a5), (3, .ref aO), (4, .int (nI i))] → W p l e room_1 s m #[Value.ref sb] below meth c H locs cells slots Q (F0 m 1591 ls [])) : W p l e room_1 s m #[Value.ref sb] below meth c H locs cells slots Q (F0 m 49 ls [.int (xs i &&& nI 31)]) := by
  have hx := hC.1
  have hb := hC.2.1
  obtain ⟨j, hj, ej⟩ := and31 (xs i)
  rw [ej]
  rcases (show j = 0 ∨ j = 1 ∨ j = 2 ∨ j = 3 ∨ j = 4 ∨ j = 5 ∨ j = 6 ∨ j = 7 ∨ j = 8 ∨ j = 9 ∨ j = 10 ∨ j = 11 ∨ j = 12 ∨ j = 13 ∨ j = 14 ∨ j = 15 ∨ j = 16 ∨ j = 17 ∨ j = 18 ∨ j = 19 ∨ j = 20 ∨ j = 21 ∨ j = 22 ∨ j = 23 ∨ 24 ≤ j by omega) with rfl | rfl | rfl | rfl | rfl | rfl | rfl | rfl | rfl | rfl | rfl | rfl | rfl | rfl | rfl | rfl | rfl | rfl | rfl | rfl | rfl | rfl | rfl | rfl | hq
  · refine lv_tableIn (x := nI 0) (off := 111) (tgt := 160) hx hb dL_law_49 (by decide +kernel) (by decide +kernel) (by decide +kernel) (by decide +kernel) ?_
    exact st_add hC hI hS hl hi hL ht knext
  · refine lv_tableIn (x := nI 1) (off := 186) (tgt := 235) hx hb dL_law_49 (by decide +kernel) (by decide +kernel) (by decide +kernel) (by decide +kernel) ?_
    exact st_addLine hC hI hS hl hi hL ht knext
  · refine lv_tableIn (x := nI 2) (off := 278) (tgt := 327) hx hb dL_law_49 (by decide +kernel) (by decide +kernel) (by decide +kernel) (by decide +kernel) ?_
    exact st_empty hC hI hS hl hi hL ht knext
  · refine lv_tableIn (x := nI 3) (off := 334) (tgt := 383) hx hb dL_law_49 (by decide +kernel) (by decide +kernel) (by decide +kernel) (by decide +kernel) ?_
    exact st_merge hC hI hS hl hi hL ht knext
  · refine lv_tableIn (x := nI 4) (off := 402) (tgt := 451) hx hb dL_law_49 (by decide +kernel) (by decide +kernel) (by decide +kernel) (by decide +kernel) ?_
    exact st_pass hC hI hS hl hi hL ht knext
  · refine lv_tableIn (x := nI 5) (off := 458) (tgt := 507) hx hb dL_law_49 (by decide +kernel) (by decide +kernel) (by decide +kernel) (by decide +kernel) ?_
    exact st_clock hC hI hS hl hi hL ht knext
  · refine lv_tableIn (x := nI 6) (off := 471) (tgt := 520) hx hb dL_law_49 (by decide +kernel) (by decide +kernel) (by decide +kernel) (by decide +kernel) ?_
    exact st_plain hC hI hS hl hi hL ht knext
  · refine lv_tableIn (x := nI 7) (off := 527) (tgt := 576) hx hb dL_law_49 (by decide +kernel) (by decide +kernel) (by decide +kernel) (by decide +kernel) ?_
    exact st_plainCommon hC hI hS hl hi hL ht knext
  · refine lv_tableIn (x := nI 8) (off := 595) (tgt := 644) hx hb dL_law_49 (by decide +kernel) (by decide +kernel) (by decide +kernel) (by decide +kernel) ?_
    exact st_dateOf hC hI hS hl hi hL ht knext
  · refine lv_tableIn (x := nI 9) (off := 663) (tgt := 712) hx hb dL_law_49 (by decide +kernel) (by decide +kernel) (by decide +kernel) (by decide +kernel) ?_
    exact st_hash hC hI hS hl hi hL ht knext
  · refine lv_tableIn (x := nI 10) (off := 719) (tgt := 768) hx hb dL_law_49 (by decide +kernel) (by decide +kernel) (by decide +kernel) (by decide +kernel) ?_
    exact st_most hC hI hS hl hi hL ht knext
  · refine lv_tableIn (x := nI 11) (off := 732) (tgt := 781) hx hb dL_law_49 (by decide +kernel) (by decide +kernel) (by decide +kernel) (by decide +kernel) ?_
    exact st_kept hC hI hS hl hi hL ht knext
  · refine lv_tableIn (x := nI 12) (off := 788) (tgt := 837) hx hb dL_law_49 (by decide +kernel) (by decide +kernel) (by decide +kernel) (by decide +kernel) ?_
    exact st_keptAt hC hI hS hl hi hL ht knext
  · refine lv_tableIn (x := nI 13) (off := 856) (tgt := 905) hx hb dL_law_49 (by decide +kernel) (by decide +kernel) (by decide +kernel) (by decide +kernel) ?_
    exact st_byLeast hC hI hS hl hi hL ht knext
  · refine lv_tableIn (x := nI 14) (off := 912) (tgt := 961) hx hb dL_law_49 (by decide +kernel) (by decide +kernel) (by decide +kernel) (by decide +kernel) ?_
    exact st_together hC hI hS hl hi hL ht knext
  · refine lv_tableIn (x := nI 15) (off := 980) (tgt := 1029) hx hb dL_law_49 (by decide +kernel) (by decide +kernel) (by decide +kernel) (by decide +kernel) ?_
    exact st_common hC hI hS hl hi hL ht knext
  · refine lv_tableIn (x := nI 16) (off := 1048) (tgt := 1097) hx hb dL_law_49 (by decide +kernel) (by decide +kernel) (by decide +kernel) (by decide +kernel) ?_
    exact st_without hC hI hS hl hi hL ht knext
  · refine lv_tableIn (x := nI 17) (off := 1116) (tgt := 1165) hx hb dL_law_49 (by decide +kernel) (by decide +kernel) (by decide +kernel) (by decide +kernel) ?_
    exact st_register hC hI hS hl hi hL ht knext
  · refine lv_tableIn (x := nI 18) (off := 1184) (tgt := 1233) hx hb dL_law_49 (by decide +kernel) (by decide +kernel) (by decide +kernel) (by decide +kernel) ?_
    exact st_byRegisters hC hI hS hl hi hL ht knext
  · refine lv_tableIn (x := nI 19) (off := 1239) (tgt := 1288) hx hb dL_law_49 (by decide +kernel) (by decide +kernel) (by decide +kernel) (by decide +kernel) ?_
    exact st_recent hC hI hS hl hi hL ht knext
  · refine lv_tableIn (x := nI 20) (off := 1306) (tgt := 1355) hx hb dL_law_49 (by decide +kernel) (by decide +kernel) (by decide +kernel) (by decide +kernel) ?_
    exact st_level hC hI hS hl hi hL ht knext
  · refine lv_tableIn (x := nI 21) (off := 1362) (tgt := 1411) hx hb dL_law_49 (by decide +kernel) (by decide +kernel) (by decide +kernel) (by decide +kernel) ?_
    exact st_sampled hC hI hS hl hi hL ht knext
  · refine lv_tableIn (x := nI 22) (off := 1418) (tgt := 1467) hx hb dL_law_49 (by decide +kernel) (by decide +kernel) (by decide +kernel) (by decide +kernel) ?_
    exact st_sampledAt hC hI hS hl hi hL ht knext
  · refine lv_tableIn (x := nI 23) (off := 1486) (tgt := 1535) hx hb dL_law_49 (by decide +kernel) (by decide +kernel) (by decide +kernel) (by decide +kernel) ?_
    exact st_bySample hC hI hS hl hi hL ht knext
  · refine lv_tableOut (tgt := 1591) hx hb dL_law_49 (Or.inr (by rw [nI_toInt (by omega)]; omega)) (by decide +kernel) ?_
    exact knext _ _ _ _ _ hI.next hS hl
set_option maxHeartbeats 4000000 in
set_option maxRecDepth 100000 in
theorem lw_loop9 {p : Program} {l : Launch} {e : Env} {s : State} {m : MethodId} {below : List Frame} {meth : Method} {c : Code} {Q : State → Prop} {D : va_G} {cy : Nat → ClassId} {t0 : Nat} {A : Nat → Prop} {sb L : Nat} {xs : Nat → Int32} {aO a4 aB o2 gR o3 gT oA gA oB gB oC gC qL qM a5 mD mI mZ mK mO mE mR mF k : Nat} {ab : Nat → Nat} (hC : LC p l s m c D cy t0 A sb L xs) (hL : L ≤ 2561) (kend : ∀ (H : Heap) (locs : List Loc) (ls : Array Slot) (cells slots : Nat), cells ≤ 601024 → slots ≤ 7293000 → va_S A s.heap H locs → W p l e room_1 s m #[Value.ref sb] below meth c H locs cells slots Q (F0 m 1597 ls [])) : ∀ (n9 t : Nat), 513 - t < n9 → t ≤ 512 → ∀ (H : Heap) (locs : List Loc) (ls : Array Slot) (cells slots : Nat), LI D cy A aO a4 aB o2 gR o3 gT oA gA oB gB oC gC qL qM a5 mD mI mZ mK mO mE mR mF k ab t H cells slots → va_S A s.heap H locs → lv_has ls 8 [(0, .ref sb), (1, .ref a4), (2, .ref a5), (3, .ref aO), (4, .int (nI (1 + 5 * t)))] → W p l e room_1 s m #[Value.ref sb] below meth c H locs cells slots Q (F0 m 33 ls []) := by
  intro n9
  induction n9 with
  | zero => intro t hm; exact absurd hm (Nat.not_lt_zero _)
  | succ n9 ih =>
    intro t hm ht H locs ls cells slots hI hS hl
    have hC0 := hC
    obtain ⟨hx, hb, hml, hts, hown, hE, hA, hX, hsb, hbA, hlf⟩ := hC0
    refine lv_iload hx hb dL_law_33 (lv_at hl 4 rfl) ?_
    refine lv_aload_n hx hb dL_law_35 rfl (lv_at hl 0 rfl) ?_
    refine va_slen hx hb hX hsb hbA hS dL_law_36 ?_
    refine lv_eqi (z := nI L) rfl ?_
    refine lv_iconst (v := nI 5) hx hb dL_law_37 (by decide) ?_
    refine lv_isub hx hb dL_law_38 ?_
    refine lv_icmp_gt (tgt := 1597) hx hb dL_law_39 (by decide) (fun c1 => ?_) (fun c1 => ?_)
    · obtain ⟨now, zA, zB, zC, nl, lv0, sz0, th, kM, oM, fo, fR, fT, fA, fB, fC, fL, fG, G, It, Zt, fK, fO, fE, fQ, fF, lst, σ, hR, hP, hD⟩ := hI
      obtain ⟨r1, r2⟩ := hR.room ht
      exact kend _ _ _ _ _ (by omega) (by omega) hS
    · have hi : 1 + 5 * t + 5 ≤ L := by
        rcases Nat.lt_or_ge L (1 + 5 * t + 5) with q | q
        · exact absurd ((len_gt hL (by omega)).mpr q) c1
        · exact q
      refine lv_aload_n hx hb dL_law_42 rfl (lv_at hl 0 rfl) ?_
      refine lv_iload hx hb dL_law_43 (lv_at hl 4 rfl) ?_
      refine va_sld hx hb hX hsb hbA hS (vp_in_nI (by omega) (by omega)) dL_law_45 ?_
      rw [nI_clamp (by omega)]
      refine lv_bipush (v := nI 31) hx hb dL_law_46 (by decide) ?_
      refine lv_iand hx hb dL_law_48 ?_
      refine lw_turn hC hI hS hl hi hL ht (fun H locs ls cells slots hI hS hl => ?_)
      refine lv_iinc (v := nI (1 + 5 * t + 5)) (lv' := [(4, .int (nI (1 + 5 * t + 5))), (0, .ref sb), (1, .ref a4), (2, .ref a5), (3, .ref aO)]) hx hb dL_law_1591 hl (k := 4) rfl (nI_add _ _) (by decide) rfl (fun ls hl => ?_)
      refine lv_goto (tgt := 33) hx hb dL_law_1594 (by decide) ?_
      exact ih (t + 1) (by omega) (by omega) H locs ls cells slots hI hS (by rw [show 1 + 5 * (t + 1) = 1 + 5 * t + 5 by omega]; exact lv_sub hl [1, 2, 3, 4, 0] rfl)

end XX9G
