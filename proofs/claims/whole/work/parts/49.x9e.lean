section XX9E
theorem line_ok {a b c : Int32} (h : lineOK a b c = true) : ∃ f s m : Nat, a = nI f ∧ b = nI s ∧ c = nI m ∧ 1 ≤ s ∧ s ≤ 999 ∧ 1 ≤ m ∧ m ≤ 60 ∧ f + s * (m - 1) < 100000 := by
  unfold lineOK at h
  simp only [Bool.and_eq_true, decide_eq_true_eq] at h
  obtain ⟨h1, h2, h3, h4, h5, h6⟩ := h
  rcases p_it a with q | ⟨f, hf, rfl⟩
  · rw [h1] at q; cases q
  rcases p_rg b 999 (by omega) with q | ⟨s, s1, s2, rfl⟩
  · exact absurd q (fun q => q.elim h2 h3)
  rcases p_rg c 60 (by omega) with q | ⟨m, m1, m2, rfl⟩
  · exact absurd q (fun q => q.elim h4 h5)
  rcases Nat.lt_or_ge (f + s * (m - 1)) 100000 with q | q
  · exact ⟨f, s, m, rfl, rfl, rfl, s1, s2, m1, m2, q⟩
  · have hb := Nat.mul_le_mul s2 (show m - 1 ≤ 59 by omega)
    have e0 : nI m - 1 = nI (m - 1) := by
      obtain ⟨j, rfl⟩ : ∃ j, m = j + 1 := ⟨m - 1, by omega⟩
      rw [← nI_add j 1, show j + 1 - 1 = j by omega]
      exact Int32.add_sub_cancel _ _
    have e : nI f + nI s * (nI m - 1) = nI (f + s * (m - 1)) := by rw [e0, pk_mul, nI_add]
    rw [e, isIt_ge q (by omega)] at h6
    cases h6
theorem line_hi {f s m : Nat} (hm1 : 1 ≤ m) (h : f + s * (m - 1) < 100000) : ∀ i, i < m → f + i * s < 100000 := fun i hi => by
  have h1 := Nat.mul_le_mul_right s (show i ≤ m - 1 by omega)
  rw [Nat.mul_comm s (m - 1)] at h
  omega
set_option maxHeartbeats 8000000 in
set_option maxRecDepth 100000 in
theorem st_addLine {p : Program} {l : Launch} {e : Env} {s : State} {m : MethodId} {below : List Frame} {meth : Method} {c : Code} {H : Heap} {locs : List Loc} {cells slots : Nat} {Q : State → Prop} {ls : Array Slot} {D : va_G} {cy : Nat → ClassId} {t0 : Nat} {A : Nat → Prop} {sb L : Nat} {xs : Nat → Int32} {aO a4 aB o2 gR o3 gT oA gA oB gB oC gC qL qM a5 mD mI mZ mK mO mE mR mF k t i : Nat} {ab : Nat → Nat} (hC : LC p l s m c D cy t0 A sb L xs) (hI : LI D cy A aO a4 aB o2 gR o3 gT oA gA oB gB oC gC qL qM a5 mD mI mZ mK mO mE mR mF k ab t H cells slots) (hS : va_S A s.heap H locs) (hl : lv_has ls 8 [(0, .ref sb), (1, .ref a4), (2, .ref a5), (3, .ref aO), (4, .int (nI i))]) (hi : i + 5 ≤ L) (hL : L ≤ 2561) (ht : t ≤ 512) (knext : ∀ (H : Heap) (locs : List Loc) (ls : Array Slot) (cells slots : Nat), LI D cy A aO a4 aB o2 gR o3 gT oA gA oB gB oC gC qL qM a5 mD mI mZ mK mO mE mR mF k ab (t + 1) H cells slots → va_S A s.heap H locs → lv_has ls 8 [(0, .ref sb), (1, .ref a4), (2, .ref a5), (3, .ref aO), (4, .int (nI i))] → W p l e room_1 s m #[Value.ref sb] below meth c H locs cells slots Q (F0 m 1591 ls [])) : W p l e room_1 s m #[Value.ref sb] below meth c H locs cells slots Q (F0 m 235 ls []) := by
  obtain ⟨hx, hb, hml, hts, hown, hE, hA, hX, hsb, hbA, hlf⟩ := hC
  obtain ⟨now, zA, zB, zC, nl, lv0, sz0, th, kM, oM, fo, fR, fT, fA, fB, fC, fL, fG, G, It, Zt, fK, fO, fE, fQ, fF, lst, σ, hR, hP, hD⟩ := hI
  obtain ⟨hrm1, hrm2⟩ := hR.room ht
  have hk2 := hR.1.1
  have hk := hR.1.2
  have hBR := hR.2.2.1
  have hMV := hR.2.2.2.1
  have hML := hR.2.2.2.2.1
  have hCV := hR.2.2.2.2.2.1
  have hF9 := hR.2.2.2.2.2.2.1
  have hnw := hR.2.1
  rcases p_bk (xs (i + 1)) with hbi | ⟨b, hb6, hp1⟩
  · refine lv_aload_n hx hb dL_law_235 rfl (lv_at hl 1 rfl) ?_
    refine lv_aload_n hx hb dL_law_236 rfl (lv_at hl 0 rfl) ?_
    refine lv_iload hx hb dL_law_237 (lv_at hl 4 rfl) ?_
    refine lv_iconst (v := nI 1) hx hb dL_law_239 (by decide) ?_
    refine lv_iadd hx hb dL_law_240 ?_
    refine lv_eqi (z := nI (i + 1)) (nI_add _ _) ?_
    refine va_sld hx hb hX hsb hbA hS (vp_in_nI (by omega) (by omega)) dL_law_241 ?_
    rw [nI_clamp (by omega)]
    refine lv_aload_n hx hb dL_law_242 rfl (lv_at hl 0 rfl) ?_
    refine lv_iload hx hb dL_law_243 (lv_at hl 4 rfl) ?_
    refine lv_iconst (v := nI 2) hx hb dL_law_245 (by decide) ?_
    refine lv_iadd hx hb dL_law_246 ?_
    refine lv_eqi (z := nI (i + 2)) (nI_add _ _) ?_
    refine va_sld hx hb hX hsb hbA hS (vp_in_nI (by omega) (by omega)) dL_law_247 ?_
    rw [nI_clamp (by omega)]
    refine lv_aload_n hx hb dL_law_248 rfl (lv_at hl 0 rfl) ?_
    refine lv_iload hx hb dL_law_249 (lv_at hl 4 rfl) ?_
    refine lv_iconst (v := nI 3) hx hb dL_law_251 (by decide) ?_
    refine lv_iadd hx hb dL_law_252 ?_
    refine lv_eqi (z := nI (i + 3)) (nI_add _ _) ?_
    refine va_sld hx hb hX hsb hbA hS (vp_in_nI (by omega) (by omega)) dL_law_253 ?_
    rw [nI_clamp (by omega)]
    refine lv_aload_n hx hb dL_law_254 rfl (lv_at hl 0 rfl) ?_
    refine lv_iload hx hb dL_law_255 (lv_at hl 4 rfl) ?_
    refine lv_iconst (v := nI 4) hx hb dL_law_257 (by decide) ?_
    refine lv_iadd hx hb dL_law_258 ?_
    refine lv_eqi (z := nI (i + 4)) (nI_add _ _) ?_
    refine va_sld hx hb hX hsb hbA hS (vp_in_nI (by omega) (by omega)) dL_law_259 ?_
    rw [nI_clamp (by omega)]
    refine lv_aload_n hx hb dL_law_260 rfl (lv_at hl 3 rfl) ?_
    refine xcWiT (wr := [(o2, .inr (2, [.ref gR])), (gR, xI cy 16 fR), (o3, .inr (3, [.ref gT, .int lv0, .int sz0])), (gT, xI cy 25 fT), (oA, .inr (1, [.ref gA, .int (nI k), .int (nI zA)])), (gA, xI cy 32 fA), (oB, .inr (1, [.ref gB, .int (nI k), .int (nI zB)])), (gB, xI cy 32 fB), (oC, .inr (1, [.ref gC, .int (nI k), .int (nI zC)])), (gC, xI cy 32 fC), (qL, xI cy 60 fL), (qM, xI cy 60 fG), (a5, .inr (5, [.int th, .int (nI k), .int (nI now), .ref mD, .ref mI, .ref mZ, .int (nI nl), .ref mK, .ref mO, .ref mE, .ref mR, .ref mF, .int kM, .int oM])), (mD, xI cy 600000 G), (mI, xI cy 100000 It), (mZ, xZ cy 100000 Zt), (mK, xI cy 32 fK), (mO, xI cy 32 fO), (mE, xI cy 32 fE), (mR, xI cy 16 fQ), (mF, xI cy 17 fF)]) (vx_runSW (As := [.ref a4, .int (xs (i + 1)), .int (xs (i + 2)), .int (xs (i + 3)), .int (xs (i + 4)), .ref aO]) (rest := []) ⟨hx, hb, hml, hown, hts⟩ ((w_addLineT l D cy t0 aO a4 fo _ _ _ _ _ _ (c_addLineT l hlf D cy t0 a4 aB o2 o3 oA oB oC qL qM k now ab (xs (i + 1)) (xs (i + 2)) (xs (i + 3)) (xs (i + 4)) hbi)) H.size) (vx_cwSW 6 hts gL_law_L_addLine rfl rfl rfl (by decide +kernel) ⟨Nat.le_of_ble_eq_true rfl, Nat.le_of_ble_eq_true rfl⟩) (xPw.give (wc := [(aO, xL cy 1 fo), (a4, .inr (4, [.ref aB, .ref o2, .ref o3, .ref oA, .ref oB, .ref oC, .ref qL, .ref qM, .int (nI k), .int (nI now)])), (aB, xB cy 6 (fun j => some (ab j)))]) hE hS hA hP hD [0, 1, 2] (by decide) (xtC _ _ rfl)) rfl rfl hl.1 rfl (lv_room (Nat.le_of_ble_eq_true rfl)) dL_law_261 ⟨(show cells + 1 ≤ 601024 by omega), (show slots + 6 ≤ 7293000 by omega)⟩) hP hD hS hA [0, 1, 2] [3, 4, 5, 6, 7, 8, 9, 10, 11, 12, 13, 14, 15, 16, 17, 18, 19, 20, 21, 22, 23] rfl rfl (by decide) (by decide) (fun r_2 u_4 H locs hr_3 hP hD hS => ?_)
    obtain rfl : r_2 = nI 1 := hr_3
    have hP : xP D ([(o2, .inr (2, [.ref gR])), (gR, xI cy 16 fR), (o3, .inr (3, [.ref gT, .int lv0, .int sz0])), (gT, xI cy 25 fT), (oA, .inr (1, [.ref gA, .int (nI k), .int (nI zA)])), (gA, xI cy 32 fA), (oB, .inr (1, [.ref gB, .int (nI k), .int (nI zB)])), (gB, xI cy 32 fB), (oC, .inr (1, [.ref gC, .int (nI k), .int (nI zC)])), (gC, xI cy 32 fC), (qL, xI cy 60 fL), (qM, xI cy 60 fG), (a5, .inr (5, [.int th, .int (nI k), .int (nI now), .ref mD, .ref mI, .ref mZ, .int (nI nl), .ref mK, .ref mO, .ref mE, .ref mR, .ref mF, .int kM, .int oM])), (mD, xI cy 600000 G), (mI, xI cy 100000 It), (mZ, xZ cy 100000 Zt), (mK, xI cy 32 fK), (mO, xI cy 32 fO), (mE, xI cy 32 fE), (mR, xI cy 16 fQ), (mF, xI cy 17 fF), (aO, xL cy 1 fo), (a4, .inr (4, [.ref aB, .ref o2, .ref o3, .ref oA, .ref oB, .ref oC, .ref qL, .ref qM, .int (nI k), .int (nI now)])), (aB, xB cy 6 (fun j => some (ab j)))] ++ bks cy ab σ b06) H := hP
    have hD : va_D A ([(o2, .inr (2, [.ref gR])), (gR, xI cy 16 fR), (o3, .inr (3, [.ref gT, .int lv0, .int sz0])), (gT, xI cy 25 fT), (oA, .inr (1, [.ref gA, .int (nI k), .int (nI zA)])), (gA, xI cy 32 fA), (oB, .inr (1, [.ref gB, .int (nI k), .int (nI zB)])), (gB, xI cy 32 fB), (oC, .inr (1, [.ref gC, .int (nI k), .int (nI zC)])), (gC, xI cy 32 fC), (qL, xI cy 60 fL), (qM, xI cy 60 fG), (a5, .inr (5, [.int th, .int (nI k), .int (nI now), .ref mD, .ref mI, .ref mZ, .int (nI nl), .ref mK, .ref mO, .ref mE, .ref mR, .ref mF, .int kM, .int oM])), (mD, xI cy 600000 G), (mI, xI cy 100000 It), (mZ, xZ cy 100000 Zt), (mK, xI cy 32 fK), (mO, xI cy 32 fO), (mE, xI cy 32 fE), (mR, xI cy 16 fQ), (mF, xI cy 17 fF), (aO, xL cy 1 fo), (a4, .inr (4, [.ref aB, .ref o2, .ref o3, .ref oA, .ref oB, .ref oC, .ref qL, .ref qM, .int (nI k), .int (nI now)])), (aB, xB cy 6 (fun j => some (ab j)))] ++ bks cy ab σ b06) := hD
    refine lv_istore (lv' := [(5, .int (nI 1)), (0, .ref sb), (1, .ref a4), (2, .ref a5), (3, .ref aO), (4, .int (nI i))]) hx hb dL_law_264 hl (by decide) rfl (fun ls hl => ?_)
    refine lv_aload_n hx hb dL_law_266 rfl (lv_at hl 3 rfl) ?_
    refine lv_aload_n hx hb dL_law_267 rfl (lv_at hl 1 rfl) ?_
    refine lv_iload hx hb dL_law_268 (lv_at hl 5 rfl) ?_
    refine lv_iconst (v := nI 1) hx hb dL_law_270 (by decide) ?_
    refine lv_iadd hx hb dL_law_271 ?_
    refine lv_eqi (z := nI (i + 1)) (nI_add _ _) ?_
    refine va_sld hx hb hX hsb hbA hS (vp_in_nI (by omega) (by omega)) dL_law_272 ?_
    rw [nI_clamp (by omega)]
    refine lv_aload_n hx hb dL_law_273 rfl (lv_at hl 1 rfl) ?_
    refine lv_iload hx hb dL_law_274 (lv_at hl 5 rfl) ?_
    refine lv_iconst (v := nI 2) hx hb dL_law_276 (by decide) ?_
    refine lv_iadd hx hb dL_law_277 ?_
    refine lv_eqi (z := nI (i + 2)) (nI_add _ _) ?_
    refine va_sld hx hb hX hsb hbA hS (vp_in_nI (by omega) (by omega)) dL_law_278 ?_
    rw [nI_clamp (by omega)]
    refine lv_aload_n hx hb dL_law_279 rfl (lv_at hl 1 rfl) ?_
    refine lv_iload hx hb dL_law_280 (lv_at hl 5 rfl) ?_
    refine lv_iconst (v := nI 3) hx hb dL_law_282 (by decide) ?_
    refine lv_iadd hx hb dL_law_283 ?_
    refine lv_eqi (z := nI (i + 3)) (nI_add _ _) ?_
    refine va_sld hx hb hX hsb hbA hS (vp_in_nI (by omega) (by omega)) dL_law_284 ?_
    rw [nI_clamp (by omega)]
    refine lv_aload_n hx hb dL_law_285 rfl (lv_at hl 1 rfl) ?_
    refine lv_iload hx hb dL_law_286 (lv_at hl 5 rfl) ?_
    refine lv_iconst (v := nI 4) hx hb dL_law_288 (by decide) ?_
    refine lv_iadd hx hb dL_law_289 ?_
    refine lv_eqi (z := nI (i + 4)) (nI_add _ _) ?_
    refine va_sld hx hb hX hsb hbA hS (vp_in_nI (by omega) (by omega)) dL_law_290 ?_
    rw [nI_clamp (by omega)]
    refine xcWiT (wr := [(o2, .inr (2, [.ref gR])), (gR, xI cy 16 fR), (o3, .inr (3, [.ref gT, .int lv0, .int sz0])), (gT, xI cy 25 fT), (oA, .inr (1, [.ref gA, .int (nI k), .int (nI zA)])), (gA, xI cy 32 fA), (oB, .inr (1, [.ref gB, .int (nI k), .int (nI zB)])), (gB, xI cy 32 fB), (oC, .inr (1, [.ref gC, .int (nI k), .int (nI zC)])), (gC, xI cy 32 fC), (qL, xI cy 60 fL), (qM, xI cy 60 fG), (mD, xI cy 600000 G), (mI, xI cy 100000 It), (mZ, xZ cy 100000 Zt), (mK, xI cy 32 fK), (mO, xI cy 32 fO), (mE, xI cy 32 fE), (mR, xI cy 16 fQ), (mF, xI cy 17 fF), (aO, xL cy 1 fo), (a4, .inr (4, [.ref aB, .ref o2, .ref o3, .ref oA, .ref oB, .ref oC, .ref qL, .ref qM, .int (nI k), .int (nI now)])), (aB, xB cy 6 (fun j => some (ab j)))]) (va_runV (As := [.int (xs (i + 1)), .int (xs (i + 2)), .int (xs (i + 3)), .int (xs (i + 4))]) (rest := []) ⟨hx, hb, hml, hown, hts⟩ ((m_addLineT l D cy t0 a5 mD mI mZ mK mO mE mR mF k th (nI now) (nI nl) kM oM (xs (i + 1)) (xs (i + 2)) (xs (i + 3)) (xs (i + 4)) hbi) H.size) (cwV 4 hts gL_law_X5_addLine rfl rfl rfl (by decide +kernel) ⟨Nat.le_of_ble_eq_true rfl, Nat.le_of_ble_eq_true rfl⟩) (xPw.giveV (wc := [(a5, .inr (5, [.int th, .int (nI k), .int (nI now), .ref mD, .ref mI, .ref mZ, .int (nI nl), .ref mK, .ref mO, .ref mE, .ref mR, .ref mF, .int kM, .int oM]))]) hE hS hA hP hD [12] (by decide) (xtC _ _ rfl) 12 5 rfl rfl) rfl rfl hl.1 rfl (lv_room (Nat.le_of_ble_eq_true rfl)) dL_law_291 ⟨(show (cells + 1) + 0 ≤ 601024 by omega), (show (slots + 6) + 0 ≤ 7293000 by omega)⟩) hP hD hS hA [12] [0, 1, 2, 3, 4, 5, 6, 7, 8, 9, 10, 11, 13, 14, 15, 16, 17, 18, 19, 20, 21, 22, 23] rfl rfl (by decide) (by decide) (fun r_6 u_8 H locs hr_7 hP hD hS => ?_)
    have hq9 := hr_7
    have hP : xP D ([(o2, .inr (2, [.ref gR])), (gR, xI cy 16 fR), (o3, .inr (3, [.ref gT, .int lv0, .int sz0])), (gT, xI cy 25 fT), (oA, .inr (1, [.ref gA, .int (nI k), .int (nI zA)])), (gA, xI cy 32 fA), (oB, .inr (1, [.ref gB, .int (nI k), .int (nI zB)])), (gB, xI cy 32 fB), (oC, .inr (1, [.ref gC, .int (nI k), .int (nI zC)])), (gC, xI cy 32 fC), (qL, xI cy 60 fL), (qM, xI cy 60 fG), (mD, xI cy 600000 G), (mI, xI cy 100000 It), (mZ, xZ cy 100000 Zt), (mK, xI cy 32 fK), (mO, xI cy 32 fO), (mE, xI cy 32 fE), (mR, xI cy 16 fQ), (mF, xI cy 17 fF), (aO, xL cy 1 fo), (a4, .inr (4, [.ref aB, .ref o2, .ref o3, .ref oA, .ref oB, .ref oC, .ref qL, .ref qM, .int (nI k), .int (nI now)])), (aB, xB cy 6 (fun j => some (ab j))), (a5, .inr (5, [.int (nI 1), .int (nI k), .int (nI now), .ref mD, .ref mI, .ref mZ, .int (nI nl), .ref mK, .ref mO, .ref mE, .ref mR, .ref mF, .int kM, .int oM]))] ++ bks cy ab σ b06) H := hP
    have hD : va_D A ([(o2, .inr (2, [.ref gR])), (gR, xI cy 16 fR), (o3, .inr (3, [.ref gT, .int lv0, .int sz0])), (gT, xI cy 25 fT), (oA, .inr (1, [.ref gA, .int (nI k), .int (nI zA)])), (gA, xI cy 32 fA), (oB, .inr (1, [.ref gB, .int (nI k), .int (nI zB)])), (gB, xI cy 32 fB), (oC, .inr (1, [.ref gC, .int (nI k), .int (nI zC)])), (gC, xI cy 32 fC), (qL, xI cy 60 fL), (qM, xI cy 60 fG), (mD, xI cy 600000 G), (mI, xI cy 100000 It), (mZ, xZ cy 100000 Zt), (mK, xI cy 32 fK), (mO, xI cy 32 fO), (mE, xI cy 32 fE), (mR, xI cy 16 fQ), (mF, xI cy 17 fF), (aO, xL cy 1 fo), (a4, .inr (4, [.ref aB, .ref o2, .ref o3, .ref oA, .ref oB, .ref oC, .ref qL, .ref qM, .int (nI k), .int (nI now)])), (aB, xB cy 6 (fun j => some (ab j))), (a5, .inr (5, [.int (nI 1), .int (nI k), .int (nI now), .ref mD, .ref mI, .ref mZ, .int (nI nl), .ref mK, .ref mO, .ref mE, .ref mR, .ref mF, .int kM, .int oM]))] ++ bks cy ab σ b06) := hD
    refine lv_istore (lv' := [(6, .int r_6), (5, .int (nI 1)), (0, .ref sb), (1, .ref a4), (2, .ref a5), (3, .ref aO), (4, .int (nI i))]) hx hb dL_law_294 hl (by decide) rfl (fun ls hl => ?_)
    refine lv_aload_n hx hb dL_law_296 rfl (lv_at hl 4 rfl) ?_
    refine xcRi (va_runV (As := []) (rest := []) ⟨hx, hb, hml, hown, hts⟩ (m_thrown l D cy t0 a5 mD mI mZ mK mO mE mR mF k (nI 1) (nI now) (nI nl) kM oM) (cwV 0 hts gL_law_X5_thrown rfl rfl rfl (by decide +kernel) ⟨Nat.le_of_ble_eq_true rfl, Nat.le_of_ble_eq_true rfl⟩) (xPr.giveV (wc := [(a5, .inr (5, [.int (nI 1), .int (nI k), .int (nI now), .ref mD, .ref mI, .ref mZ, .int (nI nl), .ref mK, .ref mO, .ref mE, .ref mR, .ref mF, .int kM, .int oM]))]) hE hS hP [23] (xfm _ _ (xtC _ _ rfl)) 23 5 rfl rfl) rfl rfl hl.1 rfl (lv_room (Nat.le_of_ble_eq_true rfl)) dL_law_297 ⟨(show ((cells + 1) + 0) + 0 ≤ 601024 by omega), (show ((slots + 6) + 0) + 0 ≤ 7293000 by omega)⟩) (fun r_10 hr_11 => ?_)
    obtain rfl : r_10 = nI 1 := hr_11
    refine lv_iload hx hb dL_law_300 (lv_at hl 1 rfl) ?_
    refine xb_icmp_eq (tgt := 307) (a := 1) (b := 1) (by omega) (by omega) hx hb dL_law_302 (by decide) (fun c_13 => ?_) (fun c_13 => ?_)
    · refine lv_iload hx hb dL_law_307 (lv_at hl 1 rfl) ?_
      refine xb_if_ne (tgt := 324) (a := 1) (by omega) hx hb dL_law_309 (by decide) (fun c_14 => ?_) (fun c_14 => ?_)
      · refine lv_goto (tgt := 1591) hx hb dL_law_324 (by decide) ?_
        obtain ⟨hP, hD⟩ := xsubT (ps' := [(aO, xL cy 1 fo), (a4, .inr (4, [.ref aB, .ref o2, .ref o3, .ref oA, .ref oB, .ref oC, .ref qL, .ref qM, .int (nI k), .int (nI now)])), (aB, xB cy 6 (fun j => some (ab j))), (o2, .inr (2, [.ref gR])), (gR, xI cy 16 fR), (o3, .inr (3, [.ref gT, .int lv0, .int sz0])), (gT, xI cy 25 fT), (oA, .inr (1, [.ref gA, .int (nI k), .int (nI zA)])), (gA, xI cy 32 fA), (oB, .inr (1, [.ref gB, .int (nI k), .int (nI zB)])), (gB, xI cy 32 fB), (oC, .inr (1, [.ref gC, .int (nI k), .int (nI zC)])), (gC, xI cy 32 fC), (qL, xI cy 60 fL), (qM, xI cy 60 fG), (a5, .inr (5, [.int (nI 1), .int (nI k), .int (nI now), .ref mD, .ref mI, .ref mZ, .int (nI nl), .ref mK, .ref mO, .ref mE, .ref mR, .ref mF, .int kM, .int oM])), (mD, xI cy 600000 G), (mI, xI cy 100000 It), (mZ, xZ cy 100000 Zt), (mK, xI cy 32 fK), (mO, xI cy 32 fO), (mE, xI cy 32 fE), (mR, xI cy 16 fQ), (mF, xI cy 17 fF)]) [20, 21, 22, 0, 1, 2, 3, 4, 5, 6, 7, 8, 9, 10, 11, 23, 12, 13, 14, 15, 16, 17, 18, 19] hP hD rfl (by decide)
        exact knext _ _ _ _ _ ⟨now, zA, zB, zC, nl, lv0, sz0, (nI 1), kM, oM, fo, fR, fT, fA, fB, fC, fL, fG, G, It, Zt, fK, fO, fE, fQ, fF, lst, σ, hR.next (by omega) (by omega), hP, hD⟩ hS (lv_sub hl [2, 3, 4, 5, 6] rfl)
      · exact absurd c_14 (by omega)
    · exact absurd c_13 (by omega)
  · rcases hlk : lineOK (xs (i + 2)) (xs (i + 3)) (xs (i + 4)) with _ | _
    · have hbad := hlk
      refine lv_aload_n hx hb dL_law_235 rfl (lv_at hl 1 rfl) ?_
      refine lv_aload_n hx hb dL_law_236 rfl (lv_at hl 0 rfl) ?_
      refine lv_iload hx hb dL_law_237 (lv_at hl 4 rfl) ?_
      refine lv_iconst (v := nI 1) hx hb dL_law_239 (by decide) ?_
      refine lv_iadd hx hb dL_law_240 ?_
      refine lv_eqi (z := nI (i + 1)) (nI_add _ _) ?_
      refine va_sld hx hb hX hsb hbA hS (vp_in_nI (by omega) (by omega)) dL_law_241 ?_
      rw [nI_clamp (by omega)]
      refine lv_eqi (z := nI b) hp1 ?_
      refine lv_aload_n hx hb dL_law_242 rfl (lv_at hl 0 rfl) ?_
      refine lv_iload hx hb dL_law_243 (lv_at hl 4 rfl) ?_
      refine lv_iconst (v := nI 2) hx hb dL_law_245 (by decide) ?_
      refine lv_iadd hx hb dL_law_246 ?_
      refine lv_eqi (z := nI (i + 2)) (nI_add _ _) ?_
      refine va_sld hx hb hX hsb hbA hS (vp_in_nI (by omega) (by omega)) dL_law_247 ?_
      rw [nI_clamp (by omega)]
      refine lv_aload_n hx hb dL_law_248 rfl (lv_at hl 0 rfl) ?_
      refine lv_iload hx hb dL_law_249 (lv_at hl 4 rfl) ?_
      refine lv_iconst (v := nI 3) hx hb dL_law_251 (by decide) ?_
      refine lv_iadd hx hb dL_law_252 ?_
      refine lv_eqi (z := nI (i + 3)) (nI_add _ _) ?_
      refine va_sld hx hb hX hsb hbA hS (vp_in_nI (by omega) (by omega)) dL_law_253 ?_
      rw [nI_clamp (by omega)]
      refine lv_aload_n hx hb dL_law_254 rfl (lv_at hl 0 rfl) ?_
      refine lv_iload hx hb dL_law_255 (lv_at hl 4 rfl) ?_
      refine lv_iconst (v := nI 4) hx hb dL_law_257 (by decide) ?_
      refine lv_iadd hx hb dL_law_258 ?_
      refine lv_eqi (z := nI (i + 4)) (nI_add _ _) ?_
      refine va_sld hx hb hX hsb hbA hS (vp_in_nI (by omega) (by omega)) dL_law_259 ?_
      rw [nI_clamp (by omega)]
      refine lv_aload_n hx hb dL_law_260 rfl (lv_at hl 3 rfl) ?_
      refine xcWiT (wr := [(o2, .inr (2, [.ref gR])), (gR, xI cy 16 fR), (o3, .inr (3, [.ref gT, .int lv0, .int sz0])), (gT, xI cy 25 fT), (oA, .inr (1, [.ref gA, .int (nI k), .int (nI zA)])), (gA, xI cy 32 fA), (oB, .inr (1, [.ref gB, .int (nI k), .int (nI zB)])), (gB, xI cy 32 fB), (oC, .inr (1, [.ref gC, .int (nI k), .int (nI zC)])), (gC, xI cy 32 fC), (qL, xI cy 60 fL), (qM, xI cy 60 fG), (a5, .inr (5, [.int th, .int (nI k), .int (nI now), .ref mD, .ref mI, .ref mZ, .int (nI nl), .ref mK, .ref mO, .ref mE, .ref mR, .ref mF, .int kM, .int oM])), (mD, xI cy 600000 G), (mI, xI cy 100000 It), (mZ, xZ cy 100000 Zt), (mK, xI cy 32 fK), (mO, xI cy 32 fO), (mE, xI cy 32 fE), (mR, xI cy 16 fQ), (mF, xI cy 17 fF)]) (vx_runSW (As := [.ref a4, .int (nI b), .int (xs (i + 2)), .int (xs (i + 3)), .int (xs (i + 4)), .ref aO]) (rest := []) ⟨hx, hb, hml, hown, hts⟩ ((w_addLineV l D cy t0 aO a4 fo _ _ _ _ _ _ (c_addLineV l hlf D cy t0 a4 aB o2 o3 oA oB oC qL qM k now ab b (xs (i + 2)) (xs (i + 3)) (xs (i + 4)) hb6 hbad)) H.size) (vx_cwSW 6 hts gL_law_L_addLine rfl rfl rfl (by decide +kernel) ⟨Nat.le_of_ble_eq_true rfl, Nat.le_of_ble_eq_true rfl⟩) (xPw.give (wc := [(aO, xL cy 1 fo), (a4, .inr (4, [.ref aB, .ref o2, .ref o3, .ref oA, .ref oB, .ref oC, .ref qL, .ref qM, .int (nI k), .int (nI now)])), (aB, xB cy 6 (fun j => some (ab j)))]) hE hS hA hP hD [0, 1, 2] (by decide) (xtC _ _ rfl)) rfl rfl hl.1 rfl (lv_room (Nat.le_of_ble_eq_true rfl)) dL_law_261 ⟨(show cells + 1 ≤ 601024 by omega), (show slots + 6 ≤ 7293000 by omega)⟩) hP hD hS hA [0, 1, 2] [3, 4, 5, 6, 7, 8, 9, 10, 11, 12, 13, 14, 15, 16, 17, 18, 19, 20, 21, 22, 23] rfl rfl (by decide) (by decide) (fun r_16 u_18 H locs hr_17 hP hD hS => ?_)
      obtain rfl : r_16 = nI 2 := hr_17
      have hP : xP D ([(o2, .inr (2, [.ref gR])), (gR, xI cy 16 fR), (o3, .inr (3, [.ref gT, .int lv0, .int sz0])), (gT, xI cy 25 fT), (oA, .inr (1, [.ref gA, .int (nI k), .int (nI zA)])), (gA, xI cy 32 fA), (oB, .inr (1, [.ref gB, .int (nI k), .int (nI zB)])), (gB, xI cy 32 fB), (oC, .inr (1, [.ref gC, .int (nI k), .int (nI zC)])), (gC, xI cy 32 fC), (qL, xI cy 60 fL), (qM, xI cy 60 fG), (a5, .inr (5, [.int th, .int (nI k), .int (nI now), .ref mD, .ref mI, .ref mZ, .int (nI nl), .ref mK, .ref mO, .ref mE, .ref mR, .ref mF, .int kM, .int oM])), (mD, xI cy 600000 G), (mI, xI cy 100000 It), (mZ, xZ cy 100000 Zt), (mK, xI cy 32 fK), (mO, xI cy 32 fO), (mE, xI cy 32 fE), (mR, xI cy 16 fQ), (mF, xI cy 17 fF), (aO, xL cy 1 fo), (a4, .inr (4, [.ref aB, .ref o2, .ref o3, .ref oA, .ref oB, .ref oC, .ref qL, .ref qM, .int (nI k), .int (nI now)])), (aB, xB cy 6 (fun j => some (ab j)))] ++ bks cy ab σ b06) H := hP
      have hD : va_D A ([(o2, .inr (2, [.ref gR])), (gR, xI cy 16 fR), (o3, .inr (3, [.ref gT, .int lv0, .int sz0])), (gT, xI cy 25 fT), (oA, .inr (1, [.ref gA, .int (nI k), .int (nI zA)])), (gA, xI cy 32 fA), (oB, .inr (1, [.ref gB, .int (nI k), .int (nI zB)])), (gB, xI cy 32 fB), (oC, .inr (1, [.ref gC, .int (nI k), .int (nI zC)])), (gC, xI cy 32 fC), (qL, xI cy 60 fL), (qM, xI cy 60 fG), (a5, .inr (5, [.int th, .int (nI k), .int (nI now), .ref mD, .ref mI, .ref mZ, .int (nI nl), .ref mK, .ref mO, .ref mE, .ref mR, .ref mF, .int kM, .int oM])), (mD, xI cy 600000 G), (mI, xI cy 100000 It), (mZ, xZ cy 100000 Zt), (mK, xI cy 32 fK), (mO, xI cy 32 fO), (mE, xI cy 32 fE), (mR, xI cy 16 fQ), (mF, xI cy 17 fF), (aO, xL cy 1 fo), (a4, .inr (4, [.ref aB, .ref o2, .ref o3, .ref oA, .ref oB, .ref oC, .ref qL, .ref qM, .int (nI k), .int (nI now)])), (aB, xB cy 6 (fun j => some (ab j)))] ++ bks cy ab σ b06) := hD
      refine lv_istore (lv' := [(5, .int (nI 2)), (0, .ref sb), (1, .ref a4), (2, .ref a5), (3, .ref aO), (4, .int (nI i))]) hx hb dL_law_264 hl (by decide) rfl (fun ls hl => ?_)
      refine lv_aload_n hx hb dL_law_266 rfl (lv_at hl 3 rfl) ?_
      refine lv_aload_n hx hb dL_law_267 rfl (lv_at hl 1 rfl) ?_
      refine lv_iload hx hb dL_law_268 (lv_at hl 5 rfl) ?_
      refine lv_iconst (v := nI 1) hx hb dL_law_270 (by decide) ?_
      refine lv_iadd hx hb dL_law_271 ?_
      refine lv_eqi (z := nI (i + 1)) (nI_add _ _) ?_
      refine va_sld hx hb hX hsb hbA hS (vp_in_nI (by omega) (by omega)) dL_law_272 ?_
      rw [nI_clamp (by omega)]
      refine lv_eqi (z := nI b) hp1 ?_
      refine lv_aload_n hx hb dL_law_273 rfl (lv_at hl 1 rfl) ?_
      refine lv_iload hx hb dL_law_274 (lv_at hl 5 rfl) ?_
      refine lv_iconst (v := nI 2) hx hb dL_law_276 (by decide) ?_
      refine lv_iadd hx hb dL_law_277 ?_
      refine lv_eqi (z := nI (i + 2)) (nI_add _ _) ?_
      refine va_sld hx hb hX hsb hbA hS (vp_in_nI (by omega) (by omega)) dL_law_278 ?_
      rw [nI_clamp (by omega)]
      refine lv_aload_n hx hb dL_law_279 rfl (lv_at hl 1 rfl) ?_
      refine lv_iload hx hb dL_law_280 (lv_at hl 5 rfl) ?_
      refine lv_iconst (v := nI 3) hx hb dL_law_282 (by decide) ?_
      refine lv_iadd hx hb dL_law_283 ?_
      refine lv_eqi (z := nI (i + 3)) (nI_add _ _) ?_
      refine va_sld hx hb hX hsb hbA hS (vp_in_nI (by omega) (by omega)) dL_law_284 ?_
      rw [nI_clamp (by omega)]
      refine lv_aload_n hx hb dL_law_285 rfl (lv_at hl 1 rfl) ?_
      refine lv_iload hx hb dL_law_286 (lv_at hl 5 rfl) ?_
      refine lv_iconst (v := nI 4) hx hb dL_law_288 (by decide) ?_
      refine lv_iadd hx hb dL_law_289 ?_
      refine lv_eqi (z := nI (i + 4)) (nI_add _ _) ?_
      refine va_sld hx hb hX hsb hbA hS (vp_in_nI (by omega) (by omega)) dL_law_290 ?_
      rw [nI_clamp (by omega)]
      refine xcWiT (wr := [(o2, .inr (2, [.ref gR])), (gR, xI cy 16 fR), (o3, .inr (3, [.ref gT, .int lv0, .int sz0])), (gT, xI cy 25 fT), (oA, .inr (1, [.ref gA, .int (nI k), .int (nI zA)])), (gA, xI cy 32 fA), (oB, .inr (1, [.ref gB, .int (nI k), .int (nI zB)])), (gB, xI cy 32 fB), (oC, .inr (1, [.ref gC, .int (nI k), .int (nI zC)])), (gC, xI cy 32 fC), (qL, xI cy 60 fL), (qM, xI cy 60 fG), (mD, xI cy 600000 G), (mI, xI cy 100000 It), (mZ, xZ cy 100000 Zt), (mK, xI cy 32 fK), (mO, xI cy 32 fO), (mE, xI cy 32 fE), (mR, xI cy 16 fQ), (mF, xI cy 17 fF), (aO, xL cy 1 fo), (a4, .inr (4, [.ref aB, .ref o2, .ref o3, .ref oA, .ref oB, .ref oC, .ref qL, .ref qM, .int (nI k), .int (nI now)])), (aB, xB cy 6 (fun j => some (ab j)))]) (va_runV (As := [.int (nI b), .int (xs (i + 2)), .int (xs (i + 3)), .int (xs (i + 4))]) (rest := []) ⟨hx, hb, hml, hown, hts⟩ ((m_addLineV l D cy t0 a5 mD mI mZ mK mO mE mR mF k th (nI now) (nI nl) kM oM b (xs (i + 2)) (xs (i + 3)) (xs (i + 4)) hb6 hbad) H.size) (cwV 4 hts gL_law_X5_addLine rfl rfl rfl (by decide +kernel) ⟨Nat.le_of_ble_eq_true rfl, Nat.le_of_ble_eq_true rfl⟩) (xPw.giveV (wc := [(a5, .inr (5, [.int th, .int (nI k), .int (nI now), .ref mD, .ref mI, .ref mZ, .int (nI nl), .ref mK, .ref mO, .ref mE, .ref mR, .ref mF, .int kM, .int oM]))]) hE hS hA hP hD [12] (by decide) (xtC _ _ rfl) 12 5 rfl rfl) rfl rfl hl.1 rfl (lv_room (Nat.le_of_ble_eq_true rfl)) dL_law_291 ⟨(show (cells + 1) + 0 ≤ 601024 by omega), (show (slots + 6) + 0 ≤ 7293000 by omega)⟩) hP hD hS hA [12] [0, 1, 2, 3, 4, 5, 6, 7, 8, 9, 10, 11, 13, 14, 15, 16, 17, 18, 19, 20, 21, 22, 23] rfl rfl (by decide) (by decide) (fun r_20 u_22 H locs hr_21 hP hD hS => ?_)
      have hq9 := hr_21
      have hP : xP D ([(o2, .inr (2, [.ref gR])), (gR, xI cy 16 fR), (o3, .inr (3, [.ref gT, .int lv0, .int sz0])), (gT, xI cy 25 fT), (oA, .inr (1, [.ref gA, .int (nI k), .int (nI zA)])), (gA, xI cy 32 fA), (oB, .inr (1, [.ref gB, .int (nI k), .int (nI zB)])), (gB, xI cy 32 fB), (oC, .inr (1, [.ref gC, .int (nI k), .int (nI zC)])), (gC, xI cy 32 fC), (qL, xI cy 60 fL), (qM, xI cy 60 fG), (mD, xI cy 600000 G), (mI, xI cy 100000 It), (mZ, xZ cy 100000 Zt), (mK, xI cy 32 fK), (mO, xI cy 32 fO), (mE, xI cy 32 fE), (mR, xI cy 16 fQ), (mF, xI cy 17 fF), (aO, xL cy 1 fo), (a4, .inr (4, [.ref aB, .ref o2, .ref o3, .ref oA, .ref oB, .ref oC, .ref qL, .ref qM, .int (nI k), .int (nI now)])), (aB, xB cy 6 (fun j => some (ab j))), (a5, .inr (5, [.int (nI 2), .int (nI k), .int (nI now), .ref mD, .ref mI, .ref mZ, .int (nI nl), .ref mK, .ref mO, .ref mE, .ref mR, .ref mF, .int kM, .int oM]))] ++ bks cy ab σ b06) H := hP
      have hD : va_D A ([(o2, .inr (2, [.ref gR])), (gR, xI cy 16 fR), (o3, .inr (3, [.ref gT, .int lv0, .int sz0])), (gT, xI cy 25 fT), (oA, .inr (1, [.ref gA, .int (nI k), .int (nI zA)])), (gA, xI cy 32 fA), (oB, .inr (1, [.ref gB, .int (nI k), .int (nI zB)])), (gB, xI cy 32 fB), (oC, .inr (1, [.ref gC, .int (nI k), .int (nI zC)])), (gC, xI cy 32 fC), (qL, xI cy 60 fL), (qM, xI cy 60 fG), (mD, xI cy 600000 G), (mI, xI cy 100000 It), (mZ, xZ cy 100000 Zt), (mK, xI cy 32 fK), (mO, xI cy 32 fO), (mE, xI cy 32 fE), (mR, xI cy 16 fQ), (mF, xI cy 17 fF), (aO, xL cy 1 fo), (a4, .inr (4, [.ref aB, .ref o2, .ref o3, .ref oA, .ref oB, .ref oC, .ref qL, .ref qM, .int (nI k), .int (nI now)])), (aB, xB cy 6 (fun j => some (ab j))), (a5, .inr (5, [.int (nI 2), .int (nI k), .int (nI now), .ref mD, .ref mI, .ref mZ, .int (nI nl), .ref mK, .ref mO, .ref mE, .ref mR, .ref mF, .int kM, .int oM]))] ++ bks cy ab σ b06) := hD
      refine lv_istore (lv' := [(6, .int r_20), (5, .int (nI 2)), (0, .ref sb), (1, .ref a4), (2, .ref a5), (3, .ref aO), (4, .int (nI i))]) hx hb dL_law_294 hl (by decide) rfl (fun ls hl => ?_)
      refine lv_aload_n hx hb dL_law_296 rfl (lv_at hl 4 rfl) ?_
      refine xcRi (va_runV (As := []) (rest := []) ⟨hx, hb, hml, hown, hts⟩ (m_thrown l D cy t0 a5 mD mI mZ mK mO mE mR mF k (nI 2) (nI now) (nI nl) kM oM) (cwV 0 hts gL_law_X5_thrown rfl rfl rfl (by decide +kernel) ⟨Nat.le_of_ble_eq_true rfl, Nat.le_of_ble_eq_true rfl⟩) (xPr.giveV (wc := [(a5, .inr (5, [.int (nI 2), .int (nI k), .int (nI now), .ref mD, .ref mI, .ref mZ, .int (nI nl), .ref mK, .ref mO, .ref mE, .ref mR, .ref mF, .int kM, .int oM]))]) hE hS hP [23] (xfm _ _ (xtC _ _ rfl)) 23 5 rfl rfl) rfl rfl hl.1 rfl (lv_room (Nat.le_of_ble_eq_true rfl)) dL_law_297 ⟨(show ((cells + 1) + 0) + 0 ≤ 601024 by omega), (show ((slots + 6) + 0) + 0 ≤ 7293000 by omega)⟩) (fun r_24 hr_25 => ?_)
      obtain rfl : r_24 = nI 2 := hr_25
      refine lv_iload hx hb dL_law_300 (lv_at hl 1 rfl) ?_
      refine xb_icmp_eq (tgt := 307) (a := 2) (b := 2) (by omega) (by omega) hx hb dL_law_302 (by decide) (fun c_27 => ?_) (fun c_27 => ?_)
      · refine lv_iload hx hb dL_law_307 (lv_at hl 1 rfl) ?_
        refine xb_if_ne (tgt := 324) (a := 2) (by omega) hx hb dL_law_309 (by decide) (fun c_28 => ?_) (fun c_28 => ?_)
        · refine lv_goto (tgt := 1591) hx hb dL_law_324 (by decide) ?_
          obtain ⟨hP, hD⟩ := xsubT (ps' := [(aO, xL cy 1 fo), (a4, .inr (4, [.ref aB, .ref o2, .ref o3, .ref oA, .ref oB, .ref oC, .ref qL, .ref qM, .int (nI k), .int (nI now)])), (aB, xB cy 6 (fun j => some (ab j))), (o2, .inr (2, [.ref gR])), (gR, xI cy 16 fR), (o3, .inr (3, [.ref gT, .int lv0, .int sz0])), (gT, xI cy 25 fT), (oA, .inr (1, [.ref gA, .int (nI k), .int (nI zA)])), (gA, xI cy 32 fA), (oB, .inr (1, [.ref gB, .int (nI k), .int (nI zB)])), (gB, xI cy 32 fB), (oC, .inr (1, [.ref gC, .int (nI k), .int (nI zC)])), (gC, xI cy 32 fC), (qL, xI cy 60 fL), (qM, xI cy 60 fG), (a5, .inr (5, [.int (nI 2), .int (nI k), .int (nI now), .ref mD, .ref mI, .ref mZ, .int (nI nl), .ref mK, .ref mO, .ref mE, .ref mR, .ref mF, .int kM, .int oM])), (mD, xI cy 600000 G), (mI, xI cy 100000 It), (mZ, xZ cy 100000 Zt), (mK, xI cy 32 fK), (mO, xI cy 32 fO), (mE, xI cy 32 fE), (mR, xI cy 16 fQ), (mF, xI cy 17 fF)]) [20, 21, 22, 0, 1, 2, 3, 4, 5, 6, 7, 8, 9, 10, 11, 23, 12, 13, 14, 15, 16, 17, 18, 19] hP hD rfl (by decide)
          exact knext _ _ _ _ _ ⟨now, zA, zB, zC, nl, lv0, sz0, (nI 2), kM, oM, fo, fR, fT, fA, fB, fC, fL, fG, G, It, Zt, fK, fO, fE, fQ, fF, lst, σ, hR.next (by omega) (by omega), hP, hD⟩ hS (lv_sub hl [2, 3, 4, 5, 6] rfl)
        · exact absurd c_28 (by omega)
      · exact absurd c_27 (by omega)
    · obtain ⟨l1, l2, l3, hp2, hp3, hp4, hs1, hs2, hm1, hm2, hlast⟩ := line_ok hlk
      obtain ⟨hP, hD⟩ := xfoc hb6 hP hD
      rcases hs9 : σ b with ⟨qi, qd, n, cap, fi, fd⟩
      have hV := hBR b hb6
      rw [hs9] at hV
      have hV : BR (mb G b) n cap fi fd := hV
      unfold bkc at hP hD
      rw [hs9] at hP hD
      have hP : xP D ([(aO, xL cy 1 fo), (a4, .inr (4, [.ref aB, .ref o2, .ref o3, .ref oA, .ref oB, .ref oC, .ref qL, .ref qM, .int (nI k), .int (nI now)])), (aB, xB cy 6 (fun j => some (ab j))), (o2, .inr (2, [.ref gR])), (gR, xI cy 16 fR), (o3, .inr (3, [.ref gT, .int lv0, .int sz0])), (gT, xI cy 25 fT), (oA, .inr (1, [.ref gA, .int (nI k), .int (nI zA)])), (gA, xI cy 32 fA), (oB, .inr (1, [.ref gB, .int (nI k), .int (nI zB)])), (gB, xI cy 32 fB), (oC, .inr (1, [.ref gC, .int (nI k), .int (nI zC)])), (gC, xI cy 32 fC), (qL, xI cy 60 fL), (qM, xI cy 60 fG), (a5, .inr (5, [.int th, .int (nI k), .int (nI now), .ref mD, .ref mI, .ref mZ, .int (nI nl), .ref mK, .ref mO, .ref mE, .ref mR, .ref mF, .int kM, .int oM])), (mD, xI cy 600000 G), (mI, xI cy 100000 It), (mZ, xZ cy 100000 Zt), (mK, xI cy 32 fK), (mO, xI cy 32 fO), (mE, xI cy 32 fE), (mR, xI cy 16 fQ), (mF, xI cy 17 fF), ((ab b), .inr (0, [.ref qi, .ref qd, .int (nI n)])), (qi, xI cy cap fi), (qd, xI cy cap fd)] ++ bks cy ab σ (bOT b)) H := hP
      have hD : va_D A ([(aO, xL cy 1 fo), (a4, .inr (4, [.ref aB, .ref o2, .ref o3, .ref oA, .ref oB, .ref oC, .ref qL, .ref qM, .int (nI k), .int (nI now)])), (aB, xB cy 6 (fun j => some (ab j))), (o2, .inr (2, [.ref gR])), (gR, xI cy 16 fR), (o3, .inr (3, [.ref gT, .int lv0, .int sz0])), (gT, xI cy 25 fT), (oA, .inr (1, [.ref gA, .int (nI k), .int (nI zA)])), (gA, xI cy 32 fA), (oB, .inr (1, [.ref gB, .int (nI k), .int (nI zB)])), (gB, xI cy 32 fB), (oC, .inr (1, [.ref gC, .int (nI k), .int (nI zC)])), (gC, xI cy 32 fC), (qL, xI cy 60 fL), (qM, xI cy 60 fG), (a5, .inr (5, [.int th, .int (nI k), .int (nI now), .ref mD, .ref mI, .ref mZ, .int (nI nl), .ref mK, .ref mO, .ref mE, .ref mR, .ref mF, .int kM, .int oM])), (mD, xI cy 600000 G), (mI, xI cy 100000 It), (mZ, xZ cy 100000 Zt), (mK, xI cy 32 fK), (mO, xI cy 32 fO), (mE, xI cy 32 fE), (mR, xI cy 16 fQ), (mF, xI cy 17 fF), ((ab b), .inr (0, [.ref qi, .ref qd, .int (nI n)])), (qi, xI cy cap fi), (qd, xI cy cap fd)] ++ bks cy ab σ (bOT b)) := hD
      have hnow : now < 2 ^ 31 := by omega
      have hw := w_le (M2 := (lnM l1 l2 l3 now)) hV
      have hmc := mcR_le (n + nwK (mb G b) (lnM l1 l2 l3 now)) cap
      obtain ⟨hms, hms2⟩ := msR_us hw hV.2.2.2
      refine lv_aload_n hx hb dL_law_235 rfl (lv_at hl 1 rfl) ?_
      refine lv_aload_n hx hb dL_law_236 rfl (lv_at hl 0 rfl) ?_
      refine lv_iload hx hb dL_law_237 (lv_at hl 4 rfl) ?_
      refine lv_iconst (v := nI 1) hx hb dL_law_239 (by decide) ?_
      refine lv_iadd hx hb dL_law_240 ?_
      refine lv_eqi (z := nI (i + 1)) (nI_add _ _) ?_
      refine va_sld hx hb hX hsb hbA hS (vp_in_nI (by omega) (by omega)) dL_law_241 ?_
      rw [nI_clamp (by omega)]
      refine lv_eqi (z := nI b) hp1 ?_
      refine lv_aload_n hx hb dL_law_242 rfl (lv_at hl 0 rfl) ?_
      refine lv_iload hx hb dL_law_243 (lv_at hl 4 rfl) ?_
      refine lv_iconst (v := nI 2) hx hb dL_law_245 (by decide) ?_
      refine lv_iadd hx hb dL_law_246 ?_
      refine lv_eqi (z := nI (i + 2)) (nI_add _ _) ?_
      refine va_sld hx hb hX hsb hbA hS (vp_in_nI (by omega) (by omega)) dL_law_247 ?_
      rw [nI_clamp (by omega)]
      refine lv_eqi (z := nI l1) hp2 ?_
      refine lv_aload_n hx hb dL_law_248 rfl (lv_at hl 0 rfl) ?_
      refine lv_iload hx hb dL_law_249 (lv_at hl 4 rfl) ?_
      refine lv_iconst (v := nI 3) hx hb dL_law_251 (by decide) ?_
      refine lv_iadd hx hb dL_law_252 ?_
      refine lv_eqi (z := nI (i + 3)) (nI_add _ _) ?_
      refine va_sld hx hb hX hsb hbA hS (vp_in_nI (by omega) (by omega)) dL_law_253 ?_
      rw [nI_clamp (by omega)]
      refine lv_eqi (z := nI l2) hp3 ?_
      refine lv_aload_n hx hb dL_law_254 rfl (lv_at hl 0 rfl) ?_
      refine lv_iload hx hb dL_law_255 (lv_at hl 4 rfl) ?_
      refine lv_iconst (v := nI 4) hx hb dL_law_257 (by decide) ?_
      refine lv_iadd hx hb dL_law_258 ?_
      refine lv_eqi (z := nI (i + 4)) (nI_add _ _) ?_
      refine va_sld hx hb hX hsb hbA hS (vp_in_nI (by omega) (by omega)) dL_law_259 ?_
      rw [nI_clamp (by omega)]
      refine lv_eqi (z := nI l3) hp4 ?_
      refine lv_aload_n hx hb dL_law_260 rfl (lv_at hl 3 rfl) ?_
      refine xcWiT (wr := [(o2, .inr (2, [.ref gR])), (gR, xI cy 16 fR), (o3, .inr (3, [.ref gT, .int lv0, .int sz0])), (gT, xI cy 25 fT), (oA, .inr (1, [.ref gA, .int (nI k), .int (nI zA)])), (gA, xI cy 32 fA), (oB, .inr (1, [.ref gB, .int (nI k), .int (nI zB)])), (gB, xI cy 32 fB), (oC, .inr (1, [.ref gC, .int (nI k), .int (nI zC)])), (gC, xI cy 32 fC), (a5, .inr (5, [.int th, .int (nI k), .int (nI now), .ref mD, .ref mI, .ref mZ, .int (nI nl), .ref mK, .ref mO, .ref mE, .ref mR, .ref mF, .int kM, .int oM])), (mD, xI cy 600000 G), (mI, xI cy 100000 It), (mZ, xZ cy 100000 Zt), (mK, xI cy 32 fK), (mO, xI cy 32 fO), (mE, xI cy 32 fE), (mR, xI cy 16 fQ), (mF, xI cy 17 fF)]) (vx_runSW (As := [.ref a4, .int (nI b), .int (nI l1), .int (nI l2), .int (nI l3), .ref aO]) (rest := []) ⟨hx, hb, hml, hown, hts⟩ ((w_addLine l D cy t0 aO a4 fo _ _ _ _ _ _ (c_addLine l D cy t0 a4 aB o2 o3 oA oB oC qL qM k now ab (mb G b) l1 l2 l3 b qi qd n cap fi fd fL fG (hMV b) hV hs1 hs2 hm1 hm2 hlast hnow hb6)) H.size) (vx_cwSW 6 hts gL_law_L_addLine rfl rfl rfl (by decide +kernel) ⟨Nat.le_of_ble_eq_true rfl, Nat.le_of_ble_eq_true rfl⟩) (xPw.give (wc := [(aO, xL cy 1 fo), (a4, .inr (4, [.ref aB, .ref o2, .ref o3, .ref oA, .ref oB, .ref oC, .ref qL, .ref qM, .int (nI k), .int (nI now)])), (aB, xB cy 6 (fun j => some (ab j))), (qL, xI cy 60 fL), (qM, xI cy 60 fG), ((ab b), .inr (0, [.ref qi, .ref qd, .int (nI n)])), (qi, xI cy cap fi), (qd, xI cy cap fd)]) hE hS hA hP hD [0, 1, 2, 13, 14, 24, 25, 26] (by decide) (xtC _ _ rfl)) rfl rfl hl.1 rfl (lv_room (Nat.le_of_ble_eq_true rfl)) dL_law_261 ⟨(show cells + mcR (n + nwK (mb G b) (lnM l1 l2 l3 now)) cap ≤ 601024 by omega), (show slots + msR (n + nwK (mb G b) (lnM l1 l2 l3 now)) cap ≤ 7293000 by omega)⟩) hP hD hS hA [0, 1, 2, 13, 14, 24, 25, 26] [3, 4, 5, 6, 7, 8, 9, 10, 11, 12, 15, 16, 17, 18, 19, 20, 21, 22, 23] rfl rfl (by decide) (by decide) (fun r_30 u_32 H locs hr_31 hP hD hS => ?_)
      obtain ⟨v9, qi3, qd3, fi3, fd3, f7, f8⟩ := u_32
      obtain rfl : r_30 = nI 0 := hr_31.1
      obtain rfl : v9 = nI (nwK (mb G b) (lnM l1 l2 l3 now)) := hr_31.2.1
      have hB : BR (mrg (mb G b) (lnM l1 l2 l3 now)) (n + nwK (mb G b) (lnM l1 l2 l3 now)) (capR (n + nwK (mb G b) (lnM l1 l2 l3 now)) cap) fi3 fd3 := hr_31.2.2
      have hP : xP D ([(o2, .inr (2, [.ref gR])), (gR, xI cy 16 fR), (o3, .inr (3, [.ref gT, .int lv0, .int sz0])), (gT, xI cy 25 fT), (oA, .inr (1, [.ref gA, .int (nI k), .int (nI zA)])), (gA, xI cy 32 fA), (oB, .inr (1, [.ref gB, .int (nI k), .int (nI zB)])), (gB, xI cy 32 fB), (oC, .inr (1, [.ref gC, .int (nI k), .int (nI zC)])), (gC, xI cy 32 fC), (a5, .inr (5, [.int th, .int (nI k), .int (nI now), .ref mD, .ref mI, .ref mZ, .int (nI nl), .ref mK, .ref mO, .ref mE, .ref mR, .ref mF, .int kM, .int oM])), (mD, xI cy 600000 G), (mI, xI cy 100000 It), (mZ, xZ cy 100000 Zt), (mK, xI cy 32 fK), (mO, xI cy 32 fO), (mE, xI cy 32 fE), (mR, xI cy 16 fQ), (mF, xI cy 17 fF), (aO, xL cy 1 (vp_updL fo 0 (nI (nwK (mb G b) (lnM l1 l2 l3 now))).toInt64)), (a4, .inr (4, [.ref aB, .ref o2, .ref o3, .ref oA, .ref oB, .ref oC, .ref qL, .ref qM, .int (nI k), .int (nI now)])), (aB, xB cy 6 (fun j => some (ab j))), (qL, xI cy 60 f7), (qM, xI cy 60 f8), ((ab b), .inr (0, [.ref qi3, .ref qd3, .int (nI (n + nwK (mb G b) (lnM l1 l2 l3 now)))])), (qi3, xI cy (capR (n + nwK (mb G b) (lnM l1 l2 l3 now)) cap) fi3), (qd3, xI cy (capR (n + nwK (mb G b) (lnM l1 l2 l3 now)) cap) fd3)] ++ bks cy ab σ (bOT b)) H := hP
      have hD : va_D A ([(o2, .inr (2, [.ref gR])), (gR, xI cy 16 fR), (o3, .inr (3, [.ref gT, .int lv0, .int sz0])), (gT, xI cy 25 fT), (oA, .inr (1, [.ref gA, .int (nI k), .int (nI zA)])), (gA, xI cy 32 fA), (oB, .inr (1, [.ref gB, .int (nI k), .int (nI zB)])), (gB, xI cy 32 fB), (oC, .inr (1, [.ref gC, .int (nI k), .int (nI zC)])), (gC, xI cy 32 fC), (a5, .inr (5, [.int th, .int (nI k), .int (nI now), .ref mD, .ref mI, .ref mZ, .int (nI nl), .ref mK, .ref mO, .ref mE, .ref mR, .ref mF, .int kM, .int oM])), (mD, xI cy 600000 G), (mI, xI cy 100000 It), (mZ, xZ cy 100000 Zt), (mK, xI cy 32 fK), (mO, xI cy 32 fO), (mE, xI cy 32 fE), (mR, xI cy 16 fQ), (mF, xI cy 17 fF), (aO, xL cy 1 (vp_updL fo 0 (nI (nwK (mb G b) (lnM l1 l2 l3 now))).toInt64)), (a4, .inr (4, [.ref aB, .ref o2, .ref o3, .ref oA, .ref oB, .ref oC, .ref qL, .ref qM, .int (nI k), .int (nI now)])), (aB, xB cy 6 (fun j => some (ab j))), (qL, xI cy 60 f7), (qM, xI cy 60 f8), ((ab b), .inr (0, [.ref qi3, .ref qd3, .int (nI (n + nwK (mb G b) (lnM l1 l2 l3 now)))])), (qi3, xI cy (capR (n + nwK (mb G b) (lnM l1 l2 l3 now)) cap) fi3), (qd3, xI cy (capR (n + nwK (mb G b) (lnM l1 l2 l3 now)) cap) fd3)] ++ bks cy ab σ (bOT b)) := hD
      refine lv_istore (lv' := [(5, .int (nI 0)), (0, .ref sb), (1, .ref a4), (2, .ref a5), (3, .ref aO), (4, .int (nI i))]) hx hb dL_law_264 hl (by decide) rfl (fun ls hl => ?_)
      refine lv_aload_n hx hb dL_law_266 rfl (lv_at hl 3 rfl) ?_
      refine lv_aload_n hx hb dL_law_267 rfl (lv_at hl 1 rfl) ?_
      refine lv_iload hx hb dL_law_268 (lv_at hl 5 rfl) ?_
      refine lv_iconst (v := nI 1) hx hb dL_law_270 (by decide) ?_
      refine lv_iadd hx hb dL_law_271 ?_
      refine lv_eqi (z := nI (i + 1)) (nI_add _ _) ?_
      refine va_sld hx hb hX hsb hbA hS (vp_in_nI (by omega) (by omega)) dL_law_272 ?_
      rw [nI_clamp (by omega)]
      refine lv_eqi (z := nI b) hp1 ?_
      refine lv_aload_n hx hb dL_law_273 rfl (lv_at hl 1 rfl) ?_
      refine lv_iload hx hb dL_law_274 (lv_at hl 5 rfl) ?_
      refine lv_iconst (v := nI 2) hx hb dL_law_276 (by decide) ?_
      refine lv_iadd hx hb dL_law_277 ?_
      refine lv_eqi (z := nI (i + 2)) (nI_add _ _) ?_
      refine va_sld hx hb hX hsb hbA hS (vp_in_nI (by omega) (by omega)) dL_law_278 ?_
      rw [nI_clamp (by omega)]
      refine lv_eqi (z := nI l1) hp2 ?_
      refine lv_aload_n hx hb dL_law_279 rfl (lv_at hl 1 rfl) ?_
      refine lv_iload hx hb dL_law_280 (lv_at hl 5 rfl) ?_
      refine lv_iconst (v := nI 3) hx hb dL_law_282 (by decide) ?_
      refine lv_iadd hx hb dL_law_283 ?_
      refine lv_eqi (z := nI (i + 3)) (nI_add _ _) ?_
      refine va_sld hx hb hX hsb hbA hS (vp_in_nI (by omega) (by omega)) dL_law_284 ?_
      rw [nI_clamp (by omega)]
      refine lv_eqi (z := nI l2) hp3 ?_
      refine lv_aload_n hx hb dL_law_285 rfl (lv_at hl 1 rfl) ?_
      refine lv_iload hx hb dL_law_286 (lv_at hl 5 rfl) ?_
      refine lv_iconst (v := nI 4) hx hb dL_law_288 (by decide) ?_
      refine lv_iadd hx hb dL_law_289 ?_
      refine lv_eqi (z := nI (i + 4)) (nI_add _ _) ?_
      refine va_sld hx hb hX hsb hbA hS (vp_in_nI (by omega) (by omega)) dL_law_290 ?_
      rw [nI_clamp (by omega)]
      refine lv_eqi (z := nI l3) hp4 ?_
      refine xcWiT (wr := [(o2, .inr (2, [.ref gR])), (gR, xI cy 16 fR), (o3, .inr (3, [.ref gT, .int lv0, .int sz0])), (gT, xI cy 25 fT), (oA, .inr (1, [.ref gA, .int (nI k), .int (nI zA)])), (gA, xI cy 32 fA), (oB, .inr (1, [.ref gB, .int (nI k), .int (nI zB)])), (gB, xI cy 32 fB), (oC, .inr (1, [.ref gC, .int (nI k), .int (nI zC)])), (gC, xI cy 32 fC), (mK, xI cy 32 fK), (mO, xI cy 32 fO), (mE, xI cy 32 fE), (mR, xI cy 16 fQ), (mF, xI cy 17 fF), (aO, xL cy 1 (vp_updL fo 0 (nI (nwK (mb G b) (lnM l1 l2 l3 now))).toInt64)), (a4, .inr (4, [.ref aB, .ref o2, .ref o3, .ref oA, .ref oB, .ref oC, .ref qL, .ref qM, .int (nI k), .int (nI now)])), (aB, xB cy 6 (fun j => some (ab j))), (qL, xI cy 60 f7), (qM, xI cy 60 f8), ((ab b), .inr (0, [.ref qi3, .ref qd3, .int (nI (n + nwK (mb G b) (lnM l1 l2 l3 now)))])), (qi3, xI cy (capR (n + nwK (mb G b) (lnM l1 l2 l3 now)) cap) fi3), (qd3, xI cy (capR (n + nwK (mb G b) (lnM l1 l2 l3 now)) cap) fd3)]) (va_runV (As := [.int (nI b), .int (nI l1), .int (nI l2), .int (nI l3)]) (rest := []) ⟨hx, hb, hml, hown, hts⟩ ((m_addLine l D cy t0 a5 mD mI mZ mK mO mE mR mF k now th kM oM nl b l1 l2 l3 G It Zt lst hML hCV hb6 (hMV b) hnow hs1 hs2 hm1 hm2 hlast) H.size) (cwV 4 hts gL_law_X5_addLine rfl rfl rfl (by decide +kernel) ⟨Nat.le_of_ble_eq_true rfl, Nat.le_of_ble_eq_true rfl⟩) (xPw.giveV (wc := [(a5, .inr (5, [.int th, .int (nI k), .int (nI now), .ref mD, .ref mI, .ref mZ, .int (nI nl), .ref mK, .ref mO, .ref mE, .ref mR, .ref mF, .int kM, .int oM])), (mD, xI cy 600000 G), (mI, xI cy 100000 It), (mZ, xZ cy 100000 Zt)]) hE hS hA hP hD [10, 11, 12, 13] (by decide) (xtC _ _ rfl) 10 5 rfl rfl) rfl rfl hl.1 rfl (lv_room (Nat.le_of_ble_eq_true rfl)) dL_law_291 ⟨(show (cells + mcR (n + nwK (mb G b) (lnM l1 l2 l3 now)) cap) + 0 ≤ 601024 by omega), (show (slots + msR (n + nwK (mb G b) (lnM l1 l2 l3 now)) cap) + 0 ≤ 7293000 by omega)⟩) hP hD hS hA [10, 11, 12, 13] [0, 1, 2, 3, 4, 5, 6, 7, 8, 9, 14, 15, 16, 17, 18, 19, 20, 21, 22, 23, 24, 25, 26] rfl rfl (by decide) (by decide) (fun r_34 u_36 H locs hr_35 hP hD hS => ?_)
      obtain ⟨G3, It3, Zt3, lst3, nl3⟩ := u_36
      refine lv_eqi (z := nI (nwK (mb G b) (lnM l1 l2 l3 now))) hr_35.1 ?_
      have hGU : GU G G3 b (mrg (mb G b) (lnM l1 l2 l3 now)) := hr_35.2.1
      have hML3 : ML lst3 nl3 It3 Zt3 := hr_35.2.2.1
      have hCV3 : CV G3 lst3 nl3 := hr_35.2.2.2
      have hP : xP D ([(o2, .inr (2, [.ref gR])), (gR, xI cy 16 fR), (o3, .inr (3, [.ref gT, .int lv0, .int sz0])), (gT, xI cy 25 fT), (oA, .inr (1, [.ref gA, .int (nI k), .int (nI zA)])), (gA, xI cy 32 fA), (oB, .inr (1, [.ref gB, .int (nI k), .int (nI zB)])), (gB, xI cy 32 fB), (oC, .inr (1, [.ref gC, .int (nI k), .int (nI zC)])), (gC, xI cy 32 fC), (mK, xI cy 32 fK), (mO, xI cy 32 fO), (mE, xI cy 32 fE), (mR, xI cy 16 fQ), (mF, xI cy 17 fF), (aO, xL cy 1 (vp_updL fo 0 (nI (nwK (mb G b) (lnM l1 l2 l3 now))).toInt64)), (a4, .inr (4, [.ref aB, .ref o2, .ref o3, .ref oA, .ref oB, .ref oC, .ref qL, .ref qM, .int (nI k), .int (nI now)])), (aB, xB cy 6 (fun j => some (ab j))), (qL, xI cy 60 f7), (qM, xI cy 60 f8), ((ab b), .inr (0, [.ref qi3, .ref qd3, .int (nI (n + nwK (mb G b) (lnM l1 l2 l3 now)))])), (qi3, xI cy (capR (n + nwK (mb G b) (lnM l1 l2 l3 now)) cap) fi3), (qd3, xI cy (capR (n + nwK (mb G b) (lnM l1 l2 l3 now)) cap) fd3), (a5, .inr (5, [.int (nI 0), .int (nI k), .int (nI now), .ref mD, .ref mI, .ref mZ, .int (nI nl3), .ref mK, .ref mO, .ref mE, .ref mR, .ref mF, .int kM, .int oM])), (mD, xI cy 600000 G3), (mI, xI cy 100000 It3), (mZ, xZ cy 100000 Zt3)] ++ bks cy ab σ (bOT b)) H := hP
      have hD : va_D A ([(o2, .inr (2, [.ref gR])), (gR, xI cy 16 fR), (o3, .inr (3, [.ref gT, .int lv0, .int sz0])), (gT, xI cy 25 fT), (oA, .inr (1, [.ref gA, .int (nI k), .int (nI zA)])), (gA, xI cy 32 fA), (oB, .inr (1, [.ref gB, .int (nI k), .int (nI zB)])), (gB, xI cy 32 fB), (oC, .inr (1, [.ref gC, .int (nI k), .int (nI zC)])), (gC, xI cy 32 fC), (mK, xI cy 32 fK), (mO, xI cy 32 fO), (mE, xI cy 32 fE), (mR, xI cy 16 fQ), (mF, xI cy 17 fF), (aO, xL cy 1 (vp_updL fo 0 (nI (nwK (mb G b) (lnM l1 l2 l3 now))).toInt64)), (a4, .inr (4, [.ref aB, .ref o2, .ref o3, .ref oA, .ref oB, .ref oC, .ref qL, .ref qM, .int (nI k), .int (nI now)])), (aB, xB cy 6 (fun j => some (ab j))), (qL, xI cy 60 f7), (qM, xI cy 60 f8), ((ab b), .inr (0, [.ref qi3, .ref qd3, .int (nI (n + nwK (mb G b) (lnM l1 l2 l3 now)))])), (qi3, xI cy (capR (n + nwK (mb G b) (lnM l1 l2 l3 now)) cap) fi3), (qd3, xI cy (capR (n + nwK (mb G b) (lnM l1 l2 l3 now)) cap) fd3), (a5, .inr (5, [.int (nI 0), .int (nI k), .int (nI now), .ref mD, .ref mI, .ref mZ, .int (nI nl3), .ref mK, .ref mO, .ref mE, .ref mR, .ref mF, .int kM, .int oM])), (mD, xI cy 600000 G3), (mI, xI cy 100000 It3), (mZ, xZ cy 100000 Zt3)] ++ bks cy ab σ (bOT b)) := hD
      refine lv_istore (lv' := [(6, .int (nI (nwK (mb G b) (lnM l1 l2 l3 now)))), (5, .int (nI 0)), (0, .ref sb), (1, .ref a4), (2, .ref a5), (3, .ref aO), (4, .int (nI i))]) hx hb dL_law_294 hl (by decide) rfl (fun ls hl => ?_)
      refine lv_aload_n hx hb dL_law_296 rfl (lv_at hl 4 rfl) ?_
      refine xcRi (va_runV (As := []) (rest := []) ⟨hx, hb, hml, hown, hts⟩ (m_thrown l D cy t0 a5 mD mI mZ mK mO mE mR mF k (nI 0) (nI now) (nI nl3) kM oM) (cwV 0 hts gL_law_X5_thrown rfl rfl rfl (by decide +kernel) ⟨Nat.le_of_ble_eq_true rfl, Nat.le_of_ble_eq_true rfl⟩) (xPr.giveV (wc := [(a5, .inr (5, [.int (nI 0), .int (nI k), .int (nI now), .ref mD, .ref mI, .ref mZ, .int (nI nl3), .ref mK, .ref mO, .ref mE, .ref mR, .ref mF, .int kM, .int oM]))]) hE hS hP [23] (xfm _ _ (xtC _ _ rfl)) 23 5 rfl rfl) rfl rfl hl.1 rfl (lv_room (Nat.le_of_ble_eq_true rfl)) dL_law_297 ⟨(show ((cells + mcR (n + nwK (mb G b) (lnM l1 l2 l3 now)) cap) + 0) + 0 ≤ 601024 by omega), (show ((slots + msR (n + nwK (mb G b) (lnM l1 l2 l3 now)) cap) + 0) + 0 ≤ 7293000 by omega)⟩) (fun r_38 hr_39 => ?_)
      obtain rfl : r_38 = nI 0 := hr_39
      refine lv_iload hx hb dL_law_300 (lv_at hl 1 rfl) ?_
      refine xb_icmp_eq (tgt := 307) (a := 0) (b := 0) (by omega) (by omega) hx hb dL_law_302 (by decide) (fun c_41 => ?_) (fun c_41 => ?_)
      · refine lv_iload hx hb dL_law_307 (lv_at hl 1 rfl) ?_
        refine xb_if_ne (tgt := 324) (a := 0) (by omega) hx hb dL_law_309 (by decide) (fun c_42 => ?_) (fun c_42 => ?_)
        · exact absurd c_42 (by omega)
        · refine lv_aload_n hx hb dL_law_312 rfl (lv_at hl 5 rfl) ?_
          refine lv_iconst (v := nI 0) hx hb dL_law_313 (by decide) ?_
          refine va_lald (D := D) hx hb hE.1 hP 15 2 rfl rfl (vp_in_nI (by omega) (by omega)) dL_law_314 ?_
          rw [nI_clamp (by omega), updL0]
          refine lv_iload hx hb dL_law_315 (lv_at hl 0 rfl) ?_
          refine lv_i2l (v := (nI (nwK (mb G b) (lnM l1 l2 l3 now))).toInt64) hx hb dL_law_317 rfl ?_
          refine W.lcmp hx hb dL_law_318 ?_
          refine lv_if_eq (tgt := 324) hx hb dL_law_319 (by decide) (fun c_43 => ?_) (fun c_43 => ?_)
          · refine lv_goto (tgt := 1591) hx hb dL_law_324 (by decide) ?_
            obtain ⟨hP, hD⟩ := xsubT (ps' := [(aO, xL cy 1 (vp_updL fo 0 (nI (nwK (mb G b) (lnM l1 l2 l3 now))).toInt64)), (a4, .inr (4, [.ref aB, .ref o2, .ref o3, .ref oA, .ref oB, .ref oC, .ref qL, .ref qM, .int (nI k), .int (nI now)])), (aB, xB cy 6 (fun j => some (ab j))), (o2, .inr (2, [.ref gR])), (gR, xI cy 16 fR), (o3, .inr (3, [.ref gT, .int lv0, .int sz0])), (gT, xI cy 25 fT), (oA, .inr (1, [.ref gA, .int (nI k), .int (nI zA)])), (gA, xI cy 32 fA), (oB, .inr (1, [.ref gB, .int (nI k), .int (nI zB)])), (gB, xI cy 32 fB), (oC, .inr (1, [.ref gC, .int (nI k), .int (nI zC)])), (gC, xI cy 32 fC), (qL, xI cy 60 f7), (qM, xI cy 60 f8), (a5, .inr (5, [.int (nI 0), .int (nI k), .int (nI now), .ref mD, .ref mI, .ref mZ, .int (nI nl3), .ref mK, .ref mO, .ref mE, .ref mR, .ref mF, .int kM, .int oM])), (mD, xI cy 600000 G3), (mI, xI cy 100000 It3), (mZ, xZ cy 100000 Zt3), (mK, xI cy 32 fK), (mO, xI cy 32 fO), (mE, xI cy 32 fE), (mR, xI cy 16 fQ), (mF, xI cy 17 fF), ((ab b), .inr (0, [.ref qi3, .ref qd3, .int (nI (n + nwK (mb G b) (lnM l1 l2 l3 now)))])), (qi3, xI cy (capR (n + nwK (mb G b) (lnM l1 l2 l3 now)) cap) fi3), (qd3, xI cy (capR (n + nwK (mb G b) (lnM l1 l2 l3 now)) cap) fd3)]) [15, 16, 17, 0, 1, 2, 3, 4, 5, 6, 7, 8, 9, 18, 19, 23, 24, 25, 26, 10, 11, 12, 13, 14, 20, 21, 22] hP hD rfl (by decide)
            obtain ⟨hP, hD⟩ := xunf (ps := [(aO, xL cy 1 (vp_updL fo 0 (nI (nwK (mb G b) (lnM l1 l2 l3 now))).toInt64)), (a4, .inr (4, [.ref aB, .ref o2, .ref o3, .ref oA, .ref oB, .ref oC, .ref qL, .ref qM, .int (nI k), .int (nI now)])), (aB, xB cy 6 (fun j => some (ab j))), (o2, .inr (2, [.ref gR])), (gR, xI cy 16 fR), (o3, .inr (3, [.ref gT, .int lv0, .int sz0])), (gT, xI cy 25 fT), (oA, .inr (1, [.ref gA, .int (nI k), .int (nI zA)])), (gA, xI cy 32 fA), (oB, .inr (1, [.ref gB, .int (nI k), .int (nI zB)])), (gB, xI cy 32 fB), (oC, .inr (1, [.ref gC, .int (nI k), .int (nI zC)])), (gC, xI cy 32 fC), (qL, xI cy 60 f7), (qM, xI cy 60 f8), (a5, .inr (5, [.int (nI 0), .int (nI k), .int (nI now), .ref mD, .ref mI, .ref mZ, .int (nI nl3), .ref mK, .ref mO, .ref mE, .ref mR, .ref mF, .int kM, .int oM])), (mD, xI cy 600000 G3), (mI, xI cy 100000 It3), (mZ, xZ cy 100000 Zt3), (mK, xI cy 32 fK), (mO, xI cy 32 fO), (mE, xI cy 32 fE), (mR, xI cy 16 fQ), (mF, xI cy 17 fF)]) (σ := σ) (v := (qi3, qd3, n + nwK (mb G b) (lnM l1 l2 l3 now), capR (n + nwK (mb G b) (lnM l1 l2 l3 now)) cap, fi3, fd3)) hb6 (by rw [bkc_up]; exact hP) (by rw [bkc_up]; exact hD)
            exact knext _ _ _ _ _ ⟨now, zA, zB, zC, nl3, lv0, sz0, (nI 0), kM, oM, (vp_updL fo 0 (nI (nwK (mb G b) (lnM l1 l2 l3 now))).toInt64), fR, fT, fA, fB, fC, f7, f8, G3, It3, Zt3, fK, fO, fE, fQ, fF, lst3, va_up σ b (qi3, qd3, n + nwK (mb G b) (lnM l1 l2 l3 now), capR (n + nwK (mb G b) (lnM l1 l2 l3 now)) cap, fi3, fd3), hR.upd hb6 hs9 hGU (mrg_MV (hMV b) (lnM_MV hnow)) (lnM_hi (line_hi hm1 hlast)) hB hML3 hCV3 (by omega) (by show _ + Us cap ≤ slots + Us (capR (n + nwK (mb G b) (lnM l1 l2 l3 now)) cap) + 6; omega), hP, hD⟩ hS (lv_sub hl [2, 3, 4, 5, 6] rfl)
          · exact absurd (lgc _) c_43
      · exact absurd c_41 (by omega)
set_option maxHeartbeats 8000000 in
set_option maxRecDepth 100000 in
theorem st_merge {p : Program} {l : Launch} {e : Env} {s : State} {m : MethodId} {below : List Frame} {meth : Method} {c : Code} {H : Heap} {locs : List Loc} {cells slots : Nat} {Q : State → Prop} {ls : Array Slot} {D : va_G} {cy : Nat → ClassId} {t0 : Nat} {A : Nat → Prop} {sb L : Nat} {xs : Nat → Int32} {aO a4 aB o2 gR o3 gT oA gA oB gB oC gC qL qM a5 mD mI mZ mK mO mE mR mF k t i : Nat} {ab : Nat → Nat} (hC : LC p l s m c D cy t0 A sb L xs) (hI : LI D cy A aO a4 aB o2 gR o3 gT oA gA oB gB oC gC qL qM a5 mD mI mZ mK mO mE mR mF k ab t H cells slots) (hS : va_S A s.heap H locs) (hl : lv_has ls 8 [(0, .ref sb), (1, .ref a4), (2, .ref a5), (3, .ref aO), (4, .int (nI i))]) (hi : i + 5 ≤ L) (hL : L ≤ 2561) (ht : t ≤ 512) (knext : ∀ (H : Heap) (locs : List Loc) (ls : Array Slot) (cells slots : Nat), LI D cy A aO a4 aB o2 gR o3 gT oA gA oB gB oC gC qL qM a5 mD mI mZ mK mO mE mR mF k ab (t + 1) H cells slots → va_S A s.heap H locs → lv_has ls 8 [(0, .ref sb), (1, .ref a4), (2, .ref a5), (3, .ref aO), (4, .int (nI i))] → W p l e room_1 s m #[Value.ref sb] below meth c H locs cells slots Q (F0 m 1591 ls [])) : W p l e room_1 s m #[Value.ref sb] below meth c H locs cells slots Q (F0 m 383 ls []) := by
  obtain ⟨hx, hb, hml, hts, hown, hE, hA, hX, hsb, hbA, hlf⟩ := hC
  obtain ⟨now, zA, zB, zC, nl, lv0, sz0, th, kM, oM, fo, fR, fT, fA, fB, fC, fL, fG, G, It, Zt, fK, fO, fE, fQ, fF, lst, σ, hR, hP, hD⟩ := hI
  obtain ⟨hrm1, hrm2⟩ := hR.room ht
  have hk2 := hR.1.1
  have hk := hR.1.2
  have hBR := hR.2.2.1
  have hMV := hR.2.2.2.1
  have hML := hR.2.2.2.2.1
  have hCV := hR.2.2.2.2.2.1
  have hF9 := hR.2.2.2.2.2.2.1
  have hnw := hR.2.1
  rcases p_bk (xs (i + 1)) with hbi | ⟨b, hb6, hp1⟩
  · refine lv_aload_n hx hb dL_law_383 rfl (lv_at hl 1 rfl) ?_
    refine lv_aload_n hx hb dL_law_384 rfl (lv_at hl 0 rfl) ?_
    refine lv_iload hx hb dL_law_385 (lv_at hl 4 rfl) ?_
    refine lv_iconst (v := nI 1) hx hb dL_law_387 (by decide) ?_
    refine lv_iadd hx hb dL_law_388 ?_
    refine lv_eqi (z := nI (i + 1)) (nI_add _ _) ?_
    refine va_sld hx hb hX hsb hbA hS (vp_in_nI (by omega) (by omega)) dL_law_389 ?_
    rw [nI_clamp (by omega)]
    refine lv_aload_n hx hb dL_law_390 rfl (lv_at hl 0 rfl) ?_
    refine lv_iload hx hb dL_law_391 (lv_at hl 4 rfl) ?_
    refine lv_iconst (v := nI 2) hx hb dL_law_393 (by decide) ?_
    refine lv_iadd hx hb dL_law_394 ?_
    refine lv_eqi (z := nI (i + 2)) (nI_add _ _) ?_
    refine va_sld hx hb hX hsb hbA hS (vp_in_nI (by omega) (by omega)) dL_law_395 ?_
    rw [nI_clamp (by omega)]
    refine lv_aload_n hx hb dL_law_396 rfl (lv_at hl 3 rfl) ?_
    refine xcWiT (wr := [(o2, .inr (2, [.ref gR])), (gR, xI cy 16 fR), (o3, .inr (3, [.ref gT, .int lv0, .int sz0])), (gT, xI cy 25 fT), (oA, .inr (1, [.ref gA, .int (nI k), .int (nI zA)])), (gA, xI cy 32 fA), (oB, .inr (1, [.ref gB, .int (nI k), .int (nI zB)])), (gB, xI cy 32 fB), (oC, .inr (1, [.ref gC, .int (nI k), .int (nI zC)])), (gC, xI cy 32 fC), (qL, xI cy 60 fL), (qM, xI cy 60 fG), (a5, .inr (5, [.int th, .int (nI k), .int (nI now), .ref mD, .ref mI, .ref mZ, .int (nI nl), .ref mK, .ref mO, .ref mE, .ref mR, .ref mF, .int kM, .int oM])), (mD, xI cy 600000 G), (mI, xI cy 100000 It), (mZ, xZ cy 100000 Zt), (mK, xI cy 32 fK), (mO, xI cy 32 fO), (mE, xI cy 32 fE), (mR, xI cy 16 fQ), (mF, xI cy 17 fF)]) (vx_runSW (As := [.ref a4, .int (xs (i + 1)), .int (xs (i + 2)), .ref aO]) (rest := []) ⟨hx, hb, hml, hown, hts⟩ ((w_mergeT l D cy t0 aO a4 fo _ _ _ _ (c_mergeT l hlf D cy t0 a4 aB o2 o3 oA oB oC qL qM k now ab (xs (i + 1)) (xs (i + 2)) hbi)) H.size) (vx_cwSW 4 hts gL_law_L_merge rfl rfl rfl (by decide +kernel) ⟨Nat.le_of_ble_eq_true rfl, Nat.le_of_ble_eq_true rfl⟩) (xPw.give (wc := [(aO, xL cy 1 fo), (a4, .inr (4, [.ref aB, .ref o2, .ref o3, .ref oA, .ref oB, .ref oC, .ref qL, .ref qM, .int (nI k), .int (nI now)])), (aB, xB cy 6 (fun j => some (ab j)))]) hE hS hA hP hD [0, 1, 2] (by decide) (xtC _ _ rfl)) rfl rfl hl.1 rfl (lv_room (Nat.le_of_ble_eq_true rfl)) dL_law_397 ⟨(show cells + 1 ≤ 601024 by omega), (show slots + 6 ≤ 7293000 by omega)⟩) hP hD hS hA [0, 1, 2] [3, 4, 5, 6, 7, 8, 9, 10, 11, 12, 13, 14, 15, 16, 17, 18, 19, 20, 21, 22, 23] rfl rfl (by decide) (by decide) (fun r_2 u_4 H locs hr_3 hP hD hS => ?_)
    obtain rfl : r_2 = nI 1 := hr_3
    have hP : xP D ([(o2, .inr (2, [.ref gR])), (gR, xI cy 16 fR), (o3, .inr (3, [.ref gT, .int lv0, .int sz0])), (gT, xI cy 25 fT), (oA, .inr (1, [.ref gA, .int (nI k), .int (nI zA)])), (gA, xI cy 32 fA), (oB, .inr (1, [.ref gB, .int (nI k), .int (nI zB)])), (gB, xI cy 32 fB), (oC, .inr (1, [.ref gC, .int (nI k), .int (nI zC)])), (gC, xI cy 32 fC), (qL, xI cy 60 fL), (qM, xI cy 60 fG), (a5, .inr (5, [.int th, .int (nI k), .int (nI now), .ref mD, .ref mI, .ref mZ, .int (nI nl), .ref mK, .ref mO, .ref mE, .ref mR, .ref mF, .int kM, .int oM])), (mD, xI cy 600000 G), (mI, xI cy 100000 It), (mZ, xZ cy 100000 Zt), (mK, xI cy 32 fK), (mO, xI cy 32 fO), (mE, xI cy 32 fE), (mR, xI cy 16 fQ), (mF, xI cy 17 fF), (aO, xL cy 1 fo), (a4, .inr (4, [.ref aB, .ref o2, .ref o3, .ref oA, .ref oB, .ref oC, .ref qL, .ref qM, .int (nI k), .int (nI now)])), (aB, xB cy 6 (fun j => some (ab j)))] ++ bks cy ab σ b06) H := hP
    have hD : va_D A ([(o2, .inr (2, [.ref gR])), (gR, xI cy 16 fR), (o3, .inr (3, [.ref gT, .int lv0, .int sz0])), (gT, xI cy 25 fT), (oA, .inr (1, [.ref gA, .int (nI k), .int (nI zA)])), (gA, xI cy 32 fA), (oB, .inr (1, [.ref gB, .int (nI k), .int (nI zB)])), (gB, xI cy 32 fB), (oC, .inr (1, [.ref gC, .int (nI k), .int (nI zC)])), (gC, xI cy 32 fC), (qL, xI cy 60 fL), (qM, xI cy 60 fG), (a5, .inr (5, [.int th, .int (nI k), .int (nI now), .ref mD, .ref mI, .ref mZ, .int (nI nl), .ref mK, .ref mO, .ref mE, .ref mR, .ref mF, .int kM, .int oM])), (mD, xI cy 600000 G), (mI, xI cy 100000 It), (mZ, xZ cy 100000 Zt), (mK, xI cy 32 fK), (mO, xI cy 32 fO), (mE, xI cy 32 fE), (mR, xI cy 16 fQ), (mF, xI cy 17 fF), (aO, xL cy 1 fo), (a4, .inr (4, [.ref aB, .ref o2, .ref o3, .ref oA, .ref oB, .ref oC, .ref qL, .ref qM, .int (nI k), .int (nI now)])), (aB, xB cy 6 (fun j => some (ab j)))] ++ bks cy ab σ b06) := hD
    refine lv_istore (lv' := [(5, .int (nI 1)), (0, .ref sb), (1, .ref a4), (2, .ref a5), (3, .ref aO), (4, .int (nI i))]) hx hb dL_law_400 hl (by decide) rfl (fun ls hl => ?_)
    refine lv_aload_n hx hb dL_law_402 rfl (lv_at hl 3 rfl) ?_
    refine lv_aload_n hx hb dL_law_403 rfl (lv_at hl 1 rfl) ?_
    refine lv_iload hx hb dL_law_404 (lv_at hl 5 rfl) ?_
    refine lv_iconst (v := nI 1) hx hb dL_law_406 (by decide) ?_
    refine lv_iadd hx hb dL_law_407 ?_
    refine lv_eqi (z := nI (i + 1)) (nI_add _ _) ?_
    refine va_sld hx hb hX hsb hbA hS (vp_in_nI (by omega) (by omega)) dL_law_408 ?_
    rw [nI_clamp (by omega)]
    refine lv_aload_n hx hb dL_law_409 rfl (lv_at hl 1 rfl) ?_
    refine lv_iload hx hb dL_law_410 (lv_at hl 5 rfl) ?_
    refine lv_iconst (v := nI 2) hx hb dL_law_412 (by decide) ?_
    refine lv_iadd hx hb dL_law_413 ?_
    refine lv_eqi (z := nI (i + 2)) (nI_add _ _) ?_
    refine va_sld hx hb hX hsb hbA hS (vp_in_nI (by omega) (by omega)) dL_law_414 ?_
    rw [nI_clamp (by omega)]
    refine xcWiT (wr := [(o2, .inr (2, [.ref gR])), (gR, xI cy 16 fR), (o3, .inr (3, [.ref gT, .int lv0, .int sz0])), (gT, xI cy 25 fT), (oA, .inr (1, [.ref gA, .int (nI k), .int (nI zA)])), (gA, xI cy 32 fA), (oB, .inr (1, [.ref gB, .int (nI k), .int (nI zB)])), (gB, xI cy 32 fB), (oC, .inr (1, [.ref gC, .int (nI k), .int (nI zC)])), (gC, xI cy 32 fC), (qL, xI cy 60 fL), (qM, xI cy 60 fG), (mD, xI cy 600000 G), (mI, xI cy 100000 It), (mZ, xZ cy 100000 Zt), (mK, xI cy 32 fK), (mO, xI cy 32 fO), (mE, xI cy 32 fE), (mR, xI cy 16 fQ), (mF, xI cy 17 fF), (aO, xL cy 1 fo), (a4, .inr (4, [.ref aB, .ref o2, .ref o3, .ref oA, .ref oB, .ref oC, .ref qL, .ref qM, .int (nI k), .int (nI now)])), (aB, xB cy 6 (fun j => some (ab j)))]) (va_runV (As := [.int (xs (i + 1)), .int (xs (i + 2))]) (rest := []) ⟨hx, hb, hml, hown, hts⟩ ((m_mergeT l D cy t0 a5 mD mI mZ mK mO mE mR mF k th (nI now) (nI nl) kM oM (xs (i + 1)) (xs (i + 2)) hbi) H.size) (cwV 2 hts gL_law_X5_merge rfl rfl rfl (by decide +kernel) ⟨Nat.le_of_ble_eq_true rfl, Nat.le_of_ble_eq_true rfl⟩) (xPw.giveV (wc := [(a5, .inr (5, [.int th, .int (nI k), .int (nI now), .ref mD, .ref mI, .ref mZ, .int (nI nl), .ref mK, .ref mO, .ref mE, .ref mR, .ref mF, .int kM, .int oM]))]) hE hS hA hP hD [12] (by decide) (xtC _ _ rfl) 12 5 rfl rfl) rfl rfl hl.1 rfl (lv_room (Nat.le_of_ble_eq_true rfl)) dL_law_415 ⟨(show (cells + 1) + 0 ≤ 601024 by omega), (show (slots + 6) + 0 ≤ 7293000 by omega)⟩) hP hD hS hA [12] [0, 1, 2, 3, 4, 5, 6, 7, 8, 9, 10, 11, 13, 14, 15, 16, 17, 18, 19, 20, 21, 22, 23] rfl rfl (by decide) (by decide) (fun r_6 u_8 H locs hr_7 hP hD hS => ?_)
    have hq9 := hr_7
    have hP : xP D ([(o2, .inr (2, [.ref gR])), (gR, xI cy 16 fR), (o3, .inr (3, [.ref gT, .int lv0, .int sz0])), (gT, xI cy 25 fT), (oA, .inr (1, [.ref gA, .int (nI k), .int (nI zA)])), (gA, xI cy 32 fA), (oB, .inr (1, [.ref gB, .int (nI k), .int (nI zB)])), (gB, xI cy 32 fB), (oC, .inr (1, [.ref gC, .int (nI k), .int (nI zC)])), (gC, xI cy 32 fC), (qL, xI cy 60 fL), (qM, xI cy 60 fG), (mD, xI cy 600000 G), (mI, xI cy 100000 It), (mZ, xZ cy 100000 Zt), (mK, xI cy 32 fK), (mO, xI cy 32 fO), (mE, xI cy 32 fE), (mR, xI cy 16 fQ), (mF, xI cy 17 fF), (aO, xL cy 1 fo), (a4, .inr (4, [.ref aB, .ref o2, .ref o3, .ref oA, .ref oB, .ref oC, .ref qL, .ref qM, .int (nI k), .int (nI now)])), (aB, xB cy 6 (fun j => some (ab j))), (a5, .inr (5, [.int (nI 1), .int (nI k), .int (nI now), .ref mD, .ref mI, .ref mZ, .int (nI nl), .ref mK, .ref mO, .ref mE, .ref mR, .ref mF, .int kM, .int oM]))] ++ bks cy ab σ b06) H := hP
    have hD : va_D A ([(o2, .inr (2, [.ref gR])), (gR, xI cy 16 fR), (o3, .inr (3, [.ref gT, .int lv0, .int sz0])), (gT, xI cy 25 fT), (oA, .inr (1, [.ref gA, .int (nI k), .int (nI zA)])), (gA, xI cy 32 fA), (oB, .inr (1, [.ref gB, .int (nI k), .int (nI zB)])), (gB, xI cy 32 fB), (oC, .inr (1, [.ref gC, .int (nI k), .int (nI zC)])), (gC, xI cy 32 fC), (qL, xI cy 60 fL), (qM, xI cy 60 fG), (mD, xI cy 600000 G), (mI, xI cy 100000 It), (mZ, xZ cy 100000 Zt), (mK, xI cy 32 fK), (mO, xI cy 32 fO), (mE, xI cy 32 fE), (mR, xI cy 16 fQ), (mF, xI cy 17 fF), (aO, xL cy 1 fo), (a4, .inr (4, [.ref aB, .ref o2, .ref o3, .ref oA, .ref oB, .ref oC, .ref qL, .ref qM, .int (nI k), .int (nI now)])), (aB, xB cy 6 (fun j => some (ab j))), (a5, .inr (5, [.int (nI 1), .int (nI k), .int (nI now), .ref mD, .ref mI, .ref mZ, .int (nI nl), .ref mK, .ref mO, .ref mE, .ref mR, .ref mF, .int kM, .int oM]))] ++ bks cy ab σ b06) := hD
    refine lv_istore (lv' := [(6, .int r_6), (5, .int (nI 1)), (0, .ref sb), (1, .ref a4), (2, .ref a5), (3, .ref aO), (4, .int (nI i))]) hx hb dL_law_418 hl (by decide) rfl (fun ls hl => ?_)
    refine lv_aload_n hx hb dL_law_420 rfl (lv_at hl 4 rfl) ?_
    refine xcRi (va_runV (As := []) (rest := []) ⟨hx, hb, hml, hown, hts⟩ (m_thrown l D cy t0 a5 mD mI mZ mK mO mE mR mF k (nI 1) (nI now) (nI nl) kM oM) (cwV 0 hts gL_law_X5_thrown rfl rfl rfl (by decide +kernel) ⟨Nat.le_of_ble_eq_true rfl, Nat.le_of_ble_eq_true rfl⟩) (xPr.giveV (wc := [(a5, .inr (5, [.int (nI 1), .int (nI k), .int (nI now), .ref mD, .ref mI, .ref mZ, .int (nI nl), .ref mK, .ref mO, .ref mE, .ref mR, .ref mF, .int kM, .int oM]))]) hE hS hP [23] (xfm _ _ (xtC _ _ rfl)) 23 5 rfl rfl) rfl rfl hl.1 rfl (lv_room (Nat.le_of_ble_eq_true rfl)) dL_law_421 ⟨(show ((cells + 1) + 0) + 0 ≤ 601024 by omega), (show ((slots + 6) + 0) + 0 ≤ 7293000 by omega)⟩) (fun r_10 hr_11 => ?_)
    obtain rfl : r_10 = nI 1 := hr_11
    refine lv_iload hx hb dL_law_424 (lv_at hl 1 rfl) ?_
    refine xb_icmp_eq (tgt := 431) (a := 1) (b := 1) (by omega) (by omega) hx hb dL_law_426 (by decide) (fun c_13 => ?_) (fun c_13 => ?_)
    · refine lv_iload hx hb dL_law_431 (lv_at hl 1 rfl) ?_
      refine xb_if_ne (tgt := 448) (a := 1) (by omega) hx hb dL_law_433 (by decide) (fun c_14 => ?_) (fun c_14 => ?_)
      · refine lv_goto (tgt := 1591) hx hb dL_law_448 (by decide) ?_
        obtain ⟨hP, hD⟩ := xsubT (ps' := [(aO, xL cy 1 fo), (a4, .inr (4, [.ref aB, .ref o2, .ref o3, .ref oA, .ref oB, .ref oC, .ref qL, .ref qM, .int (nI k), .int (nI now)])), (aB, xB cy 6 (fun j => some (ab j))), (o2, .inr (2, [.ref gR])), (gR, xI cy 16 fR), (o3, .inr (3, [.ref gT, .int lv0, .int sz0])), (gT, xI cy 25 fT), (oA, .inr (1, [.ref gA, .int (nI k), .int (nI zA)])), (gA, xI cy 32 fA), (oB, .inr (1, [.ref gB, .int (nI k), .int (nI zB)])), (gB, xI cy 32 fB), (oC, .inr (1, [.ref gC, .int (nI k), .int (nI zC)])), (gC, xI cy 32 fC), (qL, xI cy 60 fL), (qM, xI cy 60 fG), (a5, .inr (5, [.int (nI 1), .int (nI k), .int (nI now), .ref mD, .ref mI, .ref mZ, .int (nI nl), .ref mK, .ref mO, .ref mE, .ref mR, .ref mF, .int kM, .int oM])), (mD, xI cy 600000 G), (mI, xI cy 100000 It), (mZ, xZ cy 100000 Zt), (mK, xI cy 32 fK), (mO, xI cy 32 fO), (mE, xI cy 32 fE), (mR, xI cy 16 fQ), (mF, xI cy 17 fF)]) [20, 21, 22, 0, 1, 2, 3, 4, 5, 6, 7, 8, 9, 10, 11, 23, 12, 13, 14, 15, 16, 17, 18, 19] hP hD rfl (by decide)
        exact knext _ _ _ _ _ ⟨now, zA, zB, zC, nl, lv0, sz0, (nI 1), kM, oM, fo, fR, fT, fA, fB, fC, fL, fG, G, It, Zt, fK, fO, fE, fQ, fF, lst, σ, hR.next (by omega) (by omega), hP, hD⟩ hS (lv_sub hl [2, 3, 4, 5, 6] rfl)
      · exact absurd c_14 (by omega)
    · exact absurd c_13 (by omega)
  · rcases p_bk (xs (i + 2)) with hbi | ⟨b2, hb62, hp2⟩
    · refine lv_aload_n hx hb dL_law_383 rfl (lv_at hl 1 rfl) ?_
      refine lv_aload_n hx hb dL_law_384 rfl (lv_at hl 0 rfl) ?_
      refine lv_iload hx hb dL_law_385 (lv_at hl 4 rfl) ?_
      refine lv_iconst (v := nI 1) hx hb dL_law_387 (by decide) ?_
      refine lv_iadd hx hb dL_law_388 ?_
      refine lv_eqi (z := nI (i + 1)) (nI_add _ _) ?_
      refine va_sld hx hb hX hsb hbA hS (vp_in_nI (by omega) (by omega)) dL_law_389 ?_
      rw [nI_clamp (by omega)]
      refine lv_eqi (z := nI b) hp1 ?_
      refine lv_aload_n hx hb dL_law_390 rfl (lv_at hl 0 rfl) ?_
      refine lv_iload hx hb dL_law_391 (lv_at hl 4 rfl) ?_
      refine lv_iconst (v := nI 2) hx hb dL_law_393 (by decide) ?_
      refine lv_iadd hx hb dL_law_394 ?_
      refine lv_eqi (z := nI (i + 2)) (nI_add _ _) ?_
      refine va_sld hx hb hX hsb hbA hS (vp_in_nI (by omega) (by omega)) dL_law_395 ?_
      rw [nI_clamp (by omega)]
      refine lv_aload_n hx hb dL_law_396 rfl (lv_at hl 3 rfl) ?_
      refine xcWiT (wr := [(o2, .inr (2, [.ref gR])), (gR, xI cy 16 fR), (o3, .inr (3, [.ref gT, .int lv0, .int sz0])), (gT, xI cy 25 fT), (oA, .inr (1, [.ref gA, .int (nI k), .int (nI zA)])), (gA, xI cy 32 fA), (oB, .inr (1, [.ref gB, .int (nI k), .int (nI zB)])), (gB, xI cy 32 fB), (oC, .inr (1, [.ref gC, .int (nI k), .int (nI zC)])), (gC, xI cy 32 fC), (qL, xI cy 60 fL), (qM, xI cy 60 fG), (a5, .inr (5, [.int th, .int (nI k), .int (nI now), .ref mD, .ref mI, .ref mZ, .int (nI nl), .ref mK, .ref mO, .ref mE, .ref mR, .ref mF, .int kM, .int oM])), (mD, xI cy 600000 G), (mI, xI cy 100000 It), (mZ, xZ cy 100000 Zt), (mK, xI cy 32 fK), (mO, xI cy 32 fO), (mE, xI cy 32 fE), (mR, xI cy 16 fQ), (mF, xI cy 17 fF)]) (vx_runSW (As := [.ref a4, .int (nI b), .int (xs (i + 2)), .ref aO]) (rest := []) ⟨hx, hb, hml, hown, hts⟩ ((w_mergeT l D cy t0 aO a4 fo _ _ _ _ (c_mergeU l hlf D cy t0 a4 aB o2 o3 oA oB oC qL qM k now ab b (xs (i + 2)) hb6 hbi)) H.size) (vx_cwSW 4 hts gL_law_L_merge rfl rfl rfl (by decide +kernel) ⟨Nat.le_of_ble_eq_true rfl, Nat.le_of_ble_eq_true rfl⟩) (xPw.give (wc := [(aO, xL cy 1 fo), (a4, .inr (4, [.ref aB, .ref o2, .ref o3, .ref oA, .ref oB, .ref oC, .ref qL, .ref qM, .int (nI k), .int (nI now)])), (aB, xB cy 6 (fun j => some (ab j)))]) hE hS hA hP hD [0, 1, 2] (by decide) (xtC _ _ rfl)) rfl rfl hl.1 rfl (lv_room (Nat.le_of_ble_eq_true rfl)) dL_law_397 ⟨(show cells + 1 ≤ 601024 by omega), (show slots + 6 ≤ 7293000 by omega)⟩) hP hD hS hA [0, 1, 2] [3, 4, 5, 6, 7, 8, 9, 10, 11, 12, 13, 14, 15, 16, 17, 18, 19, 20, 21, 22, 23] rfl rfl (by decide) (by decide) (fun r_16 u_18 H locs hr_17 hP hD hS => ?_)
      obtain rfl : r_16 = nI 1 := hr_17
      have hP : xP D ([(o2, .inr (2, [.ref gR])), (gR, xI cy 16 fR), (o3, .inr (3, [.ref gT, .int lv0, .int sz0])), (gT, xI cy 25 fT), (oA, .inr (1, [.ref gA, .int (nI k), .int (nI zA)])), (gA, xI cy 32 fA), (oB, .inr (1, [.ref gB, .int (nI k), .int (nI zB)])), (gB, xI cy 32 fB), (oC, .inr (1, [.ref gC, .int (nI k), .int (nI zC)])), (gC, xI cy 32 fC), (qL, xI cy 60 fL), (qM, xI cy 60 fG), (a5, .inr (5, [.int th, .int (nI k), .int (nI now), .ref mD, .ref mI, .ref mZ, .int (nI nl), .ref mK, .ref mO, .ref mE, .ref mR, .ref mF, .int kM, .int oM])), (mD, xI cy 600000 G), (mI, xI cy 100000 It), (mZ, xZ cy 100000 Zt), (mK, xI cy 32 fK), (mO, xI cy 32 fO), (mE, xI cy 32 fE), (mR, xI cy 16 fQ), (mF, xI cy 17 fF), (aO, xL cy 1 fo), (a4, .inr (4, [.ref aB, .ref o2, .ref o3, .ref oA, .ref oB, .ref oC, .ref qL, .ref qM, .int (nI k), .int (nI now)])), (aB, xB cy 6 (fun j => some (ab j)))] ++ bks cy ab σ b06) H := hP
      have hD : va_D A ([(o2, .inr (2, [.ref gR])), (gR, xI cy 16 fR), (o3, .inr (3, [.ref gT, .int lv0, .int sz0])), (gT, xI cy 25 fT), (oA, .inr (1, [.ref gA, .int (nI k), .int (nI zA)])), (gA, xI cy 32 fA), (oB, .inr (1, [.ref gB, .int (nI k), .int (nI zB)])), (gB, xI cy 32 fB), (oC, .inr (1, [.ref gC, .int (nI k), .int (nI zC)])), (gC, xI cy 32 fC), (qL, xI cy 60 fL), (qM, xI cy 60 fG), (a5, .inr (5, [.int th, .int (nI k), .int (nI now), .ref mD, .ref mI, .ref mZ, .int (nI nl), .ref mK, .ref mO, .ref mE, .ref mR, .ref mF, .int kM, .int oM])), (mD, xI cy 600000 G), (mI, xI cy 100000 It), (mZ, xZ cy 100000 Zt), (mK, xI cy 32 fK), (mO, xI cy 32 fO), (mE, xI cy 32 fE), (mR, xI cy 16 fQ), (mF, xI cy 17 fF), (aO, xL cy 1 fo), (a4, .inr (4, [.ref aB, .ref o2, .ref o3, .ref oA, .ref oB, .ref oC, .ref qL, .ref qM, .int (nI k), .int (nI now)])), (aB, xB cy 6 (fun j => some (ab j)))] ++ bks cy ab σ b06) := hD
      refine lv_istore (lv' := [(5, .int (nI 1)), (0, .ref sb), (1, .ref a4), (2, .ref a5), (3, .ref aO), (4, .int (nI i))]) hx hb dL_law_400 hl (by decide) rfl (fun ls hl => ?_)
      refine lv_aload_n hx hb dL_law_402 rfl (lv_at hl 3 rfl) ?_
      refine lv_aload_n hx hb dL_law_403 rfl (lv_at hl 1 rfl) ?_
      refine lv_iload hx hb dL_law_404 (lv_at hl 5 rfl) ?_
      refine lv_iconst (v := nI 1) hx hb dL_law_406 (by decide) ?_
      refine lv_iadd hx hb dL_law_407 ?_
      refine lv_eqi (z := nI (i + 1)) (nI_add _ _) ?_
      refine va_sld hx hb hX hsb hbA hS (vp_in_nI (by omega) (by omega)) dL_law_408 ?_
      rw [nI_clamp (by omega)]
      refine lv_eqi (z := nI b) hp1 ?_
      refine lv_aload_n hx hb dL_law_409 rfl (lv_at hl 1 rfl) ?_
      refine lv_iload hx hb dL_law_410 (lv_at hl 5 rfl) ?_
      refine lv_iconst (v := nI 2) hx hb dL_law_412 (by decide) ?_
      refine lv_iadd hx hb dL_law_413 ?_
      refine lv_eqi (z := nI (i + 2)) (nI_add _ _) ?_
      refine va_sld hx hb hX hsb hbA hS (vp_in_nI (by omega) (by omega)) dL_law_414 ?_
      rw [nI_clamp (by omega)]
      refine xcWiT (wr := [(o2, .inr (2, [.ref gR])), (gR, xI cy 16 fR), (o3, .inr (3, [.ref gT, .int lv0, .int sz0])), (gT, xI cy 25 fT), (oA, .inr (1, [.ref gA, .int (nI k), .int (nI zA)])), (gA, xI cy 32 fA), (oB, .inr (1, [.ref gB, .int (nI k), .int (nI zB)])), (gB, xI cy 32 fB), (oC, .inr (1, [.ref gC, .int (nI k), .int (nI zC)])), (gC, xI cy 32 fC), (qL, xI cy 60 fL), (qM, xI cy 60 fG), (mD, xI cy 600000 G), (mI, xI cy 100000 It), (mZ, xZ cy 100000 Zt), (mK, xI cy 32 fK), (mO, xI cy 32 fO), (mE, xI cy 32 fE), (mR, xI cy 16 fQ), (mF, xI cy 17 fF), (aO, xL cy 1 fo), (a4, .inr (4, [.ref aB, .ref o2, .ref o3, .ref oA, .ref oB, .ref oC, .ref qL, .ref qM, .int (nI k), .int (nI now)])), (aB, xB cy 6 (fun j => some (ab j)))]) (va_runV (As := [.int (nI b), .int (xs (i + 2))]) (rest := []) ⟨hx, hb, hml, hown, hts⟩ ((m_mergeU l D cy t0 a5 mD mI mZ mK mO mE mR mF k th (nI now) (nI nl) kM oM b (xs (i + 2)) hb6 hbi) H.size) (cwV 2 hts gL_law_X5_merge rfl rfl rfl (by decide +kernel) ⟨Nat.le_of_ble_eq_true rfl, Nat.le_of_ble_eq_true rfl⟩) (xPw.giveV (wc := [(a5, .inr (5, [.int th, .int (nI k), .int (nI now), .ref mD, .ref mI, .ref mZ, .int (nI nl), .ref mK, .ref mO, .ref mE, .ref mR, .ref mF, .int kM, .int oM]))]) hE hS hA hP hD [12] (by decide) (xtC _ _ rfl) 12 5 rfl rfl) rfl rfl hl.1 rfl (lv_room (Nat.le_of_ble_eq_true rfl)) dL_law_415 ⟨(show (cells + 1) + 0 ≤ 601024 by omega), (show (slots + 6) + 0 ≤ 7293000 by omega)⟩) hP hD hS hA [12] [0, 1, 2, 3, 4, 5, 6, 7, 8, 9, 10, 11, 13, 14, 15, 16, 17, 18, 19, 20, 21, 22, 23] rfl rfl (by decide) (by decide) (fun r_20 u_22 H locs hr_21 hP hD hS => ?_)
      have hq9 := hr_21
      have hP : xP D ([(o2, .inr (2, [.ref gR])), (gR, xI cy 16 fR), (o3, .inr (3, [.ref gT, .int lv0, .int sz0])), (gT, xI cy 25 fT), (oA, .inr (1, [.ref gA, .int (nI k), .int (nI zA)])), (gA, xI cy 32 fA), (oB, .inr (1, [.ref gB, .int (nI k), .int (nI zB)])), (gB, xI cy 32 fB), (oC, .inr (1, [.ref gC, .int (nI k), .int (nI zC)])), (gC, xI cy 32 fC), (qL, xI cy 60 fL), (qM, xI cy 60 fG), (mD, xI cy 600000 G), (mI, xI cy 100000 It), (mZ, xZ cy 100000 Zt), (mK, xI cy 32 fK), (mO, xI cy 32 fO), (mE, xI cy 32 fE), (mR, xI cy 16 fQ), (mF, xI cy 17 fF), (aO, xL cy 1 fo), (a4, .inr (4, [.ref aB, .ref o2, .ref o3, .ref oA, .ref oB, .ref oC, .ref qL, .ref qM, .int (nI k), .int (nI now)])), (aB, xB cy 6 (fun j => some (ab j))), (a5, .inr (5, [.int (nI 1), .int (nI k), .int (nI now), .ref mD, .ref mI, .ref mZ, .int (nI nl), .ref mK, .ref mO, .ref mE, .ref mR, .ref mF, .int kM, .int oM]))] ++ bks cy ab σ b06) H := hP
      have hD : va_D A ([(o2, .inr (2, [.ref gR])), (gR, xI cy 16 fR), (o3, .inr (3, [.ref gT, .int lv0, .int sz0])), (gT, xI cy 25 fT), (oA, .inr (1, [.ref gA, .int (nI k), .int (nI zA)])), (gA, xI cy 32 fA), (oB, .inr (1, [.ref gB, .int (nI k), .int (nI zB)])), (gB, xI cy 32 fB), (oC, .inr (1, [.ref gC, .int (nI k), .int (nI zC)])), (gC, xI cy 32 fC), (qL, xI cy 60 fL), (qM, xI cy 60 fG), (mD, xI cy 600000 G), (mI, xI cy 100000 It), (mZ, xZ cy 100000 Zt), (mK, xI cy 32 fK), (mO, xI cy 32 fO), (mE, xI cy 32 fE), (mR, xI cy 16 fQ), (mF, xI cy 17 fF), (aO, xL cy 1 fo), (a4, .inr (4, [.ref aB, .ref o2, .ref o3, .ref oA, .ref oB, .ref oC, .ref qL, .ref qM, .int (nI k), .int (nI now)])), (aB, xB cy 6 (fun j => some (ab j))), (a5, .inr (5, [.int (nI 1), .int (nI k), .int (nI now), .ref mD, .ref mI, .ref mZ, .int (nI nl), .ref mK, .ref mO, .ref mE, .ref mR, .ref mF, .int kM, .int oM]))] ++ bks cy ab σ b06) := hD
      refine lv_istore (lv' := [(6, .int r_20), (5, .int (nI 1)), (0, .ref sb), (1, .ref a4), (2, .ref a5), (3, .ref aO), (4, .int (nI i))]) hx hb dL_law_418 hl (by decide) rfl (fun ls hl => ?_)
      refine lv_aload_n hx hb dL_law_420 rfl (lv_at hl 4 rfl) ?_
      refine xcRi (va_runV (As := []) (rest := []) ⟨hx, hb, hml, hown, hts⟩ (m_thrown l D cy t0 a5 mD mI mZ mK mO mE mR mF k (nI 1) (nI now) (nI nl) kM oM) (cwV 0 hts gL_law_X5_thrown rfl rfl rfl (by decide +kernel) ⟨Nat.le_of_ble_eq_true rfl, Nat.le_of_ble_eq_true rfl⟩) (xPr.giveV (wc := [(a5, .inr (5, [.int (nI 1), .int (nI k), .int (nI now), .ref mD, .ref mI, .ref mZ, .int (nI nl), .ref mK, .ref mO, .ref mE, .ref mR, .ref mF, .int kM, .int oM]))]) hE hS hP [23] (xfm _ _ (xtC _ _ rfl)) 23 5 rfl rfl) rfl rfl hl.1 rfl (lv_room (Nat.le_of_ble_eq_true rfl)) dL_law_421 ⟨(show ((cells + 1) + 0) + 0 ≤ 601024 by omega), (show ((slots + 6) + 0) + 0 ≤ 7293000 by omega)⟩) (fun r_24 hr_25 => ?_)
      obtain rfl : r_24 = nI 1 := hr_25
      refine lv_iload hx hb dL_law_424 (lv_at hl 1 rfl) ?_
      refine xb_icmp_eq (tgt := 431) (a := 1) (b := 1) (by omega) (by omega) hx hb dL_law_426 (by decide) (fun c_27 => ?_) (fun c_27 => ?_)
      · refine lv_iload hx hb dL_law_431 (lv_at hl 1 rfl) ?_
        refine xb_if_ne (tgt := 448) (a := 1) (by omega) hx hb dL_law_433 (by decide) (fun c_28 => ?_) (fun c_28 => ?_)
        · refine lv_goto (tgt := 1591) hx hb dL_law_448 (by decide) ?_
          obtain ⟨hP, hD⟩ := xsubT (ps' := [(aO, xL cy 1 fo), (a4, .inr (4, [.ref aB, .ref o2, .ref o3, .ref oA, .ref oB, .ref oC, .ref qL, .ref qM, .int (nI k), .int (nI now)])), (aB, xB cy 6 (fun j => some (ab j))), (o2, .inr (2, [.ref gR])), (gR, xI cy 16 fR), (o3, .inr (3, [.ref gT, .int lv0, .int sz0])), (gT, xI cy 25 fT), (oA, .inr (1, [.ref gA, .int (nI k), .int (nI zA)])), (gA, xI cy 32 fA), (oB, .inr (1, [.ref gB, .int (nI k), .int (nI zB)])), (gB, xI cy 32 fB), (oC, .inr (1, [.ref gC, .int (nI k), .int (nI zC)])), (gC, xI cy 32 fC), (qL, xI cy 60 fL), (qM, xI cy 60 fG), (a5, .inr (5, [.int (nI 1), .int (nI k), .int (nI now), .ref mD, .ref mI, .ref mZ, .int (nI nl), .ref mK, .ref mO, .ref mE, .ref mR, .ref mF, .int kM, .int oM])), (mD, xI cy 600000 G), (mI, xI cy 100000 It), (mZ, xZ cy 100000 Zt), (mK, xI cy 32 fK), (mO, xI cy 32 fO), (mE, xI cy 32 fE), (mR, xI cy 16 fQ), (mF, xI cy 17 fF)]) [20, 21, 22, 0, 1, 2, 3, 4, 5, 6, 7, 8, 9, 10, 11, 23, 12, 13, 14, 15, 16, 17, 18, 19] hP hD rfl (by decide)
          exact knext _ _ _ _ _ ⟨now, zA, zB, zC, nl, lv0, sz0, (nI 1), kM, oM, fo, fR, fT, fA, fB, fC, fL, fG, G, It, Zt, fK, fO, fE, fQ, fF, lst, σ, hR.next (by omega) (by omega), hP, hD⟩ hS (lv_sub hl [2, 3, 4, 5, 6] rfl)
        · exact absurd c_28 (by omega)
      · exact absurd c_27 (by omega)
    · by_cases hne : b = b2
      · subst hne
        obtain ⟨hP, hD⟩ := xfoc hb6 hP hD
        rcases hs9 : σ b with ⟨qi, qd, n, cap, fi, fd⟩
        have hV := hBR b hb6
        rw [hs9] at hV
        have hV : BR (mb G b) n cap fi fd := hV
        unfold bkc at hP hD
        rw [hs9] at hP hD
        have hP : xP D ([(aO, xL cy 1 fo), (a4, .inr (4, [.ref aB, .ref o2, .ref o3, .ref oA, .ref oB, .ref oC, .ref qL, .ref qM, .int (nI k), .int (nI now)])), (aB, xB cy 6 (fun j => some (ab j))), (o2, .inr (2, [.ref gR])), (gR, xI cy 16 fR), (o3, .inr (3, [.ref gT, .int lv0, .int sz0])), (gT, xI cy 25 fT), (oA, .inr (1, [.ref gA, .int (nI k), .int (nI zA)])), (gA, xI cy 32 fA), (oB, .inr (1, [.ref gB, .int (nI k), .int (nI zB)])), (gB, xI cy 32 fB), (oC, .inr (1, [.ref gC, .int (nI k), .int (nI zC)])), (gC, xI cy 32 fC), (qL, xI cy 60 fL), (qM, xI cy 60 fG), (a5, .inr (5, [.int th, .int (nI k), .int (nI now), .ref mD, .ref mI, .ref mZ, .int (nI nl), .ref mK, .ref mO, .ref mE, .ref mR, .ref mF, .int kM, .int oM])), (mD, xI cy 600000 G), (mI, xI cy 100000 It), (mZ, xZ cy 100000 Zt), (mK, xI cy 32 fK), (mO, xI cy 32 fO), (mE, xI cy 32 fE), (mR, xI cy 16 fQ), (mF, xI cy 17 fF), ((ab b), .inr (0, [.ref qi, .ref qd, .int (nI n)])), (qi, xI cy cap fi), (qd, xI cy cap fd)] ++ bks cy ab σ (bOT b)) H := hP
        have hD : va_D A ([(aO, xL cy 1 fo), (a4, .inr (4, [.ref aB, .ref o2, .ref o3, .ref oA, .ref oB, .ref oC, .ref qL, .ref qM, .int (nI k), .int (nI now)])), (aB, xB cy 6 (fun j => some (ab j))), (o2, .inr (2, [.ref gR])), (gR, xI cy 16 fR), (o3, .inr (3, [.ref gT, .int lv0, .int sz0])), (gT, xI cy 25 fT), (oA, .inr (1, [.ref gA, .int (nI k), .int (nI zA)])), (gA, xI cy 32 fA), (oB, .inr (1, [.ref gB, .int (nI k), .int (nI zB)])), (gB, xI cy 32 fB), (oC, .inr (1, [.ref gC, .int (nI k), .int (nI zC)])), (gC, xI cy 32 fC), (qL, xI cy 60 fL), (qM, xI cy 60 fG), (a5, .inr (5, [.int th, .int (nI k), .int (nI now), .ref mD, .ref mI, .ref mZ, .int (nI nl), .ref mK, .ref mO, .ref mE, .ref mR, .ref mF, .int kM, .int oM])), (mD, xI cy 600000 G), (mI, xI cy 100000 It), (mZ, xZ cy 100000 Zt), (mK, xI cy 32 fK), (mO, xI cy 32 fO), (mE, xI cy 32 fE), (mR, xI cy 16 fQ), (mF, xI cy 17 fF), ((ab b), .inr (0, [.ref qi, .ref qd, .int (nI n)])), (qi, xI cy cap fi), (qd, xI cy cap fd)] ++ bks cy ab σ (bOT b)) := hD
        refine lv_aload_n hx hb dL_law_383 rfl (lv_at hl 1 rfl) ?_
        refine lv_aload_n hx hb dL_law_384 rfl (lv_at hl 0 rfl) ?_
        refine lv_iload hx hb dL_law_385 (lv_at hl 4 rfl) ?_
        refine lv_iconst (v := nI 1) hx hb dL_law_387 (by decide) ?_
        refine lv_iadd hx hb dL_law_388 ?_
        refine lv_eqi (z := nI (i + 1)) (nI_add _ _) ?_
        refine va_sld hx hb hX hsb hbA hS (vp_in_nI (by omega) (by omega)) dL_law_389 ?_
        rw [nI_clamp (by omega)]
        refine lv_eqi (z := nI b) hp1 ?_
        refine lv_aload_n hx hb dL_law_390 rfl (lv_at hl 0 rfl) ?_
        refine lv_iload hx hb dL_law_391 (lv_at hl 4 rfl) ?_
        refine lv_iconst (v := nI 2) hx hb dL_law_393 (by decide) ?_
        refine lv_iadd hx hb dL_law_394 ?_
        refine lv_eqi (z := nI (i + 2)) (nI_add _ _) ?_
        refine va_sld hx hb hX hsb hbA hS (vp_in_nI (by omega) (by omega)) dL_law_395 ?_
        rw [nI_clamp (by omega)]
        refine lv_eqi (z := nI b) hp2 ?_
        refine lv_aload_n hx hb dL_law_396 rfl (lv_at hl 3 rfl) ?_
        refine xcWiT (wr := [(o2, .inr (2, [.ref gR])), (gR, xI cy 16 fR), (o3, .inr (3, [.ref gT, .int lv0, .int sz0])), (gT, xI cy 25 fT), (oA, .inr (1, [.ref gA, .int (nI k), .int (nI zA)])), (gA, xI cy 32 fA), (oB, .inr (1, [.ref gB, .int (nI k), .int (nI zB)])), (gB, xI cy 32 fB), (oC, .inr (1, [.ref gC, .int (nI k), .int (nI zC)])), (gC, xI cy 32 fC), (qL, xI cy 60 fL), (qM, xI cy 60 fG), (a5, .inr (5, [.int th, .int (nI k), .int (nI now), .ref mD, .ref mI, .ref mZ, .int (nI nl), .ref mK, .ref mO, .ref mE, .ref mR, .ref mF, .int kM, .int oM])), (mD, xI cy 600000 G), (mI, xI cy 100000 It), (mZ, xZ cy 100000 Zt), (mK, xI cy 32 fK), (mO, xI cy 32 fO), (mE, xI cy 32 fE), (mR, xI cy 16 fQ), (mF, xI cy 17 fF)]) (vx_runSW (As := [.ref a4, .int (nI b), .int (nI b), .ref aO]) (rest := []) ⟨hx, hb, hml, hown, hts⟩ ((w_merge l D cy t0 aO a4 fo _ _ _ _ (c_mergeS l D cy t0 a4 aB o2 o3 oA oB oC qL qM k now ab (mb G b) b qi qd n cap fi fd hV hb6)) H.size) (vx_cwSW 4 hts gL_law_L_merge rfl rfl rfl (by decide +kernel) ⟨Nat.le_of_ble_eq_true rfl, Nat.le_of_ble_eq_true rfl⟩) (xPw.give (wc := [(aO, xL cy 1 fo), (a4, .inr (4, [.ref aB, .ref o2, .ref o3, .ref oA, .ref oB, .ref oC, .ref qL, .ref qM, .int (nI k), .int (nI now)])), (aB, xB cy 6 (fun j => some (ab j))), ((ab b), .inr (0, [.ref qi, .ref qd, .int (nI n)])), (qi, xI cy cap fi), (qd, xI cy cap fd)]) hE hS hA hP hD [0, 1, 2, 24, 25, 26] (by decide) (xtC _ _ rfl)) rfl rfl hl.1 rfl (lv_room (Nat.le_of_ble_eq_true rfl)) dL_law_397 ⟨(show cells + 0 ≤ 601024 by omega), (show slots + 0 ≤ 7293000 by omega)⟩) hP hD hS hA [0, 1, 2, 24, 25, 26] [3, 4, 5, 6, 7, 8, 9, 10, 11, 12, 13, 14, 15, 16, 17, 18, 19, 20, 21, 22, 23] rfl rfl (by decide) (by decide) (fun r_30 u_32 H locs hr_31 hP hD hS => ?_)
        obtain ⟨v9, z9⟩ := u_32
        obtain rfl : r_30 = nI 0 := hr_31.1
        obtain rfl : v9 = nI 0 := hr_31.2
        have hP : xP D ([(o2, .inr (2, [.ref gR])), (gR, xI cy 16 fR), (o3, .inr (3, [.ref gT, .int lv0, .int sz0])), (gT, xI cy 25 fT), (oA, .inr (1, [.ref gA, .int (nI k), .int (nI zA)])), (gA, xI cy 32 fA), (oB, .inr (1, [.ref gB, .int (nI k), .int (nI zB)])), (gB, xI cy 32 fB), (oC, .inr (1, [.ref gC, .int (nI k), .int (nI zC)])), (gC, xI cy 32 fC), (qL, xI cy 60 fL), (qM, xI cy 60 fG), (a5, .inr (5, [.int th, .int (nI k), .int (nI now), .ref mD, .ref mI, .ref mZ, .int (nI nl), .ref mK, .ref mO, .ref mE, .ref mR, .ref mF, .int kM, .int oM])), (mD, xI cy 600000 G), (mI, xI cy 100000 It), (mZ, xZ cy 100000 Zt), (mK, xI cy 32 fK), (mO, xI cy 32 fO), (mE, xI cy 32 fE), (mR, xI cy 16 fQ), (mF, xI cy 17 fF), (aO, xL cy 1 (vp_updL fo 0 ((nI 0).toInt64))), (a4, .inr (4, [.ref aB, .ref o2, .ref o3, .ref oA, .ref oB, .ref oC, .ref qL, .ref qM, .int (nI k), .int (nI now)])), (aB, xB cy 6 (fun j => some (ab j))), ((ab b), .inr (0, [.ref qi, .ref qd, .int (nI n)])), (qi, xI cy cap fi), (qd, xI cy cap fd)] ++ bks cy ab σ (bOT b)) H := hP
        have hD : va_D A ([(o2, .inr (2, [.ref gR])), (gR, xI cy 16 fR), (o3, .inr (3, [.ref gT, .int lv0, .int sz0])), (gT, xI cy 25 fT), (oA, .inr (1, [.ref gA, .int (nI k), .int (nI zA)])), (gA, xI cy 32 fA), (oB, .inr (1, [.ref gB, .int (nI k), .int (nI zB)])), (gB, xI cy 32 fB), (oC, .inr (1, [.ref gC, .int (nI k), .int (nI zC)])), (gC, xI cy 32 fC), (qL, xI cy 60 fL), (qM, xI cy 60 fG), (a5, .inr (5, [.int th, .int (nI k), .int (nI now), .ref mD, .ref mI, .ref mZ, .int (nI nl), .ref mK, .ref mO, .ref mE, .ref mR, .ref mF, .int kM, .int oM])), (mD, xI cy 600000 G), (mI, xI cy 100000 It), (mZ, xZ cy 100000 Zt), (mK, xI cy 32 fK), (mO, xI cy 32 fO), (mE, xI cy 32 fE), (mR, xI cy 16 fQ), (mF, xI cy 17 fF), (aO, xL cy 1 (vp_updL fo 0 ((nI 0).toInt64))), (a4, .inr (4, [.ref aB, .ref o2, .ref o3, .ref oA, .ref oB, .ref oC, .ref qL, .ref qM, .int (nI k), .int (nI now)])), (aB, xB cy 6 (fun j => some (ab j))), ((ab b), .inr (0, [.ref qi, .ref qd, .int (nI n)])), (qi, xI cy cap fi), (qd, xI cy cap fd)] ++ bks cy ab σ (bOT b)) := hD
        refine lv_istore (lv' := [(5, .int (nI 0)), (0, .ref sb), (1, .ref a4), (2, .ref a5), (3, .ref aO), (4, .int (nI i))]) hx hb dL_law_400 hl (by decide) rfl (fun ls hl => ?_)
        refine lv_aload_n hx hb dL_law_402 rfl (lv_at hl 3 rfl) ?_
        refine lv_aload_n hx hb dL_law_403 rfl (lv_at hl 1 rfl) ?_
        refine lv_iload hx hb dL_law_404 (lv_at hl 5 rfl) ?_
        refine lv_iconst (v := nI 1) hx hb dL_law_406 (by decide) ?_
        refine lv_iadd hx hb dL_law_407 ?_
        refine lv_eqi (z := nI (i + 1)) (nI_add _ _) ?_
        refine va_sld hx hb hX hsb hbA hS (vp_in_nI (by omega) (by omega)) dL_law_408 ?_
        rw [nI_clamp (by omega)]
        refine lv_eqi (z := nI b) hp1 ?_
        refine lv_aload_n hx hb dL_law_409 rfl (lv_at hl 1 rfl) ?_
        refine lv_iload hx hb dL_law_410 (lv_at hl 5 rfl) ?_
        refine lv_iconst (v := nI 2) hx hb dL_law_412 (by decide) ?_
        refine lv_iadd hx hb dL_law_413 ?_
        refine lv_eqi (z := nI (i + 2)) (nI_add _ _) ?_
        refine va_sld hx hb hX hsb hbA hS (vp_in_nI (by omega) (by omega)) dL_law_414 ?_
        rw [nI_clamp (by omega)]
        refine lv_eqi (z := nI b) hp2 ?_
        refine xcWiT (wr := [(o2, .inr (2, [.ref gR])), (gR, xI cy 16 fR), (o3, .inr (3, [.ref gT, .int lv0, .int sz0])), (gT, xI cy 25 fT), (oA, .inr (1, [.ref gA, .int (nI k), .int (nI zA)])), (gA, xI cy 32 fA), (oB, .inr (1, [.ref gB, .int (nI k), .int (nI zB)])), (gB, xI cy 32 fB), (oC, .inr (1, [.ref gC, .int (nI k), .int (nI zC)])), (gC, xI cy 32 fC), (qL, xI cy 60 fL), (qM, xI cy 60 fG), (mK, xI cy 32 fK), (mO, xI cy 32 fO), (mE, xI cy 32 fE), (mR, xI cy 16 fQ), (mF, xI cy 17 fF), (aO, xL cy 1 (vp_updL fo 0 ((nI 0).toInt64))), (a4, .inr (4, [.ref aB, .ref o2, .ref o3, .ref oA, .ref oB, .ref oC, .ref qL, .ref qM, .int (nI k), .int (nI now)])), (aB, xB cy 6 (fun j => some (ab j))), ((ab b), .inr (0, [.ref qi, .ref qd, .int (nI n)])), (qi, xI cy cap fi), (qd, xI cy cap fd)]) (va_runV (As := [.int (nI b), .int (nI b)]) (rest := []) ⟨hx, hb, hml, hown, hts⟩ ((m_merge l D cy t0 a5 mD mI mZ mK mO mE mR mF k th (nI now) kM oM nl b b G It Zt lst hML hCV hb6 hb6 (hMV b)) H.size) (cwV 2 hts gL_law_X5_merge rfl rfl rfl (by decide +kernel) ⟨Nat.le_of_ble_eq_true rfl, Nat.le_of_ble_eq_true rfl⟩) (xPw.giveV (wc := [(a5, .inr (5, [.int th, .int (nI k), .int (nI now), .ref mD, .ref mI, .ref mZ, .int (nI nl), .ref mK, .ref mO, .ref mE, .ref mR, .ref mF, .int kM, .int oM])), (mD, xI cy 600000 G), (mI, xI cy 100000 It), (mZ, xZ cy 100000 Zt)]) hE hS hA hP hD [12, 13, 14, 15] (by decide) (xtC _ _ rfl) 12 5 rfl rfl) rfl rfl hl.1 rfl (lv_room (Nat.le_of_ble_eq_true rfl)) dL_law_415 ⟨(show (cells + 0) + 0 ≤ 601024 by omega), (show (slots + 0) + 0 ≤ 7293000 by omega)⟩) hP hD hS hA [12, 13, 14, 15] [0, 1, 2, 3, 4, 5, 6, 7, 8, 9, 10, 11, 16, 17, 18, 19, 20, 21, 22, 23, 24, 25, 26] rfl rfl (by decide) (by decide) (fun r_34 u_36 H locs hr_35 hP hD hS => ?_)
        obtain ⟨G2, rfl⟩ : ∃ z9, z9 = u_36 := ⟨_, rfl⟩
        obtain rfl : r_34 = nI 0 := by rw [hr_35.1, nwK_self]
        have hGU : GU G G2 b (mb G b) := by
          have q := hr_35.2.1
          rw [mrg_self] at q
          exact q
        have hCV3 : CV G2 lst nl := hr_35.2.2
        have hP : xP D ([(o2, .inr (2, [.ref gR])), (gR, xI cy 16 fR), (o3, .inr (3, [.ref gT, .int lv0, .int sz0])), (gT, xI cy 25 fT), (oA, .inr (1, [.ref gA, .int (nI k), .int (nI zA)])), (gA, xI cy 32 fA), (oB, .inr (1, [.ref gB, .int (nI k), .int (nI zB)])), (gB, xI cy 32 fB), (oC, .inr (1, [.ref gC, .int (nI k), .int (nI zC)])), (gC, xI cy 32 fC), (qL, xI cy 60 fL), (qM, xI cy 60 fG), (mK, xI cy 32 fK), (mO, xI cy 32 fO), (mE, xI cy 32 fE), (mR, xI cy 16 fQ), (mF, xI cy 17 fF), (aO, xL cy 1 (vp_updL fo 0 ((nI 0).toInt64))), (a4, .inr (4, [.ref aB, .ref o2, .ref o3, .ref oA, .ref oB, .ref oC, .ref qL, .ref qM, .int (nI k), .int (nI now)])), (aB, xB cy 6 (fun j => some (ab j))), ((ab b), .inr (0, [.ref qi, .ref qd, .int (nI n)])), (qi, xI cy cap fi), (qd, xI cy cap fd), (a5, .inr (5, [.int (nI 0), .int (nI k), .int (nI now), .ref mD, .ref mI, .ref mZ, .int (nI nl), .ref mK, .ref mO, .ref mE, .ref mR, .ref mF, .int kM, .int oM])), (mD, xI cy 600000 G2), (mI, xI cy 100000 It), (mZ, xZ cy 100000 Zt)] ++ bks cy ab σ (bOT b)) H := hP
        have hD : va_D A ([(o2, .inr (2, [.ref gR])), (gR, xI cy 16 fR), (o3, .inr (3, [.ref gT, .int lv0, .int sz0])), (gT, xI cy 25 fT), (oA, .inr (1, [.ref gA, .int (nI k), .int (nI zA)])), (gA, xI cy 32 fA), (oB, .inr (1, [.ref gB, .int (nI k), .int (nI zB)])), (gB, xI cy 32 fB), (oC, .inr (1, [.ref gC, .int (nI k), .int (nI zC)])), (gC, xI cy 32 fC), (qL, xI cy 60 fL), (qM, xI cy 60 fG), (mK, xI cy 32 fK), (mO, xI cy 32 fO), (mE, xI cy 32 fE), (mR, xI cy 16 fQ), (mF, xI cy 17 fF), (aO, xL cy 1 (vp_updL fo 0 ((nI 0).toInt64))), (a4, .inr (4, [.ref aB, .ref o2, .ref o3, .ref oA, .ref oB, .ref oC, .ref qL, .ref qM, .int (nI k), .int (nI now)])), (aB, xB cy 6 (fun j => some (ab j))), ((ab b), .inr (0, [.ref qi, .ref qd, .int (nI n)])), (qi, xI cy cap fi), (qd, xI cy cap fd), (a5, .inr (5, [.int (nI 0), .int (nI k), .int (nI now), .ref mD, .ref mI, .ref mZ, .int (nI nl), .ref mK, .ref mO, .ref mE, .ref mR, .ref mF, .int kM, .int oM])), (mD, xI cy 600000 G2), (mI, xI cy 100000 It), (mZ, xZ cy 100000 Zt)] ++ bks cy ab σ (bOT b)) := hD
        refine lv_istore (lv' := [(6, .int (nI 0)), (5, .int (nI 0)), (0, .ref sb), (1, .ref a4), (2, .ref a5), (3, .ref aO), (4, .int (nI i))]) hx hb dL_law_418 hl (by decide) rfl (fun ls hl => ?_)
        refine lv_aload_n hx hb dL_law_420 rfl (lv_at hl 4 rfl) ?_
        refine xcRi (va_runV (As := []) (rest := []) ⟨hx, hb, hml, hown, hts⟩ (m_thrown l D cy t0 a5 mD mI mZ mK mO mE mR mF k (nI 0) (nI now) (nI nl) kM oM) (cwV 0 hts gL_law_X5_thrown rfl rfl rfl (by decide +kernel) ⟨Nat.le_of_ble_eq_true rfl, Nat.le_of_ble_eq_true rfl⟩) (xPr.giveV (wc := [(a5, .inr (5, [.int (nI 0), .int (nI k), .int (nI now), .ref mD, .ref mI, .ref mZ, .int (nI nl), .ref mK, .ref mO, .ref mE, .ref mR, .ref mF, .int kM, .int oM]))]) hE hS hP [23] (xfm _ _ (xtC _ _ rfl)) 23 5 rfl rfl) rfl rfl hl.1 rfl (lv_room (Nat.le_of_ble_eq_true rfl)) dL_law_421 ⟨(show ((cells + 0) + 0) + 0 ≤ 601024 by omega), (show ((slots + 0) + 0) + 0 ≤ 7293000 by omega)⟩) (fun r_38 hr_39 => ?_)
        obtain rfl : r_38 = nI 0 := hr_39
        refine lv_iload hx hb dL_law_424 (lv_at hl 1 rfl) ?_
        refine xb_icmp_eq (tgt := 431) (a := 0) (b := 0) (by omega) (by omega) hx hb dL_law_426 (by decide) (fun c_41 => ?_) (fun c_41 => ?_)
        · refine lv_iload hx hb dL_law_431 (lv_at hl 1 rfl) ?_
          refine xb_if_ne (tgt := 448) (a := 0) (by omega) hx hb dL_law_433 (by decide) (fun c_42 => ?_) (fun c_42 => ?_)
          · exact absurd c_42 (by omega)
          · refine lv_aload_n hx hb dL_law_436 rfl (lv_at hl 5 rfl) ?_
            refine lv_iconst (v := nI 0) hx hb dL_law_437 (by decide) ?_
            refine va_lald (D := D) hx hb hE.1 hP 17 2 rfl rfl (vp_in_nI (by omega) (by omega)) dL_law_438 ?_
            rw [nI_clamp (by omega), updL0]
            refine lv_iload hx hb dL_law_439 (lv_at hl 0 rfl) ?_
            refine lv_i2l (v := lN 0) hx hb dL_law_441 (nI_l (by omega)) ?_
            refine W.lcmp hx hb dL_law_442 ?_
            refine lv_if_eq (tgt := 448) hx hb dL_law_443 (by decide) (fun c_43 => ?_) (fun c_43 => ?_)
            · refine lv_goto (tgt := 1591) hx hb dL_law_448 (by decide) ?_
              obtain ⟨hP, hD⟩ := xsubT (ps' := [(aO, xL cy 1 (vp_updL fo 0 ((nI 0).toInt64))), (a4, .inr (4, [.ref aB, .ref o2, .ref o3, .ref oA, .ref oB, .ref oC, .ref qL, .ref qM, .int (nI k), .int (nI now)])), (aB, xB cy 6 (fun j => some (ab j))), (o2, .inr (2, [.ref gR])), (gR, xI cy 16 fR), (o3, .inr (3, [.ref gT, .int lv0, .int sz0])), (gT, xI cy 25 fT), (oA, .inr (1, [.ref gA, .int (nI k), .int (nI zA)])), (gA, xI cy 32 fA), (oB, .inr (1, [.ref gB, .int (nI k), .int (nI zB)])), (gB, xI cy 32 fB), (oC, .inr (1, [.ref gC, .int (nI k), .int (nI zC)])), (gC, xI cy 32 fC), (qL, xI cy 60 fL), (qM, xI cy 60 fG), (a5, .inr (5, [.int (nI 0), .int (nI k), .int (nI now), .ref mD, .ref mI, .ref mZ, .int (nI nl), .ref mK, .ref mO, .ref mE, .ref mR, .ref mF, .int kM, .int oM])), (mD, xI cy 600000 G2), (mI, xI cy 100000 It), (mZ, xZ cy 100000 Zt), (mK, xI cy 32 fK), (mO, xI cy 32 fO), (mE, xI cy 32 fE), (mR, xI cy 16 fQ), (mF, xI cy 17 fF), ((ab b), .inr (0, [.ref qi, .ref qd, .int (nI n)])), (qi, xI cy cap fi), (qd, xI cy cap fd)]) [17, 18, 19, 0, 1, 2, 3, 4, 5, 6, 7, 8, 9, 10, 11, 23, 24, 25, 26, 12, 13, 14, 15, 16, 20, 21, 22] hP hD rfl (by decide)
              obtain ⟨hP, hD⟩ := xunf (ps := [(aO, xL cy 1 (vp_updL fo 0 ((nI 0).toInt64))), (a4, .inr (4, [.ref aB, .ref o2, .ref o3, .ref oA, .ref oB, .ref oC, .ref qL, .ref qM, .int (nI k), .int (nI now)])), (aB, xB cy 6 (fun j => some (ab j))), (o2, .inr (2, [.ref gR])), (gR, xI cy 16 fR), (o3, .inr (3, [.ref gT, .int lv0, .int sz0])), (gT, xI cy 25 fT), (oA, .inr (1, [.ref gA, .int (nI k), .int (nI zA)])), (gA, xI cy 32 fA), (oB, .inr (1, [.ref gB, .int (nI k), .int (nI zB)])), (gB, xI cy 32 fB), (oC, .inr (1, [.ref gC, .int (nI k), .int (nI zC)])), (gC, xI cy 32 fC), (qL, xI cy 60 fL), (qM, xI cy 60 fG), (a5, .inr (5, [.int (nI 0), .int (nI k), .int (nI now), .ref mD, .ref mI, .ref mZ, .int (nI nl), .ref mK, .ref mO, .ref mE, .ref mR, .ref mF, .int kM, .int oM])), (mD, xI cy 600000 G2), (mI, xI cy 100000 It), (mZ, xZ cy 100000 Zt), (mK, xI cy 32 fK), (mO, xI cy 32 fO), (mE, xI cy 32 fE), (mR, xI cy 16 fQ), (mF, xI cy 17 fF)]) (σ := σ) (v := (qi, qd, n, cap, fi, fd)) hb6 (by rw [bkc_up]; exact hP) (by rw [bkc_up]; exact hD)
              exact knext _ _ _ _ _ ⟨now, zA, zB, zC, nl, lv0, sz0, (nI 0), kM, oM, (vp_updL fo 0 ((nI 0).toInt64)), fR, fT, fA, fB, fC, fL, fG, G2, It, Zt, fK, fO, fE, fQ, fF, lst, va_up σ b (qi, qd, n, cap, fi, fd), hR.upd hb6 hs9 hGU (hMV b) (fun x hx => mb_hi hx) hV hML hCV3 (by omega) (by show _ + Us cap ≤ slots + Us cap + 6; omega), hP, hD⟩ hS (lv_sub hl [2, 3, 4, 5, 6] rfl)
            · exact absurd (lgc _) c_43
        · exact absurd c_41 (by omega)
      · obtain ⟨hP, hD⟩ := xfoc2 hb6 hb62 hne hP hD
        rcases hs9 : σ b with ⟨qi, qd, n, cap, fi, fd⟩
        rcases hs8 : σ b2 with ⟨qi2, qd2, n2, cap2, fi2, fd2⟩
        have hV := hBR b hb6
        have hV2 := hBR b2 hb62
        rw [hs9] at hV
        rw [hs8] at hV2
        have hV : BR (mb G b) n cap fi fd := hV
        have hV2 : BR (mb G b2) n2 cap2 fi2 fd2 := hV2
        unfold bkc at hP hD
        rw [hs9, hs8] at hP hD
        have hP : xP D ([(aO, xL cy 1 fo), (a4, .inr (4, [.ref aB, .ref o2, .ref o3, .ref oA, .ref oB, .ref oC, .ref qL, .ref qM, .int (nI k), .int (nI now)])), (aB, xB cy 6 (fun j => some (ab j))), (o2, .inr (2, [.ref gR])), (gR, xI cy 16 fR), (o3, .inr (3, [.ref gT, .int lv0, .int sz0])), (gT, xI cy 25 fT), (oA, .inr (1, [.ref gA, .int (nI k), .int (nI zA)])), (gA, xI cy 32 fA), (oB, .inr (1, [.ref gB, .int (nI k), .int (nI zB)])), (gB, xI cy 32 fB), (oC, .inr (1, [.ref gC, .int (nI k), .int (nI zC)])), (gC, xI cy 32 fC), (qL, xI cy 60 fL), (qM, xI cy 60 fG), (a5, .inr (5, [.int th, .int (nI k), .int (nI now), .ref mD, .ref mI, .ref mZ, .int (nI nl), .ref mK, .ref mO, .ref mE, .ref mR, .ref mF, .int kM, .int oM])), (mD, xI cy 600000 G), (mI, xI cy 100000 It), (mZ, xZ cy 100000 Zt), (mK, xI cy 32 fK), (mO, xI cy 32 fO), (mE, xI cy 32 fE), (mR, xI cy 16 fQ), (mF, xI cy 17 fF), ((ab b), .inr (0, [.ref qi, .ref qd, .int (nI n)])), (qi, xI cy cap fi), (qd, xI cy cap fd), ((ab b2), .inr (0, [.ref qi2, .ref qd2, .int (nI n2)])), (qi2, xI cy cap2 fi2), (qd2, xI cy cap2 fd2)] ++ bks cy ab σ (bOU b b2)) H := hP
        have hD : va_D A ([(aO, xL cy 1 fo), (a4, .inr (4, [.ref aB, .ref o2, .ref o3, .ref oA, .ref oB, .ref oC, .ref qL, .ref qM, .int (nI k), .int (nI now)])), (aB, xB cy 6 (fun j => some (ab j))), (o2, .inr (2, [.ref gR])), (gR, xI cy 16 fR), (o3, .inr (3, [.ref gT, .int lv0, .int sz0])), (gT, xI cy 25 fT), (oA, .inr (1, [.ref gA, .int (nI k), .int (nI zA)])), (gA, xI cy 32 fA), (oB, .inr (1, [.ref gB, .int (nI k), .int (nI zB)])), (gB, xI cy 32 fB), (oC, .inr (1, [.ref gC, .int (nI k), .int (nI zC)])), (gC, xI cy 32 fC), (qL, xI cy 60 fL), (qM, xI cy 60 fG), (a5, .inr (5, [.int th, .int (nI k), .int (nI now), .ref mD, .ref mI, .ref mZ, .int (nI nl), .ref mK, .ref mO, .ref mE, .ref mR, .ref mF, .int kM, .int oM])), (mD, xI cy 600000 G), (mI, xI cy 100000 It), (mZ, xZ cy 100000 Zt), (mK, xI cy 32 fK), (mO, xI cy 32 fO), (mE, xI cy 32 fE), (mR, xI cy 16 fQ), (mF, xI cy 17 fF), ((ab b), .inr (0, [.ref qi, .ref qd, .int (nI n)])), (qi, xI cy cap fi), (qd, xI cy cap fd), ((ab b2), .inr (0, [.ref qi2, .ref qd2, .int (nI n2)])), (qi2, xI cy cap2 fi2), (qd2, xI cy cap2 fd2)] ++ bks cy ab σ (bOU b b2)) := hD
        have hw := w_le (M2 := mb G b) hV2
        have hmc := mcR_le (n2 + nwK (mb G b2) (mb G b)) cap2
        obtain ⟨hms, hms2⟩ := msR_us hw hV2.2.2.2
        refine lv_aload_n hx hb dL_law_383 rfl (lv_at hl 1 rfl) ?_
        refine lv_aload_n hx hb dL_law_384 rfl (lv_at hl 0 rfl) ?_
        refine lv_iload hx hb dL_law_385 (lv_at hl 4 rfl) ?_
        refine lv_iconst (v := nI 1) hx hb dL_law_387 (by decide) ?_
        refine lv_iadd hx hb dL_law_388 ?_
        refine lv_eqi (z := nI (i + 1)) (nI_add _ _) ?_
        refine va_sld hx hb hX hsb hbA hS (vp_in_nI (by omega) (by omega)) dL_law_389 ?_
        rw [nI_clamp (by omega)]
        refine lv_eqi (z := nI b) hp1 ?_
        refine lv_aload_n hx hb dL_law_390 rfl (lv_at hl 0 rfl) ?_
        refine lv_iload hx hb dL_law_391 (lv_at hl 4 rfl) ?_
        refine lv_iconst (v := nI 2) hx hb dL_law_393 (by decide) ?_
        refine lv_iadd hx hb dL_law_394 ?_
        refine lv_eqi (z := nI (i + 2)) (nI_add _ _) ?_
        refine va_sld hx hb hX hsb hbA hS (vp_in_nI (by omega) (by omega)) dL_law_395 ?_
        rw [nI_clamp (by omega)]
        refine lv_eqi (z := nI b2) hp2 ?_
        refine lv_aload_n hx hb dL_law_396 rfl (lv_at hl 3 rfl) ?_
        refine xcWiT (wr := [(o2, .inr (2, [.ref gR])), (gR, xI cy 16 fR), (o3, .inr (3, [.ref gT, .int lv0, .int sz0])), (gT, xI cy 25 fT), (oA, .inr (1, [.ref gA, .int (nI k), .int (nI zA)])), (gA, xI cy 32 fA), (oB, .inr (1, [.ref gB, .int (nI k), .int (nI zB)])), (gB, xI cy 32 fB), (oC, .inr (1, [.ref gC, .int (nI k), .int (nI zC)])), (gC, xI cy 32 fC), (qL, xI cy 60 fL), (qM, xI cy 60 fG), (a5, .inr (5, [.int th, .int (nI k), .int (nI now), .ref mD, .ref mI, .ref mZ, .int (nI nl), .ref mK, .ref mO, .ref mE, .ref mR, .ref mF, .int kM, .int oM])), (mD, xI cy 600000 G), (mI, xI cy 100000 It), (mZ, xZ cy 100000 Zt), (mK, xI cy 32 fK), (mO, xI cy 32 fO), (mE, xI cy 32 fE), (mR, xI cy 16 fQ), (mF, xI cy 17 fF)]) (vx_runSW (As := [.ref a4, .int (nI b), .int (nI b2), .ref aO]) (rest := []) ⟨hx, hb, hml, hown, hts⟩ ((w_merge l D cy t0 aO a4 fo _ _ _ _ (c_merge l D cy t0 a4 aB o2 o3 oA oB oC qL qM k now ab (mb G b) (mb G b2) b b2 qi qd n cap qi2 qd2 n2 cap2 fi fd fi2 fd2 (hMV b) (hMV b2) hV hV2 hb6 hb62)) H.size) (vx_cwSW 4 hts gL_law_L_merge rfl rfl rfl (by decide +kernel) ⟨Nat.le_of_ble_eq_true rfl, Nat.le_of_ble_eq_true rfl⟩) (xPw.give (wc := [(aO, xL cy 1 fo), (a4, .inr (4, [.ref aB, .ref o2, .ref o3, .ref oA, .ref oB, .ref oC, .ref qL, .ref qM, .int (nI k), .int (nI now)])), (aB, xB cy 6 (fun j => some (ab j))), ((ab b), .inr (0, [.ref qi, .ref qd, .int (nI n)])), (qi, xI cy cap fi), (qd, xI cy cap fd), ((ab b2), .inr (0, [.ref qi2, .ref qd2, .int (nI n2)])), (qi2, xI cy cap2 fi2), (qd2, xI cy cap2 fd2)]) hE hS hA hP hD [0, 1, 2, 24, 25, 26, 27, 28, 29] (by decide) (xtC _ _ rfl)) rfl rfl hl.1 rfl (lv_room (Nat.le_of_ble_eq_true rfl)) dL_law_397 ⟨(show cells + mcR (n2 + nwK (mb G b2) (mb G b)) cap2 ≤ 601024 by omega), (show slots + msR (n2 + nwK (mb G b2) (mb G b)) cap2 ≤ 7293000 by omega)⟩) hP hD hS hA [0, 1, 2, 24, 25, 26, 27, 28, 29] [3, 4, 5, 6, 7, 8, 9, 10, 11, 12, 13, 14, 15, 16, 17, 18, 19, 20, 21, 22, 23] rfl rfl (by decide) (by decide) (fun r_45 u_47 H locs hr_46 hP hD hS => ?_)
        obtain ⟨v9, qi3, qd3, fi3, fd3⟩ := u_47
        obtain rfl : r_45 = nI 0 := hr_46.1
        obtain rfl : v9 = nI (nwK (mb G b2) (mb G b)) := hr_46.2.1
        have hB : BR (mrg (mb G b2) (mb G b)) (n2 + nwK (mb G b2) (mb G b)) (capR (n2 + nwK (mb G b2) (mb G b)) cap2) fi3 fd3 := hr_46.2.2
        have hP : xP D ([(o2, .inr (2, [.ref gR])), (gR, xI cy 16 fR), (o3, .inr (3, [.ref gT, .int lv0, .int sz0])), (gT, xI cy 25 fT), (oA, .inr (1, [.ref gA, .int (nI k), .int (nI zA)])), (gA, xI cy 32 fA), (oB, .inr (1, [.ref gB, .int (nI k), .int (nI zB)])), (gB, xI cy 32 fB), (oC, .inr (1, [.ref gC, .int (nI k), .int (nI zC)])), (gC, xI cy 32 fC), (qL, xI cy 60 fL), (qM, xI cy 60 fG), (a5, .inr (5, [.int th, .int (nI k), .int (nI now), .ref mD, .ref mI, .ref mZ, .int (nI nl), .ref mK, .ref mO, .ref mE, .ref mR, .ref mF, .int kM, .int oM])), (mD, xI cy 600000 G), (mI, xI cy 100000 It), (mZ, xZ cy 100000 Zt), (mK, xI cy 32 fK), (mO, xI cy 32 fO), (mE, xI cy 32 fE), (mR, xI cy 16 fQ), (mF, xI cy 17 fF), (aO, xL cy 1 (vp_updL fo 0 (nI (nwK (mb G b2) (mb G b))).toInt64)), (a4, .inr (4, [.ref aB, .ref o2, .ref o3, .ref oA, .ref oB, .ref oC, .ref qL, .ref qM, .int (nI k), .int (nI now)])), (aB, xB cy 6 (fun j => some (ab j))), ((ab b), .inr (0, [.ref qi, .ref qd, .int (nI n)])), (qi, xI cy cap fi), (qd, xI cy cap fd), ((ab b2), .inr (0, [.ref qi3, .ref qd3, .int (nI (n2 + nwK (mb G b2) (mb G b)))])), (qi3, xI cy (capR (n2 + nwK (mb G b2) (mb G b)) cap2) fi3), (qd3, xI cy (capR (n2 + nwK (mb G b2) (mb G b)) cap2) fd3)] ++ bks cy ab σ (bOU b b2)) H := hP
        have hD : va_D A ([(o2, .inr (2, [.ref gR])), (gR, xI cy 16 fR), (o3, .inr (3, [.ref gT, .int lv0, .int sz0])), (gT, xI cy 25 fT), (oA, .inr (1, [.ref gA, .int (nI k), .int (nI zA)])), (gA, xI cy 32 fA), (oB, .inr (1, [.ref gB, .int (nI k), .int (nI zB)])), (gB, xI cy 32 fB), (oC, .inr (1, [.ref gC, .int (nI k), .int (nI zC)])), (gC, xI cy 32 fC), (qL, xI cy 60 fL), (qM, xI cy 60 fG), (a5, .inr (5, [.int th, .int (nI k), .int (nI now), .ref mD, .ref mI, .ref mZ, .int (nI nl), .ref mK, .ref mO, .ref mE, .ref mR, .ref mF, .int kM, .int oM])), (mD, xI cy 600000 G), (mI, xI cy 100000 It), (mZ, xZ cy 100000 Zt), (mK, xI cy 32 fK), (mO, xI cy 32 fO), (mE, xI cy 32 fE), (mR, xI cy 16 fQ), (mF, xI cy 17 fF), (aO, xL cy 1 (vp_updL fo 0 (nI (nwK (mb G b2) (mb G b))).toInt64)), (a4, .inr (4, [.ref aB, .ref o2, .ref o3, .ref oA, .ref oB, .ref oC, .ref qL, .ref qM, .int (nI k), .int (nI now)])), (aB, xB cy 6 (fun j => some (ab j))), ((ab b), .inr (0, [.ref qi, .ref qd, .int (nI n)])), (qi, xI cy cap fi), (qd, xI cy cap fd), ((ab b2), .inr (0, [.ref qi3, .ref qd3, .int (nI (n2 + nwK (mb G b2) (mb G b)))])), (qi3, xI cy (capR (n2 + nwK (mb G b2) (mb G b)) cap2) fi3), (qd3, xI cy (capR (n2 + nwK (mb G b2) (mb G b)) cap2) fd3)] ++ bks cy ab σ (bOU b b2)) := hD
        refine lv_istore (lv' := [(5, .int (nI 0)), (0, .ref sb), (1, .ref a4), (2, .ref a5), (3, .ref aO), (4, .int (nI i))]) hx hb dL_law_400 hl (by decide) rfl (fun ls hl => ?_)
        refine lv_aload_n hx hb dL_law_402 rfl (lv_at hl 3 rfl) ?_
        refine lv_aload_n hx hb dL_law_403 rfl (lv_at hl 1 rfl) ?_
        refine lv_iload hx hb dL_law_404 (lv_at hl 5 rfl) ?_
        refine lv_iconst (v := nI 1) hx hb dL_law_406 (by decide) ?_
        refine lv_iadd hx hb dL_law_407 ?_
        refine lv_eqi (z := nI (i + 1)) (nI_add _ _) ?_
        refine va_sld hx hb hX hsb hbA hS (vp_in_nI (by omega) (by omega)) dL_law_408 ?_
        rw [nI_clamp (by omega)]
        refine lv_eqi (z := nI b) hp1 ?_
        refine lv_aload_n hx hb dL_law_409 rfl (lv_at hl 1 rfl) ?_
        refine lv_iload hx hb dL_law_410 (lv_at hl 5 rfl) ?_
        refine lv_iconst (v := nI 2) hx hb dL_law_412 (by decide) ?_
        refine lv_iadd hx hb dL_law_413 ?_
        refine lv_eqi (z := nI (i + 2)) (nI_add _ _) ?_
        refine va_sld hx hb hX hsb hbA hS (vp_in_nI (by omega) (by omega)) dL_law_414 ?_
        rw [nI_clamp (by omega)]
        refine lv_eqi (z := nI b2) hp2 ?_
        refine xcWiT (wr := [(o2, .inr (2, [.ref gR])), (gR, xI cy 16 fR), (o3, .inr (3, [.ref gT, .int lv0, .int sz0])), (gT, xI cy 25 fT), (oA, .inr (1, [.ref gA, .int (nI k), .int (nI zA)])), (gA, xI cy 32 fA), (oB, .inr (1, [.ref gB, .int (nI k), .int (nI zB)])), (gB, xI cy 32 fB), (oC, .inr (1, [.ref gC, .int (nI k), .int (nI zC)])), (gC, xI cy 32 fC), (qL, xI cy 60 fL), (qM, xI cy 60 fG), (mK, xI cy 32 fK), (mO, xI cy 32 fO), (mE, xI cy 32 fE), (mR, xI cy 16 fQ), (mF, xI cy 17 fF), (aO, xL cy 1 (vp_updL fo 0 (nI (nwK (mb G b2) (mb G b))).toInt64)), (a4, .inr (4, [.ref aB, .ref o2, .ref o3, .ref oA, .ref oB, .ref oC, .ref qL, .ref qM, .int (nI k), .int (nI now)])), (aB, xB cy 6 (fun j => some (ab j))), ((ab b), .inr (0, [.ref qi, .ref qd, .int (nI n)])), (qi, xI cy cap fi), (qd, xI cy cap fd), ((ab b2), .inr (0, [.ref qi3, .ref qd3, .int (nI (n2 + nwK (mb G b2) (mb G b)))])), (qi3, xI cy (capR (n2 + nwK (mb G b2) (mb G b)) cap2) fi3), (qd3, xI cy (capR (n2 + nwK (mb G b2) (mb G b)) cap2) fd3)]) (va_runV (As := [.int (nI b), .int (nI b2)]) (rest := []) ⟨hx, hb, hml, hown, hts⟩ ((m_merge l D cy t0 a5 mD mI mZ mK mO mE mR mF k th (nI now) kM oM nl b b2 G It Zt lst hML hCV hb6 hb62 (hMV b2)) H.size) (cwV 2 hts gL_law_X5_merge rfl rfl rfl (by decide +kernel) ⟨Nat.le_of_ble_eq_true rfl, Nat.le_of_ble_eq_true rfl⟩) (xPw.giveV (wc := [(a5, .inr (5, [.int th, .int (nI k), .int (nI now), .ref mD, .ref mI, .ref mZ, .int (nI nl), .ref mK, .ref mO, .ref mE, .ref mR, .ref mF, .int kM, .int oM])), (mD, xI cy 600000 G), (mI, xI cy 100000 It), (mZ, xZ cy 100000 Zt)]) hE hS hA hP hD [12, 13, 14, 15] (by decide) (xtC _ _ rfl) 12 5 rfl rfl) rfl rfl hl.1 rfl (lv_room (Nat.le_of_ble_eq_true rfl)) dL_law_415 ⟨(show (cells + mcR (n2 + nwK (mb G b2) (mb G b)) cap2) + 0 ≤ 601024 by omega), (show (slots + msR (n2 + nwK (mb G b2) (mb G b)) cap2) + 0 ≤ 7293000 by omega)⟩) hP hD hS hA [12, 13, 14, 15] [0, 1, 2, 3, 4, 5, 6, 7, 8, 9, 10, 11, 16, 17, 18, 19, 20, 21, 22, 23, 24, 25, 26, 27, 28, 29] rfl rfl (by decide) (by decide) (fun r_49 u_51 H locs hr_50 hP hD hS => ?_)
        obtain ⟨G2, rfl⟩ : ∃ z9, z9 = u_51 := ⟨_, rfl⟩
        obtain rfl : r_49 = nI (nwK (mb G b2) (mb G b)) := hr_50.1
        have hGU : GU G G2 b2 (mrg (mb G b2) (mb G b)) := hr_50.2.1
        have hCV3 : CV G2 lst nl := hr_50.2.2
        have hP : xP D ([(o2, .inr (2, [.ref gR])), (gR, xI cy 16 fR), (o3, .inr (3, [.ref gT, .int lv0, .int sz0])), (gT, xI cy 25 fT), (oA, .inr (1, [.ref gA, .int (nI k), .int (nI zA)])), (gA, xI cy 32 fA), (oB, .inr (1, [.ref gB, .int (nI k), .int (nI zB)])), (gB, xI cy 32 fB), (oC, .inr (1, [.ref gC, .int (nI k), .int (nI zC)])), (gC, xI cy 32 fC), (qL, xI cy 60 fL), (qM, xI cy 60 fG), (mK, xI cy 32 fK), (mO, xI cy 32 fO), (mE, xI cy 32 fE), (mR, xI cy 16 fQ), (mF, xI cy 17 fF), (aO, xL cy 1 (vp_updL fo 0 (nI (nwK (mb G b2) (mb G b))).toInt64)), (a4, .inr (4, [.ref aB, .ref o2, .ref o3, .ref oA, .ref oB, .ref oC, .ref qL, .ref qM, .int (nI k), .int (nI now)])), (aB, xB cy 6 (fun j => some (ab j))), ((ab b), .inr (0, [.ref qi, .ref qd, .int (nI n)])), (qi, xI cy cap fi), (qd, xI cy cap fd), ((ab b2), .inr (0, [.ref qi3, .ref qd3, .int (nI (n2 + nwK (mb G b2) (mb G b)))])), (qi3, xI cy (capR (n2 + nwK (mb G b2) (mb G b)) cap2) fi3), (qd3, xI cy (capR (n2 + nwK (mb G b2) (mb G b)) cap2) fd3), (a5, .inr (5, [.int (nI 0), .int (nI k), .int (nI now), .ref mD, .ref mI, .ref mZ, .int (nI nl), .ref mK, .ref mO, .ref mE, .ref mR, .ref mF, .int kM, .int oM])), (mD, xI cy 600000 G2), (mI, xI cy 100000 It), (mZ, xZ cy 100000 Zt)] ++ bks cy ab σ (bOU b b2)) H := hP
        have hD : va_D A ([(o2, .inr (2, [.ref gR])), (gR, xI cy 16 fR), (o3, .inr (3, [.ref gT, .int lv0, .int sz0])), (gT, xI cy 25 fT), (oA, .inr (1, [.ref gA, .int (nI k), .int (nI zA)])), (gA, xI cy 32 fA), (oB, .inr (1, [.ref gB, .int (nI k), .int (nI zB)])), (gB, xI cy 32 fB), (oC, .inr (1, [.ref gC, .int (nI k), .int (nI zC)])), (gC, xI cy 32 fC), (qL, xI cy 60 fL), (qM, xI cy 60 fG), (mK, xI cy 32 fK), (mO, xI cy 32 fO), (mE, xI cy 32 fE), (mR, xI cy 16 fQ), (mF, xI cy 17 fF), (aO, xL cy 1 (vp_updL fo 0 (nI (nwK (mb G b2) (mb G b))).toInt64)), (a4, .inr (4, [.ref aB, .ref o2, .ref o3, .ref oA, .ref oB, .ref oC, .ref qL, .ref qM, .int (nI k), .int (nI now)])), (aB, xB cy 6 (fun j => some (ab j))), ((ab b), .inr (0, [.ref qi, .ref qd, .int (nI n)])), (qi, xI cy cap fi), (qd, xI cy cap fd), ((ab b2), .inr (0, [.ref qi3, .ref qd3, .int (nI (n2 + nwK (mb G b2) (mb G b)))])), (qi3, xI cy (capR (n2 + nwK (mb G b2) (mb G b)) cap2) fi3), (qd3, xI cy (capR (n2 + nwK (mb G b2) (mb G b)) cap2) fd3), (a5, .inr (5, [.int (nI 0), .int (nI k), .int (nI now), .ref mD, .ref mI, .ref mZ, .int (nI nl), .ref mK, .ref mO, .ref mE, .ref mR, .ref mF, .int kM, .int oM])), (mD, xI cy 600000 G2), (mI, xI cy 100000 It), (mZ, xZ cy 100000 Zt)] ++ bks cy ab σ (bOU b b2)) := hD
        refine lv_istore (lv' := [(6, .int (nI (nwK (mb G b2) (mb G b)))), (5, .int (nI 0)), (0, .ref sb), (1, .ref a4), (2, .ref a5), (3, .ref aO), (4, .int (nI i))]) hx hb dL_law_418 hl (by decide) rfl (fun ls hl => ?_)
        refine lv_aload_n hx hb dL_law_420 rfl (lv_at hl 4 rfl) ?_
        refine xcRi (va_runV (As := []) (rest := []) ⟨hx, hb, hml, hown, hts⟩ (m_thrown l D cy t0 a5 mD mI mZ mK mO mE mR mF k (nI 0) (nI now) (nI nl) kM oM) (cwV 0 hts gL_law_X5_thrown rfl rfl rfl (by decide +kernel) ⟨Nat.le_of_ble_eq_true rfl, Nat.le_of_ble_eq_true rfl⟩) (xPr.giveV (wc := [(a5, .inr (5, [.int (nI 0), .int (nI k), .int (nI now), .ref mD, .ref mI, .ref mZ, .int (nI nl), .ref mK, .ref mO, .ref mE, .ref mR, .ref mF, .int kM, .int oM]))]) hE hS hP [26] (xfm _ _ (xtC _ _ rfl)) 26 5 rfl rfl) rfl rfl hl.1 rfl (lv_room (Nat.le_of_ble_eq_true rfl)) dL_law_421 ⟨(show ((cells + mcR (n2 + nwK (mb G b2) (mb G b)) cap2) + 0) + 0 ≤ 601024 by omega), (show ((slots + msR (n2 + nwK (mb G b2) (mb G b)) cap2) + 0) + 0 ≤ 7293000 by omega)⟩) (fun r_53 hr_54 => ?_)
        obtain rfl : r_53 = nI 0 := hr_54
        refine lv_iload hx hb dL_law_424 (lv_at hl 1 rfl) ?_
        refine xb_icmp_eq (tgt := 431) (a := 0) (b := 0) (by omega) (by omega) hx hb dL_law_426 (by decide) (fun c_56 => ?_) (fun c_56 => ?_)
        · refine lv_iload hx hb dL_law_431 (lv_at hl 1 rfl) ?_
          refine xb_if_ne (tgt := 448) (a := 0) (by omega) hx hb dL_law_433 (by decide) (fun c_57 => ?_) (fun c_57 => ?_)
          · exact absurd c_57 (by omega)
          · refine lv_aload_n hx hb dL_law_436 rfl (lv_at hl 5 rfl) ?_
            refine lv_iconst (v := nI 0) hx hb dL_law_437 (by decide) ?_
            refine va_lald (D := D) hx hb hE.1 hP 17 2 rfl rfl (vp_in_nI (by omega) (by omega)) dL_law_438 ?_
            rw [nI_clamp (by omega), updL0]
            refine lv_iload hx hb dL_law_439 (lv_at hl 0 rfl) ?_
            refine lv_i2l (v := (nI (nwK (mb G b2) (mb G b))).toInt64) hx hb dL_law_441 rfl ?_
            refine W.lcmp hx hb dL_law_442 ?_
            refine lv_if_eq (tgt := 448) hx hb dL_law_443 (by decide) (fun c_58 => ?_) (fun c_58 => ?_)
            · refine lv_goto (tgt := 1591) hx hb dL_law_448 (by decide) ?_
              obtain ⟨hP, hD⟩ := xsubT (ps' := [(aO, xL cy 1 (vp_updL fo 0 (nI (nwK (mb G b2) (mb G b))).toInt64)), (a4, .inr (4, [.ref aB, .ref o2, .ref o3, .ref oA, .ref oB, .ref oC, .ref qL, .ref qM, .int (nI k), .int (nI now)])), (aB, xB cy 6 (fun j => some (ab j))), (o2, .inr (2, [.ref gR])), (gR, xI cy 16 fR), (o3, .inr (3, [.ref gT, .int lv0, .int sz0])), (gT, xI cy 25 fT), (oA, .inr (1, [.ref gA, .int (nI k), .int (nI zA)])), (gA, xI cy 32 fA), (oB, .inr (1, [.ref gB, .int (nI k), .int (nI zB)])), (gB, xI cy 32 fB), (oC, .inr (1, [.ref gC, .int (nI k), .int (nI zC)])), (gC, xI cy 32 fC), (qL, xI cy 60 fL), (qM, xI cy 60 fG), (a5, .inr (5, [.int (nI 0), .int (nI k), .int (nI now), .ref mD, .ref mI, .ref mZ, .int (nI nl), .ref mK, .ref mO, .ref mE, .ref mR, .ref mF, .int kM, .int oM])), (mD, xI cy 600000 G2), (mI, xI cy 100000 It), (mZ, xZ cy 100000 Zt), (mK, xI cy 32 fK), (mO, xI cy 32 fO), (mE, xI cy 32 fE), (mR, xI cy 16 fQ), (mF, xI cy 17 fF), ((ab b), .inr (0, [.ref qi, .ref qd, .int (nI n)])), (qi, xI cy cap fi), (qd, xI cy cap fd), ((ab b2), .inr (0, [.ref qi3, .ref qd3, .int (nI (n2 + nwK (mb G b2) (mb G b)))])), (qi3, xI cy (capR (n2 + nwK (mb G b2) (mb G b)) cap2) fi3), (qd3, xI cy (capR (n2 + nwK (mb G b2) (mb G b)) cap2) fd3)]) [17, 18, 19, 0, 1, 2, 3, 4, 5, 6, 7, 8, 9, 10, 11, 26, 27, 28, 29, 12, 13, 14, 15, 16, 20, 21, 22, 23, 24, 25] hP hD rfl (by decide)
              obtain ⟨hP, hD⟩ := xunf2 (ps := [(aO, xL cy 1 (vp_updL fo 0 (nI (nwK (mb G b2) (mb G b))).toInt64)), (a4, .inr (4, [.ref aB, .ref o2, .ref o3, .ref oA, .ref oB, .ref oC, .ref qL, .ref qM, .int (nI k), .int (nI now)])), (aB, xB cy 6 (fun j => some (ab j))), (o2, .inr (2, [.ref gR])), (gR, xI cy 16 fR), (o3, .inr (3, [.ref gT, .int lv0, .int sz0])), (gT, xI cy 25 fT), (oA, .inr (1, [.ref gA, .int (nI k), .int (nI zA)])), (gA, xI cy 32 fA), (oB, .inr (1, [.ref gB, .int (nI k), .int (nI zB)])), (gB, xI cy 32 fB), (oC, .inr (1, [.ref gC, .int (nI k), .int (nI zC)])), (gC, xI cy 32 fC), (qL, xI cy 60 fL), (qM, xI cy 60 fG), (a5, .inr (5, [.int (nI 0), .int (nI k), .int (nI now), .ref mD, .ref mI, .ref mZ, .int (nI nl), .ref mK, .ref mO, .ref mE, .ref mR, .ref mF, .int kM, .int oM])), (mD, xI cy 600000 G2), (mI, xI cy 100000 It), (mZ, xZ cy 100000 Zt), (mK, xI cy 32 fK), (mO, xI cy 32 fO), (mE, xI cy 32 fE), (mR, xI cy 16 fQ), (mF, xI cy 17 fF)]) (σ := σ) (v := (qi3, qd3, n2 + nwK (mb G b2) (mb G b), capR (n2 + nwK (mb G b2) (mb G b)) cap2, fi3, fd3)) hb6 hb62 hne (by rw [bkc_up]; unfold bkc; rw [hs9]; exact hP) (by rw [bkc_up]; unfold bkc; rw [hs9]; exact hD)
              exact knext _ _ _ _ _ ⟨now, zA, zB, zC, nl, lv0, sz0, (nI 0), kM, oM, (vp_updL fo 0 (nI (nwK (mb G b2) (mb G b))).toInt64), fR, fT, fA, fB, fC, fL, fG, G2, It, Zt, fK, fO, fE, fQ, fF, lst, va_up σ b2 (qi3, qd3, n2 + nwK (mb G b2) (mb G b), capR (n2 + nwK (mb G b2) (mb G b)) cap2, fi3, fd3), hR.upd hb62 hs8 hGU (mrg_MV (hMV b2) (hMV b)) mrg_hi hB hML hCV3 (by omega) (by show _ + Us cap2 ≤ slots + Us (capR (n2 + nwK (mb G b2) (mb G b)) cap2) + 6; omega), hP, hD⟩ hS (lv_sub hl [2, 3, 4, 5, 6] rfl)
            · exact absurd (lgc _) c_58
        · exact absurd c_56 (by omega)
end XX9E
