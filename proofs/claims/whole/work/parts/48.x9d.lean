section XX9D
theorem Us_up {σ : Nat → BKt} {b : Nat} {v w : BKt} (hb6 : b < 6) (h : σ b = w) : US (va_up σ b v) + Us w.2.2.2.1 = US σ + Us v.2.2.2.1 := by
  rcases b6c hb6 with rfl | rfl | rfl | rfl | rfl | rfl
  · have e : US (va_up σ 0 v) = Us v.2.2.2.1 + (Us (σ 1).2.2.2.1 + (Us (σ 2).2.2.2.1 + (Us (σ 3).2.2.2.1 + (Us (σ 4).2.2.2.1 + (Us (σ 5).2.2.2.1))))) := rfl
    rw [e]
    unfold US
    rw [h]
    omega
  · have e : US (va_up σ 1 v) = Us (σ 0).2.2.2.1 + (Us v.2.2.2.1 + (Us (σ 2).2.2.2.1 + (Us (σ 3).2.2.2.1 + (Us (σ 4).2.2.2.1 + (Us (σ 5).2.2.2.1))))) := rfl
    rw [e]
    unfold US
    rw [h]
    omega
  · have e : US (va_up σ 2 v) = Us (σ 0).2.2.2.1 + (Us (σ 1).2.2.2.1 + (Us v.2.2.2.1 + (Us (σ 3).2.2.2.1 + (Us (σ 4).2.2.2.1 + (Us (σ 5).2.2.2.1))))) := rfl
    rw [e]
    unfold US
    rw [h]
    omega
  · have e : US (va_up σ 3 v) = Us (σ 0).2.2.2.1 + (Us (σ 1).2.2.2.1 + (Us (σ 2).2.2.2.1 + (Us v.2.2.2.1 + (Us (σ 4).2.2.2.1 + (Us (σ 5).2.2.2.1))))) := rfl
    rw [e]
    unfold US
    rw [h]
    omega
  · have e : US (va_up σ 4 v) = Us (σ 0).2.2.2.1 + (Us (σ 1).2.2.2.1 + (Us (σ 2).2.2.2.1 + (Us (σ 3).2.2.2.1 + (Us v.2.2.2.1 + (Us (σ 5).2.2.2.1))))) := rfl
    rw [e]
    unfold US
    rw [h]
    omega
  · have e : US (va_up σ 5 v) = Us (σ 0).2.2.2.1 + (Us (σ 1).2.2.2.1 + (Us (σ 2).2.2.2.1 + (Us (σ 3).2.2.2.1 + (Us (σ 4).2.2.2.1 + (Us v.2.2.2.1))))) := rfl
    rw [e]
    unfold US
    rw [h]
    omega
theorem RI.upd {k t now nl nl' b qi qd n cap : Nat} {G It Zt fF G' It' Zt' M' fi fd : Nat → Int32} {lst lst' : Nat → Nat} {σ : Nat → BKt} {v : BKt} {cells slots cells' slots' : Nat} (h : RI k t now nl G It Zt fF lst σ cells slots) (hb6 : b < 6) (hs9 : σ b = (qi, qd, n, cap, fi, fd)) (hGU : GU G G' b M') (hM' : MV M') (hhi : ∀ x, 100000 ≤ x → M' x = -1) (hB : BR M' v.2.2.1 v.2.2.2.1 v.2.2.2.2.1 v.2.2.2.2.2) (hML : ML lst' nl' It' Zt') (hCV : CV G' lst' nl') (hc : cells' ≤ cells + 3) (hs : slots' + Us cap ≤ slots + Us v.2.2.2.1 + 6) : RI k (t + 1) now nl' G' It' Zt' fF lst' (va_up σ b v) cells' slots' := by
  obtain ⟨h1, h2, h3, h4, h5, h6, h7, h8, h9⟩ := h
  have hU := Us_up (v := v) hb6 hs9
  refine ⟨h1, by omega, fun j hj => ?_, fun j => ?_, hML, hCV, h7, by omega, ?_⟩
  · by_cases q : j = b
    · subst q
      rw [hGU.self hhi, va_up_self]
      exact hB
    · rw [hGU.oth q, va_up_ne σ v q]
      exact h3 j hj
  · by_cases q : j = b
    · subst q
      rw [hGU.self hhi]
      exact hM'
    · rw [hGU.oth q]
      exact h4 j
  · have hU2 : US (va_up σ b v) + Us cap = US σ + Us v.2.2.2.1 := hU
    omega
theorem RI.pass {k t now nl tk : Nat} {G It Zt fF : Nat → Int32} {lst : Nat → Nat} {σ : Nat → BKt} {cells slots cells' slots' : Nat} (h : RI k t now nl G It Zt fF lst σ cells slots) (htk : tk ≤ 1000) (hc : cells' ≤ cells + 3) (hs : slots' ≤ slots + 6) : RI k (t + 1) (now + tk) nl G It Zt fF lst σ cells' slots' := by
  obtain ⟨h1, h2, h3, h4, h5, h6, h7, h8, h9⟩ := h
  exact ⟨h1, by omega, h3, h4, h5, h6, h7, by omega, by omega⟩
theorem BR_mt {M : Nat → Int32} {n cap : Nat} {fi fd : Nat → Int32} (h : BR M n cap fi fd) : BR (fun _ => -1) 0 cap fi fd := by
  have e : ∀ x, Sm (fun _ => (-1 : Int32)) x = false := fun x => Sm_f.mpr rfl
  refine ⟨⟨?_, fun x _ hs => ?_⟩, fun x _ hs => ?_, Nat.zero_le _, h.2.2.2⟩
  · rw [cb_none (Nat.zero_le _) (fun y _ _ => e y)]
    rfl
  · rw [e x] at hs; cases hs
  · rw [e x] at hs; cases hs
theorem CV_of {G G' M' : Nat → Int32} {b nl : Nat} {lst : Nat → Nat} (hGU : GU G G' b M') (h : CV G lst nl) (hM : ∀ x, x < 100000 → Sm M' x = true → memb lst nl x = true) : CV G' lst nl := fun c hc x hx hs => by
  by_cases q : c = b
  · subst q
    refine hM x hx ?_
    unfold Sm at hs ⊢
    rw [mb_lt hx, hGU.1 x hx] at hs
    exact hs
  · rw [hGU.oth q] at hs
    exact h c hc x hx hs
theorem mcR_le (w cap : Nat) : mcR w cap ≤ 2 := by unfold mcR; split <;> omega
theorem msR_us {w cap : Nat} (hw : w ≤ 100000) (hc : cap ≤ 100000) : msR w cap + Us cap ≤ Us (capR w cap) ∧ msR w cap ≤ 200000 := by
  rcases Nat.lt_or_ge cap w with q | q
  · rw [msR_yes q, capR_yes q]
    unfold Us
    have h1 : min 100000 (max w (2 * cap)) ≤ 100000 := Nat.min_le_left _ _
    rw [if_pos (show cap < 100000 by omega)]
    by_cases h2 : min 100000 (max w (2 * cap)) < 100000
    · rw [if_pos h2]
      have h3 : 2 * cap ≤ min 100000 (max w (2 * cap)) := by omega
      omega
    · rw [if_neg h2]
      omega
  · rw [capR_no q]
    unfold msR
    rw [if_pos q]
    omega
theorem w_le {M M2 : Nat → Int32} {n cap : Nat} {fi fd : Nat → Int32} (h : BR M n cap fi fd) : n + nwK M M2 ≤ 100000 := by
  obtain ⟨hK, hU⟩ := tk_cnt (M1 := M) (M2 := M2)
  have h1 := cb_le (P := uS M M2) (n := 100000)
  have h2 := h.1.1
  omega
theorem nwK_self {M : Nat → Int32} : nwK M M = 0 := by
  unfold nwK
  rw [cb_none (Nat.zero_le _) (fun y _ _ => by cases Sm M y <;> rfl)]
  rfl
theorem mrg_self {M : Nat → Int32} : mrg M M = M := funext fun x => mrgI_self
theorem mrg_hi {G G2 : Nat → Int32} {b c : Nat} : ∀ x, 100000 ≤ x → mrg (mb G b) (mb G2 c) x = -1 := fun x hx => by
  unfold mrg
  rw [mb_hi hx, mb_hi hx]
  exact mrgI_self
theorem lnM_hi {G : Nat → Int32} {b f s many nw : Nat} (h : ∀ i, i < many → f + i * s < 100000) : ∀ x, 100000 ≤ x → mrg (mb G b) (lnM f s many nw) x = -1 := fun x hx => ln_hi h hx (Nat.le_refl _)
set_option maxHeartbeats 8000000 in
set_option maxRecDepth 100000 in
theorem st_empty {p : Program} {l : Launch} {e : Env} {s : State} {m : MethodId} {below : List Frame} {meth : Method} {c : Code} {H : Heap} {locs : List Loc} {cells slots : Nat} {Q : State → Prop} {ls : Array Slot} {D : va_G} {cy : Nat → ClassId} {t0 : Nat} {A : Nat → Prop} {sb L : Nat} {xs : Nat → Int32} {aO a4 aB o2 gR o3 gT oA gA oB gB oC gC qL qM a5 mD mI mZ mK mO mE mR mF k t i : Nat} {ab : Nat → Nat} (hC : LC p l s m c D cy t0 A sb L xs) (hI : LI D cy A aO a4 aB o2 gR o3 gT oA gA oB gB oC gC qL qM a5 mD mI mZ mK mO mE mR mF k ab t H cells slots) (hS : va_S A s.heap H locs) (hl : lv_has ls 8 [(0, .ref sb), (1, .ref a4), (2, .ref a5), (3, .ref aO), (4, .int (nI i))]) (hi : i + 5 ≤ L) (hL : L ≤ 2561) (ht : t ≤ 512) (knext : ∀ (H : Heap) (locs : List Loc) (ls : Array Slot) (cells slots : Nat), LI D cy A aO a4 aB o2 gR o3 gT oA gA oB gB oC gC qL qM a5 mD mI mZ mK mO mE mR mF k ab (t + 1) H cells slots → va_S A s.heap H locs → lv_has ls 8 [(0, .ref sb), (1, .ref a4), (2, .ref a5), (3, .ref aO), (4, .int (nI i))] → W p l e room_1 s m #[Value.ref sb] below meth c H locs cells slots Q (F0 m 1591 ls [])) : W p l e room_1 s m #[Value.ref sb] below meth c H locs cells slots Q (F0 m 327 ls []) := by
  obtain ⟨hx, hb, hml, hts, hown, hE, hA, hX, hsb, hbA, hlf⟩ := hC
  obtain ⟨now, zA, zB, zC, nl, lv0, sz0, th, kM, oM, fo, fR, fT, fA, fB, fC, fL, fG, G, It, Zt, fK, fO, fE, fQ, fF, lst, σ, hR, hP, hD⟩ := hI
  obtain ⟨hrm1, hrm2⟩ := hR.room ht
  have hk2 := hR.1.1
  have hk := hR.1.2
  have hBR := hR.2.2.1
  have hMV := hR.2.2.2.1
  have hML := hR.2.2.2.2.1
  have hCV := hR.2.2.2.2.2.1
  have hF9 := hR.2.2.2.2.2.2.1
  have hnw := hR.2.1
  rcases p_bk (xs (i + 1)) with hbi | ⟨b, hb6, hp1⟩
  · refine lv_aload_n hx hb dL_law_327 rfl (lv_at hl 1 rfl) ?_
    refine lv_aload_n hx hb dL_law_328 rfl (lv_at hl 0 rfl) ?_
    refine lv_iload hx hb dL_law_329 (lv_at hl 4 rfl) ?_
    refine lv_iconst (v := nI 1) hx hb dL_law_331 (by decide) ?_
    refine lv_iadd hx hb dL_law_332 ?_
    refine lv_eqi (z := nI (i + 1)) (nI_add _ _) ?_
    refine va_sld hx hb hX hsb hbA hS (vp_in_nI (by omega) (by omega)) dL_law_333 ?_
    rw [nI_clamp (by omega)]
    refine lv_aload_n hx hb dL_law_334 rfl (lv_at hl 3 rfl) ?_
    refine xcWiT (wr := [(o2, .inr (2, [.ref gR])), (gR, xI cy 16 fR), (o3, .inr (3, [.ref gT, .int lv0, .int sz0])), (gT, xI cy 25 fT), (oA, .inr (1, [.ref gA, .int (nI k), .int (nI zA)])), (gA, xI cy 32 fA), (oB, .inr (1, [.ref gB, .int (nI k), .int (nI zB)])), (gB, xI cy 32 fB), (oC, .inr (1, [.ref gC, .int (nI k), .int (nI zC)])), (gC, xI cy 32 fC), (qL, xI cy 60 fL), (qM, xI cy 60 fG), (a5, .inr (5, [.int th, .int (nI k), .int (nI now), .ref mD, .ref mI, .ref mZ, .int (nI nl), .ref mK, .ref mO, .ref mE, .ref mR, .ref mF, .int kM, .int oM])), (mD, xI cy 600000 G), (mI, xI cy 100000 It), (mZ, xZ cy 100000 Zt), (mK, xI cy 32 fK), (mO, xI cy 32 fO), (mE, xI cy 32 fE), (mR, xI cy 16 fQ), (mF, xI cy 17 fF)]) (vx_runSW (As := [.ref a4, .int (xs (i + 1)), .ref aO]) (rest := []) ⟨hx, hb, hml, hown, hts⟩ ((w_emptyT l D cy t0 aO a4 fo _ _ _ (c_emptyT l hlf D cy t0 a4 aB o2 o3 oA oB oC qL qM k now ab (xs (i + 1)) hbi)) H.size) (vx_cwSW 3 hts gL_law_L_empty rfl rfl rfl (by decide +kernel) ⟨Nat.le_of_ble_eq_true rfl, Nat.le_of_ble_eq_true rfl⟩) (xPw.give (wc := [(aO, xL cy 1 fo), (a4, .inr (4, [.ref aB, .ref o2, .ref o3, .ref oA, .ref oB, .ref oC, .ref qL, .ref qM, .int (nI k), .int (nI now)])), (aB, xB cy 6 (fun j => some (ab j)))]) hE hS hA hP hD [0, 1, 2] (by decide) (xtC _ _ rfl)) rfl rfl hl.1 rfl (lv_room (Nat.le_of_ble_eq_true rfl)) dL_law_335 ⟨(show cells + 1 ≤ 601024 by omega), (show slots + 6 ≤ 7293000 by omega)⟩) hP hD hS hA [0, 1, 2] [3, 4, 5, 6, 7, 8, 9, 10, 11, 12, 13, 14, 15, 16, 17, 18, 19, 20, 21, 22, 23] rfl rfl (by decide) (by decide) (fun r_2 u_4 H locs hr_3 hP hD hS => ?_)
    obtain rfl : r_2 = nI 1 := hr_3
    have hP : xP D ([(o2, .inr (2, [.ref gR])), (gR, xI cy 16 fR), (o3, .inr (3, [.ref gT, .int lv0, .int sz0])), (gT, xI cy 25 fT), (oA, .inr (1, [.ref gA, .int (nI k), .int (nI zA)])), (gA, xI cy 32 fA), (oB, .inr (1, [.ref gB, .int (nI k), .int (nI zB)])), (gB, xI cy 32 fB), (oC, .inr (1, [.ref gC, .int (nI k), .int (nI zC)])), (gC, xI cy 32 fC), (qL, xI cy 60 fL), (qM, xI cy 60 fG), (a5, .inr (5, [.int th, .int (nI k), .int (nI now), .ref mD, .ref mI, .ref mZ, .int (nI nl), .ref mK, .ref mO, .ref mE, .ref mR, .ref mF, .int kM, .int oM])), (mD, xI cy 600000 G), (mI, xI cy 100000 It), (mZ, xZ cy 100000 Zt), (mK, xI cy 32 fK), (mO, xI cy 32 fO), (mE, xI cy 32 fE), (mR, xI cy 16 fQ), (mF, xI cy 17 fF), (aO, xL cy 1 fo), (a4, .inr (4, [.ref aB, .ref o2, .ref o3, .ref oA, .ref oB, .ref oC, .ref qL, .ref qM, .int (nI k), .int (nI now)])), (aB, xB cy 6 (fun j => some (ab j)))] ++ bks cy ab σ b06) H := hP
    have hD : va_D A ([(o2, .inr (2, [.ref gR])), (gR, xI cy 16 fR), (o3, .inr (3, [.ref gT, .int lv0, .int sz0])), (gT, xI cy 25 fT), (oA, .inr (1, [.ref gA, .int (nI k), .int (nI zA)])), (gA, xI cy 32 fA), (oB, .inr (1, [.ref gB, .int (nI k), .int (nI zB)])), (gB, xI cy 32 fB), (oC, .inr (1, [.ref gC, .int (nI k), .int (nI zC)])), (gC, xI cy 32 fC), (qL, xI cy 60 fL), (qM, xI cy 60 fG), (a5, .inr (5, [.int th, .int (nI k), .int (nI now), .ref mD, .ref mI, .ref mZ, .int (nI nl), .ref mK, .ref mO, .ref mE, .ref mR, .ref mF, .int kM, .int oM])), (mD, xI cy 600000 G), (mI, xI cy 100000 It), (mZ, xZ cy 100000 Zt), (mK, xI cy 32 fK), (mO, xI cy 32 fO), (mE, xI cy 32 fE), (mR, xI cy 16 fQ), (mF, xI cy 17 fF), (aO, xL cy 1 fo), (a4, .inr (4, [.ref aB, .ref o2, .ref o3, .ref oA, .ref oB, .ref oC, .ref qL, .ref qM, .int (nI k), .int (nI now)])), (aB, xB cy 6 (fun j => some (ab j)))] ++ bks cy ab σ b06) := hD
    refine lv_istore (lv' := [(5, .int (nI 1)), (0, .ref sb), (1, .ref a4), (2, .ref a5), (3, .ref aO), (4, .int (nI i))]) hx hb dL_law_338 hl (by decide) rfl (fun ls hl => ?_)
    refine lv_aload_n hx hb dL_law_340 rfl (lv_at hl 3 rfl) ?_
    refine lv_aload_n hx hb dL_law_341 rfl (lv_at hl 1 rfl) ?_
    refine lv_iload hx hb dL_law_342 (lv_at hl 5 rfl) ?_
    refine lv_iconst (v := nI 1) hx hb dL_law_344 (by decide) ?_
    refine lv_iadd hx hb dL_law_345 ?_
    refine lv_eqi (z := nI (i + 1)) (nI_add _ _) ?_
    refine va_sld hx hb hX hsb hbA hS (vp_in_nI (by omega) (by omega)) dL_law_346 ?_
    rw [nI_clamp (by omega)]
    refine xcWiT (wr := [(o2, .inr (2, [.ref gR])), (gR, xI cy 16 fR), (o3, .inr (3, [.ref gT, .int lv0, .int sz0])), (gT, xI cy 25 fT), (oA, .inr (1, [.ref gA, .int (nI k), .int (nI zA)])), (gA, xI cy 32 fA), (oB, .inr (1, [.ref gB, .int (nI k), .int (nI zB)])), (gB, xI cy 32 fB), (oC, .inr (1, [.ref gC, .int (nI k), .int (nI zC)])), (gC, xI cy 32 fC), (qL, xI cy 60 fL), (qM, xI cy 60 fG), (mD, xI cy 600000 G), (mI, xI cy 100000 It), (mZ, xZ cy 100000 Zt), (mK, xI cy 32 fK), (mO, xI cy 32 fO), (mE, xI cy 32 fE), (mR, xI cy 16 fQ), (mF, xI cy 17 fF), (aO, xL cy 1 fo), (a4, .inr (4, [.ref aB, .ref o2, .ref o3, .ref oA, .ref oB, .ref oC, .ref qL, .ref qM, .int (nI k), .int (nI now)])), (aB, xB cy 6 (fun j => some (ab j)))]) (va_runV (As := [.int (xs (i + 1))]) (rest := []) ⟨hx, hb, hml, hown, hts⟩ ((m_emptyT l D cy t0 a5 mD mI mZ mK mO mE mR mF k th (nI now) (nI nl) kM oM (xs (i + 1)) hbi) H.size) (cwV 1 hts gL_law_X5_empty rfl rfl rfl (by decide +kernel) ⟨Nat.le_of_ble_eq_true rfl, Nat.le_of_ble_eq_true rfl⟩) (xPw.giveV (wc := [(a5, .inr (5, [.int th, .int (nI k), .int (nI now), .ref mD, .ref mI, .ref mZ, .int (nI nl), .ref mK, .ref mO, .ref mE, .ref mR, .ref mF, .int kM, .int oM]))]) hE hS hA hP hD [12] (by decide) (xtC _ _ rfl) 12 5 rfl rfl) rfl rfl hl.1 rfl (lv_room (Nat.le_of_ble_eq_true rfl)) dL_law_347 ⟨(show (cells + 1) + 0 ≤ 601024 by omega), (show (slots + 6) + 0 ≤ 7293000 by omega)⟩) hP hD hS hA [12] [0, 1, 2, 3, 4, 5, 6, 7, 8, 9, 10, 11, 13, 14, 15, 16, 17, 18, 19, 20, 21, 22, 23] rfl rfl (by decide) (by decide) (fun r_6 u_8 H locs hr_7 hP hD hS => ?_)
    have hq9 := hr_7
    have hP : xP D ([(o2, .inr (2, [.ref gR])), (gR, xI cy 16 fR), (o3, .inr (3, [.ref gT, .int lv0, .int sz0])), (gT, xI cy 25 fT), (oA, .inr (1, [.ref gA, .int (nI k), .int (nI zA)])), (gA, xI cy 32 fA), (oB, .inr (1, [.ref gB, .int (nI k), .int (nI zB)])), (gB, xI cy 32 fB), (oC, .inr (1, [.ref gC, .int (nI k), .int (nI zC)])), (gC, xI cy 32 fC), (qL, xI cy 60 fL), (qM, xI cy 60 fG), (mD, xI cy 600000 G), (mI, xI cy 100000 It), (mZ, xZ cy 100000 Zt), (mK, xI cy 32 fK), (mO, xI cy 32 fO), (mE, xI cy 32 fE), (mR, xI cy 16 fQ), (mF, xI cy 17 fF), (aO, xL cy 1 fo), (a4, .inr (4, [.ref aB, .ref o2, .ref o3, .ref oA, .ref oB, .ref oC, .ref qL, .ref qM, .int (nI k), .int (nI now)])), (aB, xB cy 6 (fun j => some (ab j))), (a5, .inr (5, [.int (nI 1), .int (nI k), .int (nI now), .ref mD, .ref mI, .ref mZ, .int (nI nl), .ref mK, .ref mO, .ref mE, .ref mR, .ref mF, .int kM, .int oM]))] ++ bks cy ab σ b06) H := hP
    have hD : va_D A ([(o2, .inr (2, [.ref gR])), (gR, xI cy 16 fR), (o3, .inr (3, [.ref gT, .int lv0, .int sz0])), (gT, xI cy 25 fT), (oA, .inr (1, [.ref gA, .int (nI k), .int (nI zA)])), (gA, xI cy 32 fA), (oB, .inr (1, [.ref gB, .int (nI k), .int (nI zB)])), (gB, xI cy 32 fB), (oC, .inr (1, [.ref gC, .int (nI k), .int (nI zC)])), (gC, xI cy 32 fC), (qL, xI cy 60 fL), (qM, xI cy 60 fG), (mD, xI cy 600000 G), (mI, xI cy 100000 It), (mZ, xZ cy 100000 Zt), (mK, xI cy 32 fK), (mO, xI cy 32 fO), (mE, xI cy 32 fE), (mR, xI cy 16 fQ), (mF, xI cy 17 fF), (aO, xL cy 1 fo), (a4, .inr (4, [.ref aB, .ref o2, .ref o3, .ref oA, .ref oB, .ref oC, .ref qL, .ref qM, .int (nI k), .int (nI now)])), (aB, xB cy 6 (fun j => some (ab j))), (a5, .inr (5, [.int (nI 1), .int (nI k), .int (nI now), .ref mD, .ref mI, .ref mZ, .int (nI nl), .ref mK, .ref mO, .ref mE, .ref mR, .ref mF, .int kM, .int oM]))] ++ bks cy ab σ b06) := hD
    refine lv_istore (lv' := [(6, .int r_6), (5, .int (nI 1)), (0, .ref sb), (1, .ref a4), (2, .ref a5), (3, .ref aO), (4, .int (nI i))]) hx hb dL_law_350 hl (by decide) rfl (fun ls hl => ?_)
    refine lv_aload_n hx hb dL_law_352 rfl (lv_at hl 4 rfl) ?_
    refine xcRi (va_runV (As := []) (rest := []) ⟨hx, hb, hml, hown, hts⟩ (m_thrown l D cy t0 a5 mD mI mZ mK mO mE mR mF k (nI 1) (nI now) (nI nl) kM oM) (cwV 0 hts gL_law_X5_thrown rfl rfl rfl (by decide +kernel) ⟨Nat.le_of_ble_eq_true rfl, Nat.le_of_ble_eq_true rfl⟩) (xPr.giveV (wc := [(a5, .inr (5, [.int (nI 1), .int (nI k), .int (nI now), .ref mD, .ref mI, .ref mZ, .int (nI nl), .ref mK, .ref mO, .ref mE, .ref mR, .ref mF, .int kM, .int oM]))]) hE hS hP [23] (xfm _ _ (xtC _ _ rfl)) 23 5 rfl rfl) rfl rfl hl.1 rfl (lv_room (Nat.le_of_ble_eq_true rfl)) dL_law_353 ⟨(show ((cells + 1) + 0) + 0 ≤ 601024 by omega), (show ((slots + 6) + 0) + 0 ≤ 7293000 by omega)⟩) (fun r_10 hr_11 => ?_)
    obtain rfl : r_10 = nI 1 := hr_11
    refine lv_iload hx hb dL_law_356 (lv_at hl 1 rfl) ?_
    refine xb_icmp_eq (tgt := 363) (a := 1) (b := 1) (by omega) (by omega) hx hb dL_law_358 (by decide) (fun c_13 => ?_) (fun c_13 => ?_)
    · refine lv_iload hx hb dL_law_363 (lv_at hl 1 rfl) ?_
      refine xb_if_ne (tgt := 380) (a := 1) (by omega) hx hb dL_law_365 (by decide) (fun c_14 => ?_) (fun c_14 => ?_)
      · refine lv_goto (tgt := 1591) hx hb dL_law_380 (by decide) ?_
        obtain ⟨hP, hD⟩ := xsubT (ps' := [(aO, xL cy 1 fo), (a4, .inr (4, [.ref aB, .ref o2, .ref o3, .ref oA, .ref oB, .ref oC, .ref qL, .ref qM, .int (nI k), .int (nI now)])), (aB, xB cy 6 (fun j => some (ab j))), (o2, .inr (2, [.ref gR])), (gR, xI cy 16 fR), (o3, .inr (3, [.ref gT, .int lv0, .int sz0])), (gT, xI cy 25 fT), (oA, .inr (1, [.ref gA, .int (nI k), .int (nI zA)])), (gA, xI cy 32 fA), (oB, .inr (1, [.ref gB, .int (nI k), .int (nI zB)])), (gB, xI cy 32 fB), (oC, .inr (1, [.ref gC, .int (nI k), .int (nI zC)])), (gC, xI cy 32 fC), (qL, xI cy 60 fL), (qM, xI cy 60 fG), (a5, .inr (5, [.int (nI 1), .int (nI k), .int (nI now), .ref mD, .ref mI, .ref mZ, .int (nI nl), .ref mK, .ref mO, .ref mE, .ref mR, .ref mF, .int kM, .int oM])), (mD, xI cy 600000 G), (mI, xI cy 100000 It), (mZ, xZ cy 100000 Zt), (mK, xI cy 32 fK), (mO, xI cy 32 fO), (mE, xI cy 32 fE), (mR, xI cy 16 fQ), (mF, xI cy 17 fF)]) [20, 21, 22, 0, 1, 2, 3, 4, 5, 6, 7, 8, 9, 10, 11, 23, 12, 13, 14, 15, 16, 17, 18, 19] hP hD rfl (by decide)
        exact knext _ _ _ _ _ ⟨now, zA, zB, zC, nl, lv0, sz0, (nI 1), kM, oM, fo, fR, fT, fA, fB, fC, fL, fG, G, It, Zt, fK, fO, fE, fQ, fF, lst, σ, hR.next (by omega) (by omega), hP, hD⟩ hS (lv_sub hl [2, 3, 4, 5, 6] rfl)
      · exact absurd c_14 (by omega)
    · exact absurd c_13 (by omega)
  · obtain ⟨hP, hD⟩ := xfoc hb6 hP hD
    rcases hs9 : σ b with ⟨qi, qd, n, cap, fi, fd⟩
    have hV := hBR b hb6
    rw [hs9] at hV
    have hV : BR (mb G b) n cap fi fd := hV
    unfold bkc at hP hD
    rw [hs9] at hP hD
    have hP : xP D ([(aO, xL cy 1 fo), (a4, .inr (4, [.ref aB, .ref o2, .ref o3, .ref oA, .ref oB, .ref oC, .ref qL, .ref qM, .int (nI k), .int (nI now)])), (aB, xB cy 6 (fun j => some (ab j))), (o2, .inr (2, [.ref gR])), (gR, xI cy 16 fR), (o3, .inr (3, [.ref gT, .int lv0, .int sz0])), (gT, xI cy 25 fT), (oA, .inr (1, [.ref gA, .int (nI k), .int (nI zA)])), (gA, xI cy 32 fA), (oB, .inr (1, [.ref gB, .int (nI k), .int (nI zB)])), (gB, xI cy 32 fB), (oC, .inr (1, [.ref gC, .int (nI k), .int (nI zC)])), (gC, xI cy 32 fC), (qL, xI cy 60 fL), (qM, xI cy 60 fG), (a5, .inr (5, [.int th, .int (nI k), .int (nI now), .ref mD, .ref mI, .ref mZ, .int (nI nl), .ref mK, .ref mO, .ref mE, .ref mR, .ref mF, .int kM, .int oM])), (mD, xI cy 600000 G), (mI, xI cy 100000 It), (mZ, xZ cy 100000 Zt), (mK, xI cy 32 fK), (mO, xI cy 32 fO), (mE, xI cy 32 fE), (mR, xI cy 16 fQ), (mF, xI cy 17 fF), ((ab b), .inr (0, [.ref qi, .ref qd, .int (nI n)])), (qi, xI cy cap fi), (qd, xI cy cap fd)] ++ bks cy ab σ (bOT b)) H := hP
    have hD : va_D A ([(aO, xL cy 1 fo), (a4, .inr (4, [.ref aB, .ref o2, .ref o3, .ref oA, .ref oB, .ref oC, .ref qL, .ref qM, .int (nI k), .int (nI now)])), (aB, xB cy 6 (fun j => some (ab j))), (o2, .inr (2, [.ref gR])), (gR, xI cy 16 fR), (o3, .inr (3, [.ref gT, .int lv0, .int sz0])), (gT, xI cy 25 fT), (oA, .inr (1, [.ref gA, .int (nI k), .int (nI zA)])), (gA, xI cy 32 fA), (oB, .inr (1, [.ref gB, .int (nI k), .int (nI zB)])), (gB, xI cy 32 fB), (oC, .inr (1, [.ref gC, .int (nI k), .int (nI zC)])), (gC, xI cy 32 fC), (qL, xI cy 60 fL), (qM, xI cy 60 fG), (a5, .inr (5, [.int th, .int (nI k), .int (nI now), .ref mD, .ref mI, .ref mZ, .int (nI nl), .ref mK, .ref mO, .ref mE, .ref mR, .ref mF, .int kM, .int oM])), (mD, xI cy 600000 G), (mI, xI cy 100000 It), (mZ, xZ cy 100000 Zt), (mK, xI cy 32 fK), (mO, xI cy 32 fO), (mE, xI cy 32 fE), (mR, xI cy 16 fQ), (mF, xI cy 17 fF), ((ab b), .inr (0, [.ref qi, .ref qd, .int (nI n)])), (qi, xI cy cap fi), (qd, xI cy cap fd)] ++ bks cy ab σ (bOT b)) := hD
    refine lv_aload_n hx hb dL_law_327 rfl (lv_at hl 1 rfl) ?_
    refine lv_aload_n hx hb dL_law_328 rfl (lv_at hl 0 rfl) ?_
    refine lv_iload hx hb dL_law_329 (lv_at hl 4 rfl) ?_
    refine lv_iconst (v := nI 1) hx hb dL_law_331 (by decide) ?_
    refine lv_iadd hx hb dL_law_332 ?_
    refine lv_eqi (z := nI (i + 1)) (nI_add _ _) ?_
    refine va_sld hx hb hX hsb hbA hS (vp_in_nI (by omega) (by omega)) dL_law_333 ?_
    rw [nI_clamp (by omega)]
    refine lv_eqi (z := nI b) hp1 ?_
    refine lv_aload_n hx hb dL_law_334 rfl (lv_at hl 3 rfl) ?_
    refine xcWiT (wr := [(o2, .inr (2, [.ref gR])), (gR, xI cy 16 fR), (o3, .inr (3, [.ref gT, .int lv0, .int sz0])), (gT, xI cy 25 fT), (oA, .inr (1, [.ref gA, .int (nI k), .int (nI zA)])), (gA, xI cy 32 fA), (oB, .inr (1, [.ref gB, .int (nI k), .int (nI zB)])), (gB, xI cy 32 fB), (oC, .inr (1, [.ref gC, .int (nI k), .int (nI zC)])), (gC, xI cy 32 fC), (qL, xI cy 60 fL), (qM, xI cy 60 fG), (a5, .inr (5, [.int th, .int (nI k), .int (nI now), .ref mD, .ref mI, .ref mZ, .int (nI nl), .ref mK, .ref mO, .ref mE, .ref mR, .ref mF, .int kM, .int oM])), (mD, xI cy 600000 G), (mI, xI cy 100000 It), (mZ, xZ cy 100000 Zt), (mK, xI cy 32 fK), (mO, xI cy 32 fO), (mE, xI cy 32 fE), (mR, xI cy 16 fQ), (mF, xI cy 17 fF), (qi, xI cy cap fi), (qd, xI cy cap fd)]) (vx_runSW (As := [.ref a4, .int (nI b), .ref aO]) (rest := []) ⟨hx, hb, hml, hown, hts⟩ ((w_empty l D cy t0 aO a4 fo _ _ _ (c_empty l D cy t0 a4 aB o2 o3 oA oB oC qL qM k now ab b qi qd n hb6)) H.size) (vx_cwSW 3 hts gL_law_L_empty rfl rfl rfl (by decide +kernel) ⟨Nat.le_of_ble_eq_true rfl, Nat.le_of_ble_eq_true rfl⟩) (xPw.give (wc := [(aO, xL cy 1 fo), (a4, .inr (4, [.ref aB, .ref o2, .ref o3, .ref oA, .ref oB, .ref oC, .ref qL, .ref qM, .int (nI k), .int (nI now)])), (aB, xB cy 6 (fun j => some (ab j))), ((ab b), .inr (0, [.ref qi, .ref qd, .int (nI n)]))]) hE hS hA hP hD [0, 1, 2, 24] (by decide) (xtC _ _ rfl)) rfl rfl hl.1 rfl (lv_room (Nat.le_of_ble_eq_true rfl)) dL_law_335 ⟨(show cells + 0 ≤ 601024 by omega), (show slots + 0 ≤ 7293000 by omega)⟩) hP hD hS hA [0, 1, 2, 24] [3, 4, 5, 6, 7, 8, 9, 10, 11, 12, 13, 14, 15, 16, 17, 18, 19, 20, 21, 22, 23, 25, 26] rfl rfl (by decide) (by decide) (fun r_16 u_18 H locs hr_17 hP hD hS => ?_)
    obtain ⟨v9, w9⟩ := u_18
    obtain rfl : r_16 = nI 0 := hr_17.1
    obtain rfl : v9 = nI n := hr_17.2
    have hP : xP D ([(o2, .inr (2, [.ref gR])), (gR, xI cy 16 fR), (o3, .inr (3, [.ref gT, .int lv0, .int sz0])), (gT, xI cy 25 fT), (oA, .inr (1, [.ref gA, .int (nI k), .int (nI zA)])), (gA, xI cy 32 fA), (oB, .inr (1, [.ref gB, .int (nI k), .int (nI zB)])), (gB, xI cy 32 fB), (oC, .inr (1, [.ref gC, .int (nI k), .int (nI zC)])), (gC, xI cy 32 fC), (qL, xI cy 60 fL), (qM, xI cy 60 fG), (a5, .inr (5, [.int th, .int (nI k), .int (nI now), .ref mD, .ref mI, .ref mZ, .int (nI nl), .ref mK, .ref mO, .ref mE, .ref mR, .ref mF, .int kM, .int oM])), (mD, xI cy 600000 G), (mI, xI cy 100000 It), (mZ, xZ cy 100000 Zt), (mK, xI cy 32 fK), (mO, xI cy 32 fO), (mE, xI cy 32 fE), (mR, xI cy 16 fQ), (mF, xI cy 17 fF), (qi, xI cy cap fi), (qd, xI cy cap fd), (aO, xL cy 1 (vp_updL fo 0 ((nI n).toInt64))), (a4, .inr (4, [.ref aB, .ref o2, .ref o3, .ref oA, .ref oB, .ref oC, .ref qL, .ref qM, .int (nI k), .int (nI now)])), (aB, xB cy 6 (fun j => some (ab j))), ((ab b), .inr (0, [.ref qi, .ref qd, .int (nI 0)]))] ++ bks cy ab σ (bOT b)) H := hP
    have hD : va_D A ([(o2, .inr (2, [.ref gR])), (gR, xI cy 16 fR), (o3, .inr (3, [.ref gT, .int lv0, .int sz0])), (gT, xI cy 25 fT), (oA, .inr (1, [.ref gA, .int (nI k), .int (nI zA)])), (gA, xI cy 32 fA), (oB, .inr (1, [.ref gB, .int (nI k), .int (nI zB)])), (gB, xI cy 32 fB), (oC, .inr (1, [.ref gC, .int (nI k), .int (nI zC)])), (gC, xI cy 32 fC), (qL, xI cy 60 fL), (qM, xI cy 60 fG), (a5, .inr (5, [.int th, .int (nI k), .int (nI now), .ref mD, .ref mI, .ref mZ, .int (nI nl), .ref mK, .ref mO, .ref mE, .ref mR, .ref mF, .int kM, .int oM])), (mD, xI cy 600000 G), (mI, xI cy 100000 It), (mZ, xZ cy 100000 Zt), (mK, xI cy 32 fK), (mO, xI cy 32 fO), (mE, xI cy 32 fE), (mR, xI cy 16 fQ), (mF, xI cy 17 fF), (qi, xI cy cap fi), (qd, xI cy cap fd), (aO, xL cy 1 (vp_updL fo 0 ((nI n).toInt64))), (a4, .inr (4, [.ref aB, .ref o2, .ref o3, .ref oA, .ref oB, .ref oC, .ref qL, .ref qM, .int (nI k), .int (nI now)])), (aB, xB cy 6 (fun j => some (ab j))), ((ab b), .inr (0, [.ref qi, .ref qd, .int (nI 0)]))] ++ bks cy ab σ (bOT b)) := hD
    refine lv_istore (lv' := [(5, .int (nI 0)), (0, .ref sb), (1, .ref a4), (2, .ref a5), (3, .ref aO), (4, .int (nI i))]) hx hb dL_law_338 hl (by decide) rfl (fun ls hl => ?_)
    refine lv_aload_n hx hb dL_law_340 rfl (lv_at hl 3 rfl) ?_
    refine lv_aload_n hx hb dL_law_341 rfl (lv_at hl 1 rfl) ?_
    refine lv_iload hx hb dL_law_342 (lv_at hl 5 rfl) ?_
    refine lv_iconst (v := nI 1) hx hb dL_law_344 (by decide) ?_
    refine lv_iadd hx hb dL_law_345 ?_
    refine lv_eqi (z := nI (i + 1)) (nI_add _ _) ?_
    refine va_sld hx hb hX hsb hbA hS (vp_in_nI (by omega) (by omega)) dL_law_346 ?_
    rw [nI_clamp (by omega)]
    refine lv_eqi (z := nI b) hp1 ?_
    refine xcWiT (wr := [(o2, .inr (2, [.ref gR])), (gR, xI cy 16 fR), (o3, .inr (3, [.ref gT, .int lv0, .int sz0])), (gT, xI cy 25 fT), (oA, .inr (1, [.ref gA, .int (nI k), .int (nI zA)])), (gA, xI cy 32 fA), (oB, .inr (1, [.ref gB, .int (nI k), .int (nI zB)])), (gB, xI cy 32 fB), (oC, .inr (1, [.ref gC, .int (nI k), .int (nI zC)])), (gC, xI cy 32 fC), (qL, xI cy 60 fL), (qM, xI cy 60 fG), (mZ, xZ cy 100000 Zt), (mK, xI cy 32 fK), (mO, xI cy 32 fO), (mE, xI cy 32 fE), (mR, xI cy 16 fQ), (mF, xI cy 17 fF), (qi, xI cy cap fi), (qd, xI cy cap fd), (aO, xL cy 1 (vp_updL fo 0 ((nI n).toInt64))), (a4, .inr (4, [.ref aB, .ref o2, .ref o3, .ref oA, .ref oB, .ref oC, .ref qL, .ref qM, .int (nI k), .int (nI now)])), (aB, xB cy 6 (fun j => some (ab j))), ((ab b), .inr (0, [.ref qi, .ref qd, .int (nI 0)]))]) (va_runV (As := [.int (nI b)]) (rest := []) ⟨hx, hb, hml, hown, hts⟩ ((m_empty l D cy t0 a5 mD mI mZ mK mO mE mR mF k th (nI now) kM oM nl b G It Zt lst hML hCV hb6) H.size) (cwV 1 hts gL_law_X5_empty rfl rfl rfl (by decide +kernel) ⟨Nat.le_of_ble_eq_true rfl, Nat.le_of_ble_eq_true rfl⟩) (xPw.giveV (wc := [(a5, .inr (5, [.int th, .int (nI k), .int (nI now), .ref mD, .ref mI, .ref mZ, .int (nI nl), .ref mK, .ref mO, .ref mE, .ref mR, .ref mF, .int kM, .int oM])), (mD, xI cy 600000 G), (mI, xI cy 100000 It)]) hE hS hA hP hD [12, 13, 14] (by decide) (xtC _ _ rfl) 12 5 rfl rfl) rfl rfl hl.1 rfl (lv_room (Nat.le_of_ble_eq_true rfl)) dL_law_347 ⟨(show (cells + 0) + 0 ≤ 601024 by omega), (show (slots + 0) + 0 ≤ 7293000 by omega)⟩) hP hD hS hA [12, 13, 14] [0, 1, 2, 3, 4, 5, 6, 7, 8, 9, 10, 11, 15, 16, 17, 18, 19, 20, 21, 22, 23, 24, 25, 26] rfl rfl (by decide) (by decide) (fun r_20 u_22 H locs hr_21 hP hD hS => ?_)
    obtain ⟨G2, rfl⟩ : ∃ z9, z9 = u_22 := ⟨_, rfl⟩
    obtain rfl : r_20 = nI n := by rw [hr_21.1, hV.1.1]
    have hGU : GU G G2 b (fun _ => -1) := hr_21.2
    have hP : xP D ([(o2, .inr (2, [.ref gR])), (gR, xI cy 16 fR), (o3, .inr (3, [.ref gT, .int lv0, .int sz0])), (gT, xI cy 25 fT), (oA, .inr (1, [.ref gA, .int (nI k), .int (nI zA)])), (gA, xI cy 32 fA), (oB, .inr (1, [.ref gB, .int (nI k), .int (nI zB)])), (gB, xI cy 32 fB), (oC, .inr (1, [.ref gC, .int (nI k), .int (nI zC)])), (gC, xI cy 32 fC), (qL, xI cy 60 fL), (qM, xI cy 60 fG), (mZ, xZ cy 100000 Zt), (mK, xI cy 32 fK), (mO, xI cy 32 fO), (mE, xI cy 32 fE), (mR, xI cy 16 fQ), (mF, xI cy 17 fF), (qi, xI cy cap fi), (qd, xI cy cap fd), (aO, xL cy 1 (vp_updL fo 0 ((nI n).toInt64))), (a4, .inr (4, [.ref aB, .ref o2, .ref o3, .ref oA, .ref oB, .ref oC, .ref qL, .ref qM, .int (nI k), .int (nI now)])), (aB, xB cy 6 (fun j => some (ab j))), ((ab b), .inr (0, [.ref qi, .ref qd, .int (nI 0)])), (a5, .inr (5, [.int (nI 0), .int (nI k), .int (nI now), .ref mD, .ref mI, .ref mZ, .int (nI nl), .ref mK, .ref mO, .ref mE, .ref mR, .ref mF, .int kM, .int oM])), (mD, xI cy 600000 G2), (mI, xI cy 100000 It)] ++ bks cy ab σ (bOT b)) H := hP
    have hD : va_D A ([(o2, .inr (2, [.ref gR])), (gR, xI cy 16 fR), (o3, .inr (3, [.ref gT, .int lv0, .int sz0])), (gT, xI cy 25 fT), (oA, .inr (1, [.ref gA, .int (nI k), .int (nI zA)])), (gA, xI cy 32 fA), (oB, .inr (1, [.ref gB, .int (nI k), .int (nI zB)])), (gB, xI cy 32 fB), (oC, .inr (1, [.ref gC, .int (nI k), .int (nI zC)])), (gC, xI cy 32 fC), (qL, xI cy 60 fL), (qM, xI cy 60 fG), (mZ, xZ cy 100000 Zt), (mK, xI cy 32 fK), (mO, xI cy 32 fO), (mE, xI cy 32 fE), (mR, xI cy 16 fQ), (mF, xI cy 17 fF), (qi, xI cy cap fi), (qd, xI cy cap fd), (aO, xL cy 1 (vp_updL fo 0 ((nI n).toInt64))), (a4, .inr (4, [.ref aB, .ref o2, .ref o3, .ref oA, .ref oB, .ref oC, .ref qL, .ref qM, .int (nI k), .int (nI now)])), (aB, xB cy 6 (fun j => some (ab j))), ((ab b), .inr (0, [.ref qi, .ref qd, .int (nI 0)])), (a5, .inr (5, [.int (nI 0), .int (nI k), .int (nI now), .ref mD, .ref mI, .ref mZ, .int (nI nl), .ref mK, .ref mO, .ref mE, .ref mR, .ref mF, .int kM, .int oM])), (mD, xI cy 600000 G2), (mI, xI cy 100000 It)] ++ bks cy ab σ (bOT b)) := hD
    refine lv_istore (lv' := [(6, .int (nI n)), (5, .int (nI 0)), (0, .ref sb), (1, .ref a4), (2, .ref a5), (3, .ref aO), (4, .int (nI i))]) hx hb dL_law_350 hl (by decide) rfl (fun ls hl => ?_)
    refine lv_aload_n hx hb dL_law_352 rfl (lv_at hl 4 rfl) ?_
    refine xcRi (va_runV (As := []) (rest := []) ⟨hx, hb, hml, hown, hts⟩ (m_thrown l D cy t0 a5 mD mI mZ mK mO mE mR mF k (nI 0) (nI now) (nI nl) kM oM) (cwV 0 hts gL_law_X5_thrown rfl rfl rfl (by decide +kernel) ⟨Nat.le_of_ble_eq_true rfl, Nat.le_of_ble_eq_true rfl⟩) (xPr.giveV (wc := [(a5, .inr (5, [.int (nI 0), .int (nI k), .int (nI now), .ref mD, .ref mI, .ref mZ, .int (nI nl), .ref mK, .ref mO, .ref mE, .ref mR, .ref mF, .int kM, .int oM]))]) hE hS hP [24] (xfm _ _ (xtC _ _ rfl)) 24 5 rfl rfl) rfl rfl hl.1 rfl (lv_room (Nat.le_of_ble_eq_true rfl)) dL_law_353 ⟨(show ((cells + 0) + 0) + 0 ≤ 601024 by omega), (show ((slots + 0) + 0) + 0 ≤ 7293000 by omega)⟩) (fun r_24 hr_25 => ?_)
    obtain rfl : r_24 = nI 0 := hr_25
    refine lv_iload hx hb dL_law_356 (lv_at hl 1 rfl) ?_
    refine xb_icmp_eq (tgt := 363) (a := 0) (b := 0) (by omega) (by omega) hx hb dL_law_358 (by decide) (fun c_27 => ?_) (fun c_27 => ?_)
    · refine lv_iload hx hb dL_law_363 (lv_at hl 1 rfl) ?_
      refine xb_if_ne (tgt := 380) (a := 0) (by omega) hx hb dL_law_365 (by decide) (fun c_28 => ?_) (fun c_28 => ?_)
      · exact absurd c_28 (by omega)
      · refine lv_aload_n hx hb dL_law_368 rfl (lv_at hl 5 rfl) ?_
        refine lv_iconst (v := nI 0) hx hb dL_law_369 (by decide) ?_
        refine va_lald (D := D) hx hb hE.1 hP 20 2 rfl rfl (vp_in_nI (by omega) (by omega)) dL_law_370 ?_
        rw [nI_clamp (by omega), updL0]
        refine lv_iload hx hb dL_law_371 (lv_at hl 0 rfl) ?_
        refine lv_i2l (v := (nI n).toInt64) hx hb dL_law_373 rfl ?_
        refine W.lcmp hx hb dL_law_374 ?_
        refine lv_if_eq (tgt := 380) hx hb dL_law_375 (by decide) (fun c_29 => ?_) (fun c_29 => ?_)
        · refine lv_goto (tgt := 1591) hx hb dL_law_380 (by decide) ?_
          obtain ⟨hP, hD⟩ := xsubT (ps' := [(aO, xL cy 1 (vp_updL fo 0 ((nI n).toInt64))), (a4, .inr (4, [.ref aB, .ref o2, .ref o3, .ref oA, .ref oB, .ref oC, .ref qL, .ref qM, .int (nI k), .int (nI now)])), (aB, xB cy 6 (fun j => some (ab j))), (o2, .inr (2, [.ref gR])), (gR, xI cy 16 fR), (o3, .inr (3, [.ref gT, .int lv0, .int sz0])), (gT, xI cy 25 fT), (oA, .inr (1, [.ref gA, .int (nI k), .int (nI zA)])), (gA, xI cy 32 fA), (oB, .inr (1, [.ref gB, .int (nI k), .int (nI zB)])), (gB, xI cy 32 fB), (oC, .inr (1, [.ref gC, .int (nI k), .int (nI zC)])), (gC, xI cy 32 fC), (qL, xI cy 60 fL), (qM, xI cy 60 fG), (a5, .inr (5, [.int (nI 0), .int (nI k), .int (nI now), .ref mD, .ref mI, .ref mZ, .int (nI nl), .ref mK, .ref mO, .ref mE, .ref mR, .ref mF, .int kM, .int oM])), (mD, xI cy 600000 G2), (mI, xI cy 100000 It), (mZ, xZ cy 100000 Zt), (mK, xI cy 32 fK), (mO, xI cy 32 fO), (mE, xI cy 32 fE), (mR, xI cy 16 fQ), (mF, xI cy 17 fF), ((ab b), .inr (0, [.ref qi, .ref qd, .int (nI 0)])), (qi, xI cy cap fi), (qd, xI cy cap fd)]) [20, 21, 22, 0, 1, 2, 3, 4, 5, 6, 7, 8, 9, 10, 11, 24, 25, 26, 12, 13, 14, 15, 16, 17, 23, 18, 19] hP hD rfl (by decide)
          obtain ⟨hP, hD⟩ := xunf (ps := [(aO, xL cy 1 (vp_updL fo 0 ((nI n).toInt64))), (a4, .inr (4, [.ref aB, .ref o2, .ref o3, .ref oA, .ref oB, .ref oC, .ref qL, .ref qM, .int (nI k), .int (nI now)])), (aB, xB cy 6 (fun j => some (ab j))), (o2, .inr (2, [.ref gR])), (gR, xI cy 16 fR), (o3, .inr (3, [.ref gT, .int lv0, .int sz0])), (gT, xI cy 25 fT), (oA, .inr (1, [.ref gA, .int (nI k), .int (nI zA)])), (gA, xI cy 32 fA), (oB, .inr (1, [.ref gB, .int (nI k), .int (nI zB)])), (gB, xI cy 32 fB), (oC, .inr (1, [.ref gC, .int (nI k), .int (nI zC)])), (gC, xI cy 32 fC), (qL, xI cy 60 fL), (qM, xI cy 60 fG), (a5, .inr (5, [.int (nI 0), .int (nI k), .int (nI now), .ref mD, .ref mI, .ref mZ, .int (nI nl), .ref mK, .ref mO, .ref mE, .ref mR, .ref mF, .int kM, .int oM])), (mD, xI cy 600000 G2), (mI, xI cy 100000 It), (mZ, xZ cy 100000 Zt), (mK, xI cy 32 fK), (mO, xI cy 32 fO), (mE, xI cy 32 fE), (mR, xI cy 16 fQ), (mF, xI cy 17 fF)]) (σ := σ) (v := (qi, qd, 0, cap, fi, fd)) hb6 (by rw [bkc_up]; exact hP) (by rw [bkc_up]; exact hD)
          exact knext _ _ _ _ _ ⟨now, zA, zB, zC, nl, lv0, sz0, (nI 0), kM, oM, (vp_updL fo 0 ((nI n).toInt64)), fR, fT, fA, fB, fC, fL, fG, G2, It, Zt, fK, fO, fE, fQ, fF, lst, va_up σ b (qi, qd, 0, cap, fi, fd), hR.upd hb6 hs9 hGU (fun _ => Or.inl rfl) (fun _ _ => rfl) (BR_mt hV) hML (CV_of hGU hCV (fun x _ hs => by rw [show Sm (fun _ => (-1 : Int32)) x = false from Sm_f.mpr rfl] at hs; cases hs)) (by omega) (by show _ + Us cap ≤ slots + Us cap + 6; omega), hP, hD⟩ hS (lv_sub hl [2, 3, 4, 5, 6] rfl)
        · exact absurd (lgc _) c_29
    · exact absurd c_27 (by omega)
set_option maxHeartbeats 8000000 in
set_option maxRecDepth 100000 in
theorem st_pass {p : Program} {l : Launch} {e : Env} {s : State} {m : MethodId} {below : List Frame} {meth : Method} {c : Code} {H : Heap} {locs : List Loc} {cells slots : Nat} {Q : State → Prop} {ls : Array Slot} {D : va_G} {cy : Nat → ClassId} {t0 : Nat} {A : Nat → Prop} {sb L : Nat} {xs : Nat → Int32} {aO a4 aB o2 gR o3 gT oA gA oB gB oC gC qL qM a5 mD mI mZ mK mO mE mR mF k t i : Nat} {ab : Nat → Nat} (hC : LC p l s m c D cy t0 A sb L xs) (hI : LI D cy A aO a4 aB o2 gR o3 gT oA gA oB gB oC gC qL qM a5 mD mI mZ mK mO mE mR mF k ab t H cells slots) (hS : va_S A s.heap H locs) (hl : lv_has ls 8 [(0, .ref sb), (1, .ref a4), (2, .ref a5), (3, .ref aO), (4, .int (nI i))]) (hi : i + 5 ≤ L) (hL : L ≤ 2561) (ht : t ≤ 512) (knext : ∀ (H : Heap) (locs : List Loc) (ls : Array Slot) (cells slots : Nat), LI D cy A aO a4 aB o2 gR o3 gT oA gA oB gB oC gC qL qM a5 mD mI mZ mK mO mE mR mF k ab (t + 1) H cells slots → va_S A s.heap H locs → lv_has ls 8 [(0, .ref sb), (1, .ref a4), (2, .ref a5), (3, .ref aO), (4, .int (nI i))] → W p l e room_1 s m #[Value.ref sb] below meth c H locs cells slots Q (F0 m 1591 ls [])) : W p l e room_1 s m #[Value.ref sb] below meth c H locs cells slots Q (F0 m 451 ls []) := by
  obtain ⟨hx, hb, hml, hts, hown, hE, hA, hX, hsb, hbA, hlf⟩ := hC
  obtain ⟨now, zA, zB, zC, nl, lv0, sz0, th, kM, oM, fo, fR, fT, fA, fB, fC, fL, fG, G, It, Zt, fK, fO, fE, fQ, fF, lst, σ, hR, hP, hD⟩ := hI
  obtain ⟨hrm1, hrm2⟩ := hR.room ht
  have hk2 := hR.1.1
  have hk := hR.1.2
  have hBR := hR.2.2.1
  have hMV := hR.2.2.2.1
  have hML := hR.2.2.2.2.1
  have hCV := hR.2.2.2.2.2.1
  have hF9 := hR.2.2.2.2.2.2.1
  have hnw := hR.2.1
  rcases p_rg (xs (i + 1)) 1000 (by omega) with hbad | ⟨tk, htk1, htk2, hp1⟩
  · refine lv_aload_n hx hb dL_law_451 rfl (lv_at hl 1 rfl) ?_
    refine lv_aload_n hx hb dL_law_452 rfl (lv_at hl 0 rfl) ?_
    refine lv_iload hx hb dL_law_453 (lv_at hl 4 rfl) ?_
    refine lv_iconst (v := nI 1) hx hb dL_law_455 (by decide) ?_
    refine lv_iadd hx hb dL_law_456 ?_
    refine lv_eqi (z := nI (i + 1)) (nI_add _ _) ?_
    refine va_sld hx hb hX hsb hbA hS (vp_in_nI (by omega) (by omega)) dL_law_457 ?_
    rw [nI_clamp (by omega)]
    refine lv_aload_n hx hb dL_law_458 rfl (lv_at hl 3 rfl) ?_
    refine xcWiT (wr := [(aB, xB cy 6 (fun j => some (ab j))), (o2, .inr (2, [.ref gR])), (gR, xI cy 16 fR), (o3, .inr (3, [.ref gT, .int lv0, .int sz0])), (gT, xI cy 25 fT), (oA, .inr (1, [.ref gA, .int (nI k), .int (nI zA)])), (gA, xI cy 32 fA), (oB, .inr (1, [.ref gB, .int (nI k), .int (nI zB)])), (gB, xI cy 32 fB), (oC, .inr (1, [.ref gC, .int (nI k), .int (nI zC)])), (gC, xI cy 32 fC), (qL, xI cy 60 fL), (qM, xI cy 60 fG), (a5, .inr (5, [.int th, .int (nI k), .int (nI now), .ref mD, .ref mI, .ref mZ, .int (nI nl), .ref mK, .ref mO, .ref mE, .ref mR, .ref mF, .int kM, .int oM])), (mD, xI cy 600000 G), (mI, xI cy 100000 It), (mZ, xZ cy 100000 Zt), (mK, xI cy 32 fK), (mO, xI cy 32 fO), (mE, xI cy 32 fE), (mR, xI cy 16 fQ), (mF, xI cy 17 fF)]) (vx_runSW (As := [.ref a4, .int (xs (i + 1)), .ref aO]) (rest := []) ⟨hx, hb, hml, hown, hts⟩ ((w_passV l D cy t0 aO a4 fo _ _ _ (c_passV l hlf D cy t0 a4 aB o2 o3 oA oB oC qL qM k now ab (xs (i + 1)) hbad)) H.size) (vx_cwSW 3 hts gL_law_L_pass rfl rfl rfl (by decide +kernel) ⟨Nat.le_of_ble_eq_true rfl, Nat.le_of_ble_eq_true rfl⟩) (xPw.give (wc := [(aO, xL cy 1 fo), (a4, .inr (4, [.ref aB, .ref o2, .ref o3, .ref oA, .ref oB, .ref oC, .ref qL, .ref qM, .int (nI k), .int (nI now)]))]) hE hS hA hP hD [0, 1] (by decide) (xtC _ _ rfl)) rfl rfl hl.1 rfl (lv_room (Nat.le_of_ble_eq_true rfl)) dL_law_459 ⟨(show cells + 1 ≤ 601024 by omega), (show slots + 6 ≤ 7293000 by omega)⟩) hP hD hS hA [0, 1] [2, 3, 4, 5, 6, 7, 8, 9, 10, 11, 12, 13, 14, 15, 16, 17, 18, 19, 20, 21, 22, 23] rfl rfl (by decide) (by decide) (fun r_2 u_4 H locs hr_3 hP hD hS => ?_)
    obtain rfl : r_2 = nI 1 := hr_3
    have hP : xP D ([(aB, xB cy 6 (fun j => some (ab j))), (o2, .inr (2, [.ref gR])), (gR, xI cy 16 fR), (o3, .inr (3, [.ref gT, .int lv0, .int sz0])), (gT, xI cy 25 fT), (oA, .inr (1, [.ref gA, .int (nI k), .int (nI zA)])), (gA, xI cy 32 fA), (oB, .inr (1, [.ref gB, .int (nI k), .int (nI zB)])), (gB, xI cy 32 fB), (oC, .inr (1, [.ref gC, .int (nI k), .int (nI zC)])), (gC, xI cy 32 fC), (qL, xI cy 60 fL), (qM, xI cy 60 fG), (a5, .inr (5, [.int th, .int (nI k), .int (nI now), .ref mD, .ref mI, .ref mZ, .int (nI nl), .ref mK, .ref mO, .ref mE, .ref mR, .ref mF, .int kM, .int oM])), (mD, xI cy 600000 G), (mI, xI cy 100000 It), (mZ, xZ cy 100000 Zt), (mK, xI cy 32 fK), (mO, xI cy 32 fO), (mE, xI cy 32 fE), (mR, xI cy 16 fQ), (mF, xI cy 17 fF), (aO, xL cy 1 fo), (a4, .inr (4, [.ref aB, .ref o2, .ref o3, .ref oA, .ref oB, .ref oC, .ref qL, .ref qM, .int (nI k), .int (nI now)]))] ++ bks cy ab σ b06) H := hP
    have hD : va_D A ([(aB, xB cy 6 (fun j => some (ab j))), (o2, .inr (2, [.ref gR])), (gR, xI cy 16 fR), (o3, .inr (3, [.ref gT, .int lv0, .int sz0])), (gT, xI cy 25 fT), (oA, .inr (1, [.ref gA, .int (nI k), .int (nI zA)])), (gA, xI cy 32 fA), (oB, .inr (1, [.ref gB, .int (nI k), .int (nI zB)])), (gB, xI cy 32 fB), (oC, .inr (1, [.ref gC, .int (nI k), .int (nI zC)])), (gC, xI cy 32 fC), (qL, xI cy 60 fL), (qM, xI cy 60 fG), (a5, .inr (5, [.int th, .int (nI k), .int (nI now), .ref mD, .ref mI, .ref mZ, .int (nI nl), .ref mK, .ref mO, .ref mE, .ref mR, .ref mF, .int kM, .int oM])), (mD, xI cy 600000 G), (mI, xI cy 100000 It), (mZ, xZ cy 100000 Zt), (mK, xI cy 32 fK), (mO, xI cy 32 fO), (mE, xI cy 32 fE), (mR, xI cy 16 fQ), (mF, xI cy 17 fF), (aO, xL cy 1 fo), (a4, .inr (4, [.ref aB, .ref o2, .ref o3, .ref oA, .ref oB, .ref oC, .ref qL, .ref qM, .int (nI k), .int (nI now)]))] ++ bks cy ab σ b06) := hD
    refine lv_istore (lv' := [(5, .int (nI 1)), (0, .ref sb), (1, .ref a4), (2, .ref a5), (3, .ref aO), (4, .int (nI i))]) hx hb dL_law_462 hl (by decide) rfl (fun ls hl => ?_)
    refine lv_aload_n hx hb dL_law_464 rfl (lv_at hl 3 rfl) ?_
    refine lv_aload_n hx hb dL_law_465 rfl (lv_at hl 1 rfl) ?_
    refine lv_iload hx hb dL_law_466 (lv_at hl 5 rfl) ?_
    refine lv_iconst (v := nI 1) hx hb dL_law_468 (by decide) ?_
    refine lv_iadd hx hb dL_law_469 ?_
    refine lv_eqi (z := nI (i + 1)) (nI_add _ _) ?_
    refine va_sld hx hb hX hsb hbA hS (vp_in_nI (by omega) (by omega)) dL_law_470 ?_
    rw [nI_clamp (by omega)]
    refine xcWiT (wr := [(aB, xB cy 6 (fun j => some (ab j))), (o2, .inr (2, [.ref gR])), (gR, xI cy 16 fR), (o3, .inr (3, [.ref gT, .int lv0, .int sz0])), (gT, xI cy 25 fT), (oA, .inr (1, [.ref gA, .int (nI k), .int (nI zA)])), (gA, xI cy 32 fA), (oB, .inr (1, [.ref gB, .int (nI k), .int (nI zB)])), (gB, xI cy 32 fB), (oC, .inr (1, [.ref gC, .int (nI k), .int (nI zC)])), (gC, xI cy 32 fC), (qL, xI cy 60 fL), (qM, xI cy 60 fG), (mD, xI cy 600000 G), (mI, xI cy 100000 It), (mZ, xZ cy 100000 Zt), (mK, xI cy 32 fK), (mO, xI cy 32 fO), (mE, xI cy 32 fE), (mR, xI cy 16 fQ), (mF, xI cy 17 fF), (aO, xL cy 1 fo), (a4, .inr (4, [.ref aB, .ref o2, .ref o3, .ref oA, .ref oB, .ref oC, .ref qL, .ref qM, .int (nI k), .int (nI now)]))]) (va_runV (As := [.int (xs (i + 1))]) (rest := []) ⟨hx, hb, hml, hown, hts⟩ ((m_passV l D cy t0 a5 mD mI mZ mK mO mE mR mF k th (nI now) (nI nl) kM oM (xs (i + 1)) hbad) H.size) (cwV 1 hts gL_law_X5_pass rfl rfl rfl (by decide +kernel) ⟨Nat.le_of_ble_eq_true rfl, Nat.le_of_ble_eq_true rfl⟩) (xPw.giveV (wc := [(a5, .inr (5, [.int th, .int (nI k), .int (nI now), .ref mD, .ref mI, .ref mZ, .int (nI nl), .ref mK, .ref mO, .ref mE, .ref mR, .ref mF, .int kM, .int oM]))]) hE hS hA hP hD [13] (by decide) (xtC _ _ rfl) 13 5 rfl rfl) rfl rfl hl.1 rfl (lv_room (Nat.le_of_ble_eq_true rfl)) dL_law_471 ⟨(show (cells + 1) + 0 ≤ 601024 by omega), (show (slots + 6) + 0 ≤ 7293000 by omega)⟩) hP hD hS hA [13] [0, 1, 2, 3, 4, 5, 6, 7, 8, 9, 10, 11, 12, 14, 15, 16, 17, 18, 19, 20, 21, 22, 23] rfl rfl (by decide) (by decide) (fun r_6 u_8 H locs hr_7 hP hD hS => ?_)
    have hq9 := hr_7
    have hP : xP D ([(aB, xB cy 6 (fun j => some (ab j))), (o2, .inr (2, [.ref gR])), (gR, xI cy 16 fR), (o3, .inr (3, [.ref gT, .int lv0, .int sz0])), (gT, xI cy 25 fT), (oA, .inr (1, [.ref gA, .int (nI k), .int (nI zA)])), (gA, xI cy 32 fA), (oB, .inr (1, [.ref gB, .int (nI k), .int (nI zB)])), (gB, xI cy 32 fB), (oC, .inr (1, [.ref gC, .int (nI k), .int (nI zC)])), (gC, xI cy 32 fC), (qL, xI cy 60 fL), (qM, xI cy 60 fG), (mD, xI cy 600000 G), (mI, xI cy 100000 It), (mZ, xZ cy 100000 Zt), (mK, xI cy 32 fK), (mO, xI cy 32 fO), (mE, xI cy 32 fE), (mR, xI cy 16 fQ), (mF, xI cy 17 fF), (aO, xL cy 1 fo), (a4, .inr (4, [.ref aB, .ref o2, .ref o3, .ref oA, .ref oB, .ref oC, .ref qL, .ref qM, .int (nI k), .int (nI now)])), (a5, .inr (5, [.int (nI 1), .int (nI k), .int (nI now), .ref mD, .ref mI, .ref mZ, .int (nI nl), .ref mK, .ref mO, .ref mE, .ref mR, .ref mF, .int kM, .int oM]))] ++ bks cy ab σ b06) H := hP
    have hD : va_D A ([(aB, xB cy 6 (fun j => some (ab j))), (o2, .inr (2, [.ref gR])), (gR, xI cy 16 fR), (o3, .inr (3, [.ref gT, .int lv0, .int sz0])), (gT, xI cy 25 fT), (oA, .inr (1, [.ref gA, .int (nI k), .int (nI zA)])), (gA, xI cy 32 fA), (oB, .inr (1, [.ref gB, .int (nI k), .int (nI zB)])), (gB, xI cy 32 fB), (oC, .inr (1, [.ref gC, .int (nI k), .int (nI zC)])), (gC, xI cy 32 fC), (qL, xI cy 60 fL), (qM, xI cy 60 fG), (mD, xI cy 600000 G), (mI, xI cy 100000 It), (mZ, xZ cy 100000 Zt), (mK, xI cy 32 fK), (mO, xI cy 32 fO), (mE, xI cy 32 fE), (mR, xI cy 16 fQ), (mF, xI cy 17 fF), (aO, xL cy 1 fo), (a4, .inr (4, [.ref aB, .ref o2, .ref o3, .ref oA, .ref oB, .ref oC, .ref qL, .ref qM, .int (nI k), .int (nI now)])), (a5, .inr (5, [.int (nI 1), .int (nI k), .int (nI now), .ref mD, .ref mI, .ref mZ, .int (nI nl), .ref mK, .ref mO, .ref mE, .ref mR, .ref mF, .int kM, .int oM]))] ++ bks cy ab σ b06) := hD
    refine lv_istore (lv' := [(6, .int r_6), (5, .int (nI 1)), (0, .ref sb), (1, .ref a4), (2, .ref a5), (3, .ref aO), (4, .int (nI i))]) hx hb dL_law_474 hl (by decide) rfl (fun ls hl => ?_)
    refine lv_aload_n hx hb dL_law_476 rfl (lv_at hl 4 rfl) ?_
    refine xcRi (va_runV (As := []) (rest := []) ⟨hx, hb, hml, hown, hts⟩ (m_thrown l D cy t0 a5 mD mI mZ mK mO mE mR mF k (nI 1) (nI now) (nI nl) kM oM) (cwV 0 hts gL_law_X5_thrown rfl rfl rfl (by decide +kernel) ⟨Nat.le_of_ble_eq_true rfl, Nat.le_of_ble_eq_true rfl⟩) (xPr.giveV (wc := [(a5, .inr (5, [.int (nI 1), .int (nI k), .int (nI now), .ref mD, .ref mI, .ref mZ, .int (nI nl), .ref mK, .ref mO, .ref mE, .ref mR, .ref mF, .int kM, .int oM]))]) hE hS hP [23] (xfm _ _ (xtC _ _ rfl)) 23 5 rfl rfl) rfl rfl hl.1 rfl (lv_room (Nat.le_of_ble_eq_true rfl)) dL_law_477 ⟨(show ((cells + 1) + 0) + 0 ≤ 601024 by omega), (show ((slots + 6) + 0) + 0 ≤ 7293000 by omega)⟩) (fun r_10 hr_11 => ?_)
    obtain rfl : r_10 = nI 1 := hr_11
    refine lv_iload hx hb dL_law_480 (lv_at hl 1 rfl) ?_
    refine xb_icmp_eq (tgt := 487) (a := 1) (b := 1) (by omega) (by omega) hx hb dL_law_482 (by decide) (fun c_13 => ?_) (fun c_13 => ?_)
    · refine lv_iload hx hb dL_law_487 (lv_at hl 1 rfl) ?_
      refine xb_if_ne (tgt := 504) (a := 1) (by omega) hx hb dL_law_489 (by decide) (fun c_14 => ?_) (fun c_14 => ?_)
      · refine lv_goto (tgt := 1591) hx hb dL_law_504 (by decide) ?_
        obtain ⟨hP, hD⟩ := xsubT (ps' := [(aO, xL cy 1 fo), (a4, .inr (4, [.ref aB, .ref o2, .ref o3, .ref oA, .ref oB, .ref oC, .ref qL, .ref qM, .int (nI k), .int (nI now)])), (aB, xB cy 6 (fun j => some (ab j))), (o2, .inr (2, [.ref gR])), (gR, xI cy 16 fR), (o3, .inr (3, [.ref gT, .int lv0, .int sz0])), (gT, xI cy 25 fT), (oA, .inr (1, [.ref gA, .int (nI k), .int (nI zA)])), (gA, xI cy 32 fA), (oB, .inr (1, [.ref gB, .int (nI k), .int (nI zB)])), (gB, xI cy 32 fB), (oC, .inr (1, [.ref gC, .int (nI k), .int (nI zC)])), (gC, xI cy 32 fC), (qL, xI cy 60 fL), (qM, xI cy 60 fG), (a5, .inr (5, [.int (nI 1), .int (nI k), .int (nI now), .ref mD, .ref mI, .ref mZ, .int (nI nl), .ref mK, .ref mO, .ref mE, .ref mR, .ref mF, .int kM, .int oM])), (mD, xI cy 600000 G), (mI, xI cy 100000 It), (mZ, xZ cy 100000 Zt), (mK, xI cy 32 fK), (mO, xI cy 32 fO), (mE, xI cy 32 fE), (mR, xI cy 16 fQ), (mF, xI cy 17 fF)]) [21, 22, 0, 1, 2, 3, 4, 5, 6, 7, 8, 9, 10, 11, 12, 23, 13, 14, 15, 16, 17, 18, 19, 20] hP hD rfl (by decide)
        exact knext _ _ _ _ _ ⟨now, zA, zB, zC, nl, lv0, sz0, (nI 1), kM, oM, fo, fR, fT, fA, fB, fC, fL, fG, G, It, Zt, fK, fO, fE, fQ, fF, lst, σ, hR.next (by omega) (by omega), hP, hD⟩ hS (lv_sub hl [2, 3, 4, 5, 6] rfl)
      · exact absurd c_14 (by omega)
    · exact absurd c_13 (by omega)
  · refine lv_aload_n hx hb dL_law_451 rfl (lv_at hl 1 rfl) ?_
    refine lv_aload_n hx hb dL_law_452 rfl (lv_at hl 0 rfl) ?_
    refine lv_iload hx hb dL_law_453 (lv_at hl 4 rfl) ?_
    refine lv_iconst (v := nI 1) hx hb dL_law_455 (by decide) ?_
    refine lv_iadd hx hb dL_law_456 ?_
    refine lv_eqi (z := nI (i + 1)) (nI_add _ _) ?_
    refine va_sld hx hb hX hsb hbA hS (vp_in_nI (by omega) (by omega)) dL_law_457 ?_
    rw [nI_clamp (by omega)]
    refine lv_eqi (z := nI tk) hp1 ?_
    refine lv_aload_n hx hb dL_law_458 rfl (lv_at hl 3 rfl) ?_
    refine xcWiT (wr := [(aB, xB cy 6 (fun j => some (ab j))), (o2, .inr (2, [.ref gR])), (gR, xI cy 16 fR), (o3, .inr (3, [.ref gT, .int lv0, .int sz0])), (gT, xI cy 25 fT), (oA, .inr (1, [.ref gA, .int (nI k), .int (nI zA)])), (gA, xI cy 32 fA), (oB, .inr (1, [.ref gB, .int (nI k), .int (nI zB)])), (gB, xI cy 32 fB), (oC, .inr (1, [.ref gC, .int (nI k), .int (nI zC)])), (gC, xI cy 32 fC), (qL, xI cy 60 fL), (qM, xI cy 60 fG), (a5, .inr (5, [.int th, .int (nI k), .int (nI now), .ref mD, .ref mI, .ref mZ, .int (nI nl), .ref mK, .ref mO, .ref mE, .ref mR, .ref mF, .int kM, .int oM])), (mD, xI cy 600000 G), (mI, xI cy 100000 It), (mZ, xZ cy 100000 Zt), (mK, xI cy 32 fK), (mO, xI cy 32 fO), (mE, xI cy 32 fE), (mR, xI cy 16 fQ), (mF, xI cy 17 fF)]) (vx_runSW (As := [.ref a4, .int (nI tk), .ref aO]) (rest := []) ⟨hx, hb, hml, hown, hts⟩ ((w_pass l D cy t0 aO a4 fo _ _ _ (c_pass l D cy t0 a4 aB o2 o3 oA oB oC qL qM k now ab tk htk1 htk2)) H.size) (vx_cwSW 3 hts gL_law_L_pass rfl rfl rfl (by decide +kernel) ⟨Nat.le_of_ble_eq_true rfl, Nat.le_of_ble_eq_true rfl⟩) (xPw.give (wc := [(aO, xL cy 1 fo), (a4, .inr (4, [.ref aB, .ref o2, .ref o3, .ref oA, .ref oB, .ref oC, .ref qL, .ref qM, .int (nI k), .int (nI now)]))]) hE hS hA hP hD [0, 1] (by decide) (xtC _ _ rfl)) rfl rfl hl.1 rfl (lv_room (Nat.le_of_ble_eq_true rfl)) dL_law_459 ⟨(show cells + 0 ≤ 601024 by omega), (show slots + 0 ≤ 7293000 by omega)⟩) hP hD hS hA [0, 1] [2, 3, 4, 5, 6, 7, 8, 9, 10, 11, 12, 13, 14, 15, 16, 17, 18, 19, 20, 21, 22, 23] rfl rfl (by decide) (by decide) (fun r_16 u_18 H locs hr_17 hP hD hS => ?_)
    obtain ⟨v9, w9⟩ := u_18
    obtain rfl : r_16 = nI 0 := hr_17.1
    obtain rfl : v9 = nI (now + tk) := hr_17.2
    have hP : xP D ([(aB, xB cy 6 (fun j => some (ab j))), (o2, .inr (2, [.ref gR])), (gR, xI cy 16 fR), (o3, .inr (3, [.ref gT, .int lv0, .int sz0])), (gT, xI cy 25 fT), (oA, .inr (1, [.ref gA, .int (nI k), .int (nI zA)])), (gA, xI cy 32 fA), (oB, .inr (1, [.ref gB, .int (nI k), .int (nI zB)])), (gB, xI cy 32 fB), (oC, .inr (1, [.ref gC, .int (nI k), .int (nI zC)])), (gC, xI cy 32 fC), (qL, xI cy 60 fL), (qM, xI cy 60 fG), (a5, .inr (5, [.int th, .int (nI k), .int (nI now), .ref mD, .ref mI, .ref mZ, .int (nI nl), .ref mK, .ref mO, .ref mE, .ref mR, .ref mF, .int kM, .int oM])), (mD, xI cy 600000 G), (mI, xI cy 100000 It), (mZ, xZ cy 100000 Zt), (mK, xI cy 32 fK), (mO, xI cy 32 fO), (mE, xI cy 32 fE), (mR, xI cy 16 fQ), (mF, xI cy 17 fF), (aO, xL cy 1 (vp_updL fo 0 (nI (now + tk)).toInt64)), (a4, .inr (4, [.ref aB, .ref o2, .ref o3, .ref oA, .ref oB, .ref oC, .ref qL, .ref qM, .int (nI k), .int (nI (now + tk))]))] ++ bks cy ab σ b06) H := hP
    have hD : va_D A ([(aB, xB cy 6 (fun j => some (ab j))), (o2, .inr (2, [.ref gR])), (gR, xI cy 16 fR), (o3, .inr (3, [.ref gT, .int lv0, .int sz0])), (gT, xI cy 25 fT), (oA, .inr (1, [.ref gA, .int (nI k), .int (nI zA)])), (gA, xI cy 32 fA), (oB, .inr (1, [.ref gB, .int (nI k), .int (nI zB)])), (gB, xI cy 32 fB), (oC, .inr (1, [.ref gC, .int (nI k), .int (nI zC)])), (gC, xI cy 32 fC), (qL, xI cy 60 fL), (qM, xI cy 60 fG), (a5, .inr (5, [.int th, .int (nI k), .int (nI now), .ref mD, .ref mI, .ref mZ, .int (nI nl), .ref mK, .ref mO, .ref mE, .ref mR, .ref mF, .int kM, .int oM])), (mD, xI cy 600000 G), (mI, xI cy 100000 It), (mZ, xZ cy 100000 Zt), (mK, xI cy 32 fK), (mO, xI cy 32 fO), (mE, xI cy 32 fE), (mR, xI cy 16 fQ), (mF, xI cy 17 fF), (aO, xL cy 1 (vp_updL fo 0 (nI (now + tk)).toInt64)), (a4, .inr (4, [.ref aB, .ref o2, .ref o3, .ref oA, .ref oB, .ref oC, .ref qL, .ref qM, .int (nI k), .int (nI (now + tk))]))] ++ bks cy ab σ b06) := hD
    refine lv_istore (lv' := [(5, .int (nI 0)), (0, .ref sb), (1, .ref a4), (2, .ref a5), (3, .ref aO), (4, .int (nI i))]) hx hb dL_law_462 hl (by decide) rfl (fun ls hl => ?_)
    refine lv_aload_n hx hb dL_law_464 rfl (lv_at hl 3 rfl) ?_
    refine lv_aload_n hx hb dL_law_465 rfl (lv_at hl 1 rfl) ?_
    refine lv_iload hx hb dL_law_466 (lv_at hl 5 rfl) ?_
    refine lv_iconst (v := nI 1) hx hb dL_law_468 (by decide) ?_
    refine lv_iadd hx hb dL_law_469 ?_
    refine lv_eqi (z := nI (i + 1)) (nI_add _ _) ?_
    refine va_sld hx hb hX hsb hbA hS (vp_in_nI (by omega) (by omega)) dL_law_470 ?_
    rw [nI_clamp (by omega)]
    refine lv_eqi (z := nI tk) hp1 ?_
    refine xcWiT (wr := [(aB, xB cy 6 (fun j => some (ab j))), (o2, .inr (2, [.ref gR])), (gR, xI cy 16 fR), (o3, .inr (3, [.ref gT, .int lv0, .int sz0])), (gT, xI cy 25 fT), (oA, .inr (1, [.ref gA, .int (nI k), .int (nI zA)])), (gA, xI cy 32 fA), (oB, .inr (1, [.ref gB, .int (nI k), .int (nI zB)])), (gB, xI cy 32 fB), (oC, .inr (1, [.ref gC, .int (nI k), .int (nI zC)])), (gC, xI cy 32 fC), (qL, xI cy 60 fL), (qM, xI cy 60 fG), (mD, xI cy 600000 G), (mI, xI cy 100000 It), (mZ, xZ cy 100000 Zt), (mK, xI cy 32 fK), (mO, xI cy 32 fO), (mE, xI cy 32 fE), (mR, xI cy 16 fQ), (mF, xI cy 17 fF), (aO, xL cy 1 (vp_updL fo 0 (nI (now + tk)).toInt64)), (a4, .inr (4, [.ref aB, .ref o2, .ref o3, .ref oA, .ref oB, .ref oC, .ref qL, .ref qM, .int (nI k), .int (nI (now + tk))]))]) (va_runV (As := [.int (nI tk)]) (rest := []) ⟨hx, hb, hml, hown, hts⟩ ((m_pass l D cy t0 a5 mD mI mZ mK mO mE mR mF k now tk th (nI nl) kM oM htk1 htk2) H.size) (cwV 1 hts gL_law_X5_pass rfl rfl rfl (by decide +kernel) ⟨Nat.le_of_ble_eq_true rfl, Nat.le_of_ble_eq_true rfl⟩) (xPw.giveV (wc := [(a5, .inr (5, [.int th, .int (nI k), .int (nI now), .ref mD, .ref mI, .ref mZ, .int (nI nl), .ref mK, .ref mO, .ref mE, .ref mR, .ref mF, .int kM, .int oM]))]) hE hS hA hP hD [13] (by decide) (xtC _ _ rfl) 13 5 rfl rfl) rfl rfl hl.1 rfl (lv_room (Nat.le_of_ble_eq_true rfl)) dL_law_471 ⟨(show (cells + 0) + 0 ≤ 601024 by omega), (show (slots + 0) + 0 ≤ 7293000 by omega)⟩) hP hD hS hA [13] [0, 1, 2, 3, 4, 5, 6, 7, 8, 9, 10, 11, 12, 14, 15, 16, 17, 18, 19, 20, 21, 22, 23] rfl rfl (by decide) (by decide) (fun r_20 u_22 H locs hr_21 hP hD hS => ?_)
    obtain rfl : r_20 = nI (now + tk) := hr_21
    have hP : xP D ([(aB, xB cy 6 (fun j => some (ab j))), (o2, .inr (2, [.ref gR])), (gR, xI cy 16 fR), (o3, .inr (3, [.ref gT, .int lv0, .int sz0])), (gT, xI cy 25 fT), (oA, .inr (1, [.ref gA, .int (nI k), .int (nI zA)])), (gA, xI cy 32 fA), (oB, .inr (1, [.ref gB, .int (nI k), .int (nI zB)])), (gB, xI cy 32 fB), (oC, .inr (1, [.ref gC, .int (nI k), .int (nI zC)])), (gC, xI cy 32 fC), (qL, xI cy 60 fL), (qM, xI cy 60 fG), (mD, xI cy 600000 G), (mI, xI cy 100000 It), (mZ, xZ cy 100000 Zt), (mK, xI cy 32 fK), (mO, xI cy 32 fO), (mE, xI cy 32 fE), (mR, xI cy 16 fQ), (mF, xI cy 17 fF), (aO, xL cy 1 (vp_updL fo 0 (nI (now + tk)).toInt64)), (a4, .inr (4, [.ref aB, .ref o2, .ref o3, .ref oA, .ref oB, .ref oC, .ref qL, .ref qM, .int (nI k), .int (nI (now + tk))])), (a5, .inr (5, [.int (nI 0), .int (nI k), .int (nI (now + tk)), .ref mD, .ref mI, .ref mZ, .int (nI nl), .ref mK, .ref mO, .ref mE, .ref mR, .ref mF, .int kM, .int oM]))] ++ bks cy ab σ b06) H := hP
    have hD : va_D A ([(aB, xB cy 6 (fun j => some (ab j))), (o2, .inr (2, [.ref gR])), (gR, xI cy 16 fR), (o3, .inr (3, [.ref gT, .int lv0, .int sz0])), (gT, xI cy 25 fT), (oA, .inr (1, [.ref gA, .int (nI k), .int (nI zA)])), (gA, xI cy 32 fA), (oB, .inr (1, [.ref gB, .int (nI k), .int (nI zB)])), (gB, xI cy 32 fB), (oC, .inr (1, [.ref gC, .int (nI k), .int (nI zC)])), (gC, xI cy 32 fC), (qL, xI cy 60 fL), (qM, xI cy 60 fG), (mD, xI cy 600000 G), (mI, xI cy 100000 It), (mZ, xZ cy 100000 Zt), (mK, xI cy 32 fK), (mO, xI cy 32 fO), (mE, xI cy 32 fE), (mR, xI cy 16 fQ), (mF, xI cy 17 fF), (aO, xL cy 1 (vp_updL fo 0 (nI (now + tk)).toInt64)), (a4, .inr (4, [.ref aB, .ref o2, .ref o3, .ref oA, .ref oB, .ref oC, .ref qL, .ref qM, .int (nI k), .int (nI (now + tk))])), (a5, .inr (5, [.int (nI 0), .int (nI k), .int (nI (now + tk)), .ref mD, .ref mI, .ref mZ, .int (nI nl), .ref mK, .ref mO, .ref mE, .ref mR, .ref mF, .int kM, .int oM]))] ++ bks cy ab σ b06) := hD
    refine lv_istore (lv' := [(6, .int (nI (now + tk))), (5, .int (nI 0)), (0, .ref sb), (1, .ref a4), (2, .ref a5), (3, .ref aO), (4, .int (nI i))]) hx hb dL_law_474 hl (by decide) rfl (fun ls hl => ?_)
    refine lv_aload_n hx hb dL_law_476 rfl (lv_at hl 4 rfl) ?_
    refine xcRi (va_runV (As := []) (rest := []) ⟨hx, hb, hml, hown, hts⟩ (m_thrown l D cy t0 a5 mD mI mZ mK mO mE mR mF k (nI 0) (nI (now + tk)) (nI nl) kM oM) (cwV 0 hts gL_law_X5_thrown rfl rfl rfl (by decide +kernel) ⟨Nat.le_of_ble_eq_true rfl, Nat.le_of_ble_eq_true rfl⟩) (xPr.giveV (wc := [(a5, .inr (5, [.int (nI 0), .int (nI k), .int (nI (now + tk)), .ref mD, .ref mI, .ref mZ, .int (nI nl), .ref mK, .ref mO, .ref mE, .ref mR, .ref mF, .int kM, .int oM]))]) hE hS hP [23] (xfm _ _ (xtC _ _ rfl)) 23 5 rfl rfl) rfl rfl hl.1 rfl (lv_room (Nat.le_of_ble_eq_true rfl)) dL_law_477 ⟨(show ((cells + 0) + 0) + 0 ≤ 601024 by omega), (show ((slots + 0) + 0) + 0 ≤ 7293000 by omega)⟩) (fun r_24 hr_25 => ?_)
    obtain rfl : r_24 = nI 0 := hr_25
    refine lv_iload hx hb dL_law_480 (lv_at hl 1 rfl) ?_
    refine xb_icmp_eq (tgt := 487) (a := 0) (b := 0) (by omega) (by omega) hx hb dL_law_482 (by decide) (fun c_27 => ?_) (fun c_27 => ?_)
    · refine lv_iload hx hb dL_law_487 (lv_at hl 1 rfl) ?_
      refine xb_if_ne (tgt := 504) (a := 0) (by omega) hx hb dL_law_489 (by decide) (fun c_28 => ?_) (fun c_28 => ?_)
      · exact absurd c_28 (by omega)
      · refine lv_aload_n hx hb dL_law_492 rfl (lv_at hl 5 rfl) ?_
        refine lv_iconst (v := nI 0) hx hb dL_law_493 (by decide) ?_
        refine va_lald (D := D) hx hb hE.1 hP 21 2 rfl rfl (vp_in_nI (by omega) (by omega)) dL_law_494 ?_
        rw [nI_clamp (by omega), updL0]
        refine lv_iload hx hb dL_law_495 (lv_at hl 0 rfl) ?_
        refine lv_i2l (v := (nI (now + tk)).toInt64) hx hb dL_law_497 rfl ?_
        refine W.lcmp hx hb dL_law_498 ?_
        refine lv_if_eq (tgt := 504) hx hb dL_law_499 (by decide) (fun c_29 => ?_) (fun c_29 => ?_)
        · refine lv_goto (tgt := 1591) hx hb dL_law_504 (by decide) ?_
          obtain ⟨hP, hD⟩ := xsubT (ps' := [(aO, xL cy 1 (vp_updL fo 0 (nI (now + tk)).toInt64)), (a4, .inr (4, [.ref aB, .ref o2, .ref o3, .ref oA, .ref oB, .ref oC, .ref qL, .ref qM, .int (nI k), .int (nI (now + tk))])), (aB, xB cy 6 (fun j => some (ab j))), (o2, .inr (2, [.ref gR])), (gR, xI cy 16 fR), (o3, .inr (3, [.ref gT, .int lv0, .int sz0])), (gT, xI cy 25 fT), (oA, .inr (1, [.ref gA, .int (nI k), .int (nI zA)])), (gA, xI cy 32 fA), (oB, .inr (1, [.ref gB, .int (nI k), .int (nI zB)])), (gB, xI cy 32 fB), (oC, .inr (1, [.ref gC, .int (nI k), .int (nI zC)])), (gC, xI cy 32 fC), (qL, xI cy 60 fL), (qM, xI cy 60 fG), (a5, .inr (5, [.int (nI 0), .int (nI k), .int (nI (now + tk)), .ref mD, .ref mI, .ref mZ, .int (nI nl), .ref mK, .ref mO, .ref mE, .ref mR, .ref mF, .int kM, .int oM])), (mD, xI cy 600000 G), (mI, xI cy 100000 It), (mZ, xZ cy 100000 Zt), (mK, xI cy 32 fK), (mO, xI cy 32 fO), (mE, xI cy 32 fE), (mR, xI cy 16 fQ), (mF, xI cy 17 fF)]) [21, 22, 0, 1, 2, 3, 4, 5, 6, 7, 8, 9, 10, 11, 12, 23, 13, 14, 15, 16, 17, 18, 19, 20] hP hD rfl (by decide)
          exact knext _ _ _ _ _ ⟨(now + tk), zA, zB, zC, nl, lv0, sz0, (nI 0), kM, oM, (vp_updL fo 0 (nI (now + tk)).toInt64), fR, fT, fA, fB, fC, fL, fG, G, It, Zt, fK, fO, fE, fQ, fF, lst, σ, hR.pass htk2 (by omega) (by omega), hP, hD⟩ hS (lv_sub hl [2, 3, 4, 5, 6] rfl)
        · exact absurd (lgc _) c_29
    · exact absurd c_27 (by omega)
set_option maxHeartbeats 8000000 in
set_option maxRecDepth 100000 in
theorem st_add {p : Program} {l : Launch} {e : Env} {s : State} {m : MethodId} {below : List Frame} {meth : Method} {c : Code} {H : Heap} {locs : List Loc} {cells slots : Nat} {Q : State → Prop} {ls : Array Slot} {D : va_G} {cy : Nat → ClassId} {t0 : Nat} {A : Nat → Prop} {sb L : Nat} {xs : Nat → Int32} {aO a4 aB o2 gR o3 gT oA gA oB gB oC gC qL qM a5 mD mI mZ mK mO mE mR mF k t i : Nat} {ab : Nat → Nat} (hC : LC p l s m c D cy t0 A sb L xs) (hI : LI D cy A aO a4 aB o2 gR o3 gT oA gA oB gB oC gC qL qM a5 mD mI mZ mK mO mE mR mF k ab t H cells slots) (hS : va_S A s.heap H locs) (hl : lv_has ls 8 [(0, .ref sb), (1, .ref a4), (2, .ref a5), (3, .ref aO), (4, .int (nI i))]) (hi : i + 5 ≤ L) (hL : L ≤ 2561) (ht : t ≤ 512) (knext : ∀ (H : Heap) (locs : List Loc) (ls : Array Slot) (cells slots : Nat), LI D cy A aO a4 aB o2 gR o3 gT oA gA oB gB oC gC qL qM a5 mD mI mZ mK mO mE mR mF k ab (t + 1) H cells slots → va_S A s.heap H locs → lv_has ls 8 [(0, .ref sb), (1, .ref a4), (2, .ref a5), (3, .ref aO), (4, .int (nI i))] → W p l e room_1 s m #[Value.ref sb] below meth c H locs cells slots Q (F0 m 1591 ls [])) : W p l e room_1 s m #[Value.ref sb] below meth c H locs cells slots Q (F0 m 160 ls []) := by
  obtain ⟨hx, hb, hml, hts, hown, hE, hA, hX, hsb, hbA, hlf⟩ := hC
  obtain ⟨now, zA, zB, zC, nl, lv0, sz0, th, kM, oM, fo, fR, fT, fA, fB, fC, fL, fG, G, It, Zt, fK, fO, fE, fQ, fF, lst, σ, hR, hP, hD⟩ := hI
  obtain ⟨hrm1, hrm2⟩ := hR.room ht
  have hk2 := hR.1.1
  have hk := hR.1.2
  have hBR := hR.2.2.1
  have hMV := hR.2.2.2.1
  have hML := hR.2.2.2.2.1
  have hCV := hR.2.2.2.2.2.1
  have hF9 := hR.2.2.2.2.2.2.1
  have hnw := hR.2.1
  rcases p_bk (xs (i + 1)) with hbi | ⟨b, hb6, hp1⟩
  · refine lv_aload_n hx hb dL_law_160 rfl (lv_at hl 1 rfl) ?_
    refine lv_aload_n hx hb dL_law_161 rfl (lv_at hl 0 rfl) ?_
    refine lv_iload hx hb dL_law_162 (lv_at hl 4 rfl) ?_
    refine lv_iconst (v := nI 1) hx hb dL_law_164 (by decide) ?_
    refine lv_iadd hx hb dL_law_165 ?_
    refine lv_eqi (z := nI (i + 1)) (nI_add _ _) ?_
    refine va_sld hx hb hX hsb hbA hS (vp_in_nI (by omega) (by omega)) dL_law_166 ?_
    rw [nI_clamp (by omega)]
    refine lv_aload_n hx hb dL_law_167 rfl (lv_at hl 0 rfl) ?_
    refine lv_iload hx hb dL_law_168 (lv_at hl 4 rfl) ?_
    refine lv_iconst (v := nI 2) hx hb dL_law_170 (by decide) ?_
    refine lv_iadd hx hb dL_law_171 ?_
    refine lv_eqi (z := nI (i + 2)) (nI_add _ _) ?_
    refine va_sld hx hb hX hsb hbA hS (vp_in_nI (by omega) (by omega)) dL_law_172 ?_
    rw [nI_clamp (by omega)]
    refine lv_aload_n hx hb dL_law_173 rfl (lv_at hl 3 rfl) ?_
    refine xcWiT (wr := [(o2, .inr (2, [.ref gR])), (gR, xI cy 16 fR), (o3, .inr (3, [.ref gT, .int lv0, .int sz0])), (gT, xI cy 25 fT), (oA, .inr (1, [.ref gA, .int (nI k), .int (nI zA)])), (gA, xI cy 32 fA), (oB, .inr (1, [.ref gB, .int (nI k), .int (nI zB)])), (gB, xI cy 32 fB), (oC, .inr (1, [.ref gC, .int (nI k), .int (nI zC)])), (gC, xI cy 32 fC), (qL, xI cy 60 fL), (qM, xI cy 60 fG), (a5, .inr (5, [.int th, .int (nI k), .int (nI now), .ref mD, .ref mI, .ref mZ, .int (nI nl), .ref mK, .ref mO, .ref mE, .ref mR, .ref mF, .int kM, .int oM])), (mD, xI cy 600000 G), (mI, xI cy 100000 It), (mZ, xZ cy 100000 Zt), (mK, xI cy 32 fK), (mO, xI cy 32 fO), (mE, xI cy 32 fE), (mR, xI cy 16 fQ), (mF, xI cy 17 fF)]) (vx_runSW (As := [.ref a4, .int (xs (i + 1)), .int (xs (i + 2)), .ref aO]) (rest := []) ⟨hx, hb, hml, hown, hts⟩ ((w_addT l D cy t0 aO a4 fo _ _ _ _ (c_addT l hlf D cy t0 a4 aB o2 o3 oA oB oC qL qM k now ab (xs (i + 1)) (xs (i + 2)) hbi)) H.size) (vx_cwSW 4 hts gL_law_L_add rfl rfl rfl (by decide +kernel) ⟨Nat.le_of_ble_eq_true rfl, Nat.le_of_ble_eq_true rfl⟩) (xPw.give (wc := [(aO, xL cy 1 fo), (a4, .inr (4, [.ref aB, .ref o2, .ref o3, .ref oA, .ref oB, .ref oC, .ref qL, .ref qM, .int (nI k), .int (nI now)])), (aB, xB cy 6 (fun j => some (ab j)))]) hE hS hA hP hD [0, 1, 2] (by decide) (xtC _ _ rfl)) rfl rfl hl.1 rfl (lv_room (Nat.le_of_ble_eq_true rfl)) dL_law_174 ⟨(show cells + 1 ≤ 601024 by omega), (show slots + 6 ≤ 7293000 by omega)⟩) hP hD hS hA [0, 1, 2] [3, 4, 5, 6, 7, 8, 9, 10, 11, 12, 13, 14, 15, 16, 17, 18, 19, 20, 21, 22, 23] rfl rfl (by decide) (by decide) (fun r_2 u_4 H locs hr_3 hP hD hS => ?_)
    obtain rfl : r_2 = nI 1 := hr_3
    have hP : xP D ([(o2, .inr (2, [.ref gR])), (gR, xI cy 16 fR), (o3, .inr (3, [.ref gT, .int lv0, .int sz0])), (gT, xI cy 25 fT), (oA, .inr (1, [.ref gA, .int (nI k), .int (nI zA)])), (gA, xI cy 32 fA), (oB, .inr (1, [.ref gB, .int (nI k), .int (nI zB)])), (gB, xI cy 32 fB), (oC, .inr (1, [.ref gC, .int (nI k), .int (nI zC)])), (gC, xI cy 32 fC), (qL, xI cy 60 fL), (qM, xI cy 60 fG), (a5, .inr (5, [.int th, .int (nI k), .int (nI now), .ref mD, .ref mI, .ref mZ, .int (nI nl), .ref mK, .ref mO, .ref mE, .ref mR, .ref mF, .int kM, .int oM])), (mD, xI cy 600000 G), (mI, xI cy 100000 It), (mZ, xZ cy 100000 Zt), (mK, xI cy 32 fK), (mO, xI cy 32 fO), (mE, xI cy 32 fE), (mR, xI cy 16 fQ), (mF, xI cy 17 fF), (aO, xL cy 1 fo), (a4, .inr (4, [.ref aB, .ref o2, .ref o3, .ref oA, .ref oB, .ref oC, .ref qL, .ref qM, .int (nI k), .int (nI now)])), (aB, xB cy 6 (fun j => some (ab j)))] ++ bks cy ab σ b06) H := hP
    have hD : va_D A ([(o2, .inr (2, [.ref gR])), (gR, xI cy 16 fR), (o3, .inr (3, [.ref gT, .int lv0, .int sz0])), (gT, xI cy 25 fT), (oA, .inr (1, [.ref gA, .int (nI k), .int (nI zA)])), (gA, xI cy 32 fA), (oB, .inr (1, [.ref gB, .int (nI k), .int (nI zB)])), (gB, xI cy 32 fB), (oC, .inr (1, [.ref gC, .int (nI k), .int (nI zC)])), (gC, xI cy 32 fC), (qL, xI cy 60 fL), (qM, xI cy 60 fG), (a5, .inr (5, [.int th, .int (nI k), .int (nI now), .ref mD, .ref mI, .ref mZ, .int (nI nl), .ref mK, .ref mO, .ref mE, .ref mR, .ref mF, .int kM, .int oM])), (mD, xI cy 600000 G), (mI, xI cy 100000 It), (mZ, xZ cy 100000 Zt), (mK, xI cy 32 fK), (mO, xI cy 32 fO), (mE, xI cy 32 fE), (mR, xI cy 16 fQ), (mF, xI cy 17 fF), (aO, xL cy 1 fo), (a4, .inr (4, [.ref aB, .ref o2, .ref o3, .ref oA, .ref oB, .ref oC, .ref qL, .ref qM, .int (nI k), .int (nI now)])), (aB, xB cy 6 (fun j => some (ab j)))] ++ bks cy ab σ b06) := hD
    refine lv_istore (lv' := [(5, .int (nI 1)), (0, .ref sb), (1, .ref a4), (2, .ref a5), (3, .ref aO), (4, .int (nI i))]) hx hb dL_law_177 hl (by decide) rfl (fun ls hl => ?_)
    refine lv_aload_n hx hb dL_law_179 rfl (lv_at hl 3 rfl) ?_
    refine lv_aload_n hx hb dL_law_180 rfl (lv_at hl 1 rfl) ?_
    refine lv_iload hx hb dL_law_181 (lv_at hl 5 rfl) ?_
    refine lv_iconst (v := nI 1) hx hb dL_law_183 (by decide) ?_
    refine lv_iadd hx hb dL_law_184 ?_
    refine lv_eqi (z := nI (i + 1)) (nI_add _ _) ?_
    refine va_sld hx hb hX hsb hbA hS (vp_in_nI (by omega) (by omega)) dL_law_185 ?_
    rw [nI_clamp (by omega)]
    refine lv_aload_n hx hb dL_law_186 rfl (lv_at hl 1 rfl) ?_
    refine lv_iload hx hb dL_law_187 (lv_at hl 5 rfl) ?_
    refine lv_iconst (v := nI 2) hx hb dL_law_189 (by decide) ?_
    refine lv_iadd hx hb dL_law_190 ?_
    refine lv_eqi (z := nI (i + 2)) (nI_add _ _) ?_
    refine va_sld hx hb hX hsb hbA hS (vp_in_nI (by omega) (by omega)) dL_law_191 ?_
    rw [nI_clamp (by omega)]
    refine xcWiT (wr := [(o2, .inr (2, [.ref gR])), (gR, xI cy 16 fR), (o3, .inr (3, [.ref gT, .int lv0, .int sz0])), (gT, xI cy 25 fT), (oA, .inr (1, [.ref gA, .int (nI k), .int (nI zA)])), (gA, xI cy 32 fA), (oB, .inr (1, [.ref gB, .int (nI k), .int (nI zB)])), (gB, xI cy 32 fB), (oC, .inr (1, [.ref gC, .int (nI k), .int (nI zC)])), (gC, xI cy 32 fC), (qL, xI cy 60 fL), (qM, xI cy 60 fG), (mD, xI cy 600000 G), (mI, xI cy 100000 It), (mZ, xZ cy 100000 Zt), (mK, xI cy 32 fK), (mO, xI cy 32 fO), (mE, xI cy 32 fE), (mR, xI cy 16 fQ), (mF, xI cy 17 fF), (aO, xL cy 1 fo), (a4, .inr (4, [.ref aB, .ref o2, .ref o3, .ref oA, .ref oB, .ref oC, .ref qL, .ref qM, .int (nI k), .int (nI now)])), (aB, xB cy 6 (fun j => some (ab j)))]) (va_runV (As := [.int (xs (i + 1)), .int (xs (i + 2))]) (rest := []) ⟨hx, hb, hml, hown, hts⟩ ((m_addT l D cy t0 a5 mD mI mZ mK mO mE mR mF k th (nI now) (nI nl) kM oM (xs (i + 1)) (xs (i + 2)) hbi) H.size) (cwV 2 hts gL_law_X5_add rfl rfl rfl (by decide +kernel) ⟨Nat.le_of_ble_eq_true rfl, Nat.le_of_ble_eq_true rfl⟩) (xPw.giveV (wc := [(a5, .inr (5, [.int th, .int (nI k), .int (nI now), .ref mD, .ref mI, .ref mZ, .int (nI nl), .ref mK, .ref mO, .ref mE, .ref mR, .ref mF, .int kM, .int oM]))]) hE hS hA hP hD [12] (by decide) (xtC _ _ rfl) 12 5 rfl rfl) rfl rfl hl.1 rfl (lv_room (Nat.le_of_ble_eq_true rfl)) dL_law_192 ⟨(show (cells + 1) + 0 ≤ 601024 by omega), (show (slots + 6) + 0 ≤ 7293000 by omega)⟩) hP hD hS hA [12] [0, 1, 2, 3, 4, 5, 6, 7, 8, 9, 10, 11, 13, 14, 15, 16, 17, 18, 19, 20, 21, 22, 23] rfl rfl (by decide) (by decide) (fun r_6 u_8 H locs hr_7 hP hD hS => ?_)
    have hq9 := hr_7
    have hP : xP D ([(o2, .inr (2, [.ref gR])), (gR, xI cy 16 fR), (o3, .inr (3, [.ref gT, .int lv0, .int sz0])), (gT, xI cy 25 fT), (oA, .inr (1, [.ref gA, .int (nI k), .int (nI zA)])), (gA, xI cy 32 fA), (oB, .inr (1, [.ref gB, .int (nI k), .int (nI zB)])), (gB, xI cy 32 fB), (oC, .inr (1, [.ref gC, .int (nI k), .int (nI zC)])), (gC, xI cy 32 fC), (qL, xI cy 60 fL), (qM, xI cy 60 fG), (mD, xI cy 600000 G), (mI, xI cy 100000 It), (mZ, xZ cy 100000 Zt), (mK, xI cy 32 fK), (mO, xI cy 32 fO), (mE, xI cy 32 fE), (mR, xI cy 16 fQ), (mF, xI cy 17 fF), (aO, xL cy 1 fo), (a4, .inr (4, [.ref aB, .ref o2, .ref o3, .ref oA, .ref oB, .ref oC, .ref qL, .ref qM, .int (nI k), .int (nI now)])), (aB, xB cy 6 (fun j => some (ab j))), (a5, .inr (5, [.int (nI 1), .int (nI k), .int (nI now), .ref mD, .ref mI, .ref mZ, .int (nI nl), .ref mK, .ref mO, .ref mE, .ref mR, .ref mF, .int kM, .int oM]))] ++ bks cy ab σ b06) H := hP
    have hD : va_D A ([(o2, .inr (2, [.ref gR])), (gR, xI cy 16 fR), (o3, .inr (3, [.ref gT, .int lv0, .int sz0])), (gT, xI cy 25 fT), (oA, .inr (1, [.ref gA, .int (nI k), .int (nI zA)])), (gA, xI cy 32 fA), (oB, .inr (1, [.ref gB, .int (nI k), .int (nI zB)])), (gB, xI cy 32 fB), (oC, .inr (1, [.ref gC, .int (nI k), .int (nI zC)])), (gC, xI cy 32 fC), (qL, xI cy 60 fL), (qM, xI cy 60 fG), (mD, xI cy 600000 G), (mI, xI cy 100000 It), (mZ, xZ cy 100000 Zt), (mK, xI cy 32 fK), (mO, xI cy 32 fO), (mE, xI cy 32 fE), (mR, xI cy 16 fQ), (mF, xI cy 17 fF), (aO, xL cy 1 fo), (a4, .inr (4, [.ref aB, .ref o2, .ref o3, .ref oA, .ref oB, .ref oC, .ref qL, .ref qM, .int (nI k), .int (nI now)])), (aB, xB cy 6 (fun j => some (ab j))), (a5, .inr (5, [.int (nI 1), .int (nI k), .int (nI now), .ref mD, .ref mI, .ref mZ, .int (nI nl), .ref mK, .ref mO, .ref mE, .ref mR, .ref mF, .int kM, .int oM]))] ++ bks cy ab σ b06) := hD
    refine lv_istore (lv' := [(6, .int r_6), (5, .int (nI 1)), (0, .ref sb), (1, .ref a4), (2, .ref a5), (3, .ref aO), (4, .int (nI i))]) hx hb dL_law_195 hl (by decide) rfl (fun ls hl => ?_)
    refine lv_aload_n hx hb dL_law_197 rfl (lv_at hl 4 rfl) ?_
    refine xcRi (va_runV (As := []) (rest := []) ⟨hx, hb, hml, hown, hts⟩ (m_thrown l D cy t0 a5 mD mI mZ mK mO mE mR mF k (nI 1) (nI now) (nI nl) kM oM) (cwV 0 hts gL_law_X5_thrown rfl rfl rfl (by decide +kernel) ⟨Nat.le_of_ble_eq_true rfl, Nat.le_of_ble_eq_true rfl⟩) (xPr.giveV (wc := [(a5, .inr (5, [.int (nI 1), .int (nI k), .int (nI now), .ref mD, .ref mI, .ref mZ, .int (nI nl), .ref mK, .ref mO, .ref mE, .ref mR, .ref mF, .int kM, .int oM]))]) hE hS hP [23] (xfm _ _ (xtC _ _ rfl)) 23 5 rfl rfl) rfl rfl hl.1 rfl (lv_room (Nat.le_of_ble_eq_true rfl)) dL_law_198 ⟨(show ((cells + 1) + 0) + 0 ≤ 601024 by omega), (show ((slots + 6) + 0) + 0 ≤ 7293000 by omega)⟩) (fun r_10 hr_11 => ?_)
    obtain rfl : r_10 = nI 1 := hr_11
    refine lv_iload hx hb dL_law_201 (lv_at hl 1 rfl) ?_
    refine xb_icmp_eq (tgt := 208) (a := 1) (b := 1) (by omega) (by omega) hx hb dL_law_203 (by decide) (fun c_13 => ?_) (fun c_13 => ?_)
    · refine lv_iload hx hb dL_law_208 (lv_at hl 1 rfl) ?_
      refine xb_if_ne (tgt := 232) (a := 1) (by omega) hx hb dL_law_210 (by decide) (fun c_14 => ?_) (fun c_14 => ?_)
      · refine lv_goto (tgt := 1591) hx hb dL_law_232 (by decide) ?_
        obtain ⟨hP, hD⟩ := xsubT (ps' := [(aO, xL cy 1 fo), (a4, .inr (4, [.ref aB, .ref o2, .ref o3, .ref oA, .ref oB, .ref oC, .ref qL, .ref qM, .int (nI k), .int (nI now)])), (aB, xB cy 6 (fun j => some (ab j))), (o2, .inr (2, [.ref gR])), (gR, xI cy 16 fR), (o3, .inr (3, [.ref gT, .int lv0, .int sz0])), (gT, xI cy 25 fT), (oA, .inr (1, [.ref gA, .int (nI k), .int (nI zA)])), (gA, xI cy 32 fA), (oB, .inr (1, [.ref gB, .int (nI k), .int (nI zB)])), (gB, xI cy 32 fB), (oC, .inr (1, [.ref gC, .int (nI k), .int (nI zC)])), (gC, xI cy 32 fC), (qL, xI cy 60 fL), (qM, xI cy 60 fG), (a5, .inr (5, [.int (nI 1), .int (nI k), .int (nI now), .ref mD, .ref mI, .ref mZ, .int (nI nl), .ref mK, .ref mO, .ref mE, .ref mR, .ref mF, .int kM, .int oM])), (mD, xI cy 600000 G), (mI, xI cy 100000 It), (mZ, xZ cy 100000 Zt), (mK, xI cy 32 fK), (mO, xI cy 32 fO), (mE, xI cy 32 fE), (mR, xI cy 16 fQ), (mF, xI cy 17 fF)]) [20, 21, 22, 0, 1, 2, 3, 4, 5, 6, 7, 8, 9, 10, 11, 23, 12, 13, 14, 15, 16, 17, 18, 19] hP hD rfl (by decide)
        exact knext _ _ _ _ _ ⟨now, zA, zB, zC, nl, lv0, sz0, (nI 1), kM, oM, fo, fR, fT, fA, fB, fC, fL, fG, G, It, Zt, fK, fO, fE, fQ, fF, lst, σ, hR.next (by omega) (by omega), hP, hD⟩ hS (lv_sub hl [2, 3, 4, 5, 6] rfl)
      · exact absurd c_14 (by omega)
    · exact absurd c_13 (by omega)
  · rcases p_it (xs (i + 2)) with hbad | ⟨x, hx2, hp2⟩
    · refine lv_aload_n hx hb dL_law_160 rfl (lv_at hl 1 rfl) ?_
      refine lv_aload_n hx hb dL_law_161 rfl (lv_at hl 0 rfl) ?_
      refine lv_iload hx hb dL_law_162 (lv_at hl 4 rfl) ?_
      refine lv_iconst (v := nI 1) hx hb dL_law_164 (by decide) ?_
      refine lv_iadd hx hb dL_law_165 ?_
      refine lv_eqi (z := nI (i + 1)) (nI_add _ _) ?_
      refine va_sld hx hb hX hsb hbA hS (vp_in_nI (by omega) (by omega)) dL_law_166 ?_
      rw [nI_clamp (by omega)]
      refine lv_eqi (z := nI b) hp1 ?_
      refine lv_aload_n hx hb dL_law_167 rfl (lv_at hl 0 rfl) ?_
      refine lv_iload hx hb dL_law_168 (lv_at hl 4 rfl) ?_
      refine lv_iconst (v := nI 2) hx hb dL_law_170 (by decide) ?_
      refine lv_iadd hx hb dL_law_171 ?_
      refine lv_eqi (z := nI (i + 2)) (nI_add _ _) ?_
      refine va_sld hx hb hX hsb hbA hS (vp_in_nI (by omega) (by omega)) dL_law_172 ?_
      rw [nI_clamp (by omega)]
      refine lv_aload_n hx hb dL_law_173 rfl (lv_at hl 3 rfl) ?_
      refine xcWiT (wr := [(o2, .inr (2, [.ref gR])), (gR, xI cy 16 fR), (o3, .inr (3, [.ref gT, .int lv0, .int sz0])), (gT, xI cy 25 fT), (oA, .inr (1, [.ref gA, .int (nI k), .int (nI zA)])), (gA, xI cy 32 fA), (oB, .inr (1, [.ref gB, .int (nI k), .int (nI zB)])), (gB, xI cy 32 fB), (oC, .inr (1, [.ref gC, .int (nI k), .int (nI zC)])), (gC, xI cy 32 fC), (qL, xI cy 60 fL), (qM, xI cy 60 fG), (a5, .inr (5, [.int th, .int (nI k), .int (nI now), .ref mD, .ref mI, .ref mZ, .int (nI nl), .ref mK, .ref mO, .ref mE, .ref mR, .ref mF, .int kM, .int oM])), (mD, xI cy 600000 G), (mI, xI cy 100000 It), (mZ, xZ cy 100000 Zt), (mK, xI cy 32 fK), (mO, xI cy 32 fO), (mE, xI cy 32 fE), (mR, xI cy 16 fQ), (mF, xI cy 17 fF)]) (vx_runSW (As := [.ref a4, .int (nI b), .int (xs (i + 2)), .ref aO]) (rest := []) ⟨hx, hb, hml, hown, hts⟩ ((w_addV l D cy t0 aO a4 fo _ _ _ _ (c_addV l hlf D cy t0 a4 aB o2 o3 oA oB oC qL qM k now ab b (xs (i + 2)) hb6 hbad)) H.size) (vx_cwSW 4 hts gL_law_L_add rfl rfl rfl (by decide +kernel) ⟨Nat.le_of_ble_eq_true rfl, Nat.le_of_ble_eq_true rfl⟩) (xPw.give (wc := [(aO, xL cy 1 fo), (a4, .inr (4, [.ref aB, .ref o2, .ref o3, .ref oA, .ref oB, .ref oC, .ref qL, .ref qM, .int (nI k), .int (nI now)])), (aB, xB cy 6 (fun j => some (ab j)))]) hE hS hA hP hD [0, 1, 2] (by decide) (xtC _ _ rfl)) rfl rfl hl.1 rfl (lv_room (Nat.le_of_ble_eq_true rfl)) dL_law_174 ⟨(show cells + 1 ≤ 601024 by omega), (show slots + 6 ≤ 7293000 by omega)⟩) hP hD hS hA [0, 1, 2] [3, 4, 5, 6, 7, 8, 9, 10, 11, 12, 13, 14, 15, 16, 17, 18, 19, 20, 21, 22, 23] rfl rfl (by decide) (by decide) (fun r_16 u_18 H locs hr_17 hP hD hS => ?_)
      obtain rfl : r_16 = nI 2 := hr_17
      have hP : xP D ([(o2, .inr (2, [.ref gR])), (gR, xI cy 16 fR), (o3, .inr (3, [.ref gT, .int lv0, .int sz0])), (gT, xI cy 25 fT), (oA, .inr (1, [.ref gA, .int (nI k), .int (nI zA)])), (gA, xI cy 32 fA), (oB, .inr (1, [.ref gB, .int (nI k), .int (nI zB)])), (gB, xI cy 32 fB), (oC, .inr (1, [.ref gC, .int (nI k), .int (nI zC)])), (gC, xI cy 32 fC), (qL, xI cy 60 fL), (qM, xI cy 60 fG), (a5, .inr (5, [.int th, .int (nI k), .int (nI now), .ref mD, .ref mI, .ref mZ, .int (nI nl), .ref mK, .ref mO, .ref mE, .ref mR, .ref mF, .int kM, .int oM])), (mD, xI cy 600000 G), (mI, xI cy 100000 It), (mZ, xZ cy 100000 Zt), (mK, xI cy 32 fK), (mO, xI cy 32 fO), (mE, xI cy 32 fE), (mR, xI cy 16 fQ), (mF, xI cy 17 fF), (aO, xL cy 1 fo), (a4, .inr (4, [.ref aB, .ref o2, .ref o3, .ref oA, .ref oB, .ref oC, .ref qL, .ref qM, .int (nI k), .int (nI now)])), (aB, xB cy 6 (fun j => some (ab j)))] ++ bks cy ab σ b06) H := hP
      have hD : va_D A ([(o2, .inr (2, [.ref gR])), (gR, xI cy 16 fR), (o3, .inr (3, [.ref gT, .int lv0, .int sz0])), (gT, xI cy 25 fT), (oA, .inr (1, [.ref gA, .int (nI k), .int (nI zA)])), (gA, xI cy 32 fA), (oB, .inr (1, [.ref gB, .int (nI k), .int (nI zB)])), (gB, xI cy 32 fB), (oC, .inr (1, [.ref gC, .int (nI k), .int (nI zC)])), (gC, xI cy 32 fC), (qL, xI cy 60 fL), (qM, xI cy 60 fG), (a5, .inr (5, [.int th, .int (nI k), .int (nI now), .ref mD, .ref mI, .ref mZ, .int (nI nl), .ref mK, .ref mO, .ref mE, .ref mR, .ref mF, .int kM, .int oM])), (mD, xI cy 600000 G), (mI, xI cy 100000 It), (mZ, xZ cy 100000 Zt), (mK, xI cy 32 fK), (mO, xI cy 32 fO), (mE, xI cy 32 fE), (mR, xI cy 16 fQ), (mF, xI cy 17 fF), (aO, xL cy 1 fo), (a4, .inr (4, [.ref aB, .ref o2, .ref o3, .ref oA, .ref oB, .ref oC, .ref qL, .ref qM, .int (nI k), .int (nI now)])), (aB, xB cy 6 (fun j => some (ab j)))] ++ bks cy ab σ b06) := hD
      refine lv_istore (lv' := [(5, .int (nI 2)), (0, .ref sb), (1, .ref a4), (2, .ref a5), (3, .ref aO), (4, .int (nI i))]) hx hb dL_law_177 hl (by decide) rfl (fun ls hl => ?_)
      refine lv_aload_n hx hb dL_law_179 rfl (lv_at hl 3 rfl) ?_
      refine lv_aload_n hx hb dL_law_180 rfl (lv_at hl 1 rfl) ?_
      refine lv_iload hx hb dL_law_181 (lv_at hl 5 rfl) ?_
      refine lv_iconst (v := nI 1) hx hb dL_law_183 (by decide) ?_
      refine lv_iadd hx hb dL_law_184 ?_
      refine lv_eqi (z := nI (i + 1)) (nI_add _ _) ?_
      refine va_sld hx hb hX hsb hbA hS (vp_in_nI (by omega) (by omega)) dL_law_185 ?_
      rw [nI_clamp (by omega)]
      refine lv_eqi (z := nI b) hp1 ?_
      refine lv_aload_n hx hb dL_law_186 rfl (lv_at hl 1 rfl) ?_
      refine lv_iload hx hb dL_law_187 (lv_at hl 5 rfl) ?_
      refine lv_iconst (v := nI 2) hx hb dL_law_189 (by decide) ?_
      refine lv_iadd hx hb dL_law_190 ?_
      refine lv_eqi (z := nI (i + 2)) (nI_add _ _) ?_
      refine va_sld hx hb hX hsb hbA hS (vp_in_nI (by omega) (by omega)) dL_law_191 ?_
      rw [nI_clamp (by omega)]
      refine xcWiT (wr := [(o2, .inr (2, [.ref gR])), (gR, xI cy 16 fR), (o3, .inr (3, [.ref gT, .int lv0, .int sz0])), (gT, xI cy 25 fT), (oA, .inr (1, [.ref gA, .int (nI k), .int (nI zA)])), (gA, xI cy 32 fA), (oB, .inr (1, [.ref gB, .int (nI k), .int (nI zB)])), (gB, xI cy 32 fB), (oC, .inr (1, [.ref gC, .int (nI k), .int (nI zC)])), (gC, xI cy 32 fC), (qL, xI cy 60 fL), (qM, xI cy 60 fG), (mD, xI cy 600000 G), (mI, xI cy 100000 It), (mZ, xZ cy 100000 Zt), (mK, xI cy 32 fK), (mO, xI cy 32 fO), (mE, xI cy 32 fE), (mR, xI cy 16 fQ), (mF, xI cy 17 fF), (aO, xL cy 1 fo), (a4, .inr (4, [.ref aB, .ref o2, .ref o3, .ref oA, .ref oB, .ref oC, .ref qL, .ref qM, .int (nI k), .int (nI now)])), (aB, xB cy 6 (fun j => some (ab j)))]) (va_runV (As := [.int (nI b), .int (xs (i + 2))]) (rest := []) ⟨hx, hb, hml, hown, hts⟩ ((m_addV l D cy t0 a5 mD mI mZ mK mO mE mR mF k th (nI now) (nI nl) kM oM b (xs (i + 2)) hb6 hbad) H.size) (cwV 2 hts gL_law_X5_add rfl rfl rfl (by decide +kernel) ⟨Nat.le_of_ble_eq_true rfl, Nat.le_of_ble_eq_true rfl⟩) (xPw.giveV (wc := [(a5, .inr (5, [.int th, .int (nI k), .int (nI now), .ref mD, .ref mI, .ref mZ, .int (nI nl), .ref mK, .ref mO, .ref mE, .ref mR, .ref mF, .int kM, .int oM]))]) hE hS hA hP hD [12] (by decide) (xtC _ _ rfl) 12 5 rfl rfl) rfl rfl hl.1 rfl (lv_room (Nat.le_of_ble_eq_true rfl)) dL_law_192 ⟨(show (cells + 1) + 0 ≤ 601024 by omega), (show (slots + 6) + 0 ≤ 7293000 by omega)⟩) hP hD hS hA [12] [0, 1, 2, 3, 4, 5, 6, 7, 8, 9, 10, 11, 13, 14, 15, 16, 17, 18, 19, 20, 21, 22, 23] rfl rfl (by decide) (by decide) (fun r_20 u_22 H locs hr_21 hP hD hS => ?_)
      have hq9 := hr_21
      have hP : xP D ([(o2, .inr (2, [.ref gR])), (gR, xI cy 16 fR), (o3, .inr (3, [.ref gT, .int lv0, .int sz0])), (gT, xI cy 25 fT), (oA, .inr (1, [.ref gA, .int (nI k), .int (nI zA)])), (gA, xI cy 32 fA), (oB, .inr (1, [.ref gB, .int (nI k), .int (nI zB)])), (gB, xI cy 32 fB), (oC, .inr (1, [.ref gC, .int (nI k), .int (nI zC)])), (gC, xI cy 32 fC), (qL, xI cy 60 fL), (qM, xI cy 60 fG), (mD, xI cy 600000 G), (mI, xI cy 100000 It), (mZ, xZ cy 100000 Zt), (mK, xI cy 32 fK), (mO, xI cy 32 fO), (mE, xI cy 32 fE), (mR, xI cy 16 fQ), (mF, xI cy 17 fF), (aO, xL cy 1 fo), (a4, .inr (4, [.ref aB, .ref o2, .ref o3, .ref oA, .ref oB, .ref oC, .ref qL, .ref qM, .int (nI k), .int (nI now)])), (aB, xB cy 6 (fun j => some (ab j))), (a5, .inr (5, [.int (nI 2), .int (nI k), .int (nI now), .ref mD, .ref mI, .ref mZ, .int (nI nl), .ref mK, .ref mO, .ref mE, .ref mR, .ref mF, .int kM, .int oM]))] ++ bks cy ab σ b06) H := hP
      have hD : va_D A ([(o2, .inr (2, [.ref gR])), (gR, xI cy 16 fR), (o3, .inr (3, [.ref gT, .int lv0, .int sz0])), (gT, xI cy 25 fT), (oA, .inr (1, [.ref gA, .int (nI k), .int (nI zA)])), (gA, xI cy 32 fA), (oB, .inr (1, [.ref gB, .int (nI k), .int (nI zB)])), (gB, xI cy 32 fB), (oC, .inr (1, [.ref gC, .int (nI k), .int (nI zC)])), (gC, xI cy 32 fC), (qL, xI cy 60 fL), (qM, xI cy 60 fG), (mD, xI cy 600000 G), (mI, xI cy 100000 It), (mZ, xZ cy 100000 Zt), (mK, xI cy 32 fK), (mO, xI cy 32 fO), (mE, xI cy 32 fE), (mR, xI cy 16 fQ), (mF, xI cy 17 fF), (aO, xL cy 1 fo), (a4, .inr (4, [.ref aB, .ref o2, .ref o3, .ref oA, .ref oB, .ref oC, .ref qL, .ref qM, .int (nI k), .int (nI now)])), (aB, xB cy 6 (fun j => some (ab j))), (a5, .inr (5, [.int (nI 2), .int (nI k), .int (nI now), .ref mD, .ref mI, .ref mZ, .int (nI nl), .ref mK, .ref mO, .ref mE, .ref mR, .ref mF, .int kM, .int oM]))] ++ bks cy ab σ b06) := hD
      refine lv_istore (lv' := [(6, .int r_20), (5, .int (nI 2)), (0, .ref sb), (1, .ref a4), (2, .ref a5), (3, .ref aO), (4, .int (nI i))]) hx hb dL_law_195 hl (by decide) rfl (fun ls hl => ?_)
      refine lv_aload_n hx hb dL_law_197 rfl (lv_at hl 4 rfl) ?_
      refine xcRi (va_runV (As := []) (rest := []) ⟨hx, hb, hml, hown, hts⟩ (m_thrown l D cy t0 a5 mD mI mZ mK mO mE mR mF k (nI 2) (nI now) (nI nl) kM oM) (cwV 0 hts gL_law_X5_thrown rfl rfl rfl (by decide +kernel) ⟨Nat.le_of_ble_eq_true rfl, Nat.le_of_ble_eq_true rfl⟩) (xPr.giveV (wc := [(a5, .inr (5, [.int (nI 2), .int (nI k), .int (nI now), .ref mD, .ref mI, .ref mZ, .int (nI nl), .ref mK, .ref mO, .ref mE, .ref mR, .ref mF, .int kM, .int oM]))]) hE hS hP [23] (xfm _ _ (xtC _ _ rfl)) 23 5 rfl rfl) rfl rfl hl.1 rfl (lv_room (Nat.le_of_ble_eq_true rfl)) dL_law_198 ⟨(show ((cells + 1) + 0) + 0 ≤ 601024 by omega), (show ((slots + 6) + 0) + 0 ≤ 7293000 by omega)⟩) (fun r_24 hr_25 => ?_)
      obtain rfl : r_24 = nI 2 := hr_25
      refine lv_iload hx hb dL_law_201 (lv_at hl 1 rfl) ?_
      refine xb_icmp_eq (tgt := 208) (a := 2) (b := 2) (by omega) (by omega) hx hb dL_law_203 (by decide) (fun c_27 => ?_) (fun c_27 => ?_)
      · refine lv_iload hx hb dL_law_208 (lv_at hl 1 rfl) ?_
        refine xb_if_ne (tgt := 232) (a := 2) (by omega) hx hb dL_law_210 (by decide) (fun c_28 => ?_) (fun c_28 => ?_)
        · refine lv_goto (tgt := 1591) hx hb dL_law_232 (by decide) ?_
          obtain ⟨hP, hD⟩ := xsubT (ps' := [(aO, xL cy 1 fo), (a4, .inr (4, [.ref aB, .ref o2, .ref o3, .ref oA, .ref oB, .ref oC, .ref qL, .ref qM, .int (nI k), .int (nI now)])), (aB, xB cy 6 (fun j => some (ab j))), (o2, .inr (2, [.ref gR])), (gR, xI cy 16 fR), (o3, .inr (3, [.ref gT, .int lv0, .int sz0])), (gT, xI cy 25 fT), (oA, .inr (1, [.ref gA, .int (nI k), .int (nI zA)])), (gA, xI cy 32 fA), (oB, .inr (1, [.ref gB, .int (nI k), .int (nI zB)])), (gB, xI cy 32 fB), (oC, .inr (1, [.ref gC, .int (nI k), .int (nI zC)])), (gC, xI cy 32 fC), (qL, xI cy 60 fL), (qM, xI cy 60 fG), (a5, .inr (5, [.int (nI 2), .int (nI k), .int (nI now), .ref mD, .ref mI, .ref mZ, .int (nI nl), .ref mK, .ref mO, .ref mE, .ref mR, .ref mF, .int kM, .int oM])), (mD, xI cy 600000 G), (mI, xI cy 100000 It), (mZ, xZ cy 100000 Zt), (mK, xI cy 32 fK), (mO, xI cy 32 fO), (mE, xI cy 32 fE), (mR, xI cy 16 fQ), (mF, xI cy 17 fF)]) [20, 21, 22, 0, 1, 2, 3, 4, 5, 6, 7, 8, 9, 10, 11, 23, 12, 13, 14, 15, 16, 17, 18, 19] hP hD rfl (by decide)
          exact knext _ _ _ _ _ ⟨now, zA, zB, zC, nl, lv0, sz0, (nI 2), kM, oM, fo, fR, fT, fA, fB, fC, fL, fG, G, It, Zt, fK, fO, fE, fQ, fF, lst, σ, hR.next (by omega) (by omega), hP, hD⟩ hS (lv_sub hl [2, 3, 4, 5, 6] rfl)
        · exact absurd c_28 (by omega)
      · exact absurd c_27 (by omega)
    · obtain ⟨hP, hD⟩ := xfoc hb6 hP hD
      rcases hs9 : σ b with ⟨qi, qd, n, cap, fi, fd⟩
      have hV := hBR b hb6
      rw [hs9] at hV
      have hV : BR (mb G b) n cap fi fd := hV
      unfold bkc at hP hD
      rw [hs9] at hP hD
      have hP : xP D ([(aO, xL cy 1 fo), (a4, .inr (4, [.ref aB, .ref o2, .ref o3, .ref oA, .ref oB, .ref oC, .ref qL, .ref qM, .int (nI k), .int (nI now)])), (aB, xB cy 6 (fun j => some (ab j))), (o2, .inr (2, [.ref gR])), (gR, xI cy 16 fR), (o3, .inr (3, [.ref gT, .int lv0, .int sz0])), (gT, xI cy 25 fT), (oA, .inr (1, [.ref gA, .int (nI k), .int (nI zA)])), (gA, xI cy 32 fA), (oB, .inr (1, [.ref gB, .int (nI k), .int (nI zB)])), (gB, xI cy 32 fB), (oC, .inr (1, [.ref gC, .int (nI k), .int (nI zC)])), (gC, xI cy 32 fC), (qL, xI cy 60 fL), (qM, xI cy 60 fG), (a5, .inr (5, [.int th, .int (nI k), .int (nI now), .ref mD, .ref mI, .ref mZ, .int (nI nl), .ref mK, .ref mO, .ref mE, .ref mR, .ref mF, .int kM, .int oM])), (mD, xI cy 600000 G), (mI, xI cy 100000 It), (mZ, xZ cy 100000 Zt), (mK, xI cy 32 fK), (mO, xI cy 32 fO), (mE, xI cy 32 fE), (mR, xI cy 16 fQ), (mF, xI cy 17 fF), ((ab b), .inr (0, [.ref qi, .ref qd, .int (nI n)])), (qi, xI cy cap fi), (qd, xI cy cap fd)] ++ bks cy ab σ (bOT b)) H := hP
      have hD : va_D A ([(aO, xL cy 1 fo), (a4, .inr (4, [.ref aB, .ref o2, .ref o3, .ref oA, .ref oB, .ref oC, .ref qL, .ref qM, .int (nI k), .int (nI now)])), (aB, xB cy 6 (fun j => some (ab j))), (o2, .inr (2, [.ref gR])), (gR, xI cy 16 fR), (o3, .inr (3, [.ref gT, .int lv0, .int sz0])), (gT, xI cy 25 fT), (oA, .inr (1, [.ref gA, .int (nI k), .int (nI zA)])), (gA, xI cy 32 fA), (oB, .inr (1, [.ref gB, .int (nI k), .int (nI zB)])), (gB, xI cy 32 fB), (oC, .inr (1, [.ref gC, .int (nI k), .int (nI zC)])), (gC, xI cy 32 fC), (qL, xI cy 60 fL), (qM, xI cy 60 fG), (a5, .inr (5, [.int th, .int (nI k), .int (nI now), .ref mD, .ref mI, .ref mZ, .int (nI nl), .ref mK, .ref mO, .ref mE, .ref mR, .ref mF, .int kM, .int oM])), (mD, xI cy 600000 G), (mI, xI cy 100000 It), (mZ, xZ cy 100000 Zt), (mK, xI cy 32 fK), (mO, xI cy 32 fO), (mE, xI cy 32 fE), (mR, xI cy 16 fQ), (mF, xI cy 17 fF), ((ab b), .inr (0, [.ref qi, .ref qd, .int (nI n)])), (qi, xI cy cap fi), (qd, xI cy cap fd)] ++ bks cy ab σ (bOT b)) := hD
      have hnow : now < 2 ^ 31 := by omega
      have hw := w_le (M2 := (lnM x 1 1 now)) hV
      have hmc := mcR_le (n + nwK (mb G b) (lnM x 1 1 now)) cap
      obtain ⟨hms, hms2⟩ := msR_us hw hV.2.2.2
      refine lv_aload_n hx hb dL_law_160 rfl (lv_at hl 1 rfl) ?_
      refine lv_aload_n hx hb dL_law_161 rfl (lv_at hl 0 rfl) ?_
      refine lv_iload hx hb dL_law_162 (lv_at hl 4 rfl) ?_
      refine lv_iconst (v := nI 1) hx hb dL_law_164 (by decide) ?_
      refine lv_iadd hx hb dL_law_165 ?_
      refine lv_eqi (z := nI (i + 1)) (nI_add _ _) ?_
      refine va_sld hx hb hX hsb hbA hS (vp_in_nI (by omega) (by omega)) dL_law_166 ?_
      rw [nI_clamp (by omega)]
      refine lv_eqi (z := nI b) hp1 ?_
      refine lv_aload_n hx hb dL_law_167 rfl (lv_at hl 0 rfl) ?_
      refine lv_iload hx hb dL_law_168 (lv_at hl 4 rfl) ?_
      refine lv_iconst (v := nI 2) hx hb dL_law_170 (by decide) ?_
      refine lv_iadd hx hb dL_law_171 ?_
      refine lv_eqi (z := nI (i + 2)) (nI_add _ _) ?_
      refine va_sld hx hb hX hsb hbA hS (vp_in_nI (by omega) (by omega)) dL_law_172 ?_
      rw [nI_clamp (by omega)]
      refine lv_eqi (z := nI x) hp2 ?_
      refine lv_aload_n hx hb dL_law_173 rfl (lv_at hl 3 rfl) ?_
      refine xcWiT (wr := [(o2, .inr (2, [.ref gR])), (gR, xI cy 16 fR), (o3, .inr (3, [.ref gT, .int lv0, .int sz0])), (gT, xI cy 25 fT), (oA, .inr (1, [.ref gA, .int (nI k), .int (nI zA)])), (gA, xI cy 32 fA), (oB, .inr (1, [.ref gB, .int (nI k), .int (nI zB)])), (gB, xI cy 32 fB), (oC, .inr (1, [.ref gC, .int (nI k), .int (nI zC)])), (gC, xI cy 32 fC), (a5, .inr (5, [.int th, .int (nI k), .int (nI now), .ref mD, .ref mI, .ref mZ, .int (nI nl), .ref mK, .ref mO, .ref mE, .ref mR, .ref mF, .int kM, .int oM])), (mD, xI cy 600000 G), (mI, xI cy 100000 It), (mZ, xZ cy 100000 Zt), (mK, xI cy 32 fK), (mO, xI cy 32 fO), (mE, xI cy 32 fE), (mR, xI cy 16 fQ), (mF, xI cy 17 fF)]) (vx_runSW (As := [.ref a4, .int (nI b), .int (nI x), .ref aO]) (rest := []) ⟨hx, hb, hml, hown, hts⟩ ((w_add l D cy t0 aO a4 fo _ _ _ _ (c_add l D cy t0 a4 aB o2 o3 oA oB oC qL qM k now ab (mb G b) x b qi qd n cap fi fd fL fG (hMV b) hV hx2 hnow hb6)) H.size) (vx_cwSW 4 hts gL_law_L_add rfl rfl rfl (by decide +kernel) ⟨Nat.le_of_ble_eq_true rfl, Nat.le_of_ble_eq_true rfl⟩) (xPw.give (wc := [(aO, xL cy 1 fo), (a4, .inr (4, [.ref aB, .ref o2, .ref o3, .ref oA, .ref oB, .ref oC, .ref qL, .ref qM, .int (nI k), .int (nI now)])), (aB, xB cy 6 (fun j => some (ab j))), (qL, xI cy 60 fL), (qM, xI cy 60 fG), ((ab b), .inr (0, [.ref qi, .ref qd, .int (nI n)])), (qi, xI cy cap fi), (qd, xI cy cap fd)]) hE hS hA hP hD [0, 1, 2, 13, 14, 24, 25, 26] (by decide) (xtC _ _ rfl)) rfl rfl hl.1 rfl (lv_room (Nat.le_of_ble_eq_true rfl)) dL_law_174 ⟨(show cells + mcR (n + nwK (mb G b) (lnM x 1 1 now)) cap ≤ 601024 by omega), (show slots + msR (n + nwK (mb G b) (lnM x 1 1 now)) cap ≤ 7293000 by omega)⟩) hP hD hS hA [0, 1, 2, 13, 14, 24, 25, 26] [3, 4, 5, 6, 7, 8, 9, 10, 11, 12, 15, 16, 17, 18, 19, 20, 21, 22, 23] rfl rfl (by decide) (by decide) (fun r_30 u_32 H locs hr_31 hP hD hS => ?_)
      obtain ⟨v9, qi3, qd3, fi3, fd3, f7, f8⟩ := u_32
      obtain rfl : r_30 = nI 0 := hr_31.1
      obtain rfl : v9 = xb (!Sm (mb G b) x) := hr_31.2.1
      have hB : BR (mrg (mb G b) (lnM x 1 1 now)) (n + nwK (mb G b) (lnM x 1 1 now)) (capR (n + nwK (mb G b) (lnM x 1 1 now)) cap) fi3 fd3 := hr_31.2.2
      have hP : xP D ([(o2, .inr (2, [.ref gR])), (gR, xI cy 16 fR), (o3, .inr (3, [.ref gT, .int lv0, .int sz0])), (gT, xI cy 25 fT), (oA, .inr (1, [.ref gA, .int (nI k), .int (nI zA)])), (gA, xI cy 32 fA), (oB, .inr (1, [.ref gB, .int (nI k), .int (nI zB)])), (gB, xI cy 32 fB), (oC, .inr (1, [.ref gC, .int (nI k), .int (nI zC)])), (gC, xI cy 32 fC), (a5, .inr (5, [.int th, .int (nI k), .int (nI now), .ref mD, .ref mI, .ref mZ, .int (nI nl), .ref mK, .ref mO, .ref mE, .ref mR, .ref mF, .int kM, .int oM])), (mD, xI cy 600000 G), (mI, xI cy 100000 It), (mZ, xZ cy 100000 Zt), (mK, xI cy 32 fK), (mO, xI cy 32 fO), (mE, xI cy 32 fE), (mR, xI cy 16 fQ), (mF, xI cy 17 fF), (aO, xL cy 1 (vp_updL fo 0 (if xb (!Sm (mb G b) x) = 0 then lN 0 else lN 1))), (a4, .inr (4, [.ref aB, .ref o2, .ref o3, .ref oA, .ref oB, .ref oC, .ref qL, .ref qM, .int (nI k), .int (nI now)])), (aB, xB cy 6 (fun j => some (ab j))), (qL, xI cy 60 f7), (qM, xI cy 60 f8), ((ab b), .inr (0, [.ref qi3, .ref qd3, .int (nI (n + nwK (mb G b) (lnM x 1 1 now)))])), (qi3, xI cy (capR (n + nwK (mb G b) (lnM x 1 1 now)) cap) fi3), (qd3, xI cy (capR (n + nwK (mb G b) (lnM x 1 1 now)) cap) fd3)] ++ bks cy ab σ (bOT b)) H := hP
      have hD : va_D A ([(o2, .inr (2, [.ref gR])), (gR, xI cy 16 fR), (o3, .inr (3, [.ref gT, .int lv0, .int sz0])), (gT, xI cy 25 fT), (oA, .inr (1, [.ref gA, .int (nI k), .int (nI zA)])), (gA, xI cy 32 fA), (oB, .inr (1, [.ref gB, .int (nI k), .int (nI zB)])), (gB, xI cy 32 fB), (oC, .inr (1, [.ref gC, .int (nI k), .int (nI zC)])), (gC, xI cy 32 fC), (a5, .inr (5, [.int th, .int (nI k), .int (nI now), .ref mD, .ref mI, .ref mZ, .int (nI nl), .ref mK, .ref mO, .ref mE, .ref mR, .ref mF, .int kM, .int oM])), (mD, xI cy 600000 G), (mI, xI cy 100000 It), (mZ, xZ cy 100000 Zt), (mK, xI cy 32 fK), (mO, xI cy 32 fO), (mE, xI cy 32 fE), (mR, xI cy 16 fQ), (mF, xI cy 17 fF), (aO, xL cy 1 (vp_updL fo 0 (if xb (!Sm (mb G b) x) = 0 then lN 0 else lN 1))), (a4, .inr (4, [.ref aB, .ref o2, .ref o3, .ref oA, .ref oB, .ref oC, .ref qL, .ref qM, .int (nI k), .int (nI now)])), (aB, xB cy 6 (fun j => some (ab j))), (qL, xI cy 60 f7), (qM, xI cy 60 f8), ((ab b), .inr (0, [.ref qi3, .ref qd3, .int (nI (n + nwK (mb G b) (lnM x 1 1 now)))])), (qi3, xI cy (capR (n + nwK (mb G b) (lnM x 1 1 now)) cap) fi3), (qd3, xI cy (capR (n + nwK (mb G b) (lnM x 1 1 now)) cap) fd3)] ++ bks cy ab σ (bOT b)) := hD
      refine lv_istore (lv' := [(5, .int (nI 0)), (0, .ref sb), (1, .ref a4), (2, .ref a5), (3, .ref aO), (4, .int (nI i))]) hx hb dL_law_177 hl (by decide) rfl (fun ls hl => ?_)
      refine lv_aload_n hx hb dL_law_179 rfl (lv_at hl 3 rfl) ?_
      refine lv_aload_n hx hb dL_law_180 rfl (lv_at hl 1 rfl) ?_
      refine lv_iload hx hb dL_law_181 (lv_at hl 5 rfl) ?_
      refine lv_iconst (v := nI 1) hx hb dL_law_183 (by decide) ?_
      refine lv_iadd hx hb dL_law_184 ?_
      refine lv_eqi (z := nI (i + 1)) (nI_add _ _) ?_
      refine va_sld hx hb hX hsb hbA hS (vp_in_nI (by omega) (by omega)) dL_law_185 ?_
      rw [nI_clamp (by omega)]
      refine lv_eqi (z := nI b) hp1 ?_
      refine lv_aload_n hx hb dL_law_186 rfl (lv_at hl 1 rfl) ?_
      refine lv_iload hx hb dL_law_187 (lv_at hl 5 rfl) ?_
      refine lv_iconst (v := nI 2) hx hb dL_law_189 (by decide) ?_
      refine lv_iadd hx hb dL_law_190 ?_
      refine lv_eqi (z := nI (i + 2)) (nI_add _ _) ?_
      refine va_sld hx hb hX hsb hbA hS (vp_in_nI (by omega) (by omega)) dL_law_191 ?_
      rw [nI_clamp (by omega)]
      refine lv_eqi (z := nI x) hp2 ?_
      refine xcWiT (wr := [(o2, .inr (2, [.ref gR])), (gR, xI cy 16 fR), (o3, .inr (3, [.ref gT, .int lv0, .int sz0])), (gT, xI cy 25 fT), (oA, .inr (1, [.ref gA, .int (nI k), .int (nI zA)])), (gA, xI cy 32 fA), (oB, .inr (1, [.ref gB, .int (nI k), .int (nI zB)])), (gB, xI cy 32 fB), (oC, .inr (1, [.ref gC, .int (nI k), .int (nI zC)])), (gC, xI cy 32 fC), (mK, xI cy 32 fK), (mO, xI cy 32 fO), (mE, xI cy 32 fE), (mR, xI cy 16 fQ), (mF, xI cy 17 fF), (aO, xL cy 1 (vp_updL fo 0 (if xb (!Sm (mb G b) x) = 0 then lN 0 else lN 1))), (a4, .inr (4, [.ref aB, .ref o2, .ref o3, .ref oA, .ref oB, .ref oC, .ref qL, .ref qM, .int (nI k), .int (nI now)])), (aB, xB cy 6 (fun j => some (ab j))), (qL, xI cy 60 f7), (qM, xI cy 60 f8), ((ab b), .inr (0, [.ref qi3, .ref qd3, .int (nI (n + nwK (mb G b) (lnM x 1 1 now)))])), (qi3, xI cy (capR (n + nwK (mb G b) (lnM x 1 1 now)) cap) fi3), (qd3, xI cy (capR (n + nwK (mb G b) (lnM x 1 1 now)) cap) fd3)]) (va_runV (As := [.int (nI b), .int (nI x)]) (rest := []) ⟨hx, hb, hml, hown, hts⟩ ((m_add l D cy t0 a5 mD mI mZ mK mO mE mR mF k now th kM oM nl b x G It Zt lst hML hCV hb6 (hMV b) hnow hx2) H.size) (cwV 2 hts gL_law_X5_add rfl rfl rfl (by decide +kernel) ⟨Nat.le_of_ble_eq_true rfl, Nat.le_of_ble_eq_true rfl⟩) (xPw.giveV (wc := [(a5, .inr (5, [.int th, .int (nI k), .int (nI now), .ref mD, .ref mI, .ref mZ, .int (nI nl), .ref mK, .ref mO, .ref mE, .ref mR, .ref mF, .int kM, .int oM])), (mD, xI cy 600000 G), (mI, xI cy 100000 It), (mZ, xZ cy 100000 Zt)]) hE hS hA hP hD [10, 11, 12, 13] (by decide) (xtC _ _ rfl) 10 5 rfl rfl) rfl rfl hl.1 rfl (lv_room (Nat.le_of_ble_eq_true rfl)) dL_law_192 ⟨(show (cells + mcR (n + nwK (mb G b) (lnM x 1 1 now)) cap) + 0 ≤ 601024 by omega), (show (slots + msR (n + nwK (mb G b) (lnM x 1 1 now)) cap) + 0 ≤ 7293000 by omega)⟩) hP hD hS hA [10, 11, 12, 13] [0, 1, 2, 3, 4, 5, 6, 7, 8, 9, 14, 15, 16, 17, 18, 19, 20, 21, 22, 23, 24, 25, 26] rfl rfl (by decide) (by decide) (fun r_34 u_36 H locs hr_35 hP hD hS => ?_)
      obtain ⟨G3, It3, Zt3, lst3, nl3⟩ := u_36
      refine lv_eqi (z := xb (!Sm (mb G b) x)) hr_35.1 ?_
      have hGU : GU G G3 b (mrg (mb G b) (lnM x 1 1 now)) := hr_35.2.1
      have hML3 : ML lst3 nl3 It3 Zt3 := hr_35.2.2.1
      have hCV3 : CV G3 lst3 nl3 := hr_35.2.2.2
      have hP : xP D ([(o2, .inr (2, [.ref gR])), (gR, xI cy 16 fR), (o3, .inr (3, [.ref gT, .int lv0, .int sz0])), (gT, xI cy 25 fT), (oA, .inr (1, [.ref gA, .int (nI k), .int (nI zA)])), (gA, xI cy 32 fA), (oB, .inr (1, [.ref gB, .int (nI k), .int (nI zB)])), (gB, xI cy 32 fB), (oC, .inr (1, [.ref gC, .int (nI k), .int (nI zC)])), (gC, xI cy 32 fC), (mK, xI cy 32 fK), (mO, xI cy 32 fO), (mE, xI cy 32 fE), (mR, xI cy 16 fQ), (mF, xI cy 17 fF), (aO, xL cy 1 (vp_updL fo 0 (if xb (!Sm (mb G b) x) = 0 then lN 0 else lN 1))), (a4, .inr (4, [.ref aB, .ref o2, .ref o3, .ref oA, .ref oB, .ref oC, .ref qL, .ref qM, .int (nI k), .int (nI now)])), (aB, xB cy 6 (fun j => some (ab j))), (qL, xI cy 60 f7), (qM, xI cy 60 f8), ((ab b), .inr (0, [.ref qi3, .ref qd3, .int (nI (n + nwK (mb G b) (lnM x 1 1 now)))])), (qi3, xI cy (capR (n + nwK (mb G b) (lnM x 1 1 now)) cap) fi3), (qd3, xI cy (capR (n + nwK (mb G b) (lnM x 1 1 now)) cap) fd3), (a5, .inr (5, [.int (nI 0), .int (nI k), .int (nI now), .ref mD, .ref mI, .ref mZ, .int (nI nl3), .ref mK, .ref mO, .ref mE, .ref mR, .ref mF, .int kM, .int oM])), (mD, xI cy 600000 G3), (mI, xI cy 100000 It3), (mZ, xZ cy 100000 Zt3)] ++ bks cy ab σ (bOT b)) H := hP
      have hD : va_D A ([(o2, .inr (2, [.ref gR])), (gR, xI cy 16 fR), (o3, .inr (3, [.ref gT, .int lv0, .int sz0])), (gT, xI cy 25 fT), (oA, .inr (1, [.ref gA, .int (nI k), .int (nI zA)])), (gA, xI cy 32 fA), (oB, .inr (1, [.ref gB, .int (nI k), .int (nI zB)])), (gB, xI cy 32 fB), (oC, .inr (1, [.ref gC, .int (nI k), .int (nI zC)])), (gC, xI cy 32 fC), (mK, xI cy 32 fK), (mO, xI cy 32 fO), (mE, xI cy 32 fE), (mR, xI cy 16 fQ), (mF, xI cy 17 fF), (aO, xL cy 1 (vp_updL fo 0 (if xb (!Sm (mb G b) x) = 0 then lN 0 else lN 1))), (a4, .inr (4, [.ref aB, .ref o2, .ref o3, .ref oA, .ref oB, .ref oC, .ref qL, .ref qM, .int (nI k), .int (nI now)])), (aB, xB cy 6 (fun j => some (ab j))), (qL, xI cy 60 f7), (qM, xI cy 60 f8), ((ab b), .inr (0, [.ref qi3, .ref qd3, .int (nI (n + nwK (mb G b) (lnM x 1 1 now)))])), (qi3, xI cy (capR (n + nwK (mb G b) (lnM x 1 1 now)) cap) fi3), (qd3, xI cy (capR (n + nwK (mb G b) (lnM x 1 1 now)) cap) fd3), (a5, .inr (5, [.int (nI 0), .int (nI k), .int (nI now), .ref mD, .ref mI, .ref mZ, .int (nI nl3), .ref mK, .ref mO, .ref mE, .ref mR, .ref mF, .int kM, .int oM])), (mD, xI cy 600000 G3), (mI, xI cy 100000 It3), (mZ, xZ cy 100000 Zt3)] ++ bks cy ab σ (bOT b)) := hD
      refine lv_istore (lv' := [(6, .int (xb (!Sm (mb G b) x))), (5, .int (nI 0)), (0, .ref sb), (1, .ref a4), (2, .ref a5), (3, .ref aO), (4, .int (nI i))]) hx hb dL_law_195 hl (by decide) rfl (fun ls hl => ?_)
      refine lv_aload_n hx hb dL_law_197 rfl (lv_at hl 4 rfl) ?_
      refine xcRi (va_runV (As := []) (rest := []) ⟨hx, hb, hml, hown, hts⟩ (m_thrown l D cy t0 a5 mD mI mZ mK mO mE mR mF k (nI 0) (nI now) (nI nl3) kM oM) (cwV 0 hts gL_law_X5_thrown rfl rfl rfl (by decide +kernel) ⟨Nat.le_of_ble_eq_true rfl, Nat.le_of_ble_eq_true rfl⟩) (xPr.giveV (wc := [(a5, .inr (5, [.int (nI 0), .int (nI k), .int (nI now), .ref mD, .ref mI, .ref mZ, .int (nI nl3), .ref mK, .ref mO, .ref mE, .ref mR, .ref mF, .int kM, .int oM]))]) hE hS hP [23] (xfm _ _ (xtC _ _ rfl)) 23 5 rfl rfl) rfl rfl hl.1 rfl (lv_room (Nat.le_of_ble_eq_true rfl)) dL_law_198 ⟨(show ((cells + mcR (n + nwK (mb G b) (lnM x 1 1 now)) cap) + 0) + 0 ≤ 601024 by omega), (show ((slots + msR (n + nwK (mb G b) (lnM x 1 1 now)) cap) + 0) + 0 ≤ 7293000 by omega)⟩) (fun r_38 hr_39 => ?_)
      obtain rfl : r_38 = nI 0 := hr_39
      refine lv_iload hx hb dL_law_201 (lv_at hl 1 rfl) ?_
      refine xb_icmp_eq (tgt := 208) (a := 0) (b := 0) (by omega) (by omega) hx hb dL_law_203 (by decide) (fun c_41 => ?_) (fun c_41 => ?_)
      · refine lv_iload hx hb dL_law_208 (lv_at hl 1 rfl) ?_
        refine xb_if_ne (tgt := 232) (a := 0) (by omega) hx hb dL_law_210 (by decide) (fun c_42 => ?_) (fun c_42 => ?_)
        · exact absurd c_42 (by omega)
        · refine lv_aload_n hx hb dL_law_213 rfl (lv_at hl 5 rfl) ?_
          refine lv_iconst (v := nI 0) hx hb dL_law_214 (by decide) ?_
          refine va_lald (D := D) hx hb hE.1 hP 15 2 rfl rfl (vp_in_nI (by omega) (by omega)) dL_law_215 ?_
          rw [nI_clamp (by omega), updL0]
          refine lv_iload hx hb dL_law_216 (lv_at hl 0 rfl) ?_
          refine xb_beq (tgt := 225) hx hb dL_law_218 (by decide) (fun c_43 => ?_) (fun c_43 => ?_)
          · refine lv_lconst (v := lN 0) hx hb dL_law_225 (by decide) ?_
            refine W.lcmp hx hb dL_law_226 ?_
            refine lv_if_eq (tgt := 232) hx hb dL_law_227 (by decide) (fun c_44 => ?_) (fun c_44 => ?_)
            · refine lv_goto (tgt := 1591) hx hb dL_law_232 (by decide) ?_
              obtain ⟨hP, hD⟩ := xsubT (ps' := [(aO, xL cy 1 (vp_updL fo 0 (if xb (!Sm (mb G b) x) = 0 then lN 0 else lN 1))), (a4, .inr (4, [.ref aB, .ref o2, .ref o3, .ref oA, .ref oB, .ref oC, .ref qL, .ref qM, .int (nI k), .int (nI now)])), (aB, xB cy 6 (fun j => some (ab j))), (o2, .inr (2, [.ref gR])), (gR, xI cy 16 fR), (o3, .inr (3, [.ref gT, .int lv0, .int sz0])), (gT, xI cy 25 fT), (oA, .inr (1, [.ref gA, .int (nI k), .int (nI zA)])), (gA, xI cy 32 fA), (oB, .inr (1, [.ref gB, .int (nI k), .int (nI zB)])), (gB, xI cy 32 fB), (oC, .inr (1, [.ref gC, .int (nI k), .int (nI zC)])), (gC, xI cy 32 fC), (qL, xI cy 60 f7), (qM, xI cy 60 f8), (a5, .inr (5, [.int (nI 0), .int (nI k), .int (nI now), .ref mD, .ref mI, .ref mZ, .int (nI nl3), .ref mK, .ref mO, .ref mE, .ref mR, .ref mF, .int kM, .int oM])), (mD, xI cy 600000 G3), (mI, xI cy 100000 It3), (mZ, xZ cy 100000 Zt3), (mK, xI cy 32 fK), (mO, xI cy 32 fO), (mE, xI cy 32 fE), (mR, xI cy 16 fQ), (mF, xI cy 17 fF), ((ab b), .inr (0, [.ref qi3, .ref qd3, .int (nI (n + nwK (mb G b) (lnM x 1 1 now)))])), (qi3, xI cy (capR (n + nwK (mb G b) (lnM x 1 1 now)) cap) fi3), (qd3, xI cy (capR (n + nwK (mb G b) (lnM x 1 1 now)) cap) fd3)]) [15, 16, 17, 0, 1, 2, 3, 4, 5, 6, 7, 8, 9, 18, 19, 23, 24, 25, 26, 10, 11, 12, 13, 14, 20, 21, 22] hP hD rfl (by decide)
              obtain ⟨hP, hD⟩ := xunf (ps := [(aO, xL cy 1 (vp_updL fo 0 (if xb (!Sm (mb G b) x) = 0 then lN 0 else lN 1))), (a4, .inr (4, [.ref aB, .ref o2, .ref o3, .ref oA, .ref oB, .ref oC, .ref qL, .ref qM, .int (nI k), .int (nI now)])), (aB, xB cy 6 (fun j => some (ab j))), (o2, .inr (2, [.ref gR])), (gR, xI cy 16 fR), (o3, .inr (3, [.ref gT, .int lv0, .int sz0])), (gT, xI cy 25 fT), (oA, .inr (1, [.ref gA, .int (nI k), .int (nI zA)])), (gA, xI cy 32 fA), (oB, .inr (1, [.ref gB, .int (nI k), .int (nI zB)])), (gB, xI cy 32 fB), (oC, .inr (1, [.ref gC, .int (nI k), .int (nI zC)])), (gC, xI cy 32 fC), (qL, xI cy 60 f7), (qM, xI cy 60 f8), (a5, .inr (5, [.int (nI 0), .int (nI k), .int (nI now), .ref mD, .ref mI, .ref mZ, .int (nI nl3), .ref mK, .ref mO, .ref mE, .ref mR, .ref mF, .int kM, .int oM])), (mD, xI cy 600000 G3), (mI, xI cy 100000 It3), (mZ, xZ cy 100000 Zt3), (mK, xI cy 32 fK), (mO, xI cy 32 fO), (mE, xI cy 32 fE), (mR, xI cy 16 fQ), (mF, xI cy 17 fF)]) (σ := σ) (v := (qi3, qd3, n + nwK (mb G b) (lnM x 1 1 now), capR (n + nwK (mb G b) (lnM x 1 1 now)) cap, fi3, fd3)) hb6 (by rw [bkc_up]; exact hP) (by rw [bkc_up]; exact hD)
              exact knext _ _ _ _ _ ⟨now, zA, zB, zC, nl3, lv0, sz0, (nI 0), kM, oM, (vp_updL fo 0 (if xb (!Sm (mb G b) x) = 0 then lN 0 else lN 1)), fR, fT, fA, fB, fC, f7, f8, G3, It3, Zt3, fK, fO, fE, fQ, fF, lst3, va_up σ b (qi3, qd3, n + nwK (mb G b) (lnM x 1 1 now), capR (n + nwK (mb G b) (lnM x 1 1 now)) cap, fi3, fd3), hR.upd hb6 hs9 hGU (mrg_MV (hMV b) (lnM_MV hnow)) (lnM_hi (fun i hi => by omega)) hB hML3 hCV3 (by omega) (by show _ + Us cap ≤ slots + Us (capR (n + nwK (mb G b) (lnM x 1 1 now)) cap) + 6; omega), hP, hD⟩ hS (lv_sub hl [2, 3, 4, 5, 6] rfl)
            · exact absurd (show lg_cmp (if xb (!Sm (mb G b) x) = 0 then lN 0 else lN 1) (lN 0) = 0 by rw [c_43]; decide +kernel) c_44
          · refine lv_lconst (v := lN 1) hx hb dL_law_221 (by decide) ?_
            refine lv_goto (tgt := 226) hx hb dL_law_222 (by decide) ?_
            refine W.lcmp hx hb dL_law_226 ?_
            refine lv_if_eq (tgt := 232) hx hb dL_law_227 (by decide) (fun c_45 => ?_) (fun c_45 => ?_)
            · refine lv_goto (tgt := 1591) hx hb dL_law_232 (by decide) ?_
              obtain ⟨hP, hD⟩ := xsubT (ps' := [(aO, xL cy 1 (vp_updL fo 0 (if xb (!Sm (mb G b) x) = 0 then lN 0 else lN 1))), (a4, .inr (4, [.ref aB, .ref o2, .ref o3, .ref oA, .ref oB, .ref oC, .ref qL, .ref qM, .int (nI k), .int (nI now)])), (aB, xB cy 6 (fun j => some (ab j))), (o2, .inr (2, [.ref gR])), (gR, xI cy 16 fR), (o3, .inr (3, [.ref gT, .int lv0, .int sz0])), (gT, xI cy 25 fT), (oA, .inr (1, [.ref gA, .int (nI k), .int (nI zA)])), (gA, xI cy 32 fA), (oB, .inr (1, [.ref gB, .int (nI k), .int (nI zB)])), (gB, xI cy 32 fB), (oC, .inr (1, [.ref gC, .int (nI k), .int (nI zC)])), (gC, xI cy 32 fC), (qL, xI cy 60 f7), (qM, xI cy 60 f8), (a5, .inr (5, [.int (nI 0), .int (nI k), .int (nI now), .ref mD, .ref mI, .ref mZ, .int (nI nl3), .ref mK, .ref mO, .ref mE, .ref mR, .ref mF, .int kM, .int oM])), (mD, xI cy 600000 G3), (mI, xI cy 100000 It3), (mZ, xZ cy 100000 Zt3), (mK, xI cy 32 fK), (mO, xI cy 32 fO), (mE, xI cy 32 fE), (mR, xI cy 16 fQ), (mF, xI cy 17 fF), ((ab b), .inr (0, [.ref qi3, .ref qd3, .int (nI (n + nwK (mb G b) (lnM x 1 1 now)))])), (qi3, xI cy (capR (n + nwK (mb G b) (lnM x 1 1 now)) cap) fi3), (qd3, xI cy (capR (n + nwK (mb G b) (lnM x 1 1 now)) cap) fd3)]) [15, 16, 17, 0, 1, 2, 3, 4, 5, 6, 7, 8, 9, 18, 19, 23, 24, 25, 26, 10, 11, 12, 13, 14, 20, 21, 22] hP hD rfl (by decide)
              obtain ⟨hP, hD⟩ := xunf (ps := [(aO, xL cy 1 (vp_updL fo 0 (if xb (!Sm (mb G b) x) = 0 then lN 0 else lN 1))), (a4, .inr (4, [.ref aB, .ref o2, .ref o3, .ref oA, .ref oB, .ref oC, .ref qL, .ref qM, .int (nI k), .int (nI now)])), (aB, xB cy 6 (fun j => some (ab j))), (o2, .inr (2, [.ref gR])), (gR, xI cy 16 fR), (o3, .inr (3, [.ref gT, .int lv0, .int sz0])), (gT, xI cy 25 fT), (oA, .inr (1, [.ref gA, .int (nI k), .int (nI zA)])), (gA, xI cy 32 fA), (oB, .inr (1, [.ref gB, .int (nI k), .int (nI zB)])), (gB, xI cy 32 fB), (oC, .inr (1, [.ref gC, .int (nI k), .int (nI zC)])), (gC, xI cy 32 fC), (qL, xI cy 60 f7), (qM, xI cy 60 f8), (a5, .inr (5, [.int (nI 0), .int (nI k), .int (nI now), .ref mD, .ref mI, .ref mZ, .int (nI nl3), .ref mK, .ref mO, .ref mE, .ref mR, .ref mF, .int kM, .int oM])), (mD, xI cy 600000 G3), (mI, xI cy 100000 It3), (mZ, xZ cy 100000 Zt3), (mK, xI cy 32 fK), (mO, xI cy 32 fO), (mE, xI cy 32 fE), (mR, xI cy 16 fQ), (mF, xI cy 17 fF)]) (σ := σ) (v := (qi3, qd3, n + nwK (mb G b) (lnM x 1 1 now), capR (n + nwK (mb G b) (lnM x 1 1 now)) cap, fi3, fd3)) hb6 (by rw [bkc_up]; exact hP) (by rw [bkc_up]; exact hD)
              exact knext _ _ _ _ _ ⟨now, zA, zB, zC, nl3, lv0, sz0, (nI 0), kM, oM, (vp_updL fo 0 (if xb (!Sm (mb G b) x) = 0 then lN 0 else lN 1)), fR, fT, fA, fB, fC, f7, f8, G3, It3, Zt3, fK, fO, fE, fQ, fF, lst3, va_up σ b (qi3, qd3, n + nwK (mb G b) (lnM x 1 1 now), capR (n + nwK (mb G b) (lnM x 1 1 now)) cap, fi3, fd3), hR.upd hb6 hs9 hGU (mrg_MV (hMV b) (lnM_MV hnow)) (lnM_hi (fun i hi => by omega)) hB hML3 hCV3 (by omega) (by show _ + Us cap ≤ slots + Us (capR (n + nwK (mb G b) (lnM x 1 1 now)) cap) + 6; omega), hP, hD⟩ hS (lv_sub hl [2, 3, 4, 5, 6] rfl)
            · exact absurd (show lg_cmp (if xb (!Sm (mb G b) x) = 0 then lN 0 else lN 1) (lN 1) = 0 by rw [c_43]; decide +kernel) c_45
      · exact absurd c_41 (by omega)
end XX9D
