section X46
theorem est_lo {k : Nat} {M : Nat → Int32} (h : min k (bC M) ≠ k) : estV k (hsM M) = min k (bC M) := by
  have h1 : bC M < k := by omega
  rw [estV_lo (show cb (hsM M) 16777213 < k from h1)]
  show bC M = min k (bC M)
  omega
def bT (M : Nat → Int32) (i : Nat) : Nat := nthB (SL (Sm M) (lvl (Sm M))) i 100000
set_option maxHeartbeats 16000000 in
set_option maxRecDepth 100000 in
theorem t_isBasketSo (l : Launch) (hlf : l.stackTraces = false) (D : va_G) (cy : Nat → ClassId) (t0 k : Nat) {M : Nat → Nat → Int32} {now : Nat} (hMV : ∀ j, MV (M j)) (hnow : now < 100000) (hk2 : 2 ≤ k) (hk : k ≤ 32) (a4 : Nat) (u : Nat → Nat) (b : Nat) (hb6 : b < 6) (st : ST) (hO : OK M st) : xWi (S := ST) l yL_isBasketSo wsL_isBasketSo ({ frames := 9, cells := 3, slots := 9606, locals := 300 } : Room) D cy t0 ([.ref a4, .int (nI b)]) (OW cy a4 u k now st) (fun r v => r = nI 1 ∧ OK M v) (fun v => OW cy a4 u k now v) 3 9606 := by
  refine xofWi (cc := cL_isBasketSo) (maxL := 13) (by decide) rfl (Nat.le_of_ble_eq_true rfl) (fun r v h => by rw [h.1]; rfl) ?_
  intro p e s m below meth c Q A ls hx hb hml hts hown hE hA H locs hP hD hl hS kret
  have hl : lv_has ls 13 [(0, .ref a4), (1, .int (nI b))] := hl
  have hcn : bC (M b) ≤ bN (M b) := bC_le
  have hn9 : bN (M b) ≤ 100000 := bN_le
  have hz0 : bN (M b) = 0 ↔ min k (bC (M b)) = 0 := bC_0 hk2
  have he16 : bE (M b) 16 = 16 ↔ bN (M b) = 0 := bE_16
  have hen : 16 ≤ bE (M b) 16 + bN (M b) := bE_n
  have he9 : bE (M b) 16 ≤ 16 := bE_le
  have hbz : bZ (M b) ≤ 16 := bZ_le
  have hlv : lvl (Sm (M b)) ≤ 24 := lvl_le _
  have hp1 : 1 * 2 ^ lvl (Sm (M b)) ≤ 16777216 := by
    rw [Nat.one_mul]
    exact Nat.le_trans (Nat.pow_le_pow_right (by omega) hlv) (by decide)
  have hp0 : 0 < 1 * 2 ^ lvl (Sm (M b)) := by
    rw [Nat.one_mul]
    exact Nat.two_pow_pos _
  have hkm : (k - 1) * 16777213 ≤ 520093603 := by omega
  refine lv_iconst (v := (-1)) hx hb dL_isBasketSo_0 (by decide) ?_
  refine lv_istore_n (lv' := [(2, .int (-1)), (0, .ref a4), (1, .int (nI b))]) hx hb dL_isBasketSo_1 rfl hl (by decide) rfl (fun ls hl => ?_)
  refine lv_aload_n hx hb dL_isBasketSo_2 rfl (lv_at hl 1 rfl) ?_
  refine lv_iload_n hx hb dL_isBasketSo_3 rfl (lv_at hl 2 rfl) ?_
  refine xc0i (va_runV (As := [.int (nI b)]) (rest := []) ⟨hx, hb, hml, hown, hts⟩ ((q_kept l D cy t0 a4 u k now M b hb6 hk2 hk st hO) H.size) (cwV 1 hts gL_isBasketSo_X4_kept rfl rfl rfl (by decide +kernel) ⟨Nat.le_of_ble_eq_true rfl, Nat.le_of_ble_eq_true rfl⟩) (gv0 hE hS hA hP hD) rfl rfl hl.1 rfl (lv_room (Nat.le_of_ble_eq_true rfl)) dL_isBasketSo_4 ⟨Nat.le_of_ble_eq_true rfl, Nat.le_of_ble_eq_true rfl⟩) hP hD hS hA (fun r_1 st H locs hr_2 hP hD hS => ?_)
  obtain ⟨hr_2q, hO⟩ := hr_2
  obtain rfl : r_1 = nI (min k (bC (M b))) := hr_2q
  refine lv_istore_n (lv' := [(3, .int (nI (min k (bC (M b))))), (2, .int (-1)), (0, .ref a4), (1, .int (nI b))]) hx hb dL_isBasketSo_7 rfl hl (by decide) rfl (fun ls hl => ?_)
  refine lv_iconst (v := nI 0) hx hb dL_isBasketSo_8 (by decide) ?_
  refine lv_istore (lv' := [(4, .int (nI 0)), (3, .int (nI (min k (bC (M b))))), (2, .int (-1)), (0, .ref a4), (1, .int (nI b))]) hx hb dL_isBasketSo_9 hl (by decide) rfl (fun ls hl => ?_)
  have k50 : ∀ (la : Int32) (st : ST), (hla : LSq (hsM (M b)) 16777213 (min k (bC (M b))) la) → (hO : OK M st) → ∀ (H : Heap) (locs : List Loc), xP D (OW cy a4 u k now st) H → va_D A (OW cy a4 u k now st) → va_S A s.heap H locs → ∀ (ls : Array Slot), lv_has ls 13 [(3, .int (nI (min k (bC (M b))))), (2, .int la), (0, .ref a4), (1, .int (nI b))] → W p l e ({ frames := 9, cells := 3, slots := 9606, locals := 300 } : Room) s m [.ref a4, .int (nI b)].toArray below meth c H locs 0 0 Q (F0 m 50 ls []) := by
    intro la st hla hO H locs hP hD hS ls hl
    refine lv_aload_n hx hb dL_isBasketSo_50 rfl (lv_at hl 2 rfl) ?_
    refine xc0i (va_runV (As := []) (rest := []) ⟨hx, hb, hml, hown, hts⟩ ((q_most l D cy t0 a4 u k now M  st hO) H.size) (cwV 0 hts gL_isBasketSo_X4_most rfl rfl rfl (by decide +kernel) ⟨Nat.le_of_ble_eq_true rfl, Nat.le_of_ble_eq_true rfl⟩) (gv0 hE hS hA hP hD) rfl rfl hl.1 rfl (lv_room (Nat.le_of_ble_eq_true rfl)) dL_isBasketSo_51 ⟨Nat.le_of_ble_eq_true rfl, Nat.le_of_ble_eq_true rfl⟩) hP hD hS hA (fun r_3 st H locs hr_4 hP hD hS => ?_)
    obtain ⟨hr_4q, hO⟩ := hr_4
    obtain rfl : r_3 = nI k := hr_4q
    refine lv_istore (lv' := [(4, .int (nI k)), (3, .int (nI (min k (bC (M b))))), (2, .int la), (0, .ref a4), (1, .int (nI b))]) hx hb dL_isBasketSo_54 hl (by decide) rfl (fun ls hl => ?_)
    refine lv_aload_n hx hb dL_isBasketSo_56 rfl (lv_at hl 3 rfl) ?_
    refine lv_iload_n hx hb dL_isBasketSo_57 rfl (lv_at hl 4 rfl) ?_
    refine xc0i (va_runV (As := [.int (nI b)]) (rest := []) ⟨hx, hb, hml, hown, hts⟩ ((q_plain l D cy t0 a4 u k now M b hb6  st hO) H.size) (cwV 1 hts gL_isBasketSo_X4_plain rfl rfl rfl (by decide +kernel) ⟨Nat.le_of_ble_eq_true rfl, Nat.le_of_ble_eq_true rfl⟩) (gv0 hE hS hA hP hD) rfl rfl hl.1 rfl (lv_room (Nat.le_of_ble_eq_true rfl)) dL_isBasketSo_58 ⟨Nat.le_of_ble_eq_true rfl, Nat.le_of_ble_eq_true rfl⟩) hP hD hS hA (fun r_5 st H locs hr_6 hP hD hS => ?_)
    obtain ⟨hr_6q, hO⟩ := hr_6
    obtain rfl : r_5 = nI (bN (M b)) := hr_6q
    refine lv_istore (lv' := [(5, .int (nI (bN (M b)))), (4, .int (nI k)), (3, .int (nI (min k (bC (M b))))), (2, .int la), (0, .ref a4), (1, .int (nI b))]) hx hb dL_isBasketSo_61 hl (by decide) rfl (fun ls hl => ?_)
    refine lv_aload_n hx hb dL_isBasketSo_63 rfl (lv_at hl 4 rfl) ?_
    refine lv_iload_n hx hb dL_isBasketSo_64 rfl (lv_at hl 5 rfl) ?_
    refine lv_iload_n hx hb dL_isBasketSo_65 rfl (lv_at hl 2 rfl) ?_
    refine xc0i (vx_runSW (As := [.ref a4, .int (nI b), .int (nI (min k (bC (M b))))]) (rest := []) ⟨hx, hb, hml, hown, hts⟩ ((w_keptAtT l D cy t0 a4 _ (nI b) (nI (min k (bC (M b)))) (OW cy a4 u k now st) OW_hd (Nat.le_of_ble_eq_true rfl) (Nat.le_of_ble_eq_true rfl) (q_keptAtV l hlf D cy t0 a4 u k now M b hb6 hk2 hk (nI (min k (bC (M b)))) (Or.inr (Int32.le_refl _)) st hO)) H.size) (vx_cwSW 3 hts gL_isBasketSo_L_keptAt rfl rfl rfl (by decide +kernel) ⟨Nat.le_of_ble_eq_true rfl, Nat.le_of_ble_eq_true rfl⟩) (gs0 hE hS hA hP hD) rfl rfl hl.1 rfl (lv_room (Nat.le_of_ble_eq_true rfl)) dL_isBasketSo_66 ⟨Nat.le_of_ble_eq_true rfl, Nat.le_of_ble_eq_true rfl⟩) hP hD hS hA (fun r9 sv H locs hq hP hD hS => ?_)
    obtain rfl : r9 = -1 := hq
    obtain ⟨st, hO⟩ := sv
    have hP : xP D (OW cy a4 u k now st) H := hP
    have hD : va_D A (OW cy a4 u k now st) := hD
    refine lv_iconst (v := (-1)) hx hb dL_isBasketSo_69 (by decide) ?_
    refine lv_icmp_ne (tgt := 154) hx hb dL_isBasketSo_70 (by decide) (fun c_7 => ?_) (fun c_7 => ?_)
    · exact absurd rfl c_7
    · refine lv_iload_n hx hb dL_isBasketSo_73 rfl (lv_at hl 2 rfl) ?_
      refine lv_iload hx hb dL_isBasketSo_74 (lv_at hl 1 rfl) ?_
      refine xb_icmp_gt (tgt := 154) (a := min k (bC (M b))) (b := k) (by omega) (by omega) hx hb dL_isBasketSo_76 (by decide) (fun c_8 => ?_) (fun c_8 => ?_)
      · exact absurd c_8 (by omega)
      · refine lv_iload_n hx hb dL_isBasketSo_79 rfl (lv_at hl 2 rfl) ?_
        refine lv_iload hx hb dL_isBasketSo_80 (lv_at hl 0 rfl) ?_
        refine xb_icmp_gt (tgt := 154) (a := min k (bC (M b))) (b := bN (M b)) (by omega) (by omega) hx hb dL_isBasketSo_82 (by decide) (fun c_9 => ?_) (fun c_9 => ?_)
        · exact absurd c_9 (by omega)
        · refine lv_iload_n hx hb dL_isBasketSo_85 rfl (lv_at hl 2 rfl) ?_
          refine lv_iload hx hb dL_isBasketSo_86 (lv_at hl 1 rfl) ?_
          have k128 : ∀ (st : ST), (hO : OK M st) → ∀ (H : Heap) (locs : List Loc), xP D (OW cy a4 u k now st) H → va_D A (OW cy a4 u k now st) → va_S A s.heap H locs → ∀ (ls : Array Slot), lv_has ls 13 [(5, .int (nI (bN (M b)))), (4, .int (nI k)), (3, .int (nI (min k (bC (M b))))), (0, .ref a4), (1, .int (nI b))] → W p l e ({ frames := 9, cells := 3, slots := 9606, locals := 300 } : Room) s m [.ref a4, .int (nI b)].toArray below meth c H locs (0 + 3) (0 + 9606) Q (F0 m 128 ls []) := by
            intro st hO H locs hP hD hS ls hl
            refine lv_iload hx hb dL_isBasketSo_128 (lv_at hl 0 rfl) ?_
            have k150 : ∀ (st : ST), (hO : OK M st) → ∀ (H : Heap) (locs : List Loc), xP D (OW cy a4 u k now st) H → va_D A (OW cy a4 u k now st) → va_S A s.heap H locs → ∀ (ls : Array Slot), lv_has ls 13 [(5, .int (nI (bN (M b)))), (4, .int (nI k)), (3, .int (nI (min k (bC (M b))))), (0, .ref a4), (1, .int (nI b))] → W p l e ({ frames := 9, cells := 3, slots := 9606, locals := 300 } : Room) s m [.ref a4, .int (nI b)].toArray below meth c H locs (0 + 3) (0 + 9606) Q (F0 m 150 ls []) := by
              intro st hO H locs hP hD hS ls hl
              refine lv_iconst (v := nI 1) hx hb dL_isBasketSo_150 (by decide) ?_
              refine lv_goto (tgt := 155) hx hb dL_isBasketSo_151 (by decide) ?_
              refine lv_istore (lv' := [(6, .int (nI 1)), (5, .int (nI (bN (M b)))), (4, .int (nI k)), (3, .int (nI (min k (bC (M b))))), (0, .ref a4), (1, .int (nI b))]) hx hb dL_isBasketSo_155 hl (by decide) rfl (fun ls hl => ?_)
              refine lv_iconst (v := nI 0) hx hb dL_isBasketSo_157 (by decide) ?_
              refine lv_istore (lv' := [(7, .int (nI 0)), (6, .int (nI 1)), (5, .int (nI (bN (M b)))), (4, .int (nI k)), (3, .int (nI (min k (bC (M b))))), (0, .ref a4), (1, .int (nI b))]) hx hb dL_isBasketSo_158 hl (by decide) rfl (fun ls hl => ?_)
              refine lv_iconst (v := nI 0) hx hb dL_isBasketSo_160 (by decide) ?_
              refine lv_istore (lv' := [(8, .int (nI 0)), (7, .int (nI 0)), (6, .int (nI 1)), (5, .int (nI (bN (M b)))), (4, .int (nI k)), (3, .int (nI (min k (bC (M b))))), (0, .ref a4), (1, .int (nI b))]) hx hb dL_isBasketSo_161 hl (by decide) rfl (fun ls hl => ?_)
              have k224 : ∀ (st : ST), (hO : OK M st) → ∀ (H : Heap) (locs : List Loc), xP D (OW cy a4 u k now st) H → va_D A (OW cy a4 u k now st) → va_S A s.heap H locs → ∀ (ls : Array Slot), lv_has ls 13 [(7, .int (nI (bE (M b) 16))), (6, .int (nI 1)), (5, .int (nI (bN (M b)))), (0, .ref a4), (1, .int (nI b))] → W p l e ({ frames := 9, cells := 3, slots := 9606, locals := 300 } : Room) s m [.ref a4, .int (nI b)].toArray below meth c H locs (0 + 3) (0 + 9606) Q (F0 m 224 ls []) := by
                intro st hO H locs hP hD hS ls hl
                refine lv_iload hx hb dL_isBasketSo_224 (lv_at hl 1 rfl) ?_
                refine xb_if_eq (tgt := 285) (a := 1) (by omega) hx hb dL_isBasketSo_226 (by decide) (fun c_12 => ?_) (fun c_12 => ?_)
                · exact absurd c_12 (by omega)
                · refine lv_iload hx hb dL_isBasketSo_229 (lv_at hl 0 rfl) ?_
                  refine lv_bipush (v := nI 16) hx hb dL_isBasketSo_231 (by decide) ?_
                  have k271 : ∀ (st : ST), (hO : OK M st) → ∀ (H : Heap) (locs : List Loc), xP D (OW cy a4 u k now st) H → va_D A (OW cy a4 u k now st) → va_S A s.heap H locs → ∀ (ls : Array Slot), lv_has ls 13 [(7, .int (nI (bE (M b) 16))), (6, .int (nI 1)), (5, .int (nI (bN (M b)))), (0, .ref a4), (1, .int (nI b))] → W p l e ({ frames := 9, cells := 3, slots := 9606, locals := 300 } : Room) s m [.ref a4, .int (nI b)].toArray below meth c H locs (0 + 3) (0 + 9606) Q (F0 m 271 ls []) := by
                    intro st hO H locs hP hD hS ls hl
                    refine lv_bipush (v := nI 16) hx hb dL_isBasketSo_271 (by decide) ?_
                    refine lv_iload hx hb dL_isBasketSo_273 (lv_at hl 0 rfl) ?_
                    refine lv_isub hx hb dL_isBasketSo_275 ?_
                    refine lv_eqi (z := nI (16 - bE (M b) 16)) (pk_sub he9) ?_
                    refine lv_iload hx hb dL_isBasketSo_276 (lv_at hl 2 rfl) ?_
                    refine xb_icmp_gt (tgt := 285) (a := 16 - bE (M b) 16) (b := bN (M b)) (by omega) (by omega) hx hb dL_isBasketSo_278 (by decide) (fun c_14 => ?_) (fun c_14 => ?_)
                    · exact absurd c_14 (by omega)
                    · refine lv_iconst (v := nI 1) hx hb dL_isBasketSo_281 (by decide) ?_
                      refine lv_goto (tgt := 286) hx hb dL_isBasketSo_282 (by decide) ?_
                      refine lv_istore (lv' := [(6, .int (nI 1)), (7, .int (nI (bE (M b) 16))), (5, .int (nI (bN (M b)))), (0, .ref a4), (1, .int (nI b))]) hx hb dL_isBasketSo_286 hl (by decide) rfl (fun ls hl => ?_)
                      refine lv_iconst (v := (-1)) hx hb dL_isBasketSo_288 (by decide) ?_
                      refine lv_istore (lv' := [(8, .int (-1)), (6, .int (nI 1)), (7, .int (nI (bE (M b) 16))), (5, .int (nI (bN (M b)))), (0, .ref a4), (1, .int (nI b))]) hx hb dL_isBasketSo_289 hl (by decide) rfl (fun ls hl => ?_)
                      refine lv_aload_n hx hb dL_isBasketSo_291 rfl (lv_at hl 4 rfl) ?_
                      refine lv_iload_n hx hb dL_isBasketSo_292 rfl (lv_at hl 5 rfl) ?_
                      refine xc0i (va_runV (As := [.int (nI b)]) (rest := []) ⟨hx, hb, hml, hown, hts⟩ ((q_level l D cy t0 a4 u k now M b hb6  st hO) H.size) (cwV 1 hts gL_isBasketSo_X4_level rfl rfl rfl (by decide +kernel) ⟨Nat.le_of_ble_eq_true rfl, Nat.le_of_ble_eq_true rfl⟩) (gv0 hE hS hA hP hD) rfl rfl hl.1 rfl (lv_room (Nat.le_of_ble_eq_true rfl)) dL_isBasketSo_293 ⟨Nat.le_of_ble_eq_true rfl, Nat.le_of_ble_eq_true rfl⟩) hP hD hS hA (fun r_15 st H locs hr_16 hP hD hS => ?_)
                      obtain ⟨hr_16q, hO⟩ := hr_16
                      obtain rfl : r_15 = nI (lvl (Sm (M b))) := hr_16q
                      refine lv_istore (lv' := [(9, .int (nI (lvl (Sm (M b))))), (8, .int (-1)), (6, .int (nI 1)), (7, .int (nI (bE (M b) 16))), (5, .int (nI (bN (M b)))), (0, .ref a4), (1, .int (nI b))]) hx hb dL_isBasketSo_296 hl (by decide) rfl (fun ls hl => ?_)
                      refine lv_aload_n hx hb dL_isBasketSo_298 rfl (lv_at hl 5 rfl) ?_
                      refine lv_iload_n hx hb dL_isBasketSo_299 rfl (lv_at hl 6 rfl) ?_
                      refine xc0i (va_runV (As := [.int (nI b)]) (rest := []) ⟨hx, hb, hml, hown, hts⟩ ((q_sampled l D cy t0 a4 u k now M b hb6  st hO) H.size) (cwV 1 hts gL_isBasketSo_X4_sampled rfl rfl rfl (by decide +kernel) ⟨Nat.le_of_ble_eq_true rfl, Nat.le_of_ble_eq_true rfl⟩) (gv0 hE hS hA hP hD) rfl rfl hl.1 rfl (lv_room (Nat.le_of_ble_eq_true rfl)) dL_isBasketSo_300 ⟨Nat.le_of_ble_eq_true rfl, Nat.le_of_ble_eq_true rfl⟩) hP hD hS hA (fun r_17 st H locs hr_18 hP hD hS => ?_)
                      obtain ⟨hr_18q, hO⟩ := hr_18
                      obtain rfl : r_17 = nI (bZ (M b)) := hr_18q
                      refine lv_istore (lv' := [(10, .int (nI (bZ (M b)))), (9, .int (nI (lvl (Sm (M b))))), (8, .int (-1)), (6, .int (nI 1)), (7, .int (nI (bE (M b) 16))), (5, .int (nI (bN (M b)))), (0, .ref a4), (1, .int (nI b))]) hx hb dL_isBasketSo_303 hl (by decide) rfl (fun ls hl => ?_)
                      refine lv_iconst (v := nI 0) hx hb dL_isBasketSo_305 (by decide) ?_
                      refine lv_istore (lv' := [(11, .int (nI 0)), (10, .int (nI (bZ (M b)))), (9, .int (nI (lvl (Sm (M b))))), (8, .int (-1)), (6, .int (nI 1)), (7, .int (nI (bE (M b) 16))), (5, .int (nI (bN (M b)))), (0, .ref a4), (1, .int (nI b))]) hx hb dL_isBasketSo_306 hl (by decide) rfl (fun ls hl => ?_)
                      have k377 : ∀ (st : ST), (hO : OK M st) → ∀ (H : Heap) (locs : List Loc), xP D (OW cy a4 u k now st) H → va_D A (OW cy a4 u k now st) → va_S A s.heap H locs → ∀ (ls : Array Slot), lv_has ls 13 [(10, .int (nI (bZ (M b)))), (9, .int (nI (lvl (Sm (M b))))), (6, .int (nI 1)), (5, .int (nI (bN (M b)))), (0, .ref a4), (1, .int (nI b))] → W p l e ({ frames := 9, cells := 3, slots := 9606, locals := 300 } : Room) s m [.ref a4, .int (nI b)].toArray below meth c H locs (0 + 3) (0 + 9606) Q (F0 m 377 ls []) := by
                        intro st hO H locs hP hD hS ls hl
                        refine lv_iload hx hb dL_isBasketSo_377 (lv_at hl 2 rfl) ?_
                        refine xb_if_eq (tgt := 434) (a := 1) (by omega) hx hb dL_isBasketSo_379 (by decide) (fun c_19 => ?_) (fun c_19 => ?_)
                        · exact absurd c_19 (by omega)
                        · refine lv_iload hx hb dL_isBasketSo_382 (lv_at hl 0 rfl) ?_
                          refine lv_bipush (v := nI 16) hx hb dL_isBasketSo_384 (by decide) ?_
                          refine xb_icmp_gt (tgt := 434) (a := bZ (M b)) (b := 16) (by omega) (by omega) hx hb dL_isBasketSo_386 (by decide) (fun c_20 => ?_) (fun c_20 => ?_)
                          · exact absurd c_20 (by omega)
                          · refine lv_aload_n hx hb dL_isBasketSo_389 rfl (lv_at hl 4 rfl) ?_
                            refine lv_iload_n hx hb dL_isBasketSo_390 rfl (lv_at hl 5 rfl) ?_
                            refine xc0i (va_runV (As := [.int (nI b)]) (rest := []) ⟨hx, hb, hml, hown, hts⟩ ((q_bySample l D cy t0 a4 u k now M b hb6  st hO) H.size) (cwV 1 hts gL_isBasketSo_X4_bySample rfl rfl rfl (by decide +kernel) ⟨Nat.le_of_ble_eq_true rfl, Nat.le_of_ble_eq_true rfl⟩) (gv0 hE hS hA hP hD) rfl rfl hl.1 rfl (lv_room (Nat.le_of_ble_eq_true rfl)) dL_isBasketSo_391 ⟨Nat.le_of_ble_eq_true rfl, Nat.le_of_ble_eq_true rfl⟩) hP hD hS hA (fun r_21 st H locs hr_22 hP hD hS => ?_)
                            obtain ⟨hr_22q, hO⟩ := hr_22
                            obtain rfl : r_21 = nI (bZ (M b)) <<< (nI (lvl (Sm (M b))) &&& 31) := hr_22q
                            refine lv_iload hx hb dL_isBasketSo_394 (lv_at hl 0 rfl) ?_
                            refine lv_iload hx hb dL_isBasketSo_396 (lv_at hl 1 rfl) ?_
                            refine lv_ishl hx hb dL_isBasketSo_398 ?_
                            refine lv_icmp_ne (tgt := 434) hx hb dL_isBasketSo_399 (by decide) (fun c_23 => ?_) (fun c_23 => ?_)
                            · exact absurd rfl c_23
                            · refine lv_iload hx hb dL_isBasketSo_402 (lv_at hl 1 rfl) ?_
                              refine xb_if_gt (tgt := 414) (a := lvl (Sm (M b))) (by omega) hx hb dL_isBasketSo_404 (by decide) (fun c_24 => ?_) (fun c_24 => ?_)
                              · refine lv_aload_n hx hb dL_isBasketSo_414 rfl (lv_at hl 4 rfl) ?_
                                refine lv_iload_n hx hb dL_isBasketSo_415 rfl (lv_at hl 5 rfl) ?_
                                refine lv_ldc (v := nI 100000) hx hb hown (hts (.constant RL 106 (100000)) (by decide +kernel)) dL_isBasketSo_416 ?_
                                refine xc0l (va_runV (As := [.int (nI b), .int (nI 100000)]) (rest := []) ⟨hx, hb, hml, hown, hts⟩ ((q_recent l D cy t0 a4 u k now M b hb6 (hMV b) 100000 (by omega) (by omega) st hO) H.size) (cwV 2 hts gL_isBasketSo_X4_recent rfl rfl rfl (by decide +kernel) ⟨Nat.le_of_ble_eq_true rfl, Nat.le_of_ble_eq_true rfl⟩) (gv0 hE hS hA hP hD) rfl rfl hl.1 rfl (lv_room (Nat.le_of_ble_eq_true rfl)) dL_isBasketSo_418 ⟨Nat.le_of_ble_eq_true rfl, Nat.le_of_ble_eq_true rfl⟩) hP hD hS hA (fun r_25 st H locs hr_26 hP hD hS => ?_)
                                obtain ⟨hr_26q, hO⟩ := hr_26
                                obtain rfl : r_25 = lN (regE (fun r => mxr (Sm (M b)) r 100000)) := (hr_26q.trans (by rw [rec_all (hMV b) hnow]))
                                refine lv_aload_n hx hb dL_isBasketSo_421 rfl (lv_at hl 4 rfl) ?_
                                refine lv_iload_n hx hb dL_isBasketSo_422 rfl (lv_at hl 5 rfl) ?_
                                refine xc0l (va_runV (As := [.int (nI b)]) (rest := [.long (lN (regE (fun r => mxr (Sm (M b)) r 100000)))]) ⟨hx, hb, hml, hown, hts⟩ ((q_byRegisters l D cy t0 a4 u k now M b hb6 (hMV b) st hO) H.size) (cwV 1 hts gL_isBasketSo_X4_byRegisters rfl rfl rfl (by decide +kernel) ⟨Nat.le_of_ble_eq_true rfl, Nat.le_of_ble_eq_true rfl⟩) (gv0 hE hS hA hP hD) rfl rfl hl.1 rfl (lv_room (Nat.le_of_ble_eq_true rfl)) dL_isBasketSo_423 ⟨Nat.le_of_ble_eq_true rfl, Nat.le_of_ble_eq_true rfl⟩) hP hD hS hA (fun r_27 st H locs hr_28 hP hD hS => ?_)
                                obtain ⟨hr_28q, hO⟩ := hr_28
                                obtain rfl : r_27 = lN (regE (fun r => mxr (Sm (M b)) r 100000)) := hr_28q
                                refine W.lcmp hx hb dL_isBasketSo_426 ?_
                                refine lv_eqi (z := nI 0) (lgc _) ?_
                                refine xb_if_ne (tgt := 434) (a := 0) (by omega) hx hb dL_isBasketSo_427 (by decide) (fun c_29 => ?_) (fun c_29 => ?_)
                                · exact absurd c_29 (by omega)
                                · refine lv_iconst (v := nI 1) hx hb dL_isBasketSo_430 (by decide) ?_
                                  refine lv_goto (tgt := 435) hx hb dL_isBasketSo_431 (by decide) ?_
                                  exact kret _ st _ _ _ _ _ _ dL_isBasketSo_435 ⟨rfl, hO⟩ hP hD hS (Nat.le_of_ble_eq_true rfl) (Nat.le_of_ble_eq_true rfl)
                              · have hb0 : bZ (M b) = bN (M b) := bZ_0 c_24
                                refine lv_iload hx hb dL_isBasketSo_407 (lv_at hl 0 rfl) ?_
                                refine lv_iload hx hb dL_isBasketSo_409 (lv_at hl 3 rfl) ?_
                                refine xb_icmp_ne (tgt := 434) (a := bZ (M b)) (b := bN (M b)) (by omega) (by omega) hx hb dL_isBasketSo_411 (by decide) (fun c_30 => ?_) (fun c_30 => ?_)
                                · exact absurd hb0 c_30
                                · refine lv_aload_n hx hb dL_isBasketSo_414 rfl (lv_at hl 4 rfl) ?_
                                  refine lv_iload_n hx hb dL_isBasketSo_415 rfl (lv_at hl 5 rfl) ?_
                                  refine lv_ldc (v := nI 100000) hx hb hown (hts (.constant RL 106 (100000)) (by decide +kernel)) dL_isBasketSo_416 ?_
                                  refine xc0l (va_runV (As := [.int (nI b), .int (nI 100000)]) (rest := []) ⟨hx, hb, hml, hown, hts⟩ ((q_recent l D cy t0 a4 u k now M b hb6 (hMV b) 100000 (by omega) (by omega) st hO) H.size) (cwV 2 hts gL_isBasketSo_X4_recent rfl rfl rfl (by decide +kernel) ⟨Nat.le_of_ble_eq_true rfl, Nat.le_of_ble_eq_true rfl⟩) (gv0 hE hS hA hP hD) rfl rfl hl.1 rfl (lv_room (Nat.le_of_ble_eq_true rfl)) dL_isBasketSo_418 ⟨Nat.le_of_ble_eq_true rfl, Nat.le_of_ble_eq_true rfl⟩) hP hD hS hA (fun r_31 st H locs hr_32 hP hD hS => ?_)
                                  obtain ⟨hr_32q, hO⟩ := hr_32
                                  obtain rfl : r_31 = lN (regE (fun r => mxr (Sm (M b)) r 100000)) := (hr_32q.trans (by rw [rec_all (hMV b) hnow]))
                                  refine lv_aload_n hx hb dL_isBasketSo_421 rfl (lv_at hl 4 rfl) ?_
                                  refine lv_iload_n hx hb dL_isBasketSo_422 rfl (lv_at hl 5 rfl) ?_
                                  refine xc0l (va_runV (As := [.int (nI b)]) (rest := [.long (lN (regE (fun r => mxr (Sm (M b)) r 100000)))]) ⟨hx, hb, hml, hown, hts⟩ ((q_byRegisters l D cy t0 a4 u k now M b hb6 (hMV b) st hO) H.size) (cwV 1 hts gL_isBasketSo_X4_byRegisters rfl rfl rfl (by decide +kernel) ⟨Nat.le_of_ble_eq_true rfl, Nat.le_of_ble_eq_true rfl⟩) (gv0 hE hS hA hP hD) rfl rfl hl.1 rfl (lv_room (Nat.le_of_ble_eq_true rfl)) dL_isBasketSo_423 ⟨Nat.le_of_ble_eq_true rfl, Nat.le_of_ble_eq_true rfl⟩) hP hD hS hA (fun r_33 st H locs hr_34 hP hD hS => ?_)
                                  obtain ⟨hr_34q, hO⟩ := hr_34
                                  obtain rfl : r_33 = lN (regE (fun r => mxr (Sm (M b)) r 100000)) := hr_34q
                                  refine W.lcmp hx hb dL_isBasketSo_426 ?_
                                  refine lv_eqi (z := nI 0) (lgc _) ?_
                                  refine xb_if_ne (tgt := 434) (a := 0) (by omega) hx hb dL_isBasketSo_427 (by decide) (fun c_35 => ?_) (fun c_35 => ?_)
                                  · exact absurd c_35 (by omega)
                                  · refine lv_iconst (v := nI 1) hx hb dL_isBasketSo_430 (by decide) ?_
                                    refine lv_goto (tgt := 435) hx hb dL_isBasketSo_431 (by decide) ?_
                                    exact kret _ st _ _ _ _ _ _ dL_isBasketSo_435 ⟨rfl, hO⟩ hP hD hS (Nat.le_of_ble_eq_true rfl) (Nat.le_of_ble_eq_true rfl)
                      have lp3 : ∀ (n9 : Nat), ∀ (i : Nat) (la : Int32) (st : ST), (hi : i ≤ bZ (M b)) → (hla : LSq (SL (Sm (M b)) (lvl (Sm (M b)))) 100000 i la) → (hO : OK M st) → bZ (M b) - i < n9 → ∀ (H : Heap) (locs : List Loc), xP D (OW cy a4 u k now st) H → va_D A (OW cy a4 u k now st) → va_S A s.heap H locs → ∀ (ls : Array Slot), lv_has ls 13 [(11, .int (nI i)), (10, .int (nI (bZ (M b)))), (9, .int (nI (lvl (Sm (M b))))), (8, .int la), (6, .int (nI 1)), (5, .int (nI (bN (M b)))), (0, .ref a4), (1, .int (nI b))] → W p l e ({ frames := 9, cells := 3, slots := 9606, locals := 300 } : Room) s m [.ref a4, .int (nI b)].toArray below meth c H locs (0 + 3) (0 + 9606) Q (F0 m 308 ls []) := by
                        intro n9
                        induction n9 with
                        | zero => intro i la st hi hla hO hm; exact absurd hm (Nat.not_lt_zero _)
                        | succ n9 ih_lp3 =>
                          intro i la st hi hla hO hm H locs hP hD hS ls hl
                          refine lv_iload hx hb dL_isBasketSo_308 (lv_at hl 0 rfl) ?_
                          refine lv_iload hx hb dL_isBasketSo_310 (lv_at hl 1 rfl) ?_
                          refine xb_icmp_ge (tgt := 377) (a := i) (b := bZ (M b)) (by omega) (by omega) hx hb dL_isBasketSo_312 (by decide) (fun c_36 => ?_) (fun c_36 => ?_)
                          · exact k377 st hO  _ _ hP hD hS _ (lv_sub hl [1, 2, 4, 5, 6, 7] rfl)
                          · refine lv_iload hx hb dL_isBasketSo_315 (lv_at hl 4 rfl) ?_
                            refine xb_if_eq (tgt := 377) (a := 1) (by omega) hx hb dL_isBasketSo_317 (by decide) (fun c_37 => ?_) (fun c_37 => ?_)
                            · exact absurd c_37 (by omega)
                            · refine lv_aload_n hx hb dL_isBasketSo_320 rfl (lv_at hl 6 rfl) ?_
                              refine lv_iload_n hx hb dL_isBasketSo_321 rfl (lv_at hl 7 rfl) ?_
                              refine lv_iload hx hb dL_isBasketSo_322 (lv_at hl 0 rfl) ?_
                              refine xc0i (va_runV (As := [.int (nI b), .int (nI i)]) (rest := []) ⟨hx, hb, hml, hown, hts⟩ ((q_sampledAt l D cy t0 a4 u k now M b hb6 i (show i < bZ (M b) by omega) st hO) H.size) (cwV 2 hts gL_isBasketSo_X4_sampledAt rfl rfl rfl (by decide +kernel) ⟨Nat.le_of_ble_eq_true rfl, Nat.le_of_ble_eq_true rfl⟩) (gv0 hE hS hA hP hD) rfl rfl hl.1 rfl (lv_room (Nat.le_of_ble_eq_true rfl)) dL_isBasketSo_324 ⟨Nat.le_of_ble_eq_true rfl, Nat.le_of_ble_eq_true rfl⟩) hP hD hS hA (fun r_38 st H locs hr_39 hP hD hS => ?_)
                              obtain ⟨hr_39q, hO⟩ := hr_39
                              have hit : bT (M b) i < 100000 ∧ hsh (bT (M b) i) % (1 * 2 ^ lvl (Sm (M b))) = 0 ∧ ¬ M b (bT (M b) i) < 0 := bIt (hMV b) (show i < bZ (M b) by omega)
                              obtain rfl : r_38 = nI (bT (M b) i) := hr_39q
                              refine lv_istore (lv' := [(12, .int (nI (bT (M b) i))), (11, .int (nI i)), (10, .int (nI (bZ (M b)))), (9, .int (nI (lvl (Sm (M b))))), (8, .int la), (6, .int (nI 1)), (5, .int (nI (bN (M b)))), (0, .ref a4), (1, .int (nI b))]) hx hb dL_isBasketSo_327 hl (by decide) rfl (fun ls hl => ?_)
                              refine lv_iload hx hb dL_isBasketSo_329 (lv_at hl 0 rfl) ?_
                              refine lv_iload hx hb dL_isBasketSo_331 (lv_at hl 4 rfl) ?_
                              refine lv_icmp_le (tgt := 364) hx hb dL_isBasketSo_333 (by decide) (fun c_40 => ?_) (fun c_40 => ?_)
                              · exact absurd c_40 (LSq.lt (by omega) hla (show i < bZ (M b) by omega))
                              · refine lv_aload_n hx hb dL_isBasketSo_336 rfl (lv_at hl 7 rfl) ?_
                                refine lv_iload hx hb dL_isBasketSo_337 (lv_at hl 0 rfl) ?_
                                refine xc0i (va_runV (As := [.int (nI (bT (M b) i))]) (rest := []) ⟨hx, hb, hml, hown, hts⟩ ((q_hash l D cy t0 a4 u k now M (bT (M b) i) hit.1 st hO) H.size) (cwV 1 hts gL_isBasketSo_X4_hash rfl rfl rfl (by decide +kernel) ⟨Nat.le_of_ble_eq_true rfl, Nat.le_of_ble_eq_true rfl⟩) (gv0 hE hS hA hP hD) rfl rfl hl.1 rfl (lv_room (Nat.le_of_ble_eq_true rfl)) dL_isBasketSo_339 ⟨Nat.le_of_ble_eq_true rfl, Nat.le_of_ble_eq_true rfl⟩) hP hD hS hA (fun r_41 st H locs hr_42 hP hD hS => ?_)
                                obtain ⟨hr_42q, hO⟩ := hr_42
                                obtain rfl : r_41 = nI (hsh (bT (M b) i)) := hr_42q
                                refine lv_iconst (v := nI 1) hx hb dL_isBasketSo_342 (by decide) ?_
                                refine lv_iload hx hb dL_isBasketSo_343 (lv_at hl 3 rfl) ?_
                                refine lv_ishl hx hb dL_isBasketSo_345 ?_
                                refine lv_eqi (z := nI (1 * 2 ^ lvl (Sm (M b)))) (shlz (by omega) (Nat.lt_of_le_of_lt hp1 (by decide))) ?_
                                refine lv_irem hx hb dL_isBasketSo_346 (nI_ne0 hp0 (Nat.lt_of_le_of_lt hp1 (by decide))) ?_
                                refine lv_eqi (z := nI 0) ((pk_rem (Nat.lt_trans (hsh_lt _) (by decide)) hp0 (Nat.lt_of_le_of_lt hp1 (by decide))).trans (by rw [hit.2.1])) ?_
                                refine xb_if_ne (tgt := 364) (a := 0) (by omega) hx hb dL_isBasketSo_347 (by decide) (fun c_43 => ?_) (fun c_43 => ?_)
                                · exact absurd c_43 (by omega)
                                · refine lv_aload_n hx hb dL_isBasketSo_350 rfl (lv_at hl 7 rfl) ?_
                                  refine lv_iload_n hx hb dL_isBasketSo_351 rfl (lv_at hl 8 rfl) ?_
                                  refine lv_iload hx hb dL_isBasketSo_352 (lv_at hl 0 rfl) ?_
                                  refine xc0i (va_runV (As := [.int (nI b), .int (nI (bT (M b) i))]) (rest := []) ⟨hx, hb, hml, hown, hts⟩ ((q_dateOf l D cy t0 a4 u k now M b hb6 (bT (M b) i) hit.1 st hO) H.size) (cwV 2 hts gL_isBasketSo_X4_dateOf rfl rfl rfl (by decide +kernel) ⟨Nat.le_of_ble_eq_true rfl, Nat.le_of_ble_eq_true rfl⟩) (gv0 hE hS hA hP hD) rfl rfl hl.1 rfl (lv_room (Nat.le_of_ble_eq_true rfl)) dL_isBasketSo_354 ⟨Nat.le_of_ble_eq_true rfl, Nat.le_of_ble_eq_true rfl⟩) hP hD hS hA (fun r_44 st H locs hr_45 hP hD hS => ?_)
                                  obtain ⟨hr_45q, hO⟩ := hr_45
                                  obtain rfl : r_44 = M b (bT (M b) i) := hr_45q
                                  refine lv_if_lt (tgt := 364) hx hb dL_isBasketSo_357 (by decide) (fun c_46 => ?_) (fun c_46 => ?_)
                                  · exact absurd c_46 hit.2.2
                                  · refine lv_iconst (v := nI 1) hx hb dL_isBasketSo_360 (by decide) ?_
                                    refine lv_goto (tgt := 365) hx hb dL_isBasketSo_361 (by decide) ?_
                                    refine lv_istore (lv' := [(6, .int (nI 1)), (12, .int (nI (bT (M b) i))), (11, .int (nI i)), (10, .int (nI (bZ (M b)))), (9, .int (nI (lvl (Sm (M b))))), (8, .int la), (5, .int (nI (bN (M b)))), (0, .ref a4), (1, .int (nI b))]) hx hb dL_isBasketSo_365 hl (by decide) rfl (fun ls hl => ?_)
                                    refine lv_iload hx hb dL_isBasketSo_367 (lv_at hl 1 rfl) ?_
                                    refine lv_istore (lv' := [(8, .int (nI (bT (M b) i))), (6, .int (nI 1)), (12, .int (nI (bT (M b) i))), (11, .int (nI i)), (10, .int (nI (bZ (M b)))), (9, .int (nI (lvl (Sm (M b))))), (5, .int (nI (bN (M b)))), (0, .ref a4), (1, .int (nI b))]) hx hb dL_isBasketSo_369 hl (by decide) rfl (fun ls hl => ?_)
                                    refine lv_iinc (v := nI (i + 1)) (lv' := [(11, .int (nI (i + 1))), (8, .int (nI (bT (M b) i))), (6, .int (nI 1)), (12, .int (nI (bT (M b) i))), (10, .int (nI (bZ (M b)))), (9, .int (nI (lvl (Sm (M b))))), (5, .int (nI (bN (M b)))), (0, .ref a4), (1, .int (nI b))]) hx hb dL_isBasketSo_371 hl (k := 3) rfl (nI_add _ 1) (by decide) rfl (fun ls hl => ?_)
                                    refine lv_goto (tgt := 308) hx hb dL_isBasketSo_374 (by decide) ?_
                                    exact ih_lp3 (i + 1) (nI (bT (M b) i)) st (by omega) LSq.next hO (by omega) _ _ hP hD hS _ (lv_sub hl [0, 4, 5, 1, 2, 6, 7, 8] rfl)
                      exact lp3 (bZ (M b) + 1) 0 (-1) st (Nat.zero_le _) LSq.start hO (by omega) _ _ hP hD hS _ (lv_sub hl [0, 1, 2, 3, 4, 6, 7, 8] rfl)
                  refine xb_icmp_ne (tgt := 240) (a := bE (M b) 16) (b := 16) (by omega) (by omega) hx hb dL_isBasketSo_233 (by decide) (fun c_13 => ?_) (fun c_13 => ?_)
                  · refine lv_iconst (v := nI 0) hx hb dL_isBasketSo_240 (by decide) ?_
                    refine lv_iload hx hb dL_isBasketSo_241 (lv_at hl 2 rfl) ?_
                    refine xb_if_ne (tgt := 250) (a := bN (M b)) (by omega) hx hb dL_isBasketSo_243 (by decide) (fun c_47 => ?_) (fun c_47 => ?_)
                    · refine lv_iconst (v := nI 0) hx hb dL_isBasketSo_250 (by decide) ?_
                      refine xb_icmp_ne (tgt := 285) (a := 0) (b := 0) (by omega) (by omega) hx hb dL_isBasketSo_251 (by decide) (fun c_48 => ?_) (fun c_48 => ?_)
                      · exact absurd c_48 (by omega)
                      · refine lv_iload hx hb dL_isBasketSo_254 (lv_at hl 0 rfl) ?_
                        refine lv_bipush (v := nI 16) hx hb dL_isBasketSo_256 (by decide) ?_
                        refine xb_icmp_ne (tgt := 271) (a := bE (M b) 16) (b := 16) (by omega) (by omega) hx hb dL_isBasketSo_258 (by decide) (fun c_49 => ?_) (fun c_49 => ?_)
                        · exact k271 st hO  _ _ hP hD hS _ (lv_sub hl [0, 1, 2, 3, 4] rfl)
                        · exact absurd c_49 (by omega)
                    · exact absurd c_47 (by omega)
                  · refine lv_iconst (v := nI 1) hx hb dL_isBasketSo_236 (by decide) ?_
                    refine lv_goto (tgt := 241) hx hb dL_isBasketSo_237 (by decide) ?_
                    refine lv_iload hx hb dL_isBasketSo_241 (lv_at hl 2 rfl) ?_
                    refine xb_if_ne (tgt := 250) (a := bN (M b)) (by omega) hx hb dL_isBasketSo_243 (by decide) (fun c_50 => ?_) (fun c_50 => ?_)
                    · exact absurd c_50 (by omega)
                    · refine lv_iconst (v := nI 1) hx hb dL_isBasketSo_246 (by decide) ?_
                      refine lv_goto (tgt := 251) hx hb dL_isBasketSo_247 (by decide) ?_
                      refine xb_icmp_ne (tgt := 285) (a := 1) (b := 1) (by omega) (by omega) hx hb dL_isBasketSo_251 (by decide) (fun c_51 => ?_) (fun c_51 => ?_)
                      · exact absurd c_51 (by omega)
                      · refine lv_iload hx hb dL_isBasketSo_254 (lv_at hl 0 rfl) ?_
                        refine lv_bipush (v := nI 16) hx hb dL_isBasketSo_256 (by decide) ?_
                        refine xb_icmp_ne (tgt := 271) (a := bE (M b) 16) (b := 16) (by omega) (by omega) hx hb dL_isBasketSo_258 (by decide) (fun c_52 => ?_) (fun c_52 => ?_)
                        · exact absurd c_52 (by omega)
                        · refine lv_aload_n hx hb dL_isBasketSo_261 rfl (lv_at hl 3 rfl) ?_
                          refine lv_iload_n hx hb dL_isBasketSo_262 rfl (lv_at hl 4 rfl) ?_
                          refine xc0l (va_runV (As := [.int (nI b)]) (rest := []) ⟨hx, hb, hml, hown, hts⟩ ((q_byRegisters l D cy t0 a4 u k now M b hb6 (hMV b) st hO) H.size) (cwV 1 hts gL_isBasketSo_X4_byRegisters rfl rfl rfl (by decide +kernel) ⟨Nat.le_of_ble_eq_true rfl, Nat.le_of_ble_eq_true rfl⟩) (gv0 hE hS hA hP hD) rfl rfl hl.1 rfl (lv_room (Nat.le_of_ble_eq_true rfl)) dL_isBasketSo_263 ⟨Nat.le_of_ble_eq_true rfl, Nat.le_of_ble_eq_true rfl⟩) hP hD hS hA (fun r_53 st H locs hr_54 hP hD hS => ?_)
                          obtain ⟨hr_54q, hO⟩ := hr_54
                          obtain rfl : r_53 = lN 0 := (hr_54q.trans (by rw [bReg0 (he16.mp (by omega))]))
                          refine lv_lconst (v := lN 0) hx hb dL_isBasketSo_266 (by decide) ?_
                          refine W.lcmp hx hb dL_isBasketSo_267 ?_
                          refine lv_eqi (z := nI 0) (lgc _) ?_
                          refine xb_if_ne (tgt := 285) (a := 0) (by omega) hx hb dL_isBasketSo_268 (by decide) (fun c_55 => ?_) (fun c_55 => ?_)
                          · exact absurd c_55 (by omega)
                          · exact k271 st hO  _ _ hP hD hS _ (lv_sub hl [0, 1, 2, 3, 4] rfl)
              have lp2 : ∀ (n9 : Nat), ∀ (j : Nat) (st : ST), (hj : j ≤ 16) → (hO : OK M st) → 16 - j < n9 → ∀ (H : Heap) (locs : List Loc), xP D (OW cy a4 u k now st) H → va_D A (OW cy a4 u k now st) → va_S A s.heap H locs → ∀ (ls : Array Slot), lv_has ls 13 [(8, .int (nI j)), (7, .int (nI (bE (M b) j))), (6, .int (nI 1)), (5, .int (nI (bN (M b)))), (0, .ref a4), (1, .int (nI b))] → W p l e ({ frames := 9, cells := 3, slots := 9606, locals := 300 } : Room) s m [.ref a4, .int (nI b)].toArray below meth c H locs (0 + 3) (0 + 9606) Q (F0 m 163 ls []) := by
                intro n9
                induction n9 with
                | zero => intro j st hj hO hm; exact absurd hm (Nat.not_lt_zero _)
                | succ n9 ih_lp2 =>
                  intro j st hj hO hm H locs hP hD hS ls hl
                  have hej : bE (M b) j ≤ j := bE_le
                  refine lv_iload hx hb dL_isBasketSo_163 (lv_at hl 0 rfl) ?_
                  refine lv_bipush (v := nI 16) hx hb dL_isBasketSo_165 (by decide) ?_
                  refine xb_icmp_ge (tgt := 224) (a := j) (b := 16) (by omega) (by omega) hx hb dL_isBasketSo_167 (by decide) (fun c_56 => ?_) (fun c_56 => ?_)
                  · obtain rfl : j = 16 := by omega
                    exact k224 st hO  _ _ hP hD hS _ (lv_sub hl [1, 2, 3, 4, 5] rfl)
                  · refine lv_aload_n hx hb dL_isBasketSo_170 rfl (lv_at hl 4 rfl) ?_
                    refine lv_iload_n hx hb dL_isBasketSo_171 rfl (lv_at hl 5 rfl) ?_
                    refine lv_iload hx hb dL_isBasketSo_172 (lv_at hl 0 rfl) ?_
                    refine xc0i (va_runV (As := [.int (nI b), .int (nI j)]) (rest := []) ⟨hx, hb, hml, hown, hts⟩ ((q_register l D cy t0 a4 u k now M b hb6 (hMV b) j (by omega) st hO) H.size) (cwV 2 hts gL_isBasketSo_X4_register rfl rfl rfl (by decide +kernel) ⟨Nat.le_of_ble_eq_true rfl, Nat.le_of_ble_eq_true rfl⟩) (gv0 hE hS hA hP hD) rfl rfl hl.1 rfl (lv_room (Nat.le_of_ble_eq_true rfl)) dL_isBasketSo_174 ⟨Nat.le_of_ble_eq_true rfl, Nat.le_of_ble_eq_true rfl⟩) hP hD hS hA (fun r_57 st H locs hr_58 hP hD hS => ?_)
                    obtain ⟨hr_58q, hO⟩ := hr_58
                    have hx9 := mxr_le (T := Sm (M b)) (r := j) 100000
                    obtain rfl : r_57 = nI (mxr (Sm (M b)) j 100000) := hr_58q
                    refine lv_istore (lv' := [(9, .int (nI (mxr (Sm (M b)) j 100000))), (8, .int (nI j)), (7, .int (nI (bE (M b) j))), (6, .int (nI 1)), (5, .int (nI (bN (M b)))), (0, .ref a4), (1, .int (nI b))]) hx hb dL_isBasketSo_177 hl (by decide) rfl (fun ls hl => ?_)
                    refine lv_iload hx hb dL_isBasketSo_179 (lv_at hl 2 rfl) ?_
                    refine lv_iload hx hb dL_isBasketSo_181 (lv_at hl 0 rfl) ?_
                    refine xb_if_ne (tgt := 190) (a := mxr (Sm (M b)) j 100000) (by omega) hx hb dL_isBasketSo_183 (by decide) (fun c_59 => ?_) (fun c_59 => ?_)
                    · refine lv_iconst (v := nI 0) hx hb dL_isBasketSo_190 (by decide) ?_
                      refine lv_iadd hx hb dL_isBasketSo_191 ?_
                      refine lv_eqi (z := nI (bE (M b) (j + 1))) (by rw [bE_f c_59]; exact nI_add _ 0) ?_
                      refine lv_istore (lv' := [(7, .int (nI (bE (M b) (j + 1)))), (9, .int (nI (mxr (Sm (M b)) j 100000))), (8, .int (nI j)), (6, .int (nI 1)), (5, .int (nI (bN (M b)))), (0, .ref a4), (1, .int (nI b))]) hx hb dL_isBasketSo_192 hl (by decide) rfl (fun ls hl => ?_)
                      refine lv_iload hx hb dL_isBasketSo_194 (lv_at hl 3 rfl) ?_
                      refine xb_if_eq (tgt := 215) (a := 1) (by omega) hx hb dL_isBasketSo_196 (by decide) (fun c_60 => ?_) (fun c_60 => ?_)
                      · exact absurd c_60 (by omega)
                      · refine lv_iload hx hb dL_isBasketSo_199 (lv_at hl 1 rfl) ?_
                        refine xb_if_lt (tgt := 215) (a := mxr (Sm (M b)) j 100000) (by omega) hx hb dL_isBasketSo_201 (by decide) (fun c_61 => ?_) (fun c_61 => ?_)
                        · exact c_61.elim
                        · refine lv_iload hx hb dL_isBasketSo_204 (lv_at hl 1 rfl) ?_
                          refine lv_bipush (v := nI 21) hx hb dL_isBasketSo_206 (by decide) ?_
                          refine xb_icmp_gt (tgt := 215) (a := mxr (Sm (M b)) j 100000) (b := 21) (by omega) (by omega) hx hb dL_isBasketSo_208 (by decide) (fun c_62 => ?_) (fun c_62 => ?_)
                          · exact absurd c_62 (by omega)
                          · refine lv_iconst (v := nI 1) hx hb dL_isBasketSo_211 (by decide) ?_
                            refine lv_goto (tgt := 216) hx hb dL_isBasketSo_212 (by decide) ?_
                            refine lv_istore (lv' := [(6, .int (nI 1)), (7, .int (nI (bE (M b) (j + 1)))), (9, .int (nI (mxr (Sm (M b)) j 100000))), (8, .int (nI j)), (5, .int (nI (bN (M b)))), (0, .ref a4), (1, .int (nI b))]) hx hb dL_isBasketSo_216 hl (by decide) rfl (fun ls hl => ?_)
                            refine lv_iinc (v := nI (j + 1)) (lv' := [(8, .int (nI (j + 1))), (6, .int (nI 1)), (7, .int (nI (bE (M b) (j + 1)))), (9, .int (nI (mxr (Sm (M b)) j 100000))), (5, .int (nI (bN (M b)))), (0, .ref a4), (1, .int (nI b))]) hx hb dL_isBasketSo_218 hl (k := 3) rfl (nI_add _ 1) (by decide) rfl (fun ls hl => ?_)
                            refine lv_goto (tgt := 163) hx hb dL_isBasketSo_221 (by decide) ?_
                            exact ih_lp2 (j + 1) st (by omega) hO (by omega) _ _ hP hD hS _ (lv_sub hl [0, 2, 1, 4, 5, 6] rfl)
                    · refine lv_iconst (v := nI 1) hx hb dL_isBasketSo_186 (by decide) ?_
                      refine lv_goto (tgt := 191) hx hb dL_isBasketSo_187 (by decide) ?_
                      refine lv_iadd hx hb dL_isBasketSo_191 ?_
                      refine lv_eqi (z := nI (bE (M b) (j + 1))) (by rw [bE_t c_59]; exact nI_add _ _) ?_
                      refine lv_istore (lv' := [(7, .int (nI (bE (M b) (j + 1)))), (9, .int (nI (mxr (Sm (M b)) j 100000))), (8, .int (nI j)), (6, .int (nI 1)), (5, .int (nI (bN (M b)))), (0, .ref a4), (1, .int (nI b))]) hx hb dL_isBasketSo_192 hl (by decide) rfl (fun ls hl => ?_)
                      refine lv_iload hx hb dL_isBasketSo_194 (lv_at hl 3 rfl) ?_
                      refine xb_if_eq (tgt := 215) (a := 1) (by omega) hx hb dL_isBasketSo_196 (by decide) (fun c_63 => ?_) (fun c_63 => ?_)
                      · exact absurd c_63 (by omega)
                      · refine lv_iload hx hb dL_isBasketSo_199 (lv_at hl 1 rfl) ?_
                        refine xb_if_lt (tgt := 215) (a := mxr (Sm (M b)) j 100000) (by omega) hx hb dL_isBasketSo_201 (by decide) (fun c_64 => ?_) (fun c_64 => ?_)
                        · exact c_64.elim
                        · refine lv_iload hx hb dL_isBasketSo_204 (lv_at hl 1 rfl) ?_
                          refine lv_bipush (v := nI 21) hx hb dL_isBasketSo_206 (by decide) ?_
                          refine xb_icmp_gt (tgt := 215) (a := mxr (Sm (M b)) j 100000) (b := 21) (by omega) (by omega) hx hb dL_isBasketSo_208 (by decide) (fun c_65 => ?_) (fun c_65 => ?_)
                          · exact absurd c_65 (by omega)
                          · refine lv_iconst (v := nI 1) hx hb dL_isBasketSo_211 (by decide) ?_
                            refine lv_goto (tgt := 216) hx hb dL_isBasketSo_212 (by decide) ?_
                            refine lv_istore (lv' := [(6, .int (nI 1)), (7, .int (nI (bE (M b) (j + 1)))), (9, .int (nI (mxr (Sm (M b)) j 100000))), (8, .int (nI j)), (5, .int (nI (bN (M b)))), (0, .ref a4), (1, .int (nI b))]) hx hb dL_isBasketSo_216 hl (by decide) rfl (fun ls hl => ?_)
                            refine lv_iinc (v := nI (j + 1)) (lv' := [(8, .int (nI (j + 1))), (6, .int (nI 1)), (7, .int (nI (bE (M b) (j + 1)))), (9, .int (nI (mxr (Sm (M b)) j 100000))), (5, .int (nI (bN (M b)))), (0, .ref a4), (1, .int (nI b))]) hx hb dL_isBasketSo_218 hl (k := 3) rfl (nI_add _ 1) (by decide) rfl (fun ls hl => ?_)
                            refine lv_goto (tgt := 163) hx hb dL_isBasketSo_221 (by decide) ?_
                            exact ih_lp2 (j + 1) st (by omega) hO (by omega) _ _ hP hD hS _ (lv_sub hl [0, 2, 1, 4, 5, 6] rfl)
              exact lp2 17 0 st (Nat.zero_le _) hO (by omega) _ _ hP hD hS _ (lv_sub hl [0, 1, 2, 3, 6, 7] rfl)
            refine xb_if_ne (tgt := 137) (a := bN (M b)) (by omega) hx hb dL_isBasketSo_130 (by decide) (fun c_11 => ?_) (fun c_11 => ?_)
            · refine lv_iconst (v := nI 0) hx hb dL_isBasketSo_137 (by decide) ?_
              refine lv_iload_n hx hb dL_isBasketSo_138 rfl (lv_at hl 2 rfl) ?_
              refine xb_if_ne (tgt := 146) (a := min k (bC (M b))) (by omega) hx hb dL_isBasketSo_139 (by decide) (fun c_66 => ?_) (fun c_66 => ?_)
              · refine lv_iconst (v := nI 0) hx hb dL_isBasketSo_146 (by decide) ?_
                refine xb_icmp_ne (tgt := 154) (a := 0) (b := 0) (by omega) (by omega) hx hb dL_isBasketSo_147 (by decide) (fun c_67 => ?_) (fun c_67 => ?_)
                · exact absurd c_67 (by omega)
                · exact k150 st hO  _ _ hP hD hS _ (lv_sub hl [0, 1, 2, 3, 4] rfl)
              · exact absurd c_66 (by omega)
            · refine lv_iconst (v := nI 1) hx hb dL_isBasketSo_133 (by decide) ?_
              refine lv_goto (tgt := 138) hx hb dL_isBasketSo_134 (by decide) ?_
              refine lv_iload_n hx hb dL_isBasketSo_138 rfl (lv_at hl 2 rfl) ?_
              refine xb_if_ne (tgt := 146) (a := min k (bC (M b))) (by omega) hx hb dL_isBasketSo_139 (by decide) (fun c_68 => ?_) (fun c_68 => ?_)
              · exact absurd c_68 (by omega)
              · refine lv_iconst (v := nI 1) hx hb dL_isBasketSo_142 (by decide) ?_
                refine lv_goto (tgt := 147) hx hb dL_isBasketSo_143 (by decide) ?_
                refine xb_icmp_ne (tgt := 154) (a := 1) (b := 1) (by omega) (by omega) hx hb dL_isBasketSo_147 (by decide) (fun c_69 => ?_) (fun c_69 => ?_)
                · exact absurd c_69 (by omega)
                · exact k150 st hO  _ _ hP hD hS _ (lv_sub hl [0, 1, 2, 3, 4] rfl)
          refine xb_icmp_eq (tgt := 100) (a := min k (bC (M b))) (b := k) (by omega) (by omega) hx hb dL_isBasketSo_88 (by decide) (fun c_10 => ?_) (fun c_10 => ?_)
          · refine lv_iload_n hx hb dL_isBasketSo_100 rfl (lv_at hl 2 rfl) ?_
            refine lv_iload hx hb dL_isBasketSo_101 (lv_at hl 1 rfl) ?_
            refine xb_icmp_lt (tgt := 128) (a := min k (bC (M b))) (b := k) (by omega) (by omega) hx hb dL_isBasketSo_103 (by decide) (fun c_70 => ?_) (fun c_70 => ?_)
            · exact absurd c_70 (by omega)
            · obtain ⟨t, ht0, ht1, htl, hte⟩ : ∃ t, 0 < t ∧ t < 16777213 ∧ la = nI t ∧ estV k (hsM (M b)) = (k - 1) * 16777213 / t := by
                have hek := est_k (k := k) (Hs := hsM (M b)) hk2 (show k ≤ bC (M b) by omega)
                rcases hla with ⟨q, _⟩ | ⟨_, q⟩
                · exact absurd q (by omega)
                · exact ⟨nthB (hsM (M b)) (k - 1) 16777213, hek.1, hek.2.1, q.trans (by rw [show min k (bC (M b)) = k by omega]), hek.2.2⟩
              subst htl
              have hdv : (k - 1) * 16777213 / t ≤ (k - 1) * 16777213 := Nat.div_le_self _ _
              refine lv_aload_n hx hb dL_isBasketSo_106 rfl (lv_at hl 4 rfl) ?_
              refine lv_iload_n hx hb dL_isBasketSo_107 rfl (lv_at hl 5 rfl) ?_
              refine xc0i (va_runV (As := [.int (nI b)]) (rest := []) ⟨hx, hb, hml, hown, hts⟩ ((q_byLeast l D cy t0 a4 u k now M b hb6 hk2 hk st hO) H.size) (cwV 1 hts gL_isBasketSo_X4_byLeast rfl rfl rfl (by decide +kernel) ⟨Nat.le_of_ble_eq_true rfl, Nat.le_of_ble_eq_true rfl⟩) (gv0 hE hS hA hP hD) rfl rfl hl.1 rfl (lv_room (Nat.le_of_ble_eq_true rfl)) dL_isBasketSo_108 ⟨Nat.le_of_ble_eq_true rfl, Nat.le_of_ble_eq_true rfl⟩) hP hD hS hA (fun r_71 st H locs hr_72 hP hD hS => ?_)
              obtain ⟨hr_72q, hO⟩ := hr_72
              obtain rfl : r_71 = nI ((k - 1) * 16777213 / t) := (hr_72q.trans (by rw [hte]))
              refine lv_i2l (v := lN ((k - 1) * 16777213 / t)) hx hb dL_isBasketSo_111 (nI_l (by omega)) ?_
              refine lv_iload hx hb dL_isBasketSo_112 (lv_at hl 1 rfl) ?_
              refine lv_i2l (v := lN k) hx hb dL_isBasketSo_114 (nI_l (by omega)) ?_
              refine lv_lconst (v := lN 1) hx hb dL_isBasketSo_115 (by decide) ?_
              refine lv_lsub hx hb dL_isBasketSo_116 ?_
              refine lv_eql (z := lN (k - 1)) (lN_sub (by omega)) ?_
              refine lv_ldc2 (v := lN 16777213) hx hb hown (hts (.constantLong RL 86 (16777213)) (by decide +kernel)) dL_isBasketSo_117 ?_
              refine lv_lmul hx hb dL_isBasketSo_120 ?_
              refine lv_eql (z := lN ((k - 1) * 16777213)) (lN_mul _ _) ?_
              refine lv_iload_n hx hb dL_isBasketSo_121 rfl (lv_at hl 3 rfl) ?_
              refine lv_i2l (v := lN t) hx hb dL_isBasketSo_122 (nI_l (by omega)) ?_
              refine lv_ldiv hx hb dL_isBasketSo_123 (fun q => by have := (pk_lEQ (a := t) (b := 0) (by omega) (by omega)).mp q; omega) ?_
              refine lv_eql (z := lN ((k - 1) * 16777213 / t)) (pk_lDiv (by omega) (by omega) (by omega)) ?_
              refine W.lcmp hx hb dL_isBasketSo_124 ?_
              refine lv_eqi (z := nI 0) (lgc _) ?_
              refine xb_if_ne (tgt := 154) (a := 0) (by omega) hx hb dL_isBasketSo_125 (by decide) (fun c_73 => ?_) (fun c_73 => ?_)
              · exact absurd c_73 (by omega)
              · exact k128 st hO  _ _ hP hD hS _ (lv_sub hl [0, 1, 2, 4, 5] rfl)
          · refine lv_aload_n hx hb dL_isBasketSo_91 rfl (lv_at hl 4 rfl) ?_
            refine lv_iload_n hx hb dL_isBasketSo_92 rfl (lv_at hl 5 rfl) ?_
            refine xc0i (va_runV (As := [.int (nI b)]) (rest := []) ⟨hx, hb, hml, hown, hts⟩ ((q_byLeast l D cy t0 a4 u k now M b hb6 hk2 hk st hO) H.size) (cwV 1 hts gL_isBasketSo_X4_byLeast rfl rfl rfl (by decide +kernel) ⟨Nat.le_of_ble_eq_true rfl, Nat.le_of_ble_eq_true rfl⟩) (gv0 hE hS hA hP hD) rfl rfl hl.1 rfl (lv_room (Nat.le_of_ble_eq_true rfl)) dL_isBasketSo_93 ⟨Nat.le_of_ble_eq_true rfl, Nat.le_of_ble_eq_true rfl⟩) hP hD hS hA (fun r_74 st H locs hr_75 hP hD hS => ?_)
            obtain ⟨hr_75q, hO⟩ := hr_75
            obtain rfl : r_74 = nI (min k (bC (M b))) := (hr_75q.trans (by rw [est_lo (by omega)]))
            refine lv_iload_n hx hb dL_isBasketSo_96 rfl (lv_at hl 2 rfl) ?_
            refine xb_icmp_ne (tgt := 154) (a := min k (bC (M b))) (b := min k (bC (M b))) (by omega) (by omega) hx hb dL_isBasketSo_97 (by decide) (fun c_76 => ?_) (fun c_76 => ?_)
            · exact absurd rfl c_76
            · refine lv_iload_n hx hb dL_isBasketSo_100 rfl (lv_at hl 2 rfl) ?_
              refine lv_iload hx hb dL_isBasketSo_101 (lv_at hl 1 rfl) ?_
              refine xb_icmp_lt (tgt := 128) (a := min k (bC (M b))) (b := k) (by omega) (by omega) hx hb dL_isBasketSo_103 (by decide) (fun c_77 => ?_) (fun c_77 => ?_)
              · exact k128 st hO  _ _ hP hD hS _ (lv_sub hl [0, 1, 2, 4, 5] rfl)
              · exact absurd c_77 (by omega)
  have lp1 : ∀ (n9 : Nat), ∀ (i : Nat) (la : Int32) (st : ST), (hi : i ≤ min k (bC (M b))) → (hla : LSq (hsM (M b)) 16777213 i la) → (hO : OK M st) → min k (bC (M b)) - i < n9 → ∀ (H : Heap) (locs : List Loc), xP D (OW cy a4 u k now st) H → va_D A (OW cy a4 u k now st) → va_S A s.heap H locs → ∀ (ls : Array Slot), lv_has ls 13 [(4, .int (nI i)), (3, .int (nI (min k (bC (M b))))), (2, .int la), (0, .ref a4), (1, .int (nI b))] → W p l e ({ frames := 9, cells := 3, slots := 9606, locals := 300 } : Room) s m [.ref a4, .int (nI b)].toArray below meth c H locs 0 0 Q (F0 m 11 ls []) := by
    intro n9
    induction n9 with
    | zero => intro i la st hi hla hO hm; exact absurd hm (Nat.not_lt_zero _)
    | succ n9 ih_lp1 =>
      intro i la st hi hla hO hm H locs hP hD hS ls hl
      refine lv_iload hx hb dL_isBasketSo_11 (lv_at hl 0 rfl) ?_
      refine lv_iload_n hx hb dL_isBasketSo_13 rfl (lv_at hl 1 rfl) ?_
      refine xb_icmp_ge (tgt := 50) (a := i) (b := min k (bC (M b))) (by omega) (by omega) hx hb dL_isBasketSo_14 (by decide) (fun c_78 => ?_) (fun c_78 => ?_)
      · exact k50 la st (by rw [show min k (bC (M b)) = i by omega]; exact hla) hO  _ _ hP hD hS _ (lv_sub hl [1, 2, 3, 4] rfl)
      · refine lv_aload_n hx hb dL_isBasketSo_17 rfl (lv_at hl 3 rfl) ?_
        refine lv_iload_n hx hb dL_isBasketSo_18 rfl (lv_at hl 4 rfl) ?_
        refine lv_iload hx hb dL_isBasketSo_19 (lv_at hl 0 rfl) ?_
        refine xc0i (va_runV (As := [.int (nI b), .int (nI i)]) (rest := []) ⟨hx, hb, hml, hown, hts⟩ ((q_keptAt l D cy t0 a4 u k now M b hb6 hk2 hk i (show i < min k (bC (M b)) by omega) st hO) H.size) (cwV 2 hts gL_isBasketSo_X4_keptAt rfl rfl rfl (by decide +kernel) ⟨Nat.le_of_ble_eq_true rfl, Nat.le_of_ble_eq_true rfl⟩) (gv0 hE hS hA hP hD) rfl rfl hl.1 rfl (lv_room (Nat.le_of_ble_eq_true rfl)) dL_isBasketSo_21 ⟨Nat.le_of_ble_eq_true rfl, Nat.le_of_ble_eq_true rfl⟩) hP hD hS hA (fun r_79 st H locs hr_80 hP hD hS => ?_)
        obtain ⟨hr_80q, hO⟩ := hr_80
        obtain rfl : r_79 = nI (nthB (hsM (M b)) i 16777213) := hr_80q
        have hnt := (nth_in (P := hsM (M b)) (n := 16777213) (j := i) (show i < bC (M b) by omega)).1
        refine lv_istore (lv' := [(5, .int (nI (nthB (hsM (M b)) i 16777213))), (4, .int (nI i)), (3, .int (nI (min k (bC (M b))))), (2, .int la), (0, .ref a4), (1, .int (nI b))]) hx hb dL_isBasketSo_24 hl (by decide) rfl (fun ls hl => ?_)
        refine lv_iload hx hb dL_isBasketSo_26 (lv_at hl 0 rfl) ?_
        refine lv_iload_n hx hb dL_isBasketSo_28 rfl (lv_at hl 3 rfl) ?_
        refine lv_icmp_le (tgt := 39) hx hb dL_isBasketSo_29 (by decide) (fun c_81 => ?_) (fun c_81 => ?_)
        · exact absurd c_81 (LSq.lt (by omega) hla (show i < bC (M b) by omega))
        · refine lv_iload hx hb dL_isBasketSo_32 (lv_at hl 0 rfl) ?_
          refine lv_ldc (v := nI 16777213) hx hb hown (hts (.constant RL 80 (16777213)) (by decide +kernel)) dL_isBasketSo_34 ?_
          refine xb_icmp_lt (tgt := 41) (a := nthB (hsM (M b)) i 16777213) (b := 16777213) (by omega) (by omega) hx hb dL_isBasketSo_36 (by decide) (fun c_82 => ?_) (fun c_82 => ?_)
          · refine lv_iload hx hb dL_isBasketSo_41 (lv_at hl 0 rfl) ?_
            refine lv_istore_n (lv' := [(2, .int (nI (nthB (hsM (M b)) i 16777213))), (5, .int (nI (nthB (hsM (M b)) i 16777213))), (4, .int (nI i)), (3, .int (nI (min k (bC (M b))))), (0, .ref a4), (1, .int (nI b))]) hx hb dL_isBasketSo_43 rfl hl (by decide) rfl (fun ls hl => ?_)
            refine lv_iinc (v := nI (i + 1)) (lv' := [(4, .int (nI (i + 1))), (2, .int (nI (nthB (hsM (M b)) i 16777213))), (5, .int (nI (nthB (hsM (M b)) i 16777213))), (3, .int (nI (min k (bC (M b))))), (0, .ref a4), (1, .int (nI b))]) hx hb dL_isBasketSo_44 hl (k := 2) rfl (nI_add _ 1) (by decide) rfl (fun ls hl => ?_)
            refine lv_goto (tgt := 11) hx hb dL_isBasketSo_47 (by decide) ?_
            exact ih_lp1 (i + 1) (nI (nthB (hsM (M b)) i 16777213)) st (by omega) LSq.next hO (by omega) _ _ hP hD hS _ (lv_sub hl [0, 3, 1, 4, 5] rfl)
          · exact absurd c_82 (by omega)
  exact lp1 (min k (bC (M b)) + 1) 0 (-1) st (Nat.zero_le _) LSq.start hO (by omega) _ _ hP hD hS _ (lv_sub hl [0, 1, 2, 3, 4] rfl)
end X46
