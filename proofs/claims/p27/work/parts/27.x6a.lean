section XX6A
theorem upd_id {f : Nat → Int32} {k : Nat} {v : Int32} (h : v = f k) : upd f k v = f := funext fun i => by
  by_cases q : i = k
  · subst q; rw [upd_s, h]
  · rw [upd_n q]
theorem arrVc {cI : ClassId} {N : Nat} {f g : Nat → Value} (h : ∀ j, j < N → f j = g j) : arrV cI N f = arrV cI N g := by
  unfold arrV
  have e : (fun j : Fin N => f j.val) = fun j : Fin N => g j.val := funext fun j => h j.val j.isLt
  rw [e]
theorem xBcong {D : va_G} {cy : Nat → ClassId} {A : Nat → Prop} {ws : va_W} {H : Heap} {k a n : Nat} {f g : Nat → Option Nat} (hP : xP D ws H) (hD : va_D A ws) (hk : ws[k]? = some (a, xB cy n f)) (h : ∀ j, j < n → f j = g j) : xP D (ws.set k (a, xB cy n g)) H ∧ va_D A (ws.set k (a, xB cy n g)) := by
  refine ⟨hP.set hD hk ?_ (fun _ _ => rfl), hD.set hk⟩
  have h1 : H[a]? = some (vp_cell (cy 3) (n, .inr (.inr (.inr (.inr f))))) := hP k _ hk
  show H[a]? = some (vp_cell (cy 3) (n, .inr (.inr (.inr (.inr g)))))
  rw [h1, vp_cell_q, vp_cell_q, arrVc (fun j hj => by rw [h j hj])]
section XNEWB
variable {p : Program} {l : Launch} {e : Env} {R : Room} {s : State} {m : MethodId} {args : Array Value} {below : List Frame} {meth : Method} {c : Code} {H : Heap} {locs : List Loc} {cells slots : Nat} {Q : State → Prop}
variable {cc : ByteArray} {pc : Nat} {ls : Array Slot} {rest : List Value} {D : va_G} {cy : Nat → ClassId} {A : Nat → Prop} {ws : va_W} {H0 : Heap}
theorem xclsB {cA : ClassId} (hK : xK D cy s) (hK2 : va_K D vwCl (xTY cy ++ [(cA, .object RX0)]) s) : cA = cy 3 := by
  obtain ⟨kA, comp, -, -, -, h1⟩ := (hK.2 3 (cy 3, .object RX0) rfl).2
  obtain ⟨kA2, comp2, -, -, -, h2⟩ := (hK2.2 4 (cA, .object RX0) rfl).2
  exact Option.some.inj (h2.symm.trans h1)
theorem xnewB {n : Int32} {N : Nat} {own : String} {index : Nat} (hexec : p.tables.exec = Jvm.exec) (hb : c.code = cc) (hown : s.vm.findClass own = some m.cls) (hclink : (Cond.classLink own index RX0).before args s = true) (hover : va_AO RX0 s) (hK : xK D cy s) (hP : xP D ws H) (hD : va_D A ws) (hS : va_S A H0 H locs) (hA : ∀ q, H0.size ≤ q → A q) (hn : n = nI N) (hN : N ≤ 1000000) (hcells : cells + 1 ≤ R.cells) (hslots : slots + N ≤ R.slots) (hdg : decode cc pc = .ok (.anewarray index, 3))
    (kk : ∀ (q : Nat) (H1 : Heap), xP D (ws ++ [(q, xB cy N (fun _ => none))]) H1 → va_D A (ws ++ [(q, xB cy N (fun _ => none))]) → va_S A H0 H1 locs → W p l e R s m args below meth c H1 locs (cells + 1) (slots + N) Q (F0 m (pc + 3) ls (.ref q :: rest))) : W p l e R s m args below meth c H locs cells slots Q (F0 m pc ls (.int n :: rest)) := by
  subst hn
  refine va_newq hexec hb hown hclink hover hK hP hD hS hA (nI_pos (by omega)) (nI_clamp (by omega)) (by omega) hcells hslots hdg (fun q cA H1 hK2 hP1 hD1 hS1 => ?_)
  obtain rfl : cA = cy 3 := xclsB hK hK2
  exact kk q H1 hP1 hD1 hS1
end XNEWB
/-- the most that is kept, out of what the constructor is given -/
def kOf (c : Int32) : Nat := if c < 2 then 2 else if 32 < c then 32 else c.toNatClampNeg
theorem kOf_b (c : Int32) : 2 ≤ kOf c ∧ kOf c ≤ 32 := by
  unfold kOf
  by_cases h1 : c < 2
  · rw [if_pos h1]; omega
  · rw [if_neg h1]
    by_cases h2 : 32 < c
    · rw [if_pos h2]; omega
    · rw [if_neg h2]
      obtain ⟨j, hj, ej⟩ := nI_of (x := c) (fun q => h1 (Int32.lt_trans q (by decide)))
      subst ej
      rw [nI_clamp hj]
      have h3 : ¬ j < 2 := fun q => h1 ((nI_ltI (b := 2) hj (Nat.le_of_ble_eq_true rfl)).mpr q)
      have h4 : ¬ 32 < j := fun q => h2 ((nI_ltI (a := 32) (b := j) (by omega) hj).mpr q)
      omega
theorem kOf_lo {c : Int32} (h : c < 2) : kOf c = 2 := if_pos h
theorem kOf_hi {c : Int32} (h1 : ¬ c < 2) (h2 : 32 < c) : kOf c = 32 := by unfold kOf; rw [if_neg h1, if_pos h2]
theorem kOf_mid {c : Int32} (h1 : ¬ c < 2) (h2 : ¬ 32 < c) : c = nI (kOf c) := by
  obtain ⟨j, hj, ej⟩ := nI_of (x := c) (fun q => h1 (Int32.lt_trans q (by decide)))
  unfold kOf
  rw [if_neg h1, if_neg h2, ej, nI_clamp hj]
theorem kOf_max (c : Int32) : (if nI 2 < (if c < nI 32 then c else nI 32) then (if c < nI 32 then c else nI 32) else nI 2) = nI (kOf c) := by
  by_cases h1 : c < 2
  · rw [kOf_lo h1, if_pos (show c < nI 32 from Int32.lt_trans h1 (by decide)), if_neg (show ¬ nI 2 < c from fun q => Int32.lt_irrefl (Int32.lt_trans q h1))]
  · by_cases h2 : 32 < c
    · rw [kOf_hi h1 h2, if_neg (show ¬ c < nI 32 from fun q => Int32.lt_irrefl (Int32.lt_trans q h2)), if_pos (by decide)]
    · by_cases h3 : c < nI 32
      · rw [if_pos h3]
        by_cases h4 : nI 2 < c
        · rw [if_pos h4]; exact kOf_mid h1 h2
        · rw [if_neg h4]
          have e : c = nI 2 := Int32.le_antisymm (Int32.not_lt.mp h4) (Int32.not_lt.mp h1)
          rw [← kOf_mid h1 h2, e]
      · rw [if_neg h3, if_pos (by decide)]
        have e : c = nI 32 := Int32.le_antisymm (Int32.not_lt.mp h2) (Int32.not_lt.mp h3)
        rw [← kOf_mid h1 h2, e]
set_option maxHeartbeats 4000000 in
set_option maxRecDepth 100000 in
theorem c_makeRoomNo (l : Launch) (D : va_G) (cy : Nat → ClassId) (t0 : Nat) (h0 qi qd n cap w : Nat) (fi : Nat → Int32) (hcap : cap ≤ 100000) (hw : w ≤ cap) : xRv l yX0_makeRoomFor wsX0_makeRoomFor ({ frames := 2, cells := 0, slots := 0, locals := 40 } : Room) D cy t0 ([.ref h0, .int (nI w)]) ([(h0, .inr (0, [.ref qi, .ref qd, .int (nI n)])), (qi, xI cy cap fi)]) := by
  refine xofRv (cc := cX0_makeRoomFor) (maxL := 3) (by decide) rfl (Nat.le_of_ble_eq_true rfl) ?_
  intro p e s m below meth c Q ls hx hb hml hts hown hE hP hl hS kret
  have hl : lv_has ls 3 [(0, .ref h0), (1, .int (nI w))] := hl
  refine lv_ldc (v := nI 100000) hx hb hown (hts (.constant RX0 44 (100000)) (by decide +kernel)) dX0_makeRoomFor_0 ?_
  refine lv_iload_n hx hb dX0_makeRoomFor_2 rfl (lv_at hl 1 rfl) ?_
  refine lv_iconst (v := nI 2) hx hb dX0_makeRoomFor_3 (by decide) ?_
  refine lv_aload_n hx hb dX0_makeRoomFor_4 rfl (lv_at hl 0 rfl) ?_
  refine va_get (D := D) (ci := 0) (v := .ref qi) (C := RX0) (T := TX0) (N := 3) hx hb hts (by decide +kernel) hown hE.1 hP 0 rfl rfl 0 (by decide) (hts (.fieldLink RX0 11 "DistinctDale$Basket" "items" "[I") (by decide +kernel)) (fun _ h9 => h9) rfl dX0_makeRoomFor_5 ?_
  refine va_alen (D := D) (v := nI cap) hx hb hE.1 hP 1 0 rfl rfl rfl dX0_makeRoomFor_8 ?_
  refine lv_imul hx hb dX0_makeRoomFor_9 ?_
  refine lv_eqi (z := nI (2 * cap)) (pk_mul _ _) ?_
  refine va_mmax hx hb (hml.trans hl.1.symm) hown (hts (.methodLink RX0 33 Lib.Math.max.name) (by decide +kernel)) (hts (.static Lib.Math.max.name) (by decide +kernel)) (hts (.initialized "java/lang/Math") (by decide +kernel)) (hts (.code Lib.Math.max.name Lib.Math.max.code 2 (some .int)) (by decide +kernel)) (Nat.le_of_ble_eq_true rfl) (Nat.le_of_ble_eq_true rfl) (Nat.zero_le _) (Nat.zero_le _) dX0_makeRoomFor_10 ?_
  refine lv_eqi (z := nI (max w (2 * cap))) (xmax_nI (by omega) (by omega)) ?_
  refine va_mmin hx hb (hml.trans hl.1.symm) hown (hts (.methodLink RX0 45 Lib.Math.min.name) (by decide +kernel)) (hts (.static Lib.Math.min.name) (by decide +kernel)) (hts (.initialized "java/lang/Math") (by decide +kernel)) (hts (.code Lib.Math.min.name Lib.Math.min.code 2 (some .int)) (by decide +kernel)) (Nat.le_of_ble_eq_true rfl) (Nat.le_of_ble_eq_true rfl) (Nat.zero_le _) (Nat.zero_le _) dX0_makeRoomFor_13 ?_
  refine lv_eqi (z := nI (min 100000 (max w (2 * cap)))) (xmin_nI (by omega) (by omega)) ?_
  refine lv_istore_n (lv' := [(2, .int (nI (min 100000 (max w (2 * cap))))), (0, .ref h0), (1, .int (nI w))]) hx hb dX0_makeRoomFor_16 rfl hl (by decide) rfl (fun ls hl => ?_)
  refine lv_iload_n hx hb dX0_makeRoomFor_17 rfl (lv_at hl 2 rfl) ?_
  refine lv_aload_n hx hb dX0_makeRoomFor_18 rfl (lv_at hl 1 rfl) ?_
  refine va_get (D := D) (ci := 0) (v := .ref qi) (C := RX0) (T := TX0) (N := 3) hx hb hts (by decide +kernel) hown hE.1 hP 0 rfl rfl 0 (by decide) (hts (.fieldLink RX0 11 "DistinctDale$Basket" "items" "[I") (by decide +kernel)) (fun _ h9 => h9) rfl dX0_makeRoomFor_19 ?_
  refine va_alen (D := D) (v := nI cap) hx hb hE.1 hP 1 0 rfl rfl rfl dX0_makeRoomFor_22 ?_
  refine xb_icmp_le (tgt := 59) (a := w) (b := cap) (by omega) (by omega) hx hb dX0_makeRoomFor_23 (by decide) (fun c_1 => ?_) (fun c_1 => ?_)
  · exact kret _ _ dX0_makeRoomFor_59 trivial
  · exact absurd c_1 (by omega)
set_option maxHeartbeats 4000000 in
set_option maxRecDepth 100000 in
theorem c_takeS (l : Launch) (D : va_G) (cy : Nat → ClassId) (t0 : Nat) (M : Nat → Int32) (h0 qi qd n cap : Nat) (fi fd : Nat → Int32) (hV : BR M n cap fi fd) : xWi (S := Unit) l yX0_take wsX0_take ({ frames := 3, cells := 0, slots := 0, locals := 62 } : Room) D cy t0 ([.ref h0, .ref qi, .ref qd, .int (nI n)]) ([(h0, .inr (0, [.ref qi, .ref qd, .int (nI n)])), (qi, xI cy cap fi), (qd, xI cy cap fd)]) (fun r _ => r = nI 0) (fun _ => [(h0, .inr (0, [.ref qi, .ref qd, .int (nI n)])), (qi, xI cy cap fi), (qd, xI cy cap fd)]) 0 0 := by
  refine xofWi (cc := cX0_take) (maxL := 12) (by decide) rfl (Nat.le_of_ble_eq_true rfl) (fun _ _ _ => rfl) ?_
  intro p e s m below meth c Q A ls hx hb hml hts hown hE hA H locs hP hD hl hS kret
  have hl : lv_has ls 12 [(0, .ref h0), (1, .ref qi), (2, .ref qd), (3, .int (nI n))] := hl
  have hcs : cb (fun x => Sm M x && Sm M x) 100000 = n := (cb_congr (fun x _ => Bool.and_self _)).trans hV.1.1.symm
  have hA3 := hV.2.2.1
  have hA4 := hV.2.2.2
  refine lv_iload_n hx hb dX0_take_0 rfl (lv_at hl 3 rfl) ?_
  refine lv_aload_n hx hb dX0_take_1 rfl (lv_at hl 0 rfl) ?_
  refine lv_aload_n hx hb dX0_take_2 rfl (lv_at hl 1 rfl) ?_
  refine lv_iload_n hx hb dX0_take_3 rfl (lv_at hl 3 rfl) ?_
  refine xcRi (va_runV (As := [.ref qi, .int (nI n)]) (rest := [.int (nI n)]) ⟨hx, hb, hml, hown, hts⟩ (c_countShared l D cy t0 (Sm M) (Sm M) h0 qi qd qi n n cap cap fi fi hV.1 hV.1 hV.2.2.1 hV.2.2.1 hV.2.2.2 hV.2.2.2) (cwV 2 hts gX0_take_X0_countShared rfl rfl rfl (by decide +kernel) ⟨Nat.le_of_ble_eq_true rfl, Nat.le_of_ble_eq_true rfl⟩) (xPr.giveV (wc := [(h0, .inr (0, [.ref qi, .ref qd, .int (nI n)])), (qi, xI cy cap fi), (qi, xI cy cap fi)]) hE hS hP [0, 1, 1] rfl 0 0 rfl rfl) rfl rfl hl.1 rfl (lv_room (Nat.le_of_ble_eq_true rfl)) dX0_take_4 ⟨(Nat.zero_le _), (Nat.zero_le _)⟩) (fun r_1 hr_2 => ?_)
  obtain rfl : r_1 = nI n := by rw [hr_2, hcs]
  refine lv_isub hx hb dX0_take_7 ?_
  refine lv_eqi (z := nI 0) ((pk_sub (Nat.le_refl _)).trans (congrArg nI (Nat.sub_self _))) ?_
  refine lv_istore (lv' := [(4, .int (nI 0)), (0, .ref h0), (1, .ref qi), (2, .ref qd), (3, .int (nI n))]) hx hb dX0_take_8 hl (by decide) rfl (fun ls hl => ?_)
  refine lv_aload_n hx hb dX0_take_10 rfl (lv_at hl 1 rfl) ?_
  refine lv_aload_n hx hb dX0_take_11 rfl (lv_at hl 1 rfl) ?_
  refine va_get (D := D) (ci := 0) (v := .int (nI n)) (C := RX0) (T := TX0) (N := 3) hx hb hts (by decide +kernel) hown hE.1 hP 0 rfl rfl 2 (by decide) (hts (.fieldLink RX0 18 "DistinctDale$Basket" "size" "I") (by decide +kernel)) (fun _ h9 => h9) rfl dX0_take_12 ?_
  refine lv_iload hx hb dX0_take_15 (lv_at hl 0 rfl) ?_
  refine lv_iadd hx hb dX0_take_17 ?_
  refine lv_eqi (z := nI n) (nI_add n 0) ?_
  refine xcRv (va_runV (As := [.int (nI n)]) (rest := []) ⟨hx, hb, hml, hown, hts⟩ (c_makeRoomNo l D cy t0 h0 qi qd n cap n fi hA4 hA3) (cwV 1 hts gX0_take_X0_makeRoomFor rfl rfl rfl (by decide +kernel) ⟨Nat.le_of_ble_eq_true rfl, Nat.le_of_ble_eq_true rfl⟩) (xPr.giveV (wc := [(h0, .inr (0, [.ref qi, .ref qd, .int (nI n)])), (qi, xI cy cap fi)]) hE hS hP [0, 1] rfl 0 0 rfl rfl) rfl rfl hl.1 rfl (lv_room (Nat.le_of_ble_eq_true rfl)) dX0_take_18 ⟨(Nat.zero_le _), (Nat.zero_le _)⟩) (fun hr_3 => ?_)
  refine lv_aload_n hx hb dX0_take_21 rfl (lv_at hl 1 rfl) ?_
  refine va_get (D := D) (ci := 0) (v := .int (nI n)) (C := RX0) (T := TX0) (N := 3) hx hb hts (by decide +kernel) hown hE.1 hP 0 rfl rfl 2 (by decide) (hts (.fieldLink RX0 18 "DistinctDale$Basket" "size" "I") (by decide +kernel)) (fun _ h9 => h9) rfl dX0_take_22 ?_
  refine lv_iconst (v := nI 1) hx hb dX0_take_25 (by decide) ?_
  refine lv_isub hx hb dX0_take_26 ?_
  refine lv_eqi (z := nI n - nI 1) rfl ?_
  refine lv_istore (lv' := [(5, .int (nI n - nI 1)), (4, .int (nI 0)), (0, .ref h0), (1, .ref qi), (2, .ref qd), (3, .int (nI n))]) hx hb dX0_take_27 hl (by decide) rfl (fun ls hl => ?_)
  refine lv_iload_n hx hb dX0_take_29 rfl (lv_at hl 5 rfl) ?_
  refine lv_iconst (v := nI 1) hx hb dX0_take_30 (by decide) ?_
  refine lv_isub hx hb dX0_take_31 ?_
  refine lv_eqi (z := nI n - nI 1) rfl ?_
  refine lv_istore (lv' := [(6, .int (nI n - nI 1)), (5, .int (nI n - nI 1)), (4, .int (nI 0)), (0, .ref h0), (1, .ref qi), (2, .ref qd), (3, .int (nI n))]) hx hb dX0_take_32 hl (by decide) rfl (fun ls hl => ?_)
  refine lv_aload_n hx hb dX0_take_34 rfl (lv_at hl 3 rfl) ?_
  refine va_get (D := D) (ci := 0) (v := .int (nI n)) (C := RX0) (T := TX0) (N := 3) hx hb hts (by decide +kernel) hown hE.1 hP 0 rfl rfl 2 (by decide) (hts (.fieldLink RX0 18 "DistinctDale$Basket" "size" "I") (by decide +kernel)) (fun _ h9 => h9) rfl dX0_take_35 ?_
  refine lv_iload hx hb dX0_take_38 (lv_at hl 2 rfl) ?_
  refine lv_iadd hx hb dX0_take_40 ?_
  refine lv_eqi (z := nI n) (nI_add n 0) ?_
  refine lv_iconst (v := nI 1) hx hb dX0_take_41 (by decide) ?_
  refine lv_isub hx hb dX0_take_42 ?_
  refine lv_eqi (z := nI n - nI 1) rfl ?_
  refine lv_istore (lv' := [(7, .int (nI n - nI 1)), (6, .int (nI n - nI 1)), (5, .int (nI n - nI 1)), (4, .int (nI 0)), (0, .ref h0), (1, .ref qi), (2, .ref qd), (3, .int (nI n))]) hx hb dX0_take_43 hl (by decide) rfl (fun ls hl => ?_)
  have lp : ∀ (n9 : Nat), ∀ (j : Nat), (hj : j ≤ n) → j < n9 → ∀ (H : Heap) (locs : List Loc), xP D [(h0, .inr (0, [.ref qi, .ref qd, .int (nI n)])), (qi, xI cy cap fi), (qd, xI cy cap fd)] H → va_D A [(h0, .inr (0, [.ref qi, .ref qd, .int (nI n)])), (qi, xI cy cap fi), (qd, xI cy cap fd)] → va_S A s.heap H locs → ∀ (ls : Array Slot), lv_has ls 12 [(0, .ref h0), (1, .ref qi), (2, .ref qd), (3, .int (nI n)), (4, .int (nI 0)), (5, .int (nI j - nI 1)), (6, .int (nI j - nI 1)), (7, .int (nI j - nI 1))] → W p l e ({ frames := 3, cells := 0, slots := 0, locals := 62 } : Room) s m [.ref h0, .ref qi, .ref qd, .int (nI n)].toArray below meth c H locs 0 0 Q (F0 m 45 ls []) := by
    intro n9
    induction n9 with
    | zero => intro j hj hm; exact absurd hm (Nat.not_lt_zero _)
    | succ n9 ih_lp =>
      intro j hj hm H locs hP hD hS ls hl
      refine lv_iload hx hb dX0_take_45 (lv_at hl 7 rfl) ?_
      refine lv_if_lt (tgt := 187) hx hb dX0_take_47 (by decide) (fun c_4 => ?_) (fun c_4 => ?_)
      · have hj0 := (m1lt (by omega)).mp c_4
        refine lv_aload_n hx hb dX0_take_187 rfl (lv_at hl 0 rfl) ?_
        refine lv_dup hx hb dX0_take_188 rfl ?_
        refine va_get (D := D) (ci := 0) (v := .int (nI n)) (C := RX0) (T := TX0) (N := 3) hx hb hts (by decide +kernel) hown hE.1 hP 0 rfl rfl 2 (by decide) (hts (.fieldLink RX0 18 "DistinctDale$Basket" "size" "I") (by decide +kernel)) (fun _ h9 => h9) rfl dX0_take_189 ?_
        refine lv_iload hx hb dX0_take_192 (lv_at hl 4 rfl) ?_
        refine lv_iadd hx hb dX0_take_194 ?_
        refine lv_eqi (z := nI n) (nI_add n 0) ?_
        refine va_put (D := D) (ci := 0) (v := .int (nI n)) (ty := .int) (C := RX0) (T := TX0) (N := 3) hx hb hts (by decide +kernel) tyX0 tyX0_ok nmX0 hown hE.1 hP hD hS 0 rfl rfl 2 (by decide) (hts (.fieldLink RX0 18 "DistinctDale$Basket" "size" "I") (by decide +kernel)) (fun _ h9 => h9) rfl (by decide +kernel) rfl rfl (Nat.le_of_ble_eq_true rfl) dX0_take_195 (fun H locs hP hD hS => ?_)
        have hP : xP D [(h0, .inr (0, [.ref qi, .ref qd, .int (nI n)])), (qi, xI cy cap fi), (qd, xI cy cap fd)] H := hP
        have hD : va_D A [(h0, .inr (0, [.ref qi, .ref qd, .int (nI n)])), (qi, xI cy cap fi), (qd, xI cy cap fd)] := hD
        refine lv_iload hx hb dX0_take_198 (lv_at hl 4 rfl) ?_
        exact kret _ () _ _ _ _ _ _ dX0_take_200 rfl hP hD hS (Nat.le_of_ble_eq_true rfl) (Nat.le_of_ble_eq_true rfl)
      · have hj1 : j ≠ 0 := fun q => c_4 ((m1lt (by omega)).mpr q)
        refine lv_iload hx hb dX0_take_50 (lv_at hl 6 rfl) ?_
        refine lv_if_lt (tgt := 187) hx hb dX0_take_52 (by decide) (fun c_5 => ?_) (fun c_5 => ?_)
        · exact absurd ((m1lt (by omega)).mp c_5) hj1
        · refine lv_aload_n hx hb dX0_take_55 rfl (lv_at hl 0 rfl) ?_
          refine va_get (D := D) (ci := 0) (v := .ref qi) (C := RX0) (T := TX0) (N := 3) hx hb hts (by decide +kernel) hown hE.1 hP 0 rfl rfl 0 (by decide) (hts (.fieldLink RX0 11 "DistinctDale$Basket" "items" "[I") (by decide +kernel)) (fun _ h9 => h9) rfl dX0_take_56 ?_
          refine lv_iload hx hb dX0_take_59 (lv_at hl 5 rfl) ?_
          refine xcRi (va_runSN (As := [.ref qi, .int (nI j - nI 1)]) (rest := []) ⟨hx, hb, hml, hown, hts⟩ (c_at l D cy t0 qi cap fi (nI j - nI 1) (by omega)) ⟨va_cnB 2 hts ggX0_take_X4_at rfl rfl rfl (xN3 hE.2.1.1) (hts (.initialized RX4) (by decide +kernel)) (by decide +kernel) ⟨Nat.le_of_ble_eq_true rfl, Nat.le_of_ble_eq_true rfl⟩, (hts (.static yX4_at) (by decide +kernel)), trivial⟩ (xPr.give (wc := [(qi, xI cy cap fi)]) hE hS hP [1] rfl) rfl rfl hl.1 rfl (lv_room (Nat.le_of_ble_eq_true rfl)) dX0_take_61 ⟨(Nat.zero_le _), (Nat.zero_le _)⟩) (fun r_6 hr_7 => ?_)
          obtain rfl : r_6 = fi (j - 1) := by rw [hr_7, pk_sub (by omega), xat_in (by omega) (by omega)]
          refine lv_istore (lv' := [(8, .int (fi (j - 1))), (0, .ref h0), (1, .ref qi), (2, .ref qd), (3, .int (nI n)), (4, .int (nI 0)), (5, .int (nI j - nI 1)), (6, .int (nI j - nI 1)), (7, .int (nI j - nI 1))]) hx hb dX0_take_64 hl (by decide) rfl (fun ls hl => ?_)
          refine lv_aload_n hx hb dX0_take_66 rfl (lv_at hl 2 rfl) ?_
          refine lv_iload hx hb dX0_take_67 (lv_at hl 7 rfl) ?_
          refine xcRi (va_runSN (As := [.ref qi, .int (nI j - nI 1)]) (rest := []) ⟨hx, hb, hml, hown, hts⟩ (c_at l D cy t0 qi cap fi (nI j - nI 1) (by omega)) ⟨va_cnB 2 hts ggX0_take_X4_at rfl rfl rfl (xN3 hE.2.1.1) (hts (.initialized RX4) (by decide +kernel)) (by decide +kernel) ⟨Nat.le_of_ble_eq_true rfl, Nat.le_of_ble_eq_true rfl⟩, (hts (.static yX4_at) (by decide +kernel)), trivial⟩ (xPr.give (wc := [(qi, xI cy cap fi)]) hE hS hP [1] rfl) rfl rfl hl.1 rfl (lv_room (Nat.le_of_ble_eq_true rfl)) dX0_take_69 ⟨(Nat.zero_le _), (Nat.zero_le _)⟩) (fun r_8 hr_9 => ?_)
          obtain rfl : r_8 = fi (j - 1) := by rw [hr_9, pk_sub (by omega), xat_in (by omega) (by omega)]
          refine lv_istore (lv' := [(9, .int (fi (j - 1))), (8, .int (fi (j - 1))), (0, .ref h0), (1, .ref qi), (2, .ref qd), (3, .int (nI n)), (4, .int (nI 0)), (5, .int (nI j - nI 1)), (6, .int (nI j - nI 1)), (7, .int (nI j - nI 1))]) hx hb dX0_take_72 hl (by decide) rfl (fun ls hl => ?_)
          refine lv_iload hx hb dX0_take_74 (lv_at hl 1 rfl) ?_
          refine lv_iload hx hb dX0_take_76 (lv_at hl 0 rfl) ?_
          refine lv_icmp_lt (tgt := 93) hx hb dX0_take_78 (by decide) (fun c_10 => ?_) (fun c_10 => ?_)
          · exact (Int32.lt_irrefl c_10).elim
          · refine lv_aload_n hx hb dX0_take_81 rfl (lv_at hl 2 rfl) ?_
            refine va_get (D := D) (ci := 0) (v := .ref qd) (C := RX0) (T := TX0) (N := 3) hx hb hts (by decide +kernel) hown hE.1 hP 0 rfl rfl 1 (by decide) (hts (.fieldLink RX0 15 "DistinctDale$Basket" "dates" "[I") (by decide +kernel)) (fun _ h9 => h9) rfl dX0_take_82 ?_
            refine lv_iload hx hb dX0_take_85 (lv_at hl 7 rfl) ?_
            refine xcRi (va_runSN (As := [.ref qd, .int (nI j - nI 1)]) (rest := []) ⟨hx, hb, hml, hown, hts⟩ (c_at l D cy t0 qd cap fd (nI j - nI 1) (by omega)) ⟨va_cnB 2 hts ggX0_take_X4_at rfl rfl rfl (xN3 hE.2.1.1) (hts (.initialized RX4) (by decide +kernel)) (by decide +kernel) ⟨Nat.le_of_ble_eq_true rfl, Nat.le_of_ble_eq_true rfl⟩, (hts (.static yX4_at) (by decide +kernel)), trivial⟩ (xPr.give (wc := [(qd, xI cy cap fd)]) hE hS hP [2] rfl) rfl rfl hl.1 rfl (lv_room (Nat.le_of_ble_eq_true rfl)) dX0_take_87 ⟨(Nat.zero_le _), (Nat.zero_le _)⟩) (fun r_11 hr_12 => ?_)
            obtain rfl : r_11 = fd (j - 1) := by rw [hr_12, pk_sub (by omega), xat_in (by omega) (by omega)]
            refine lv_goto (tgt := 94) hx hb dX0_take_90 (by decide) ?_
            refine lv_istore (lv' := [(10, .int (fd (j - 1))), (9, .int (fi (j - 1))), (8, .int (fi (j - 1))), (0, .ref h0), (1, .ref qi), (2, .ref qd), (3, .int (nI n)), (4, .int (nI 0)), (5, .int (nI j - nI 1)), (6, .int (nI j - nI 1)), (7, .int (nI j - nI 1))]) hx hb dX0_take_94 hl (by decide) rfl (fun ls hl => ?_)
            refine lv_iload hx hb dX0_take_96 (lv_at hl 1 rfl) ?_
            refine lv_iload hx hb dX0_take_98 (lv_at hl 2 rfl) ?_
            refine lv_icmp_lt (tgt := 112) hx hb dX0_take_100 (by decide) (fun c_13 => ?_) (fun c_13 => ?_)
            · exact (Int32.lt_irrefl c_13).elim
            · refine lv_aload_n hx hb dX0_take_103 rfl (lv_at hl 5 rfl) ?_
              refine lv_iload hx hb dX0_take_104 (lv_at hl 9 rfl) ?_
              refine xcRi (va_runSN (As := [.ref qd, .int (nI j - nI 1)]) (rest := []) ⟨hx, hb, hml, hown, hts⟩ (c_at l D cy t0 qd cap fd (nI j - nI 1) (by omega)) ⟨va_cnB 2 hts ggX0_take_X4_at rfl rfl rfl (xN3 hE.2.1.1) (hts (.initialized RX4) (by decide +kernel)) (by decide +kernel) ⟨Nat.le_of_ble_eq_true rfl, Nat.le_of_ble_eq_true rfl⟩, (hts (.static yX4_at) (by decide +kernel)), trivial⟩ (xPr.give (wc := [(qd, xI cy cap fd)]) hE hS hP [2] rfl) rfl rfl hl.1 rfl (lv_room (Nat.le_of_ble_eq_true rfl)) dX0_take_106 ⟨(Nat.zero_le _), (Nat.zero_le _)⟩) (fun r_14 hr_15 => ?_)
              obtain rfl : r_14 = fd (j - 1) := by rw [hr_15, pk_sub (by omega), xat_in (by omega) (by omega)]
              refine lv_goto (tgt := 113) hx hb dX0_take_109 (by decide) ?_
              refine lv_istore (lv' := [(11, .int (fd (j - 1))), (10, .int (fd (j - 1))), (9, .int (fi (j - 1))), (8, .int (fi (j - 1))), (0, .ref h0), (1, .ref qi), (2, .ref qd), (3, .int (nI n)), (4, .int (nI 0)), (5, .int (nI j - nI 1)), (6, .int (nI j - nI 1)), (7, .int (nI j - nI 1))]) hx hb dX0_take_113 hl (by decide) rfl (fun ls hl => ?_)
              refine lv_iload hx hb dX0_take_115 (lv_at hl 9 rfl) ?_
              refine lv_iload hx hb dX0_take_117 (lv_at hl 3 rfl) ?_
              refine lv_iload hx hb dX0_take_119 (lv_at hl 2 rfl) ?_
              refine lv_icmp_lt (tgt := 128) hx hb dX0_take_121 (by decide) (fun c_16 => ?_) (fun c_16 => ?_)
              · exact (Int32.lt_irrefl c_16).elim
              · refine lv_iconst (v := nI 1) hx hb dX0_take_124 (by decide) ?_
                refine lv_goto (tgt := 129) hx hb dX0_take_125 (by decide) ?_
                refine lv_isub hx hb dX0_take_129 ?_
                refine lv_eqi (z := nI (j - 1) - nI 1) (m1_s1 (by omega)) ?_
                refine lv_istore (lv' := [(5, .int (nI (j - 1) - nI 1)), (11, .int (fd (j - 1))), (10, .int (fd (j - 1))), (9, .int (fi (j - 1))), (8, .int (fi (j - 1))), (0, .ref h0), (1, .ref qi), (2, .ref qd), (3, .int (nI n)), (4, .int (nI 0)), (6, .int (nI j - nI 1)), (7, .int (nI j - nI 1))]) hx hb dX0_take_130 hl (by decide) rfl (fun ls hl => ?_)
                refine lv_iload hx hb dX0_take_132 (lv_at hl 10 rfl) ?_
                refine lv_iload hx hb dX0_take_134 (lv_at hl 3 rfl) ?_
                refine lv_iload hx hb dX0_take_136 (lv_at hl 4 rfl) ?_
                refine lv_icmp_lt (tgt := 145) hx hb dX0_take_138 (by decide) (fun c_17 => ?_) (fun c_17 => ?_)
                · exact (Int32.lt_irrefl c_17).elim
                · refine lv_iconst (v := nI 1) hx hb dX0_take_141 (by decide) ?_
                  refine lv_goto (tgt := 146) hx hb dX0_take_142 (by decide) ?_
                  refine lv_isub hx hb dX0_take_146 ?_
                  refine lv_eqi (z := nI (j - 1) - nI 1) (m1_s1 (by omega)) ?_
                  refine lv_istore (lv' := [(6, .int (nI (j - 1) - nI 1)), (5, .int (nI (j - 1) - nI 1)), (11, .int (fd (j - 1))), (10, .int (fd (j - 1))), (9, .int (fi (j - 1))), (8, .int (fi (j - 1))), (0, .ref h0), (1, .ref qi), (2, .ref qd), (3, .int (nI n)), (4, .int (nI 0)), (7, .int (nI j - nI 1))]) hx hb dX0_take_147 hl (by decide) rfl (fun ls hl => ?_)
                  refine lv_aload_n hx hb dX0_take_149 rfl (lv_at hl 6 rfl) ?_
                  refine va_get (D := D) (ci := 0) (v := .ref qi) (C := RX0) (T := TX0) (N := 3) hx hb hts (by decide +kernel) hown hE.1 hP 0 rfl rfl 0 (by decide) (hts (.fieldLink RX0 11 "DistinctDale$Basket" "items" "[I") (by decide +kernel)) (fun _ h9 => h9) rfl dX0_take_150 ?_
                  refine lv_iload hx hb dX0_take_153 (lv_at hl 11 rfl) ?_
                  refine lv_iload hx hb dX0_take_155 (lv_at hl 5 rfl) ?_
                  refine lv_iload hx hb dX0_take_157 (lv_at hl 4 rfl) ?_
                  refine va_mmax hx hb (hml.trans hl.1.symm) hown (hts (.methodLink RX0 33 Lib.Math.max.name) (by decide +kernel)) (hts (.static Lib.Math.max.name) (by decide +kernel)) (hts (.initialized "java/lang/Math") (by decide +kernel)) (hts (.code Lib.Math.max.name Lib.Math.max.code 2 (some .int)) (by decide +kernel)) (Nat.le_of_ble_eq_true rfl) (Nat.le_of_ble_eq_true rfl) (Nat.zero_le _) (Nat.zero_le _) dX0_take_159 ?_
                  refine lv_eqi (z := fi (j - 1)) (by split <;> rfl) ?_
                  refine xcWv (wr := [(h0, .inr (0, [.ref qi, .ref qd, .int (nI n)])), (qd, xI cy cap fd)]) (va_runSN (As := [.ref qi, .int (nI j - nI 1), .int (fi (j - 1))]) (rest := []) ⟨hx, hb, hml, hown, hts⟩ ((c_put l D cy t0 qi cap fi (nI j - nI 1) (fi (j - 1)) (by omega)) H.size) ⟨va_cnB 3 hts ggX0_take_X4_put rfl rfl rfl (xN4 hE.2.1.1) (hts (.initialized RX4) (by decide +kernel)) (by decide +kernel) ⟨Nat.le_of_ble_eq_true rfl, Nat.le_of_ble_eq_true rfl⟩, (hts (.static yX4_put) (by decide +kernel)), trivial⟩ (xPw.give (wc := [(qi, xI cy cap fi)]) hE hS hA hP hD [1] (by decide) rfl) rfl rfl hl.1 rfl (lv_room (Nat.le_of_ble_eq_true rfl)) dX0_take_162 ⟨(Nat.zero_le _), (Nat.zero_le _)⟩) hP hD hS hA [1] [0, 2] rfl rfl (by decide) (by decide) (fun u_20 H locs hr_19 hP hD hS => ?_)
                  obtain rfl : fi = u_20 := by rw [hr_19, pk_sub (by omega), xput_in (by omega) (by omega), upd_id rfl]
                  have hP := hP.sub (ws' := [(h0, .inr (0, [.ref qi, .ref qd, .int (nI n)])), (qi, xI cy cap fi), (qd, xI cy cap fd)]) [0, 2, 1] rfl
                  have hD := hD.sub (ws' := [(h0, .inr (0, [.ref qi, .ref qd, .int (nI n)])), (qi, xI cy cap fi), (qd, xI cy cap fd)]) [0, 2, 1] (by decide) rfl
                  refine lv_aload_n hx hb dX0_take_165 rfl (lv_at hl 6 rfl) ?_
                  refine va_get (D := D) (ci := 0) (v := .ref qd) (C := RX0) (T := TX0) (N := 3) hx hb hts (by decide +kernel) hown hE.1 hP 0 rfl rfl 1 (by decide) (hts (.fieldLink RX0 15 "DistinctDale$Basket" "dates" "[I") (by decide +kernel)) (fun _ h9 => h9) rfl dX0_take_166 ?_
                  refine lv_iload hx hb dX0_take_169 (lv_at hl 11 rfl) ?_
                  refine lv_iload hx hb dX0_take_171 (lv_at hl 3 rfl) ?_
                  refine lv_iload hx hb dX0_take_173 (lv_at hl 2 rfl) ?_
                  refine va_mmax hx hb (hml.trans hl.1.symm) hown (hts (.methodLink RX0 33 Lib.Math.max.name) (by decide +kernel)) (hts (.static Lib.Math.max.name) (by decide +kernel)) (hts (.initialized "java/lang/Math") (by decide +kernel)) (hts (.code Lib.Math.max.name Lib.Math.max.code 2 (some .int)) (by decide +kernel)) (Nat.le_of_ble_eq_true rfl) (Nat.le_of_ble_eq_true rfl) (Nat.zero_le _) (Nat.zero_le _) dX0_take_175 ?_
                  refine lv_eqi (z := fd (j - 1)) (by split <;> rfl) ?_
                  refine xcWv (wr := [(h0, .inr (0, [.ref qi, .ref qd, .int (nI n)])), (qi, xI cy cap fi)]) (va_runSN (As := [.ref qd, .int (nI j - nI 1), .int (fd (j - 1))]) (rest := []) ⟨hx, hb, hml, hown, hts⟩ ((c_put l D cy t0 qd cap fd (nI j - nI 1) (fd (j - 1)) (by omega)) H.size) ⟨va_cnB 3 hts ggX0_take_X4_put rfl rfl rfl (xN4 hE.2.1.1) (hts (.initialized RX4) (by decide +kernel)) (by decide +kernel) ⟨Nat.le_of_ble_eq_true rfl, Nat.le_of_ble_eq_true rfl⟩, (hts (.static yX4_put) (by decide +kernel)), trivial⟩ (xPw.give (wc := [(qd, xI cy cap fd)]) hE hS hA hP hD [2] (by decide) rfl) rfl rfl hl.1 rfl (lv_room (Nat.le_of_ble_eq_true rfl)) dX0_take_178 ⟨(Nat.zero_le _), (Nat.zero_le _)⟩) hP hD hS hA [2] [0, 1] rfl rfl (by decide) (by decide) (fun u_23 H locs hr_22 hP hD hS => ?_)
                  obtain rfl : fd = u_23 := by rw [hr_22, pk_sub (by omega), xput_in (by omega) (by omega), upd_id rfl]
                  have hP := hP.sub (ws' := [(h0, .inr (0, [.ref qi, .ref qd, .int (nI n)])), (qi, xI cy cap fi), (qd, xI cy cap fd)]) [0, 1, 2] rfl
                  have hD := hD.sub (ws' := [(h0, .inr (0, [.ref qi, .ref qd, .int (nI n)])), (qi, xI cy cap fi), (qd, xI cy cap fd)]) [0, 1, 2] (by decide) rfl
                  refine lv_iinc (v := nI (j - 1) - nI 1) (lv' := [(7, .int (nI (j - 1) - nI 1)), (6, .int (nI (j - 1) - nI 1)), (5, .int (nI (j - 1) - nI 1)), (11, .int (fd (j - 1))), (10, .int (fd (j - 1))), (9, .int (fi (j - 1))), (8, .int (fi (j - 1))), (0, .ref h0), (1, .ref qi), (2, .ref qd), (3, .int (nI n)), (4, .int (nI 0))]) hx hb dX0_take_181 hl (k := 11) rfl (m1_inc (by omega)) (by decide) rfl (fun ls hl => ?_)
                  refine lv_goto (tgt := 45) hx hb dX0_take_184 (by decide) ?_
                  exact ih_lp (j - 1) (by omega) (by omega) _ _ hP hD hS _ (lv_sub hl [7, 8, 9, 10, 11, 2, 1, 0] rfl)
  exact lp (n + 1) n (Nat.le_refl _) (by omega) _ _ hP hD hS _ (lv_sub hl [4, 5, 6, 7, 3, 2, 1, 0] rfl)
set_option maxHeartbeats 4000000 in
set_option maxRecDepth 100000 in
theorem c_mergeS (l : Launch) (D : va_G) (cy : Nat → ClassId) (t0 : Nat) (a4 aB o2 o3 oA oB oC qL qM k now : Nat) (ab : Nat → Nat) (M : Nat → Int32) (b qi qd n cap : Nat) (fi fd : Nat → Int32) (hV : BR M n cap fi fd) (hb6 : b < 6) : xWi (S := Unit) l yX4_merge wsX4_merge ({ frames := 4, cells := 0, slots := 0, locals := 93 } : Room) D cy t0 ([.ref a4, .int (nI b), .int (nI b)]) ([(a4, .inr (4, [.ref aB, .ref o2, .ref o3, .ref oA, .ref oB, .ref oC, .ref qL, .ref qM, .int (nI k), .int (nI now)])), (aB, xB cy 6 (fun j => some (ab j))), (ab b, .inr (0, [.ref qi, .ref qd, .int (nI n)])), (qi, xI cy cap fi), (qd, xI cy cap fd)]) (fun r _ => r = nI 0) (fun _ => [(a4, .inr (4, [.ref aB, .ref o2, .ref o3, .ref oA, .ref oB, .ref oC, .ref qL, .ref qM, .int (nI k), .int (nI now)])), (aB, xB cy 6 (fun j => some (ab j))), (ab b, .inr (0, [.ref qi, .ref qd, .int (nI n)])), (qi, xI cy cap fi), (qd, xI cy cap fd)]) 0 0 := by
  refine xofWi (cc := cX4_merge) (maxL := 5) (by decide) rfl (Nat.le_of_ble_eq_true rfl) (fun _ _ _ => rfl) ?_
  intro p e s m below meth c Q A ls hx hb hml hts hown hE hA H locs hP hD hl hS kret
  have hl : lv_has ls 5 [(0, .ref a4), (1, .int (nI b)), (2, .int (nI b))] := hl
  refine lv_aload_n hx hb dX4_merge_0 rfl (lv_at hl 0 rfl) ?_
  refine lv_iload_n hx hb dX4_merge_1 rfl (lv_at hl 1 rfl) ?_
  refine xcRa (va_runV (As := [.int (nI b)]) (rest := []) ⟨hx, hb, hml, hown, hts⟩ (c_need l D cy t0 a4 aB o2 o3 oA oB oC qL qM k now ab b hb6) (cwV 1 hts gX4_merge_X4_need rfl rfl rfl (by decide +kernel) ⟨Nat.le_of_ble_eq_true rfl, Nat.le_of_ble_eq_true rfl⟩) (xPr.giveV (wc := [(a4, .inr (4, [.ref aB, .ref o2, .ref o3, .ref oA, .ref oB, .ref oC, .ref qL, .ref qM, .int (nI k), .int (nI now)])), (aB, xB cy 6 (fun j => some (ab j)))]) hE hS hP [0, 1] rfl 0 4 rfl rfl) rfl rfl hl.1 rfl (lv_room (Nat.le_of_ble_eq_true rfl)) dX4_merge_2 ⟨(Nat.zero_le _), (Nat.zero_le _)⟩) (fun r9 hr_1 => ?_)
  obtain rfl : r9 = ab b := hr_1
  refine lv_astore_n (lv' := [(3, .ref (ab b)), (0, .ref a4), (1, .int (nI b)), (2, .int (nI b))]) hx hb dX4_merge_5 rfl hl (by decide) rfl (fun ls hl => ?_)
  refine lv_aload_n hx hb dX4_merge_6 rfl (lv_at hl 1 rfl) ?_
  refine lv_iload_n hx hb dX4_merge_7 rfl (lv_at hl 3 rfl) ?_
  refine xcRa (va_runV (As := [.int (nI b)]) (rest := []) ⟨hx, hb, hml, hown, hts⟩ (c_need l D cy t0 a4 aB o2 o3 oA oB oC qL qM k now ab b hb6) (cwV 1 hts gX4_merge_X4_need rfl rfl rfl (by decide +kernel) ⟨Nat.le_of_ble_eq_true rfl, Nat.le_of_ble_eq_true rfl⟩) (xPr.giveV (wc := [(a4, .inr (4, [.ref aB, .ref o2, .ref o3, .ref oA, .ref oB, .ref oC, .ref qL, .ref qM, .int (nI k), .int (nI now)])), (aB, xB cy 6 (fun j => some (ab j)))]) hE hS hP [0, 1] rfl 0 4 rfl rfl) rfl rfl hl.1 rfl (lv_room (Nat.le_of_ble_eq_true rfl)) dX4_merge_8 ⟨(Nat.zero_le _), (Nat.zero_le _)⟩) (fun r9 hr_2 => ?_)
  obtain rfl : r9 = ab b := hr_2
  refine lv_astore (lv' := [(4, .ref (ab b)), (3, .ref (ab b)), (0, .ref a4), (1, .int (nI b)), (2, .int (nI b))]) hx hb dX4_merge_11 hl (by decide) rfl (fun ls hl => ?_)
  refine lv_aload hx hb dX4_merge_13 (lv_at hl 0 rfl) ?_
  refine lv_aload_n hx hb dX4_merge_15 rfl (lv_at hl 1 rfl) ?_
  refine va_get (D := D) (ci := 0) (v := .ref qi) (C := RX0) (T := TX0) (N := 3) hx hb hts (by decide +kernel) hown hE.1 hP 2 rfl rfl 0 (by decide) (hts (.fieldLink RX4 88 "DistinctDale$Basket" "items" "[I") (by decide +kernel)) (fun _ h9 => h9) rfl dX4_merge_16 ?_
  refine lv_aload_n hx hb dX4_merge_19 rfl (lv_at hl 1 rfl) ?_
  refine va_get (D := D) (ci := 0) (v := .ref qd) (C := RX0) (T := TX0) (N := 3) hx hb hts (by decide +kernel) hown hE.1 hP 2 rfl rfl 1 (by decide) (hts (.fieldLink RX4 91 "DistinctDale$Basket" "dates" "[I") (by decide +kernel)) (fun _ h9 => h9) rfl dX4_merge_20 ?_
  refine lv_aload_n hx hb dX4_merge_23 rfl (lv_at hl 1 rfl) ?_
  refine va_get (D := D) (ci := 0) (v := .int (nI n)) (C := RX0) (T := TX0) (N := 3) hx hb hts (by decide +kernel) hown hE.1 hP 2 rfl rfl 2 (by decide) (hts (.fieldLink RX4 94 "DistinctDale$Basket" "size" "I") (by decide +kernel)) (fun _ h9 => h9) rfl dX4_merge_24 ?_
  refine xcWi (wr := [(a4, .inr (4, [.ref aB, .ref o2, .ref o3, .ref oA, .ref oB, .ref oC, .ref qL, .ref qM, .int (nI k), .int (nI now)])), (aB, xB cy 6 (fun j => some (ab j)))]) (va_runV (As := [.ref qi, .ref qd, .int (nI n)]) (rest := []) ⟨hx, hb, hml, hown, hts⟩ ((c_takeS l D cy t0 M (ab b) qi qd n cap fi fd hV) H.size) (cwV 3 hts gX4_merge_X0_take rfl rfl rfl (by decide +kernel) ⟨Nat.le_of_ble_eq_true rfl, Nat.le_of_ble_eq_true rfl⟩) (xPw.giveV (wc := [(ab b, .inr (0, [.ref qi, .ref qd, .int (nI n)])), (qi, xI cy cap fi), (qd, xI cy cap fd)]) hE hS hA hP hD [2, 3, 4] (by decide) rfl 2 0 rfl rfl) rfl rfl hl.1 rfl (lv_room (Nat.le_of_ble_eq_true rfl)) dX4_merge_27 ⟨(Nat.zero_le _), (Nat.zero_le _)⟩) hP hD hS hA [2, 3, 4] [0, 1] rfl rfl (by decide) (by decide) (fun r_3 u_5 H locs hr_4 hP hD hS => ?_)
  obtain rfl : r_3 = nI 0 := hr_4
  have hP := hP.sub (ws' := [(a4, .inr (4, [.ref aB, .ref o2, .ref o3, .ref oA, .ref oB, .ref oC, .ref qL, .ref qM, .int (nI k), .int (nI now)])), (aB, xB cy 6 (fun j => some (ab j))), (ab b, .inr (0, [.ref qi, .ref qd, .int (nI n)])), (qi, xI cy cap fi), (qd, xI cy cap fd)]) [0, 1, 2, 3, 4] rfl
  have hD := hD.sub (ws' := [(a4, .inr (4, [.ref aB, .ref o2, .ref o3, .ref oA, .ref oB, .ref oC, .ref qL, .ref qM, .int (nI k), .int (nI now)])), (aB, xB cy 6 (fun j => some (ab j))), (ab b, .inr (0, [.ref qi, .ref qd, .int (nI n)])), (qi, xI cy cap fi), (qd, xI cy cap fd)]) [0, 1, 2, 3, 4] (by decide) rfl
  exact kret _ () _ _ _ _ _ _ dX4_merge_30 rfl hP hD hS (Nat.le_of_ble_eq_true rfl) (Nat.le_of_ble_eq_true rfl)
end XX6A
