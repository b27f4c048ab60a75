section X41
theorem OW_hd {cy : Nat → ClassId} {a4 : Nat} {u : Nat → Nat} {k now : Nat} {st : ST} : (OW cy a4 u k now st)[0]? = some (a4, .inr (4, [.ref (u 0), .ref (u 1), .ref (u 3), .ref (u 5), .ref (u 7), .ref (u 9), .ref (u 11), .ref (u 12), .int (nI k), .int (nI now)])) := rfl
section XGV
variable {s : State} {H : Heap} {locs : List Loc} {A : Nat → Prop} {D : va_G} {cy : Nat → ClassId} {t0 : Nat} {args : List Value} {a4 b4 : Nat} {u w : Nat → Nat} {k now : Nat} {st : ST} {ws wo wp : va_W} {fs : List Value}
theorem gvW (hW : ws[0]? = some (a4, .inr (4, fs))) (hE : xE D cy t0 A s s.heap) (hS : va_S A s.heap H locs) (hA : ∀ q, s.heap.size ≤ q → A q) (hP : xP D ws H) (hD : va_D A ws) : PreV s H RX4 a4 (xPw D cy t0 (.ref a4 :: args) ws H.size) args :=
  xPw.giveV (q := (RX4, TX4, 10)) hE hS hA hP hD (xix 0 ws.length) (xix_nd _ _) (xix_map ws []) 0 4 rfl hW
theorem gv0 (hE : xE D cy t0 A s s.heap) (hS : va_S A s.heap H locs) (hA : ∀ q, s.heap.size ≤ q → A q) (hP : xP D (OW cy a4 u k now st) H) (hD : va_D A (OW cy a4 u k now st)) : PreV s H RX4 a4 (xPw D cy t0 (.ref a4 :: args) (OW cy a4 u k now st) H.size) args :=
  gvW OW_hd hE hS hA hP hD
theorem gvA (hE : xE D cy t0 A s s.heap) (hS : va_S A s.heap H locs) (hA : ∀ q, s.heap.size ≤ q → A q) (hP : xP D (OW cy a4 u k now st ++ wp) H) (hD : va_D A (OW cy a4 u k now st ++ wp)) : PreV s H RX4 a4 (xPw D cy t0 (.ref a4 :: args) (OW cy a4 u k now st) H.size) args :=
  xPw.giveV (q := (RX4, TX4, 10)) hE hS hA hP hD (xix 0 (OW cy a4 u k now st).length) (xix_nd _ _) (xix0 (OW cy a4 u k now st) wp) 0 4 rfl (by rw [List.getElem?_append_left (by show 0 < _; exact Nat.succ_pos _)]; rfl)
theorem gvB (hE : xE D cy t0 A s s.heap) (hS : va_S A s.heap H locs) (hA : ∀ q, s.heap.size ≤ q → A q) (hP : xP D (wo ++ OW cy a4 u k now st) H) (hD : va_D A (wo ++ OW cy a4 u k now st)) : PreV s H RX4 a4 (xPw D cy t0 (.ref a4 :: args) (OW cy a4 u k now st) H.size) args :=
  xPw.giveV (q := (RX4, TX4, 10)) hE hS hA hP hD (xix wo.length (OW cy a4 u k now st).length) (xix_nd _ _) (xix_map (OW cy a4 u k now st) wo) wo.length 4 rfl (by rw [List.getElem?_append_right (Nat.le_refl _), Nat.sub_self]; rfl)
theorem gs0 {As : List Value} (hE : xE D cy t0 A s s.heap) (hS : va_S A s.heap H locs) (hA : ∀ q, s.heap.size ≤ q → A q) (hP : xP D ws H) (hD : va_D A ws) : FrameBlind (xPw D cy t0 As ws H.size) ∧ ∀ U : State, U.heap = H → s.WarmedH U.vm → xPw D cy t0 As ws H.size As.toArray U :=
  xPw.give hE hS hA hP hD (xix 0 ws.length) (xix_nd _ _) (xix_map ws [])
theorem gsA {As : List Value} (hE : xE D cy t0 A s s.heap) (hS : va_S A s.heap H locs) (hA : ∀ q, s.heap.size ≤ q → A q) (hP : xP D (wo ++ wp) H) (hD : va_D A (wo ++ wp)) : FrameBlind (xPw D cy t0 As wo H.size) ∧ ∀ U : State, U.heap = H → s.WarmedH U.vm → xPw D cy t0 As wo H.size As.toArray U :=
  xPw.give hE hS hA hP hD (xix 0 wo.length) (xix_nd _ _) (xix0 wo wp)
theorem gsB {As : List Value} (hE : xE D cy t0 A s s.heap) (hS : va_S A s.heap H locs) (hA : ∀ q, s.heap.size ≤ q → A q) (hP : xP D (wo ++ wp) H) (hD : va_D A (wo ++ wp)) : FrameBlind (xPw D cy t0 As wp H.size) ∧ ∀ U : State, U.heap = H → s.WarmedH U.vm → xPw D cy t0 As wp H.size As.toArray U :=
  xPw.give hE hS hA hP hD (xix wo.length wp.length) (xix_nd _ _) (xix_map wp wo)
end XGV
/-- the low 31 bits; and by n -/
def lw0 (v : Int32) : Nat := v.toBitVec.toNat % 2 ^ 31
def lw (v : Int32) (n : Nat) : Nat := lw0 v % n
theorem lw0_lt (v : Int32) : lw0 v < 2 ^ 31 := Nat.mod_lt _ (Nat.two_pow_pos 31)
theorem lw_lt (v : Int32) {n : Nat} (h : 0 < n) : lw v n < n := Nat.mod_lt _ h
set_option maxHeartbeats 4000000 in
set_option maxRecDepth 100000 in
theorem c_low (l : Launch) (D : va_G) (cy : Nat → ClassId) (t0 : Nat) (v : Int32) (n : Nat) (hn0 : 0 < n) (hn : n < 2 ^ 31) : xRi l yL_low wsL_low ({ frames := 0, cells := 0, slots := 0, locals := 0 } : Room) D cy t0 ([.int v, .int (nI n)]) ([]) (fun r => r = nI (lw v n)) := by
  refine xofRi (cc := cL_low) (maxL := 2) (by decide) rfl (Nat.le_of_ble_eq_true rfl) (fun _ _ => rfl) ?_
  intro p e s m below meth c Q ls hx hb hml hts hown hE hP hl hS kret
  have hl : lv_has ls 2 [(0, .int v), (1, .int (nI n))] := hl
  refine lv_iload_n hx hb dL_low_0 rfl (lv_at hl 0 rfl) ?_
  refine lv_ldc (v := nI 2147483647) hx hb hown (hts (.constant RL 7 (2147483647)) (by decide +kernel)) dL_low_1 ?_
  refine lv_iand hx hb dL_low_3 ?_
  refine lv_eqi (z := nI (lw0 v)) (pk_and v 31 (by decide)) ?_
  refine lv_iload_n hx hb dL_low_4 rfl (lv_at hl 1 rfl) ?_
  refine lv_irem hx hb dL_low_5 (nI_ne0 hn0 hn) ?_
  refine lv_eqi (z := nI (lw v n)) (pk_rem (lw0_lt v) hn0 hn) ?_
  exact kret _ _ _ dL_low_6 rfl
end X41
