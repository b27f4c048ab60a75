section XX7
def xix : Nat → Nat → List Nat
  | _, 0 => []
  | k, n + 1 => k :: xix (k + 1) n
theorem xix_ge : ∀ (n k j : Nat), j ∈ xix k n → k ≤ j
  | 0, k, j, h => by cases h
  | n + 1, k, j, h => by
    cases h with
    | head => exact Nat.le_refl _
    | tail _ h => have := xix_ge n (k + 1) j h; omega
theorem xix_nd : ∀ (n k : Nat), va_nd (xix k n) = true
  | 0, _ => rfl
  | n + 1, k => by
    show (decide (k ∉ xix (k + 1) n) && va_nd (xix (k + 1) n)) = true
    have h2 : ¬ (k ∈ xix (k + 1) n) := fun h => by
      have := xix_ge n (k + 1) k h
      omega
    rw [xix_nd n (k + 1), show decide (k ∉ xix (k + 1) n) = true from decide_eq_true h2]
    rfl
theorem xix_map : ∀ (w pre : va_W), (xix pre.length w.length).map (fun i => (pre ++ w)[i]?) = w.map some
  | [], pre => rfl
  | q :: w, pre => by
    have h1 := xix_map w (pre ++ [q])
    have h2 : (pre ++ [q]) ++ w = pre ++ q :: w := by rw [List.append_assoc]; rfl
    rw [h2, List.length_append] at h1
    show (pre ++ q :: w)[pre.length]? :: (xix (pre.length + 1) w.length).map (fun i => (pre ++ q :: w)[i]?) = some q :: w.map some
    rw [show (xix (pre.length + 1) w.length).map (fun i => (pre ++ q :: w)[i]?) = w.map some from h1, List.getElem?_append_right (Nat.le_refl _), Nat.sub_self]
    rfl
theorem xix_fm : ∀ (w pre : va_W), (xix pre.length w.length).filterMap (fun i => (pre ++ w)[i]?) = w
  | [], pre => rfl
  | q :: w, pre => by
    have h1 := xix_fm w (pre ++ [q])
    have h2 : (pre ++ [q]) ++ w = pre ++ q :: w := by rw [List.append_assoc]; rfl
    rw [h2, List.length_append] at h1
    have h3 : (pre ++ q :: w)[pre.length]? = some q := by rw [List.getElem?_append_right (Nat.le_refl _), Nat.sub_self]; rfl
    show (pre.length :: xix (pre.length + 1) w.length).filterMap (fun i => (pre ++ q :: w)[i]?) = q :: w
    rw [List.filterMap_cons, h3]
    exact congrArg (fun z => q :: z) h1
theorem xix_dis (n : Nat) : ∀ i ∈ [0], i ∉ xix 1 n := fun i hi h => by
  have h1 := xix_ge n 1 i h
  cases hi with
  | head => omega
  | tail _ h2 => cases h2
section XWW
variable {l : Launch} {y : MethodName} {wl wl' : List Cond} {rm : Room} {D : va_G} {cy : Nat → ClassId} {t0 : Nat} {as : List Value} {ws : va_W} {mc ms : Nat} {cc : ByteArray} {maxL : Nat}
theorem xofWiW {S : Type} {hh : List (Nat × Nat × Nat × Nat)} {post : Int32 → S → Prop} {w1 : S → va_W} (hy : plainName y.cls = true) (hw : wl = Cond.codeWith y cc maxL (some .int) hh :: wl') (hL : (lg_sl as).length ≤ maxL)
    (body : ∀ (p : Program) (e : Env) (s : State) (m : MethodId) (below : List Frame) (meth : Method) (c : Code) (Q : State → Prop) (A : Nat → Prop) (ls : Array Slot), p.tables.exec = Jvm.exec → c.code = cc → c.maxLocals = maxL → (∀ w ∈ wl, w.before as.toArray s = true) → s.vm.findClass y.cls = some m.cls → xE D cy t0 A s s.heap → (∀ q, s.heap.size ≤ q → A q) → ∀ (H : Heap) (locs : List Loc), xP D ws H → va_D A ws → lv_has ls maxL (lv_args 0 as) → va_S A s.heap H locs → c.exceptionTable.toList = tableOf hh →
      (∀ (r : Int32) (u : S) (H : Heap) (locs : List Loc) (pc : Nat) (ls : Array Slot) (cells slots : Nat), decode cc pc = .ok (.ireturn, 1) → post r u → xP D (w1 u) H → va_D A (w1 u) → va_S A s.heap H locs → cells ≤ mc → slots ≤ ms → W p l e rm s m as.toArray below meth c H locs cells slots Q (F0 m pc ls [.int r])) →
      W p l e rm s m as.toArray below meth c H locs 0 0 Q (F0 m 0 ls [])) : xWi l y wl rm D cy t0 as ws post w1 mc ms := by
  intro sz
  refine va_MetW (cc := cc) (maxL := maxL) (ret := some .int) (hh := hh) hy hw ?_
  intro p e s m args below meth c s₁ B hml hv
  obtain ⟨rfl, hsz, hP, hD0, hE⟩ := hv
  subst hsz
  rw [lg_entry_eq]
  refine body p e s m below meth c _ (va_A ws s.heap.size) _ B.exec B.bytes hml (atoms_spec (ws := wl) B.pre) (findClass_of_methodNamed B.named) hE (fun q h => Or.inr h) s.heap [] hP hD0.self (lv_entry as hL) va_S.rf (vx_table (x := y) B (atoms_spec (ws := wl) B.pre _ (by rw [hw]; exact List.mem_cons_self))) (fun r u H locs pc ls cells slots hd hp hP1 hD1 hS1 h1 h2 => ?_)
  exact W.widen h1 h2 (W.zret B.exec B.bytes B.returns rfl (fun t ht hW => ⟨⟨r, u, rfl, hp, by rw [ht]; exact hP1, hD1⟩, hS1.F ht⟩) hS1.2.2 hd (hlocks := B.notSynchronized))
end XWW
set_option maxHeartbeats 4000000 in
set_option maxRecDepth 100000 in
theorem w_add {S : Type} (l : Launch) (D : va_G) (cy : Nat → ClassId) (t0 : Nat) (aO a4 : Nat) (fo : Nat → Int64) (fs : List Value) (p0 p1 : Int32) (ws2 : va_W) {F LO mc ms : Nat} {post : Int32 → S → Prop} {w1 : S → va_W}  (hc : xWi l yX4_add wsX4_add ({ frames := F, cells := mc, slots := ms, locals := LO } : Room) D cy t0 ([.ref a4, .int p0, .int p1]) ((a4, .inr (4, fs)) :: ws2) post w1 mc ms) : xWi (S := Int32 × S) l yL_add wsL_add ({ frames := F + 1, cells := mc, slots := ms, locals := LO + 60 } : Room) D cy t0 ([.ref a4, .int p0, .int p1, .ref aO]) ((aO, xL cy 1 fo) :: (a4, .inr (4, fs)) :: ws2) (fun r u => r = nI 0 ∧ post u.1 u.2) (fun u => (aO, xL cy 1 (vp_updL fo 0 (if u.1 = 0 then lN 0 else lN 1))) :: w1 u.2) mc ms := by
  refine xofWiW (cc := cL_add) (maxL := 5) (hh := [(0, 17, 20, 13), (0, 17, 24, 15)]) (by decide) rfl (Nat.le_of_ble_eq_true rfl) ?_
  intro p e s m below meth c Q A ls hx hb hml hts hown hE hA H locs hP hD hl hS htab kret
  have hl : lv_has ls 5 [(0, .ref a4), (1, .int p0), (2, .int p1), (3, .ref aO)] := hl
  refine lv_aload_n hx hb dL_add_0 rfl (lv_at hl 3 rfl) ?_
  refine lv_iconst (v := nI 0) hx hb dL_add_1 (by decide) ?_
  refine lv_aload_n hx hb dL_add_2 rfl (lv_at hl 0 rfl) ?_
  refine lv_iload_n hx hb dL_add_3 rfl (lv_at hl 1 rfl) ?_
  refine lv_iload_n hx hb dL_add_4 rfl (lv_at hl 2 rfl) ?_
  refine xcWi (wr := [(aO, xL cy 1 fo)]) (va_runV (As := [.int p0, .int p1]) (rest := [.int (nI 0), .ref aO]) ⟨hx, hb, hml, hown, hts⟩ (hc H.size) (cwV 2 hts gL_add_X4_add rfl rfl rfl (by decide +kernel) ⟨Nat.le_refl _, (by show 8 + (4 + 11) + LO ≤ LO + 60; omega)⟩) (xPw.giveV (wc := ((a4, .inr (4, fs)) :: ws2)) hE hS hA hP hD (xix 1 (ws2.length + 1)) (xix_nd _ _) (xix_map ((a4, .inr (4, fs)) :: ws2) [(aO, xL cy 1 fo)]) 1 4 rfl rfl) rfl rfl hl.1 rfl (lv_room (Nat.le_of_ble_eq_true rfl)) dL_add_5 ⟨(Nat.le_of_eq (Nat.zero_add _)), (Nat.le_of_eq (Nat.zero_add _))⟩) hP hD hS hA (xix 1 (ws2.length + 1)) [0] (xix_map ((a4, .inr (4, fs)) :: ws2) [(aO, xL cy 1 fo)]) rfl (by decide) (xix_dis _) (fun r u H locs hq hP hD hS => ?_)
  refine lv_if_eq (tgt := 15) hx hb dL_add_8 (by decide) (fun c_1 => ?_) (fun c_1 => ?_)
  · refine lv_lconst (v := lN 0) hx hb dL_add_15 (by decide) ?_
    refine lv_eql (z := (if r = 0 then lN 0 else lN 1)) (if_pos c_1).symm ?_
    refine va_last (D := D) hx hb hE.1 hP hD hS 0 2 rfl rfl (vp_in_nI (by omega) (by omega)) dL_add_16 (fun H locs hP hD hS => ?_)
    rw [nI_clamp (by omega)] at hP hD
    have hP : xP D ((aO, xL cy 1 (vp_updL fo 0 (if r = 0 then lN 0 else lN 1))) :: w1 u) H := hP
    have hD : va_D A ((aO, xL cy 1 (vp_updL fo 0 (if r = 0 then lN 0 else lN 1))) :: w1 u) := hD
    refine lv_goto (tgt := 28) hx hb dL_add_17 (by decide) ?_
    refine lv_iconst (v := nI 0) hx hb dL_add_28 (by decide) ?_
    exact kret _ (r, u) _ _ _ _ _ _ dL_add_29 ⟨rfl, hq⟩ hP hD hS (Nat.le_of_eq (Nat.zero_add _)) (Nat.le_of_eq (Nat.zero_add _))
  · refine lv_lconst (v := lN 1) hx hb dL_add_11 (by decide) ?_
    refine lv_goto (tgt := 16) hx hb dL_add_12 (by decide) ?_
    refine lv_eql (z := (if r = 0 then lN 0 else lN 1)) (if_neg c_1).symm ?_
    refine va_last (D := D) hx hb hE.1 hP hD hS 0 2 rfl rfl (vp_in_nI (by omega) (by omega)) dL_add_16 (fun H locs hP hD hS => ?_)
    rw [nI_clamp (by omega)] at hP hD
    have hP : xP D ((aO, xL cy 1 (vp_updL fo 0 (if r = 0 then lN 0 else lN 1))) :: w1 u) H := hP
    have hD : va_D A ((aO, xL cy 1 (vp_updL fo 0 (if r = 0 then lN 0 else lN 1))) :: w1 u) := hD
    refine lv_goto (tgt := 28) hx hb dL_add_17 (by decide) ?_
    refine lv_iconst (v := nI 0) hx hb dL_add_28 (by decide) ?_
    exact kret _ (r, u) _ _ _ _ _ _ dL_add_29 ⟨rfl, hq⟩ hP hD hS (Nat.le_of_eq (Nat.zero_add _)) (Nat.le_of_eq (Nat.zero_add _))
set_option maxHeartbeats 4000000 in
set_option maxRecDepth 100000 in
theorem w_addT {S : Type} (l : Launch) (D : va_G) (cy : Nat → ClassId) (t0 : Nat) (aO a4 : Nat) (fo : Nat → Int64) (fs : List Value) (p0 p1 : Int32) (ws2 : va_W) {F LO : Nat} {w1 : S → va_W}  (hc : xT l yX4_add wsX4_add ({ frames := F, cells := 1, slots := 6, locals := LO } : Room) D cy t0 ([.ref a4, .int p0, .int p1]) ((a4, .inr (4, fs)) :: ws2) xIO w1 1 6) : xWi (S := S) l yL_add wsL_add ({ frames := F + 1, cells := 1, slots := 6, locals := LO + 60 } : Room) D cy t0 ([.ref a4, .int p0, .int p1, .ref aO]) ((aO, xL cy 1 fo) :: (a4, .inr (4, fs)) :: ws2) (fun r _ => r = nI 1) (fun u => (aO, xL cy 1 fo) :: w1 u) 1 6 := by
  refine xofWiW (cc := cL_add) (maxL := 5) (hh := [(0, 17, 20, 13), (0, 17, 24, 15)]) (by decide) rfl (Nat.le_of_ble_eq_true rfl) ?_
  intro p e s m below meth c Q A ls hx hb hml hts hown hE hA H locs hP hD hl hS htab kret
  have hl : lv_has ls 5 [(0, .ref a4), (1, .int p0), (2, .int p1), (3, .ref aO)] := hl
  refine lv_aload_n hx hb dL_add_0 rfl (lv_at hl 3 rfl) ?_
  refine lv_iconst (v := nI 0) hx hb dL_add_1 (by decide) ?_
  refine lv_aload_n hx hb dL_add_2 rfl (lv_at hl 0 rfl) ?_
  refine lv_iload_n hx hb dL_add_3 rfl (lv_at hl 1 rfl) ?_
  refine lv_iload_n hx hb dL_add_4 rfl (lv_at hl 2 rfl) ?_
  refine xcT (wr := [(aO, xL cy 1 fo)]) (vx_runV (As := [.int p0, .int p1]) (rest := [.int (nI 0), .ref aO]) ⟨hx, hb, hml, hown, hts⟩ (hc H.size) (cwV 2 hts gL_add_X4_add rfl rfl rfl (by decide +kernel) ⟨Nat.le_refl _, (by show 8 + (4 + 11) + LO ≤ LO + 60; omega)⟩) (xPw.giveV (wc := ((a4, .inr (4, fs)) :: ws2)) hE hS hA hP hD (xix 1 (ws2.length + 1)) (xix_nd _ _) (xix_map ((a4, .inr (4, fs)) :: ws2) [(aO, xL cy 1 fo)]) 1 4 rfl rfl) rfl rfl hl.1 rfl (lv_room (Nat.le_of_ble_eq_true rfl)) dL_add_5 ⟨Nat.le_of_ble_eq_true rfl, Nat.le_of_ble_eq_true rfl⟩) hP hD hS hA (xix 1 (ws2.length + 1)) [0] (xix_map ((a4, .inr (4, fs)) :: ws2) [(aO, xL cy 1 fo)]) rfl (by decide) (xix_dis _) (fun u q ce H locs hP hD hS hce hcv hcl => ?_)
  refine vx_catch (name := xIO) hown [] ⟨0, 17, 20, 13⟩ [⟨0, 17, 24, 15⟩] htab (fun z hz => by cases hz) (by decide) (by decide) (hts (.classLink RL 13 xIO) (by decide +kernel)) (va_Nw.use rfl hE.2.1.2.2.1.1) hce hcv hcl ?_
  refine lv_astore (lv' := [(4, .ref q), (0, .ref a4), (1, .int p0), (2, .int p1), (3, .ref aO)]) hx hb dL_add_20 hl (by decide) rfl (fun ls hl => ?_)
  refine lv_iconst (v := nI 1) hx hb dL_add_22 (by decide) ?_
  exact kret _ u _ _ _ _ _ _ dL_add_23 rfl hP hD hS (Nat.le_of_eq (Nat.zero_add _)) (Nat.le_of_eq (Nat.zero_add _))
set_option maxHeartbeats 4000000 in
set_option maxRecDepth 100000 in
theorem w_addV {S : Type} (l : Launch) (D : va_G) (cy : Nat → ClassId) (t0 : Nat) (aO a4 : Nat) (fo : Nat → Int64) (fs : List Value) (p0 p1 : Int32) (ws2 : va_W) {F LO : Nat} {w1 : S → va_W}  (hc : xT l yX4_add wsX4_add ({ frames := F, cells := 1, slots := 6, locals := LO } : Room) D cy t0 ([.ref a4, .int p0, .int p1]) ((a4, .inr (4, fs)) :: ws2) xIA w1 1 6) : xWi (S := S) l yL_add wsL_add ({ frames := F + 1, cells := 1, slots := 6, locals := LO + 60 } : Room) D cy t0 ([.ref a4, .int p0, .int p1, .ref aO]) ((aO, xL cy 1 fo) :: (a4, .inr (4, fs)) :: ws2) (fun r _ => r = nI 2) (fun u => (aO, xL cy 1 fo) :: w1 u) 1 6 := by
  refine xofWiW (cc := cL_add) (maxL := 5) (hh := [(0, 17, 20, 13), (0, 17, 24, 15)]) (by decide) rfl (Nat.le_of_ble_eq_true rfl) ?_
  intro p e s m below meth c Q A ls hx hb hml hts hown hE hA H locs hP hD hl hS htab kret
  have hl : lv_has ls 5 [(0, .ref a4), (1, .int p0), (2, .int p1), (3, .ref aO)] := hl
  refine lv_aload_n hx hb dL_add_0 rfl (lv_at hl 3 rfl) ?_
  refine lv_iconst (v := nI 0) hx hb dL_add_1 (by decide) ?_
  refine lv_aload_n hx hb dL_add_2 rfl (lv_at hl 0 rfl) ?_
  refine lv_iload_n hx hb dL_add_3 rfl (lv_at hl 1 rfl) ?_
  refine lv_iload_n hx hb dL_add_4 rfl (lv_at hl 2 rfl) ?_
  refine xcT (wr := [(aO, xL cy 1 fo)]) (vx_runV (As := [.int p0, .int p1]) (rest := [.int (nI 0), .ref aO]) ⟨hx, hb, hml, hown, hts⟩ (hc H.size) (cwV 2 hts gL_add_X4_add rfl rfl rfl (by decide +kernel) ⟨Nat.le_refl _, (by show 8 + (4 + 11) + LO ≤ LO + 60; omega)⟩) (xPw.giveV (wc := ((a4, .inr (4, fs)) :: ws2)) hE hS hA hP hD (xix 1 (ws2.length + 1)) (xix_nd _ _) (xix_map ((a4, .inr (4, fs)) :: ws2) [(aO, xL cy 1 fo)]) 1 4 rfl rfl) rfl rfl hl.1 rfl (lv_room (Nat.le_of_ble_eq_true rfl)) dL_add_5 ⟨Nat.le_of_ble_eq_true rfl, Nat.le_of_ble_eq_true rfl⟩) hP hD hS hA (xix 1 (ws2.length + 1)) [0] (xix_map ((a4, .inr (4, fs)) :: ws2) [(aO, xL cy 1 fo)]) rfl (by decide) (xix_dis _) (fun u q ce H locs hP hD hS hce hcv hcl => ?_)
  refine vx_catch (name := xIA) hown [⟨0, 17, 20, 13⟩] ⟨0, 17, 24, 15⟩ [] htab (fun z hz => by
      cases hz with
      | head => exact Or.inr ⟨by decide, xIO, hts (.classLink RL 13 xIO) (by decide +kernel), hE.2.1.2.2.1.2.2.2⟩
      | tail _ h9 => cases h9) (by decide) (by decide) (hts (.classLink RL 15 xIA) (by decide +kernel)) (va_Nw.use rfl hE.2.1.2.2.1.2.1) hce hcv hcl ?_
  refine lv_astore (lv' := [(4, .ref q), (0, .ref a4), (1, .int p0), (2, .int p1), (3, .ref aO)]) hx hb dL_add_24 hl (by decide) rfl (fun ls hl => ?_)
  refine lv_iconst (v := nI 2) hx hb dL_add_26 (by decide) ?_
  exact kret _ u _ _ _ _ _ _ dL_add_27 rfl hP hD hS (Nat.le_of_eq (Nat.zero_add _)) (Nat.le_of_eq (Nat.zero_add _))
set_option maxHeartbeats 4000000 in
set_option maxRecDepth 100000 in
theorem w_addLine {S : Type} (l : Launch) (D : va_G) (cy : Nat → ClassId) (t0 : Nat) (aO a4 : Nat) (fo : Nat → Int64) (fs : List Value) (p0 p1 p2 p3 : Int32) (ws2 : va_W) {F LO mc ms : Nat} {post : Int32 → S → Prop} {w1 : S → va_W}  (hc : xWi l yX4_addLine wsX4_addLine ({ frames := F, cells := mc, slots := ms, locals := LO } : Room) D cy t0 ([.ref a4, .int p0, .int p1, .int p2, .int p3]) ((a4, .inr (4, fs)) :: ws2) post w1 mc ms) : xWi (S := Int32 × S) l yL_addLine wsL_addLine ({ frames := F + 1, cells := mc, slots := ms, locals := LO + 60 } : Room) D cy t0 ([.ref a4, .int p0, .int p1, .int p2, .int p3, .ref aO]) ((aO, xL cy 1 fo) :: (a4, .inr (4, fs)) :: ws2) (fun r u => r = nI 0 ∧ post u.1 u.2) (fun u => (aO, xL cy 1 (vp_updL fo 0 u.1.toInt64)) :: w1 u.2) mc ms := by
  refine xofWiW (cc := cL_addLine) (maxL := 7) (hh := [(0, 14, 17, 13), (0, 14, 21, 15)]) (by decide) rfl (Nat.le_of_ble_eq_true rfl) ?_
  intro p e s m below meth c Q A ls hx hb hml hts hown hE hA H locs hP hD hl hS htab kret
  have hl : lv_has ls 7 [(0, .ref a4), (1, .int p0), (2, .int p1), (3, .int p2), (4, .int p3), (5, .ref aO)] := hl
  refine lv_aload hx hb dL_addLine_0 (lv_at hl 5 rfl) ?_
  refine lv_iconst (v := nI 0) hx hb dL_addLine_2 (by decide) ?_
  refine lv_aload_n hx hb dL_addLine_3 rfl (lv_at hl 0 rfl) ?_
  refine lv_iload_n hx hb dL_addLine_4 rfl (lv_at hl 1 rfl) ?_
  refine lv_iload_n hx hb dL_addLine_5 rfl (lv_at hl 2 rfl) ?_
  refine lv_iload_n hx hb dL_addLine_6 rfl (lv_at hl 3 rfl) ?_
  refine lv_iload hx hb dL_addLine_7 (lv_at hl 4 rfl) ?_
  refine xcWi (wr := [(aO, xL cy 1 fo)]) (va_runV (As := [.int p0, .int p1, .int p2, .int p3]) (rest := [.int (nI 0), .ref aO]) ⟨hx, hb, hml, hown, hts⟩ (hc H.size) (cwV 4 hts gL_addLine_X4_addLine rfl rfl rfl (by decide +kernel) ⟨Nat.le_refl _, (by show 8 + (6 + 11) + LO ≤ LO + 60; omega)⟩) (xPw.giveV (wc := ((a4, .inr (4, fs)) :: ws2)) hE hS hA hP hD (xix 1 (ws2.length + 1)) (xix_nd _ _) (xix_map ((a4, .inr (4, fs)) :: ws2) [(aO, xL cy 1 fo)]) 1 4 rfl rfl) rfl rfl hl.1 rfl (lv_room (Nat.le_of_ble_eq_true rfl)) dL_addLine_9 ⟨(Nat.le_of_eq (Nat.zero_add _)), (Nat.le_of_eq (Nat.zero_add _))⟩) hP hD hS hA (xix 1 (ws2.length + 1)) [0] (xix_map ((a4, .inr (4, fs)) :: ws2) [(aO, xL cy 1 fo)]) rfl (by decide) (xix_dis _) (fun r u H locs hq hP hD hS => ?_)
  refine lv_i2l (v := r.toInt64) hx hb dL_addLine_12 rfl ?_
  refine va_last (D := D) hx hb hE.1 hP hD hS 0 2 rfl rfl (vp_in_nI (by omega) (by omega)) dL_addLine_13 (fun H locs hP hD hS => ?_)
  rw [nI_clamp (by omega)] at hP hD
  have hP : xP D ((aO, xL cy 1 (vp_updL fo 0 r.toInt64)) :: w1 u) H := hP
  have hD : va_D A ((aO, xL cy 1 (vp_updL fo 0 r.toInt64)) :: w1 u) := hD
  refine lv_goto (tgt := 25) hx hb dL_addLine_14 (by decide) ?_
  refine lv_iconst (v := nI 0) hx hb dL_addLine_25 (by decide) ?_
  exact kret _ (r, u) _ _ _ _ _ _ dL_addLine_26 ⟨rfl, hq⟩ hP hD hS (Nat.le_of_eq (Nat.zero_add _)) (Nat.le_of_eq (Nat.zero_add _))
set_option maxHeartbeats 4000000 in
set_option maxRecDepth 100000 in
theorem w_addLineT {S : Type} (l : Launch) (D : va_G) (cy : Nat → ClassId) (t0 : Nat) (aO a4 : Nat) (fo : Nat → Int64) (fs : List Value) (p0 p1 p2 p3 : Int32) (ws2 : va_W) {F LO : Nat} {w1 : S → va_W}  (hc : xT l yX4_addLine wsX4_addLine ({ frames := F, cells := 1, slots := 6, locals := LO } : Room) D cy t0 ([.ref a4, .int p0, .int p1, .int p2, .int p3]) ((a4, .inr (4, fs)) :: ws2) xIO w1 1 6) : xWi (S := S) l yL_addLine wsL_addLine ({ frames := F + 1, cells := 1, slots := 6, locals := LO + 60 } : Room) D cy t0 ([.ref a4, .int p0, .int p1, .int p2, .int p3, .ref aO]) ((aO, xL cy 1 fo) :: (a4, .inr (4, fs)) :: ws2) (fun r _ => r = nI 1) (fun u => (aO, xL cy 1 fo) :: w1 u) 1 6 := by
  refine xofWiW (cc := cL_addLine) (maxL := 7) (hh := [(0, 14, 17, 13), (0, 14, 21, 15)]) (by decide) rfl (Nat.le_of_ble_eq_true rfl) ?_
  intro p e s m below meth c Q A ls hx hb hml hts hown hE hA H locs hP hD hl hS htab kret
  have hl : lv_has ls 7 [(0, .ref a4), (1, .int p0), (2, .int p1), (3, .int p2), (4, .int p3), (5, .ref aO)] := hl
  refine lv_aload hx hb dL_addLine_0 (lv_at hl 5 rfl) ?_
  refine lv_iconst (v := nI 0) hx hb dL_addLine_2 (by decide) ?_
  refine lv_aload_n hx hb dL_addLine_3 rfl (lv_at hl 0 rfl) ?_
  refine lv_iload_n hx hb dL_addLine_4 rfl (lv_at hl 1 rfl) ?_
  refine lv_iload_n hx hb dL_addLine_5 rfl (lv_at hl 2 rfl) ?_
  refine lv_iload_n hx hb dL_addLine_6 rfl (lv_at hl 3 rfl) ?_
  refine lv_iload hx hb dL_addLine_7 (lv_at hl 4 rfl) ?_
  refine xcT (wr := [(aO, xL cy 1 fo)]) (vx_runV (As := [.int p0, .int p1, .int p2, .int p3]) (rest := [.int (nI 0), .ref aO]) ⟨hx, hb, hml, hown, hts⟩ (hc H.size) (cwV 4 hts gL_addLine_X4_addLine rfl rfl rfl (by decide +kernel) ⟨Nat.le_refl _, (by show 8 + (6 + 11) + LO ≤ LO + 60; omega)⟩) (xPw.giveV (wc := ((a4, .inr (4, fs)) :: ws2)) hE hS hA hP hD (xix 1 (ws2.length + 1)) (xix_nd _ _) (xix_map ((a4, .inr (4, fs)) :: ws2) [(aO, xL cy 1 fo)]) 1 4 rfl rfl) rfl rfl hl.1 rfl (lv_room (Nat.le_of_ble_eq_true rfl)) dL_addLine_9 ⟨Nat.le_of_ble_eq_true rfl, Nat.le_of_ble_eq_true rfl⟩) hP hD hS hA (xix 1 (ws2.length + 1)) [0] (xix_map ((a4, .inr (4, fs)) :: ws2) [(aO, xL cy 1 fo)]) rfl (by decide) (xix_dis _) (fun u q ce H locs hP hD hS hce hcv hcl => ?_)
  refine vx_catch (name := xIO) hown [] ⟨0, 14, 17, 13⟩ [⟨0, 14, 21, 15⟩] htab (fun z hz => by cases hz) (by decide) (by decide) (hts (.classLink RL 13 xIO) (by decide +kernel)) (va_Nw.use rfl hE.2.1.2.2.1.1) hce hcv hcl ?_
  refine lv_astore (lv' := [(6, .ref q), (0, .ref a4), (1, .int p0), (2, .int p1), (3, .int p2), (4, .int p3), (5, .ref aO)]) hx hb dL_addLine_17 hl (by decide) rfl (fun ls hl => ?_)
  refine lv_iconst (v := nI 1) hx hb dL_addLine_19 (by decide) ?_
  exact kret _ u _ _ _ _ _ _ dL_addLine_20 rfl hP hD hS (Nat.le_of_eq (Nat.zero_add _)) (Nat.le_of_eq (Nat.zero_add _))
set_option maxHeartbeats 4000000 in
set_option maxRecDepth 100000 in
theorem w_addLineV {S : Type} (l : Launch) (D : va_G) (cy : Nat → ClassId) (t0 : Nat) (aO a4 : Nat) (fo : Nat → Int64) (fs : List Value) (p0 p1 p2 p3 : Int32) (ws2 : va_W) {F LO : Nat} {w1 : S → va_W}  (hc : xT l yX4_addLine wsX4_addLine ({ frames := F, cells := 1, slots := 6, locals := LO } : Room) D cy t0 ([.ref a4, .int p0, .int p1, .int p2, .int p3]) ((a4, .inr (4, fs)) :: ws2) xIA w1 1 6) : xWi (S := S) l yL_addLine wsL_addLine ({ frames := F + 1, cells := 1, slots := 6, locals := LO + 60 } : Room) D cy t0 ([.ref a4, .int p0, .int p1, .int p2, .int p3, .ref aO]) ((aO, xL cy 1 fo) :: (a4, .inr (4, fs)) :: ws2) (fun r _ => r = nI 2) (fun u => (aO, xL cy 1 fo) :: w1 u) 1 6 := by
  refine xofWiW (cc := cL_addLine) (maxL := 7) (hh := [(0, 14, 17, 13), (0, 14, 21, 15)]) (by decide) rfl (Nat.le_of_ble_eq_true rfl) ?_
  intro p e s m below meth c Q A ls hx hb hml hts hown hE hA H locs hP hD hl hS htab kret
  have hl : lv_has ls 7 [(0, .ref a4), (1, .int p0), (2, .int p1), (3, .int p2), (4, .int p3), (5, .ref aO)] := hl
  refine lv_aload hx hb dL_addLine_0 (lv_at hl 5 rfl) ?_
  refine lv_iconst (v := nI 0) hx hb dL_addLine_2 (by decide) ?_
  refine lv_aload_n hx hb dL_addLine_3 rfl (lv_at hl 0 rfl) ?_
  refine lv_iload_n hx hb dL_addLine_4 rfl (lv_at hl 1 rfl) ?_
  refine lv_iload_n hx hb dL_addLine_5 rfl (lv_at hl 2 rfl) ?_
  refine lv_iload_n hx hb dL_addLine_6 rfl (lv_at hl 3 rfl) ?_
  refine lv_iload hx hb dL_addLine_7 (lv_at hl 4 rfl) ?_
  refine xcT (wr := [(aO, xL cy 1 fo)]) (vx_runV (As := [.int p0, .int p1, .int p2, .int p3]) (rest := [.int (nI 0), .ref aO]) ⟨hx, hb, hml, hown, hts⟩ (hc H.size) (cwV 4 hts gL_addLine_X4_addLine rfl rfl rfl (by decide +kernel) ⟨Nat.le_refl _, (by show 8 + (6 + 11) + LO ≤ LO + 60; omega)⟩) (xPw.giveV (wc := ((a4, .inr (4, fs)) :: ws2)) hE hS hA hP hD (xix 1 (ws2.length + 1)) (xix_nd _ _) (xix_map ((a4, .inr (4, fs)) :: ws2) [(aO, xL cy 1 fo)]) 1 4 rfl rfl) rfl rfl hl.1 rfl (lv_room (Nat.le_of_ble_eq_true rfl)) dL_addLine_9 ⟨Nat.le_of_ble_eq_true rfl, Nat.le_of_ble_eq_true rfl⟩) hP hD hS hA (xix 1 (ws2.length + 1)) [0] (xix_map ((a4, .inr (4, fs)) :: ws2) [(aO, xL cy 1 fo)]) rfl (by decide) (xix_dis _) (fun u q ce H locs hP hD hS hce hcv hcl => ?_)
  refine vx_catch (name := xIA) hown [⟨0, 14, 17, 13⟩] ⟨0, 14, 21, 15⟩ [] htab (fun z hz => by
      cases hz with
      | head => exact Or.inr ⟨by decide, xIO, hts (.classLink RL 13 xIO) (by decide +kernel), hE.2.1.2.2.1.2.2.2⟩
      | tail _ h9 => cases h9) (by decide) (by decide) (hts (.classLink RL 15 xIA) (by decide +kernel)) (va_Nw.use rfl hE.2.1.2.2.1.2.1) hce hcv hcl ?_
  refine lv_astore (lv' := [(6, .ref q), (0, .ref a4), (1, .int p0), (2, .int p1), (3, .int p2), (4, .int p3), (5, .ref aO)]) hx hb dL_addLine_21 hl (by decide) rfl (fun ls hl => ?_)
  refine lv_iconst (v := nI 2) hx hb dL_addLine_23 (by decide) ?_
  exact kret _ u _ _ _ _ _ _ dL_addLine_24 rfl hP hD hS (Nat.le_of_eq (Nat.zero_add _)) (Nat.le_of_eq (Nat.zero_add _))
set_option maxHeartbeats 4000000 in
set_option maxRecDepth 100000 in
theorem w_empty {S : Type} (l : Launch) (D : va_G) (cy : Nat → ClassId) (t0 : Nat) (aO a4 : Nat) (fo : Nat → Int64) (fs : List Value) (p0 : Int32) (ws2 : va_W) {F LO mc ms : Nat} {post : Int32 → S → Prop} {w1 : S → va_W}  (hc : xWi l yX4_empty wsX4_empty ({ frames := F, cells := mc, slots := ms, locals := LO } : Room) D cy t0 ([.ref a4, .int p0]) ((a4, .inr (4, fs)) :: ws2) post w1 mc ms) : xWi (S := Int32 × S) l yL_empty wsL_empty ({ frames := F + 1, cells := mc, slots := ms, locals := LO + 60 } : Room) D cy t0 ([.ref a4, .int p0, .ref aO]) ((aO, xL cy 1 fo) :: (a4, .inr (4, fs)) :: ws2) (fun r u => r = nI 0 ∧ post u.1 u.2) (fun u => (aO, xL cy 1 (vp_updL fo 0 u.1.toInt64)) :: w1 u.2) mc ms := by
  refine xofWiW (cc := cL_empty) (maxL := 4) (hh := [(0, 9, 12, 13)]) (by decide) rfl (Nat.le_of_ble_eq_true rfl) ?_
  intro p e s m below meth c Q A ls hx hb hml hts hown hE hA H locs hP hD hl hS htab kret
  have hl : lv_has ls 4 [(0, .ref a4), (1, .int p0), (2, .ref aO)] := hl
  refine lv_aload_n hx hb dL_empty_0 rfl (lv_at hl 2 rfl) ?_
  refine lv_iconst (v := nI 0) hx hb dL_empty_1 (by decide) ?_
  refine lv_aload_n hx hb dL_empty_2 rfl (lv_at hl 0 rfl) ?_
  refine lv_iload_n hx hb dL_empty_3 rfl (lv_at hl 1 rfl) ?_
  refine xcWi (wr := [(aO, xL cy 1 fo)]) (va_runV (As := [.int p0]) (rest := [.int (nI 0), .ref aO]) ⟨hx, hb, hml, hown, hts⟩ (hc H.size) (cwV 1 hts gL_empty_X4_empty rfl rfl rfl (by decide +kernel) ⟨Nat.le_refl _, (by show 8 + (2 + 11) + LO ≤ LO + 60; omega)⟩) (xPw.giveV (wc := ((a4, .inr (4, fs)) :: ws2)) hE hS hA hP hD (xix 1 (ws2.length + 1)) (xix_nd _ _) (xix_map ((a4, .inr (4, fs)) :: ws2) [(aO, xL cy 1 fo)]) 1 4 rfl rfl) rfl rfl hl.1 rfl (lv_room (Nat.le_of_ble_eq_true rfl)) dL_empty_4 ⟨(Nat.le_of_eq (Nat.zero_add _)), (Nat.le_of_eq (Nat.zero_add _))⟩) hP hD hS hA (xix 1 (ws2.length + 1)) [0] (xix_map ((a4, .inr (4, fs)) :: ws2) [(aO, xL cy 1 fo)]) rfl (by decide) (xix_dis _) (fun r u H locs hq hP hD hS => ?_)
  refine lv_i2l (v := r.toInt64) hx hb dL_empty_7 rfl ?_
  refine va_last (D := D) hx hb hE.1 hP hD hS 0 2 rfl rfl (vp_in_nI (by omega) (by omega)) dL_empty_8 (fun H locs hP hD hS => ?_)
  rw [nI_clamp (by omega)] at hP hD
  have hP : xP D ((aO, xL cy 1 (vp_updL fo 0 r.toInt64)) :: w1 u) H := hP
  have hD : va_D A ((aO, xL cy 1 (vp_updL fo 0 r.toInt64)) :: w1 u) := hD
  refine lv_goto (tgt := 15) hx hb dL_empty_9 (by decide) ?_
  refine lv_iconst (v := nI 0) hx hb dL_empty_15 (by decide) ?_
  exact kret _ (r, u) _ _ _ _ _ _ dL_empty_16 ⟨rfl, hq⟩ hP hD hS (Nat.le_of_eq (Nat.zero_add _)) (Nat.le_of_eq (Nat.zero_add _))
set_option maxHeartbeats 4000000 in
set_option maxRecDepth 100000 in
theorem w_emptyT {S : Type} (l : Launch) (D : va_G) (cy : Nat → ClassId) (t0 : Nat) (aO a4 : Nat) (fo : Nat → Int64) (fs : List Value) (p0 : Int32) (ws2 : va_W) {F LO : Nat} {w1 : S → va_W}  (hc : xT l yX4_empty wsX4_empty ({ frames := F, cells := 1, slots := 6, locals := LO } : Room) D cy t0 ([.ref a4, .int p0]) ((a4, .inr (4, fs)) :: ws2) xIO w1 1 6) : xWi (S := S) l yL_empty wsL_empty ({ frames := F + 1, cells := 1, slots := 6, locals := LO + 60 } : Room) D cy t0 ([.ref a4, .int p0, .ref aO]) ((aO, xL cy 1 fo) :: (a4, .inr (4, fs)) :: ws2) (fun r _ => r = nI 1) (fun u => (aO, xL cy 1 fo) :: w1 u) 1 6 := by
  refine xofWiW (cc := cL_empty) (maxL := 4) (hh := [(0, 9, 12, 13)]) (by decide) rfl (Nat.le_of_ble_eq_true rfl) ?_
  intro p e s m below meth c Q A ls hx hb hml hts hown hE hA H locs hP hD hl hS htab kret
  have hl : lv_has ls 4 [(0, .ref a4), (1, .int p0), (2, .ref aO)] := hl
  refine lv_aload_n hx hb dL_empty_0 rfl (lv_at hl 2 rfl) ?_
  refine lv_iconst (v := nI 0) hx hb dL_empty_1 (by decide) ?_
  refine lv_aload_n hx hb dL_empty_2 rfl (lv_at hl 0 rfl) ?_
  refine lv_iload_n hx hb dL_empty_3 rfl (lv_at hl 1 rfl) ?_
  refine xcT (wr := [(aO, xL cy 1 fo)]) (vx_runV (As := [.int p0]) (rest := [.int (nI 0), .ref aO]) ⟨hx, hb, hml, hown, hts⟩ (hc H.size) (cwV 1 hts gL_empty_X4_empty rfl rfl rfl (by decide +kernel) ⟨Nat.le_refl _, (by show 8 + (2 + 11) + LO ≤ LO + 60; omega)⟩) (xPw.giveV (wc := ((a4, .inr (4, fs)) :: ws2)) hE hS hA hP hD (xix 1 (ws2.length + 1)) (xix_nd _ _) (xix_map ((a4, .inr (4, fs)) :: ws2) [(aO, xL cy 1 fo)]) 1 4 rfl rfl) rfl rfl hl.1 rfl (lv_room (Nat.le_of_ble_eq_true rfl)) dL_empty_4 ⟨Nat.le_of_ble_eq_true rfl, Nat.le_of_ble_eq_true rfl⟩) hP hD hS hA (xix 1 (ws2.length + 1)) [0] (xix_map ((a4, .inr (4, fs)) :: ws2) [(aO, xL cy 1 fo)]) rfl (by decide) (xix_dis _) (fun u q ce H locs hP hD hS hce hcv hcl => ?_)
  refine vx_catch (name := xIO) hown [] ⟨0, 9, 12, 13⟩ [] htab (fun z hz => by cases hz) (by decide) (by decide) (hts (.classLink RL 13 xIO) (by decide +kernel)) (va_Nw.use rfl hE.2.1.2.2.1.1) hce hcv hcl ?_
  refine lv_astore_n (lv' := [(3, .ref q), (0, .ref a4), (1, .int p0), (2, .ref aO)]) hx hb dL_empty_12 rfl hl (by decide) rfl (fun ls hl => ?_)
  refine lv_iconst (v := nI 1) hx hb dL_empty_13 (by decide) ?_
  exact kret _ u _ _ _ _ _ _ dL_empty_14 rfl hP hD hS (Nat.le_of_eq (Nat.zero_add _)) (Nat.le_of_eq (Nat.zero_add _))
set_option maxHeartbeats 4000000 in
set_option maxRecDepth 100000 in
theorem w_merge {S : Type} (l : Launch) (D : va_G) (cy : Nat → ClassId) (t0 : Nat) (aO a4 : Nat) (fo : Nat → Int64) (fs : List Value) (p0 p1 : Int32) (ws2 : va_W) {F LO mc ms : Nat} {post : Int32 → S → Prop} {w1 : S → va_W}  (hc : xWi l yX4_merge wsX4_merge ({ frames := F, cells := mc, slots := ms, locals := LO } : Room) D cy t0 ([.ref a4, .int p0, .int p1]) ((a4, .inr (4, fs)) :: ws2) post w1 mc ms) : xWi (S := Int32 × S) l yL_merge wsL_merge ({ frames := F + 1, cells := mc, slots := ms, locals := LO + 60 } : Room) D cy t0 ([.ref a4, .int p0, .int p1, .ref aO]) ((aO, xL cy 1 fo) :: (a4, .inr (4, fs)) :: ws2) (fun r u => r = nI 0 ∧ post u.1 u.2) (fun u => (aO, xL cy 1 (vp_updL fo 0 u.1.toInt64)) :: w1 u.2) mc ms := by
  refine xofWiW (cc := cL_merge) (maxL := 5) (hh := [(0, 10, 13, 13)]) (by decide) rfl (Nat.le_of_ble_eq_true rfl) ?_
  intro p e s m below meth c Q A ls hx hb hml hts hown hE hA H locs hP hD hl hS htab kret
  have hl : lv_has ls 5 [(0, .ref a4), (1, .int p0), (2, .int p1), (3, .ref aO)] := hl
  refine lv_aload_n hx hb dL_merge_0 rfl (lv_at hl 3 rfl) ?_
  refine lv_iconst (v := nI 0) hx hb dL_merge_1 (by decide) ?_
  refine lv_aload_n hx hb dL_merge_2 rfl (lv_at hl 0 rfl) ?_
  refine lv_iload_n hx hb dL_merge_3 rfl (lv_at hl 1 rfl) ?_
  refine lv_iload_n hx hb dL_merge_4 rfl (lv_at hl 2 rfl) ?_
  refine xcWi (wr := [(aO, xL cy 1 fo)]) (va_runV (As := [.int p0, .int p1]) (rest := [.int (nI 0), .ref aO]) ⟨hx, hb, hml, hown, hts⟩ (hc H.size) (cwV 2 hts gL_merge_X4_merge rfl rfl rfl (by decide +kernel) ⟨Nat.le_refl _, (by show 8 + (5 + 11) + LO ≤ LO + 60; omega)⟩) (xPw.giveV (wc := ((a4, .inr (4, fs)) :: ws2)) hE hS hA hP hD (xix 1 (ws2.length + 1)) (xix_nd _ _) (xix_map ((a4, .inr (4, fs)) :: ws2) [(aO, xL cy 1 fo)]) 1 4 rfl rfl) rfl rfl hl.1 rfl (lv_room (Nat.le_of_ble_eq_true rfl)) dL_merge_5 ⟨(Nat.le_of_eq (Nat.zero_add _)), (Nat.le_of_eq (Nat.zero_add _))⟩) hP hD hS hA (xix 1 (ws2.length + 1)) [0] (xix_map ((a4, .inr (4, fs)) :: ws2) [(aO, xL cy 1 fo)]) rfl (by decide) (xix_dis _) (fun r u H locs hq hP hD hS => ?_)
  refine lv_i2l (v := r.toInt64) hx hb dL_merge_8 rfl ?_
  refine va_last (D := D) hx hb hE.1 hP hD hS 0 2 rfl rfl (vp_in_nI (by omega) (by omega)) dL_merge_9 (fun H locs hP hD hS => ?_)
  rw [nI_clamp (by omega)] at hP hD
  have hP : xP D ((aO, xL cy 1 (vp_updL fo 0 r.toInt64)) :: w1 u) H := hP
  have hD : va_D A ((aO, xL cy 1 (vp_updL fo 0 r.toInt64)) :: w1 u) := hD
  refine lv_goto (tgt := 17) hx hb dL_merge_10 (by decide) ?_
  refine lv_iconst (v := nI 0) hx hb dL_merge_17 (by decide) ?_
  exact kret _ (r, u) _ _ _ _ _ _ dL_merge_18 ⟨rfl, hq⟩ hP hD hS (Nat.le_of_eq (Nat.zero_add _)) (Nat.le_of_eq (Nat.zero_add _))
set_option maxHeartbeats 4000000 in
set_option maxRecDepth 100000 in
theorem w_mergeT {S : Type} (l : Launch) (D : va_G) (cy : Nat → ClassId) (t0 : Nat) (aO a4 : Nat) (fo : Nat → Int64) (fs : List Value) (p0 p1 : Int32) (ws2 : va_W) {F LO : Nat} {w1 : S → va_W}  (hc : xT l yX4_merge wsX4_merge ({ frames := F, cells := 1, slots := 6, locals := LO } : Room) D cy t0 ([.ref a4, .int p0, .int p1]) ((a4, .inr (4, fs)) :: ws2) xIO w1 1 6) : xWi (S := S) l yL_merge wsL_merge ({ frames := F + 1, cells := 1, slots := 6, locals := LO + 60 } : Room) D cy t0 ([.ref a4, .int p0, .int p1, .ref aO]) ((aO, xL cy 1 fo) :: (a4, .inr (4, fs)) :: ws2) (fun r _ => r = nI 1) (fun u => (aO, xL cy 1 fo) :: w1 u) 1 6 := by
  refine xofWiW (cc := cL_merge) (maxL := 5) (hh := [(0, 10, 13, 13)]) (by decide) rfl (Nat.le_of_ble_eq_true rfl) ?_
  intro p e s m below meth c Q A ls hx hb hml hts hown hE hA H locs hP hD hl hS htab kret
  have hl : lv_has ls 5 [(0, .ref a4), (1, .int p0), (2, .int p1), (3, .ref aO)] := hl
  refine lv_aload_n hx hb dL_merge_0 rfl (lv_at hl 3 rfl) ?_
  refine lv_iconst (v := nI 0) hx hb dL_merge_1 (by decide) ?_
  refine lv_aload_n hx hb dL_merge_2 rfl (lv_at hl 0 rfl) ?_
  refine lv_iload_n hx hb dL_merge_3 rfl (lv_at hl 1 rfl) ?_
  refine lv_iload_n hx hb dL_merge_4 rfl (lv_at hl 2 rfl) ?_
  refine xcT (wr := [(aO, xL cy 1 fo)]) (vx_runV (As := [.int p0, .int p1]) (rest := [.int (nI 0), .ref aO]) ⟨hx, hb, hml, hown, hts⟩ (hc H.size) (cwV 2 hts gL_merge_X4_merge rfl rfl rfl (by decide +kernel) ⟨Nat.le_refl _, (by show 8 + (5 + 11) + LO ≤ LO + 60; omega)⟩) (xPw.giveV (wc := ((a4, .inr (4, fs)) :: ws2)) hE hS hA hP hD (xix 1 (ws2.length + 1)) (xix_nd _ _) (xix_map ((a4, .inr (4, fs)) :: ws2) [(aO, xL cy 1 fo)]) 1 4 rfl rfl) rfl rfl hl.1 rfl (lv_room (Nat.le_of_ble_eq_true rfl)) dL_merge_5 ⟨Nat.le_of_ble_eq_true rfl, Nat.le_of_ble_eq_true rfl⟩) hP hD hS hA (xix 1 (ws2.length + 1)) [0] (xix_map ((a4, .inr (4, fs)) :: ws2) [(aO, xL cy 1 fo)]) rfl (by decide) (xix_dis _) (fun u q ce H locs hP hD hS hce hcv hcl => ?_)
  refine vx_catch (name := xIO) hown [] ⟨0, 10, 13, 13⟩ [] htab (fun z hz => by cases hz) (by decide) (by decide) (hts (.classLink RL 13 xIO) (by decide +kernel)) (va_Nw.use rfl hE.2.1.2.2.1.1) hce hcv hcl ?_
  refine lv_astore (lv' := [(4, .ref q), (0, .ref a4), (1, .int p0), (2, .int p1), (3, .ref aO)]) hx hb dL_merge_13 hl (by decide) rfl (fun ls hl => ?_)
  refine lv_iconst (v := nI 1) hx hb dL_merge_15 (by decide) ?_
  exact kret _ u _ _ _ _ _ _ dL_merge_16 rfl hP hD hS (Nat.le_of_eq (Nat.zero_add _)) (Nat.le_of_eq (Nat.zero_add _))
set_option maxHeartbeats 4000000 in
set_option maxRecDepth 100000 in
theorem w_pass {S : Type} (l : Launch) (D : va_G) (cy : Nat → ClassId) (t0 : Nat) (aO a4 : Nat) (fo : Nat → Int64) (fs : List Value) (p0 : Int32) (ws2 : va_W) {F LO mc ms : Nat} {post : Int32 → S → Prop} {w1 : S → va_W}  (hc : xWi l yX4_pass wsX4_pass ({ frames := F, cells := mc, slots := ms, locals := LO } : Room) D cy t0 ([.ref a4, .int p0]) ((a4, .inr (4, fs)) :: ws2) post w1 mc ms) : xWi (S := Int32 × S) l yL_pass wsL_pass ({ frames := F + 1, cells := mc, slots := ms, locals := LO + 60 } : Room) D cy t0 ([.ref a4, .int p0, .ref aO]) ((aO, xL cy 1 fo) :: (a4, .inr (4, fs)) :: ws2) (fun r u => r = nI 0 ∧ post u.1 u.2) (fun u => (aO, xL cy 1 (vp_updL fo 0 u.1.toInt64)) :: w1 u.2) mc ms := by
  refine xofWiW (cc := cL_pass) (maxL := 4) (hh := [(0, 9, 12, 15)]) (by decide) rfl (Nat.le_of_ble_eq_true rfl) ?_
  intro p e s m below meth c Q A ls hx hb hml hts hown hE hA H locs hP hD hl hS htab kret
  have hl : lv_has ls 4 [(0, .ref a4), (1, .int p0), (2, .ref aO)] := hl
  refine lv_aload_n hx hb dL_pass_0 rfl (lv_at hl 2 rfl) ?_
  refine lv_iconst (v := nI 0) hx hb dL_pass_1 (by decide) ?_
  refine lv_aload_n hx hb dL_pass_2 rfl (lv_at hl 0 rfl) ?_
  refine lv_iload_n hx hb dL_pass_3 rfl (lv_at hl 1 rfl) ?_
  refine xcWi (wr := [(aO, xL cy 1 fo)]) (va_runV (As := [.int p0]) (rest := [.int (nI 0), .ref aO]) ⟨hx, hb, hml, hown, hts⟩ (hc H.size) (cwV 1 hts gL_pass_X4_pass rfl rfl rfl (by decide +kernel) ⟨Nat.le_refl _, (by show 8 + (2 + 11) + LO ≤ LO + 60; omega)⟩) (xPw.giveV (wc := ((a4, .inr (4, fs)) :: ws2)) hE hS hA hP hD (xix 1 (ws2.length + 1)) (xix_nd _ _) (xix_map ((a4, .inr (4, fs)) :: ws2) [(aO, xL cy 1 fo)]) 1 4 rfl rfl) rfl rfl hl.1 rfl (lv_room (Nat.le_of_ble_eq_true rfl)) dL_pass_4 ⟨(Nat.le_of_eq (Nat.zero_add _)), (Nat.le_of_eq (Nat.zero_add _))⟩) hP hD hS hA (xix 1 (ws2.length + 1)) [0] (xix_map ((a4, .inr (4, fs)) :: ws2) [(aO, xL cy 1 fo)]) rfl (by decide) (xix_dis _) (fun r u H locs hq hP hD hS => ?_)
  refine lv_i2l (v := r.toInt64) hx hb dL_pass_7 rfl ?_
  refine va_last (D := D) hx hb hE.1 hP hD hS 0 2 rfl rfl (vp_in_nI (by omega) (by omega)) dL_pass_8 (fun H locs hP hD hS => ?_)
  rw [nI_clamp (by omega)] at hP hD
  have hP : xP D ((aO, xL cy 1 (vp_updL fo 0 r.toInt64)) :: w1 u) H := hP
  have hD : va_D A ((aO, xL cy 1 (vp_updL fo 0 r.toInt64)) :: w1 u) := hD
  refine lv_goto (tgt := 15) hx hb dL_pass_9 (by decide) ?_
  refine lv_iconst (v := nI 0) hx hb dL_pass_15 (by decide) ?_
  exact kret _ (r, u) _ _ _ _ _ _ dL_pass_16 ⟨rfl, hq⟩ hP hD hS (Nat.le_of_eq (Nat.zero_add _)) (Nat.le_of_eq (Nat.zero_add _))
set_option maxHeartbeats 4000000 in
set_option maxRecDepth 100000 in
theorem w_passV {S : Type} (l : Launch) (D : va_G) (cy : Nat → ClassId) (t0 : Nat) (aO a4 : Nat) (fo : Nat → Int64) (fs : List Value) (p0 : Int32) (ws2 : va_W) {F LO : Nat} {w1 : S → va_W}  (hc : xT l yX4_pass wsX4_pass ({ frames := F, cells := 1, slots := 6, locals := LO } : Room) D cy t0 ([.ref a4, .int p0]) ((a4, .inr (4, fs)) :: ws2) xIA w1 1 6) : xWi (S := S) l yL_pass wsL_pass ({ frames := F + 1, cells := 1, slots := 6, locals := LO + 60 } : Room) D cy t0 ([.ref a4, .int p0, .ref aO]) ((aO, xL cy 1 fo) :: (a4, .inr (4, fs)) :: ws2) (fun r _ => r = nI 1) (fun u => (aO, xL cy 1 fo) :: w1 u) 1 6 := by
  refine xofWiW (cc := cL_pass) (maxL := 4) (hh := [(0, 9, 12, 15)]) (by decide) rfl (Nat.le_of_ble_eq_true rfl) ?_
  intro p e s m below meth c Q A ls hx hb hml hts hown hE hA H locs hP hD hl hS htab kret
  have hl : lv_has ls 4 [(0, .ref a4), (1, .int p0), (2, .ref aO)] := hl
  refine lv_aload_n hx hb dL_pass_0 rfl (lv_at hl 2 rfl) ?_
  refine lv_iconst (v := nI 0) hx hb dL_pass_1 (by decide) ?_
  refine lv_aload_n hx hb dL_pass_2 rfl (lv_at hl 0 rfl) ?_
  refine lv_iload_n hx hb dL_pass_3 rfl (lv_at hl 1 rfl) ?_
  refine xcT (wr := [(aO, xL cy 1 fo)]) (vx_runV (As := [.int p0]) (rest := [.int (nI 0), .ref aO]) ⟨hx, hb, hml, hown, hts⟩ (hc H.size) (cwV 1 hts gL_pass_X4_pass rfl rfl rfl (by decide +kernel) ⟨Nat.le_refl _, (by show 8 + (2 + 11) + LO ≤ LO + 60; omega)⟩) (xPw.giveV (wc := ((a4, .inr (4, fs)) :: ws2)) hE hS hA hP hD (xix 1 (ws2.length + 1)) (xix_nd _ _) (xix_map ((a4, .inr (4, fs)) :: ws2) [(aO, xL cy 1 fo)]) 1 4 rfl rfl) rfl rfl hl.1 rfl (lv_room (Nat.le_of_ble_eq_true rfl)) dL_pass_4 ⟨Nat.le_of_ble_eq_true rfl, Nat.le_of_ble_eq_true rfl⟩) hP hD hS hA (xix 1 (ws2.length + 1)) [0] (xix_map ((a4, .inr (4, fs)) :: ws2) [(aO, xL cy 1 fo)]) rfl (by decide) (xix_dis _) (fun u q ce H locs hP hD hS hce hcv hcl => ?_)
  refine vx_catch (name := xIA) hown [] ⟨0, 9, 12, 15⟩ [] htab (fun z hz => by cases hz) (by decide) (by decide) (hts (.classLink RL 15 xIA) (by decide +kernel)) (va_Nw.use rfl hE.2.1.2.2.1.2.1) hce hcv hcl ?_
  refine lv_astore_n (lv' := [(3, .ref q), (0, .ref a4), (1, .int p0), (2, .ref aO)]) hx hb dL_pass_12 rfl hl (by decide) rfl (fun ls hl => ?_)
  refine lv_iconst (v := nI 1) hx hb dL_pass_13 (by decide) ?_
  exact kret _ u _ _ _ _ _ _ dL_pass_14 rfl hP hD hS (Nat.le_of_eq (Nat.zero_add _)) (Nat.le_of_eq (Nat.zero_add _))
set_option maxHeartbeats 4000000 in
set_option maxRecDepth 100000 in
theorem w_plain (l : Launch) (D : va_G) (cy : Nat → ClassId) (t0 : Nat) (aO a4 : Nat) (fo : Nat → Int64) (fs : List Value) (p0 : Int32) (ws2 : va_W) {F LO : Nat} {post : Int32 → Prop}  (hc : xRi l yX4_plain wsX4_plain ({ frames := F, cells := 0, slots := 0, locals := LO } : Room) D cy t0 ([.ref a4, .int p0]) ((a4, .inr (4, fs)) :: ws2) post) : xWi (S := Int32) l yL_plain wsL_plain ({ frames := F + 1, cells := 0, slots := 0, locals := LO + 60 } : Room) D cy t0 ([.ref a4, .int p0, .ref aO]) ((aO, xL cy 1 fo) :: (a4, .inr (4, fs)) :: ws2) (fun r u => r = nI 0 ∧ post u) (fun u => (aO, xL cy 1 (vp_updL fo 0 u.toInt64)) :: (a4, .inr (4, fs)) :: ws2) 0 0 := by
  refine xofWiW (cc := cL_plain) (maxL := 4) (hh := [(0, 9, 12, 13)]) (by decide) rfl (Nat.le_of_ble_eq_true rfl) ?_
  intro p e s m below meth c Q A ls hx hb hml hts hown hE hA H locs hP hD hl hS htab kret
  have hl : lv_has ls 4 [(0, .ref a4), (1, .int p0), (2, .ref aO)] := hl
  refine lv_aload_n hx hb dL_plain_0 rfl (lv_at hl 2 rfl) ?_
  refine lv_iconst (v := nI 0) hx hb dL_plain_1 (by decide) ?_
  refine lv_aload_n hx hb dL_plain_2 rfl (lv_at hl 0 rfl) ?_
  refine lv_iload_n hx hb dL_plain_3 rfl (lv_at hl 1 rfl) ?_
  refine xcRi (va_runV (As := [.int p0]) (rest := [.int (nI 0), .ref aO]) ⟨hx, hb, hml, hown, hts⟩ hc (cwV 1 hts gL_plain_X4_plain rfl rfl rfl (by decide +kernel) ⟨Nat.le_refl _, (by show 8 + (2 + 11) + LO ≤ LO + 60; omega)⟩) (xPr.giveV (wc := ((a4, .inr (4, fs)) :: ws2)) hE hS hP (xix 1 (ws2.length + 1)) (xix_fm ((a4, .inr (4, fs)) :: ws2) [(aO, xL cy 1 fo)]) 1 4 rfl rfl) rfl rfl hl.1 rfl (lv_room (Nat.le_of_ble_eq_true rfl)) dL_plain_4 ⟨(Nat.zero_le _), (Nat.zero_le _)⟩) (fun r hq => ?_)
  refine lv_i2l (v := r.toInt64) hx hb dL_plain_7 rfl ?_
  refine va_last (D := D) hx hb hE.1 hP hD hS 0 2 rfl rfl (vp_in_nI (by omega) (by omega)) dL_plain_8 (fun H locs hP hD hS => ?_)
  rw [nI_clamp (by omega)] at hP hD
  have hP : xP D ((aO, xL cy 1 (vp_updL fo 0 r.toInt64)) :: (a4, .inr (4, fs)) :: ws2) H := hP
  have hD : va_D A ((aO, xL cy 1 (vp_updL fo 0 r.toInt64)) :: (a4, .inr (4, fs)) :: ws2) := hD
  refine lv_goto (tgt := 15) hx hb dL_plain_9 (by decide) ?_
  refine lv_iconst (v := nI 0) hx hb dL_plain_15 (by decide) ?_
  exact kret _ r _ _ _ _ _ _ dL_plain_16 ⟨rfl, hq⟩ hP hD hS (Nat.le_refl _) (Nat.le_refl _)
set_option maxHeartbeats 4000000 in
set_option maxRecDepth 100000 in
theorem w_plainT {S : Type} (l : Launch) (D : va_G) (cy : Nat → ClassId) (t0 : Nat) (aO a4 : Nat) (fo : Nat → Int64) (fs : List Value) (p0 : Int32) (ws2 : va_W) {F LO : Nat} {w1 : S → va_W}  (hc : xT l yX4_plain wsX4_plain ({ frames := F, cells := 1, slots := 6, locals := LO } : Room) D cy t0 ([.ref a4, .int p0]) ((a4, .inr (4, fs)) :: ws2) xIO w1 1 6) : xWi (S := S) l yL_plain wsL_plain ({ frames := F + 1, cells := 1, slots := 6, locals := LO + 60 } : Room) D cy t0 ([.ref a4, .int p0, .ref aO]) ((aO, xL cy 1 fo) :: (a4, .inr (4, fs)) :: ws2) (fun r _ => r = nI 1) (fun u => (aO, xL cy 1 fo) :: w1 u) 1 6 := by
  refine xofWiW (cc := cL_plain) (maxL := 4) (hh := [(0, 9, 12, 13)]) (by decide) rfl (Nat.le_of_ble_eq_true rfl) ?_
  intro p e s m below meth c Q A ls hx hb hml hts hown hE hA H locs hP hD hl hS htab kret
  have hl : lv_has ls 4 [(0, .ref a4), (1, .int p0), (2, .ref aO)] := hl
  refine lv_aload_n hx hb dL_plain_0 rfl (lv_at hl 2 rfl) ?_
  refine lv_iconst (v := nI 0) hx hb dL_plain_1 (by decide) ?_
  refine lv_aload_n hx hb dL_plain_2 rfl (lv_at hl 0 rfl) ?_
  refine lv_iload_n hx hb dL_plain_3 rfl (lv_at hl 1 rfl) ?_
  refine xcT (wr := [(aO, xL cy 1 fo)]) (vx_runV (As := [.int p0]) (rest := [.int (nI 0), .ref aO]) ⟨hx, hb, hml, hown, hts⟩ (hc H.size) (cwV 1 hts gL_plain_X4_plain rfl rfl rfl (by decide +kernel) ⟨Nat.le_refl _, (by show 8 + (2 + 11) + LO ≤ LO + 60; omega)⟩) (xPw.giveV (wc := ((a4, .inr (4, fs)) :: ws2)) hE hS hA hP hD (xix 1 (ws2.length + 1)) (xix_nd _ _) (xix_map ((a4, .inr (4, fs)) :: ws2) [(aO, xL cy 1 fo)]) 1 4 rfl rfl) rfl rfl hl.1 rfl (lv_room (Nat.le_of_ble_eq_true rfl)) dL_plain_4 ⟨Nat.le_of_ble_eq_true rfl, Nat.le_of_ble_eq_true rfl⟩) hP hD hS hA (xix 1 (ws2.length + 1)) [0] (xix_map ((a4, .inr (4, fs)) :: ws2) [(aO, xL cy 1 fo)]) rfl (by decide) (xix_dis _) (fun u q ce H locs hP hD hS hce hcv hcl => ?_)
  refine vx_catch (name := xIO) hown [] ⟨0, 9, 12, 13⟩ [] htab (fun z hz => by cases hz) (by decide) (by decide) (hts (.classLink RL 13 xIO) (by decide +kernel)) (va_Nw.use rfl hE.2.1.2.2.1.1) hce hcv hcl ?_
  refine lv_astore_n (lv' := [(3, .ref q), (0, .ref a4), (1, .int p0), (2, .ref aO)]) hx hb dL_plain_12 rfl hl (by decide) rfl (fun ls hl => ?_)
  refine lv_iconst (v := nI 1) hx hb dL_plain_13 (by decide) ?_
  exact kret _ u _ _ _ _ _ _ dL_plain_14 rfl hP hD hS (Nat.le_of_eq (Nat.zero_add _)) (Nat.le_of_eq (Nat.zero_add _))
set_option maxHeartbeats 4000000 in
set_option maxRecDepth 100000 in
theorem w_plainCommon (l : Launch) (D : va_G) (cy : Nat → ClassId) (t0 : Nat) (aO a4 : Nat) (fo : Nat → Int64) (fs : List Value) (p0 p1 : Int32) (ws2 : va_W) {F LO : Nat} {post : Int32 → Prop}  (hc : xRi l yX4_plainCommon wsX4_plainCommon ({ frames := F, cells := 0, slots := 0, locals := LO } : Room) D cy t0 ([.ref a4, .int p0, .int p1]) ((a4, .inr (4, fs)) :: ws2) post) : xWi (S := Int32) l yL_plainCommon wsL_plainCommon ({ frames := F + 1, cells := 0, slots := 0, locals := LO + 60 } : Room) D cy t0 ([.ref a4, .int p0, .int p1, .ref aO]) ((aO, xL cy 1 fo) :: (a4, .inr (4, fs)) :: ws2) (fun r u => r = nI 0 ∧ post u) (fun u => (aO, xL cy 1 (vp_updL fo 0 u.toInt64)) :: (a4, .inr (4, fs)) :: ws2) 0 0 := by
  refine xofWiW (cc := cL_plainCommon) (maxL := 5) (hh := [(0, 10, 13, 13)]) (by decide) rfl (Nat.le_of_ble_eq_true rfl) ?_
  intro p e s m below meth c Q A ls hx hb hml hts hown hE hA H locs hP hD hl hS htab kret
  have hl : lv_has ls 5 [(0, .ref a4), (1, .int p0), (2, .int p1), (3, .ref aO)] := hl
  refine lv_aload_n hx hb dL_plainCommon_0 rfl (lv_at hl 3 rfl) ?_
  refine lv_iconst (v := nI 0) hx hb dL_plainCommon_1 (by decide) ?_
  refine lv_aload_n hx hb dL_plainCommon_2 rfl (lv_at hl 0 rfl) ?_
  refine lv_iload_n hx hb dL_plainCommon_3 rfl (lv_at hl 1 rfl) ?_
  refine lv_iload_n hx hb dL_plainCommon_4 rfl (lv_at hl 2 rfl) ?_
  refine xcRi (va_runV (As := [.int p0, .int p1]) (rest := [.int (nI 0), .ref aO]) ⟨hx, hb, hml, hown, hts⟩ hc (cwV 2 hts gL_plainCommon_X4_plainCommon rfl rfl rfl (by decide +kernel) ⟨Nat.le_refl _, (by show 8 + (5 + 11) + LO ≤ LO + 60; omega)⟩) (xPr.giveV (wc := ((a4, .inr (4, fs)) :: ws2)) hE hS hP (xix 1 (ws2.length + 1)) (xix_fm ((a4, .inr (4, fs)) :: ws2) [(aO, xL cy 1 fo)]) 1 4 rfl rfl) rfl rfl hl.1 rfl (lv_room (Nat.le_of_ble_eq_true rfl)) dL_plainCommon_5 ⟨(Nat.zero_le _), (Nat.zero_le _)⟩) (fun r hq => ?_)
  refine lv_i2l (v := r.toInt64) hx hb dL_plainCommon_8 rfl ?_
  refine va_last (D := D) hx hb hE.1 hP hD hS 0 2 rfl rfl (vp_in_nI (by omega) (by omega)) dL_plainCommon_9 (fun H locs hP hD hS => ?_)
  rw [nI_clamp (by omega)] at hP hD
  have hP : xP D ((aO, xL cy 1 (vp_updL fo 0 r.toInt64)) :: (a4, .inr (4, fs)) :: ws2) H := hP
  have hD : va_D A ((aO, xL cy 1 (vp_updL fo 0 r.toInt64)) :: (a4, .inr (4, fs)) :: ws2) := hD
  refine lv_goto (tgt := 17) hx hb dL_plainCommon_10 (by decide) ?_
  refine lv_iconst (v := nI 0) hx hb dL_plainCommon_17 (by decide) ?_
  exact kret _ r _ _ _ _ _ _ dL_plainCommon_18 ⟨rfl, hq⟩ hP hD hS (Nat.le_refl _) (Nat.le_refl _)
set_option maxHeartbeats 4000000 in
set_option maxRecDepth 100000 in
theorem w_plainCommonT {S : Type} (l : Launch) (D : va_G) (cy : Nat → ClassId) (t0 : Nat) (aO a4 : Nat) (fo : Nat → Int64) (fs : List Value) (p0 p1 : Int32) (ws2 : va_W) {F LO : Nat} {w1 : S → va_W}  (hc : xT l yX4_plainCommon wsX4_plainCommon ({ frames := F, cells := 1, slots := 6, locals := LO } : Room) D cy t0 ([.ref a4, .int p0, .int p1]) ((a4, .inr (4, fs)) :: ws2) xIO w1 1 6) : xWi (S := S) l yL_plainCommon wsL_plainCommon ({ frames := F + 1, cells := 1, slots := 6, locals := LO + 60 } : Room) D cy t0 ([.ref a4, .int p0, .int p1, .ref aO]) ((aO, xL cy 1 fo) :: (a4, .inr (4, fs)) :: ws2) (fun r _ => r = nI 1) (fun u => (aO, xL cy 1 fo) :: w1 u) 1 6 := by
  refine xofWiW (cc := cL_plainCommon) (maxL := 5) (hh := [(0, 10, 13, 13)]) (by decide) rfl (Nat.le_of_ble_eq_true rfl) ?_
  intro p e s m below meth c Q A ls hx hb hml hts hown hE hA H locs hP hD hl hS htab kret
  have hl : lv_has ls 5 [(0, .ref a4), (1, .int p0), (2, .int p1), (3, .ref aO)] := hl
  refine lv_aload_n hx hb dL_plainCommon_0 rfl (lv_at hl 3 rfl) ?_
  refine lv_iconst (v := nI 0) hx hb dL_plainCommon_1 (by decide) ?_
  refine lv_aload_n hx hb dL_plainCommon_2 rfl (lv_at hl 0 rfl) ?_
  refine lv_iload_n hx hb dL_plainCommon_3 rfl (lv_at hl 1 rfl) ?_
  refine lv_iload_n hx hb dL_plainCommon_4 rfl (lv_at hl 2 rfl) ?_
  refine xcT (wr := [(aO, xL cy 1 fo)]) (vx_runV (As := [.int p0, .int p1]) (rest := [.int (nI 0), .ref aO]) ⟨hx, hb, hml, hown, hts⟩ (hc H.size) (cwV 2 hts gL_plainCommon_X4_plainCommon rfl rfl rfl (by decide +kernel) ⟨Nat.le_refl _, (by show 8 + (5 + 11) + LO ≤ LO + 60; omega)⟩) (xPw.giveV (wc := ((a4, .inr (4, fs)) :: ws2)) hE hS hA hP hD (xix 1 (ws2.length + 1)) (xix_nd _ _) (xix_map ((a4, .inr (4, fs)) :: ws2) [(aO, xL cy 1 fo)]) 1 4 rfl rfl) rfl rfl hl.1 rfl (lv_room (Nat.le_of_ble_eq_true rfl)) dL_plainCommon_5 ⟨Nat.le_of_ble_eq_true rfl, Nat.le_of_ble_eq_true rfl⟩) hP hD hS hA (xix 1 (ws2.length + 1)) [0] (xix_map ((a4, .inr (4, fs)) :: ws2) [(aO, xL cy 1 fo)]) rfl (by decide) (xix_dis _) (fun u q ce H locs hP hD hS hce hcv hcl => ?_)
  refine vx_catch (name := xIO) hown [] ⟨0, 10, 13, 13⟩ [] htab (fun z hz => by cases hz) (by decide) (by decide) (hts (.classLink RL 13 xIO) (by decide +kernel)) (va_Nw.use rfl hE.2.1.2.2.1.1) hce hcv hcl ?_
  refine lv_astore (lv' := [(4, .ref q), (0, .ref a4), (1, .int p0), (2, .int p1), (3, .ref aO)]) hx hb dL_plainCommon_13 hl (by decide) rfl (fun ls hl => ?_)
  refine lv_iconst (v := nI 1) hx hb dL_plainCommon_15 (by decide) ?_
  exact kret _ u _ _ _ _ _ _ dL_plainCommon_16 rfl hP hD hS (Nat.le_of_eq (Nat.zero_add _)) (Nat.le_of_eq (Nat.zero_add _))
set_option maxHeartbeats 4000000 in
set_option maxRecDepth 100000 in
theorem w_dateOf (l : Launch) (D : va_G) (cy : Nat → ClassId) (t0 : Nat) (aO a4 : Nat) (fo : Nat → Int64) (fs : List Value) (p0 p1 : Int32) (ws2 : va_W) {F LO : Nat} {post : Int32 → Prop}  (hc : xRi l yX4_dateOf wsX4_dateOf ({ frames := F, cells := 0, slots := 0, locals := LO } : Room) D cy t0 ([.ref a4, .int p0, .int p1]) ((a4, .inr (4, fs)) :: ws2) post) : xWi (S := Int32) l yL_dateOf wsL_dateOf ({ frames := F + 1, cells := 0, slots := 0, locals := LO + 60 } : Room) D cy t0 ([.ref a4, .int p0, .int p1, .ref aO]) ((aO, xL cy 1 fo) :: (a4, .inr (4, fs)) :: ws2) (fun r u => r = nI 0 ∧ post u) (fun u => (aO, xL cy 1 (vp_updL fo 0 u.toInt64)) :: (a4, .inr (4, fs)) :: ws2) 0 0 := by
  refine xofWiW (cc := cL_dateOf) (maxL := 5) (hh := [(0, 10, 13, 13), (0, 10, 17, 15)]) (by decide) rfl (Nat.le_of_ble_eq_true rfl) ?_
  intro p e s m below meth c Q A ls hx hb hml hts hown hE hA H locs hP hD hl hS htab kret
  have hl : lv_has ls 5 [(0, .ref a4), (1, .int p0), (2, .int p1), (3, .ref aO)] := hl
  refine lv_aload_n hx hb dL_dateOf_0 rfl (lv_at hl 3 rfl) ?_
  refine lv_iconst (v := nI 0) hx hb dL_dateOf_1 (by decide) ?_
  refine lv_aload_n hx hb dL_dateOf_2 rfl (lv_at hl 0 rfl) ?_
  refine lv_iload_n hx hb dL_dateOf_3 rfl (lv_at hl 1 rfl) ?_
  refine lv_iload_n hx hb dL_dateOf_4 rfl (lv_at hl 2 rfl) ?_
  refine xcRi (va_runV (As := [.int p0, .int p1]) (rest := [.int (nI 0), .ref aO]) ⟨hx, hb, hml, hown, hts⟩ hc (cwV 2 hts gL_dateOf_X4_dateOf rfl rfl rfl (by decide +kernel) ⟨Nat.le_refl _, (by show 8 + (4 + 11) + LO ≤ LO + 60; omega)⟩) (xPr.giveV (wc := ((a4, .inr (4, fs)) :: ws2)) hE hS hP (xix 1 (ws2.length + 1)) (xix_fm ((a4, .inr (4, fs)) :: ws2) [(aO, xL cy 1 fo)]) 1 4 rfl rfl) rfl rfl hl.1 rfl (lv_room (Nat.le_of_ble_eq_true rfl)) dL_dateOf_5 ⟨(Nat.zero_le _), (Nat.zero_le _)⟩) (fun r hq => ?_)
  refine lv_i2l (v := r.toInt64) hx hb dL_dateOf_8 rfl ?_
  refine va_last (D := D) hx hb hE.1 hP hD hS 0 2 rfl rfl (vp_in_nI (by omega) (by omega)) dL_dateOf_9 (fun H locs hP hD hS => ?_)
  rw [nI_clamp (by omega)] at hP hD
  have hP : xP D ((aO, xL cy 1 (vp_updL fo 0 r.toInt64)) :: (a4, .inr (4, fs)) :: ws2) H := hP
  have hD : va_D A ((aO, xL cy 1 (vp_updL fo 0 r.toInt64)) :: (a4, .inr (4, fs)) :: ws2) := hD
  refine lv_goto (tgt := 21) hx hb dL_dateOf_10 (by decide) ?_
  refine lv_iconst (v := nI 0) hx hb dL_dateOf_21 (by decide) ?_
  exact kret _ r _ _ _ _ _ _ dL_dateOf_22 ⟨rfl, hq⟩ hP hD hS (Nat.le_refl _) (Nat.le_refl _)
set_option maxHeartbeats 4000000 in
set_option maxRecDepth 100000 in
theorem w_dateOfT {S : Type} (l : Launch) (D : va_G) (cy : Nat → ClassId) (t0 : Nat) (aO a4 : Nat) (fo : Nat → Int64) (fs : List Value) (p0 p1 : Int32) (ws2 : va_W) {F LO : Nat} {w1 : S → va_W}  (hc : xT l yX4_dateOf wsX4_dateOf ({ frames := F, cells := 1, slots := 6, locals := LO } : Room) D cy t0 ([.ref a4, .int p0, .int p1]) ((a4, .inr (4, fs)) :: ws2) xIO w1 1 6) : xWi (S := S) l yL_dateOf wsL_dateOf ({ frames := F + 1, cells := 1, slots := 6, locals := LO + 60 } : Room) D cy t0 ([.ref a4, .int p0, .int p1, .ref aO]) ((aO, xL cy 1 fo) :: (a4, .inr (4, fs)) :: ws2) (fun r _ => r = nI 1) (fun u => (aO, xL cy 1 fo) :: w1 u) 1 6 := by
  refine xofWiW (cc := cL_dateOf) (maxL := 5) (hh := [(0, 10, 13, 13), (0, 10, 17, 15)]) (by decide) rfl (Nat.le_of_ble_eq_true rfl) ?_
  intro p e s m below meth c Q A ls hx hb hml hts hown hE hA H locs hP hD hl hS htab kret
  have hl : lv_has ls 5 [(0, .ref a4), (1, .int p0), (2, .int p1), (3, .ref aO)] := hl
  refine lv_aload_n hx hb dL_dateOf_0 rfl (lv_at hl 3 rfl) ?_
  refine lv_iconst (v := nI 0) hx hb dL_dateOf_1 (by decide) ?_
  refine lv_aload_n hx hb dL_dateOf_2 rfl (lv_at hl 0 rfl) ?_
  refine lv_iload_n hx hb dL_dateOf_3 rfl (lv_at hl 1 rfl) ?_
  refine lv_iload_n hx hb dL_dateOf_4 rfl (lv_at hl 2 rfl) ?_
  refine xcT (wr := [(aO, xL cy 1 fo)]) (vx_runV (As := [.int p0, .int p1]) (rest := [.int (nI 0), .ref aO]) ⟨hx, hb, hml, hown, hts⟩ (hc H.size) (cwV 2 hts gL_dateOf_X4_dateOf rfl rfl rfl (by decide +kernel) ⟨Nat.le_refl _, (by show 8 + (4 + 11) + LO ≤ LO + 60; omega)⟩) (xPw.giveV (wc := ((a4, .inr (4, fs)) :: ws2)) hE hS hA hP hD (xix 1 (ws2.length + 1)) (xix_nd _ _) (xix_map ((a4, .inr (4, fs)) :: ws2) [(aO, xL cy 1 fo)]) 1 4 rfl rfl) rfl rfl hl.1 rfl (lv_room (Nat.le_of_ble_eq_true rfl)) dL_dateOf_5 ⟨Nat.le_of_ble_eq_true rfl, Nat.le_of_ble_eq_true rfl⟩) hP hD hS hA (xix 1 (ws2.length + 1)) [0] (xix_map ((a4, .inr (4, fs)) :: ws2) [(aO, xL cy 1 fo)]) rfl (by decide) (xix_dis _) (fun u q ce H locs hP hD hS hce hcv hcl => ?_)
  refine vx_catch (name := xIO) hown [] ⟨0, 10, 13, 13⟩ [⟨0, 10, 17, 15⟩] htab (fun z hz => by cases hz) (by decide) (by decide) (hts (.classLink RL 13 xIO) (by decide +kernel)) (va_Nw.use rfl hE.2.1.2.2.1.1) hce hcv hcl ?_
  refine lv_astore (lv' := [(4, .ref q), (0, .ref a4), (1, .int p0), (2, .int p1), (3, .ref aO)]) hx hb dL_dateOf_13 hl (by decide) rfl (fun ls hl => ?_)
  refine lv_iconst (v := nI 1) hx hb dL_dateOf_15 (by decide) ?_
  exact kret _ u _ _ _ _ _ _ dL_dateOf_16 rfl hP hD hS (Nat.le_of_eq (Nat.zero_add _)) (Nat.le_of_eq (Nat.zero_add _))
set_option maxHeartbeats 4000000 in
set_option maxRecDepth 100000 in
theorem w_dateOfV {S : Type} (l : Launch) (D : va_G) (cy : Nat → ClassId) (t0 : Nat) (aO a4 : Nat) (fo : Nat → Int64) (fs : List Value) (p0 p1 : Int32) (ws2 : va_W) {F LO : Nat} {w1 : S → va_W}  (hc : xT l yX4_dateOf wsX4_dateOf ({ frames := F, cells := 1, slots := 6, locals := LO } : Room) D cy t0 ([.ref a4, .int p0, .int p1]) ((a4, .inr (4, fs)) :: ws2) xIA w1 1 6) : xWi (S := S) l yL_dateOf wsL_dateOf ({ frames := F + 1, cells := 1, slots := 6, locals := LO + 60 } : Room) D cy t0 ([.ref a4, .int p0, .int p1, .ref aO]) ((aO, xL cy 1 fo) :: (a4, .inr (4, fs)) :: ws2) (fun r _ => r = nI 2) (fun u => (aO, xL cy 1 fo) :: w1 u) 1 6 := by
  refine xofWiW (cc := cL_dateOf) (maxL := 5) (hh := [(0, 10, 13, 13), (0, 10, 17, 15)]) (by decide) rfl (Nat.le_of_ble_eq_true rfl) ?_
  intro p e s m below meth c Q A ls hx hb hml hts hown hE hA H locs hP hD hl hS htab kret
  have hl : lv_has ls 5 [(0, .ref a4), (1, .int p0), (2, .int p1), (3, .ref aO)] := hl
  refine lv_aload_n hx hb dL_dateOf_0 rfl (lv_at hl 3 rfl) ?_
  refine lv_iconst (v := nI 0) hx hb dL_dateOf_1 (by decide) ?_
  refine lv_aload_n hx hb dL_dateOf_2 rfl (lv_at hl 0 rfl) ?_
  refine lv_iload_n hx hb dL_dateOf_3 rfl (lv_at hl 1 rfl) ?_
  refine lv_iload_n hx hb dL_dateOf_4 rfl (lv_at hl 2 rfl) ?_
  refine xcT (wr := [(aO, xL cy 1 fo)]) (vx_runV (As := [.int p0, .int p1]) (rest := [.int (nI 0), .ref aO]) ⟨hx, hb, hml, hown, hts⟩ (hc H.size) (cwV 2 hts gL_dateOf_X4_dateOf rfl rfl rfl (by decide +kernel) ⟨Nat.le_refl _, (by show 8 + (4 + 11) + LO ≤ LO + 60; omega)⟩) (xPw.giveV (wc := ((a4, .inr (4, fs)) :: ws2)) hE hS hA hP hD (xix 1 (ws2.length + 1)) (xix_nd _ _) (xix_map ((a4, .inr (4, fs)) :: ws2) [(aO, xL cy 1 fo)]) 1 4 rfl rfl) rfl rfl hl.1 rfl (lv_room (Nat.le_of_ble_eq_true rfl)) dL_dateOf_5 ⟨Nat.le_of_ble_eq_true rfl, Nat.le_of_ble_eq_true rfl⟩) hP hD hS hA (xix 1 (ws2.length + 1)) [0] (xix_map ((a4, .inr (4, fs)) :: ws2) [(aO, xL cy 1 fo)]) rfl (by decide) (xix_dis _) (fun u q ce H locs hP hD hS hce hcv hcl => ?_)
  refine vx_catch (name := xIA) hown [⟨0, 10, 13, 13⟩] ⟨0, 10, 17, 15⟩ [] htab (fun z hz => by
      cases hz with
      | head => exact Or.inr ⟨by decide, xIO, hts (.classLink RL 13 xIO) (by decide +kernel), hE.2.1.2.2.1.2.2.2⟩
      | tail _ h9 => cases h9) (by decide) (by decide) (hts (.classLink RL 15 xIA) (by decide +kernel)) (va_Nw.use rfl hE.2.1.2.2.1.2.1) hce hcv hcl ?_
  refine lv_astore (lv' := [(4, .ref q), (0, .ref a4), (1, .int p0), (2, .int p1), (3, .ref aO)]) hx hb dL_dateOf_17 hl (by decide) rfl (fun ls hl => ?_)
  refine lv_iconst (v := nI 2) hx hb dL_dateOf_19 (by decide) ?_
  exact kret _ u _ _ _ _ _ _ dL_dateOf_20 rfl hP hD hS (Nat.le_of_eq (Nat.zero_add _)) (Nat.le_of_eq (Nat.zero_add _))
set_option maxHeartbeats 4000000 in
set_option maxRecDepth 100000 in
theorem w_hash (l : Launch) (D : va_G) (cy : Nat → ClassId) (t0 : Nat) (aO a4 : Nat) (fo : Nat → Int64) (fs : List Value) (p0 : Int32) (ws2 : va_W) {F LO : Nat} {post : Int32 → Prop}  (hc : xRi l yX4_hash wsX4_hash ({ frames := F, cells := 0, slots := 0, locals := LO } : Room) D cy t0 ([.ref a4, .int p0]) ((a4, .inr (4, fs)) :: ws2) post) : xWi (S := Int32) l yL_hash wsL_hash ({ frames := F + 1, cells := 0, slots := 0, locals := LO + 60 } : Room) D cy t0 ([.ref a4, .int p0, .ref aO]) ((aO, xL cy 1 fo) :: (a4, .inr (4, fs)) :: ws2) (fun r u => r = nI 0 ∧ post u) (fun u => (aO, xL cy 1 (vp_updL fo 0 u.toInt64)) :: (a4, .inr (4, fs)) :: ws2) 0 0 := by
  refine xofWiW (cc := cL_hash) (maxL := 4) (hh := [(0, 9, 12, 15)]) (by decide) rfl (Nat.le_of_ble_eq_true rfl) ?_
  intro p e s m below meth c Q A ls hx hb hml hts hown hE hA H locs hP hD hl hS htab kret
  have hl : lv_has ls 4 [(0, .ref a4), (1, .int p0), (2, .ref aO)] := hl
  refine lv_aload_n hx hb dL_hash_0 rfl (lv_at hl 2 rfl) ?_
  refine lv_iconst (v := nI 0) hx hb dL_hash_1 (by decide) ?_
  refine lv_aload_n hx hb dL_hash_2 rfl (lv_at hl 0 rfl) ?_
  refine lv_iload_n hx hb dL_hash_3 rfl (lv_at hl 1 rfl) ?_
  refine xcRi (va_runV (As := [.int p0]) (rest := [.int (nI 0), .ref aO]) ⟨hx, hb, hml, hown, hts⟩ hc (cwV 1 hts gL_hash_X4_hash rfl rfl rfl (by decide +kernel) ⟨Nat.le_refl _, (by show 8 + (2 + 11) + LO ≤ LO + 60; omega)⟩) (xPr.giveV (wc := ((a4, .inr (4, fs)) :: ws2)) hE hS hP (xix 1 (ws2.length + 1)) (xix_fm ((a4, .inr (4, fs)) :: ws2) [(aO, xL cy 1 fo)]) 1 4 rfl rfl) rfl rfl hl.1 rfl (lv_room (Nat.le_of_ble_eq_true rfl)) dL_hash_4 ⟨(Nat.zero_le _), (Nat.zero_le _)⟩) (fun r hq => ?_)
  refine lv_i2l (v := r.toInt64) hx hb dL_hash_7 rfl ?_
  refine va_last (D := D) hx hb hE.1 hP hD hS 0 2 rfl rfl (vp_in_nI (by omega) (by omega)) dL_hash_8 (fun H locs hP hD hS => ?_)
  rw [nI_clamp (by omega)] at hP hD
  have hP : xP D ((aO, xL cy 1 (vp_updL fo 0 r.toInt64)) :: (a4, .inr (4, fs)) :: ws2) H := hP
  have hD : va_D A ((aO, xL cy 1 (vp_updL fo 0 r.toInt64)) :: (a4, .inr (4, fs)) :: ws2) := hD
  refine lv_goto (tgt := 15) hx hb dL_hash_9 (by decide) ?_
  refine lv_iconst (v := nI 0) hx hb dL_hash_15 (by decide) ?_
  exact kret _ r _ _ _ _ _ _ dL_hash_16 ⟨rfl, hq⟩ hP hD hS (Nat.le_refl _) (Nat.le_refl _)
set_option maxHeartbeats 4000000 in
set_option maxRecDepth 100000 in
theorem w_hashV {S : Type} (l : Launch) (D : va_G) (cy : Nat → ClassId) (t0 : Nat) (aO a4 : Nat) (fo : Nat → Int64) (fs : List Value) (p0 : Int32) (ws2 : va_W) {F LO : Nat} {w1 : S → va_W}  (hc : xT l yX4_hash wsX4_hash ({ frames := F, cells := 1, slots := 6, locals := LO } : Room) D cy t0 ([.ref a4, .int p0]) ((a4, .inr (4, fs)) :: ws2) xIA w1 1 6) : xWi (S := S) l yL_hash wsL_hash ({ frames := F + 1, cells := 1, slots := 6, locals := LO + 60 } : Room) D cy t0 ([.ref a4, .int p0, .ref aO]) ((aO, xL cy 1 fo) :: (a4, .inr (4, fs)) :: ws2) (fun r _ => r = nI 1) (fun u => (aO, xL cy 1 fo) :: w1 u) 1 6 := by
  refine xofWiW (cc := cL_hash) (maxL := 4) (hh := [(0, 9, 12, 15)]) (by decide) rfl (Nat.le_of_ble_eq_true rfl) ?_
  intro p e s m below meth c Q A ls hx hb hml hts hown hE hA H locs hP hD hl hS htab kret
  have hl : lv_has ls 4 [(0, .ref a4), (1, .int p0), (2, .ref aO)] := hl
  refine lv_aload_n hx hb dL_hash_0 rfl (lv_at hl 2 rfl) ?_
  refine lv_iconst (v := nI 0) hx hb dL_hash_1 (by decide) ?_
  refine lv_aload_n hx hb dL_hash_2 rfl (lv_at hl 0 rfl) ?_
  refine lv_iload_n hx hb dL_hash_3 rfl (lv_at hl 1 rfl) ?_
  refine xcT (wr := [(aO, xL cy 1 fo)]) (vx_runV (As := [.int p0]) (rest := [.int (nI 0), .ref aO]) ⟨hx, hb, hml, hown, hts⟩ (hc H.size) (cwV 1 hts gL_hash_X4_hash rfl rfl rfl (by decide +kernel) ⟨Nat.le_refl _, (by show 8 + (2 + 11) + LO ≤ LO + 60; omega)⟩) (xPw.giveV (wc := ((a4, .inr (4, fs)) :: ws2)) hE hS hA hP hD (xix 1 (ws2.length + 1)) (xix_nd _ _) (xix_map ((a4, .inr (4, fs)) :: ws2) [(aO, xL cy 1 fo)]) 1 4 rfl rfl) rfl rfl hl.1 rfl (lv_room (Nat.le_of_ble_eq_true rfl)) dL_hash_4 ⟨Nat.le_of_ble_eq_true rfl, Nat.le_of_ble_eq_true rfl⟩) hP hD hS hA (xix 1 (ws2.length + 1)) [0] (xix_map ((a4, .inr (4, fs)) :: ws2) [(aO, xL cy 1 fo)]) rfl (by decide) (xix_dis _) (fun u q ce H locs hP hD hS hce hcv hcl => ?_)
  refine vx_catch (name := xIA) hown [] ⟨0, 9, 12, 15⟩ [] htab (fun z hz => by cases hz) (by decide) (by decide) (hts (.classLink RL 15 xIA) (by decide +kernel)) (va_Nw.use rfl hE.2.1.2.2.1.2.1) hce hcv hcl ?_
  refine lv_astore_n (lv' := [(3, .ref q), (0, .ref a4), (1, .int p0), (2, .ref aO)]) hx hb dL_hash_12 rfl hl (by decide) rfl (fun ls hl => ?_)
  refine lv_iconst (v := nI 1) hx hb dL_hash_13 (by decide) ?_
  exact kret _ u _ _ _ _ _ _ dL_hash_14 rfl hP hD hS (Nat.le_of_eq (Nat.zero_add _)) (Nat.le_of_eq (Nat.zero_add _))
set_option maxHeartbeats 4000000 in
set_option maxRecDepth 100000 in
theorem w_kept {S : Type} (l : Launch) (D : va_G) (cy : Nat → ClassId) (t0 : Nat) (aO a4 : Nat) (fo : Nat → Int64) (fs : List Value) (p0 : Int32) (ws2 : va_W) {F LO mc ms : Nat} {post : Int32 → S → Prop} {w1 : S → va_W}  (hc : xWi l yX4_kept wsX4_kept ({ frames := F, cells := mc, slots := ms, locals := LO } : Room) D cy t0 ([.ref a4, .int p0]) ((a4, .inr (4, fs)) :: ws2) post w1 mc ms) : xWi (S := Int32 × S) l yL_kept wsL_kept ({ frames := F + 1, cells := mc, slots := ms, locals := LO + 60 } : Room) D cy t0 ([.ref a4, .int p0, .ref aO]) ((aO, xL cy 1 fo) :: (a4, .inr (4, fs)) :: ws2) (fun r u => r = nI 0 ∧ post u.1 u.2) (fun u => (aO, xL cy 1 (vp_updL fo 0 u.1.toInt64)) :: w1 u.2) mc ms := by
  refine xofWiW (cc := cL_kept) (maxL := 4) (hh := [(0, 9, 12, 13)]) (by decide) rfl (Nat.le_of_ble_eq_true rfl) ?_
  intro p e s m below meth c Q A ls hx hb hml hts hown hE hA H locs hP hD hl hS htab kret
  have hl : lv_has ls 4 [(0, .ref a4), (1, .int p0), (2, .ref aO)] := hl
  refine lv_aload_n hx hb dL_kept_0 rfl (lv_at hl 2 rfl) ?_
  refine lv_iconst (v := nI 0) hx hb dL_kept_1 (by decide) ?_
  refine lv_aload_n hx hb dL_kept_2 rfl (lv_at hl 0 rfl) ?_
  refine lv_iload_n hx hb dL_kept_3 rfl (lv_at hl 1 rfl) ?_
  refine xcWi (wr := [(aO, xL cy 1 fo)]) (va_runV (As := [.int p0]) (rest := [.int (nI 0), .ref aO]) ⟨hx, hb, hml, hown, hts⟩ (hc H.size) (cwV 1 hts gL_kept_X4_kept rfl rfl rfl (by decide +kernel) ⟨Nat.le_refl _, (by show 8 + (2 + 11) + LO ≤ LO + 60; omega)⟩) (xPw.giveV (wc := ((a4, .inr (4, fs)) :: ws2)) hE hS hA hP hD (xix 1 (ws2.length + 1)) (xix_nd _ _) (xix_map ((a4, .inr (4, fs)) :: ws2) [(aO, xL cy 1 fo)]) 1 4 rfl rfl) rfl rfl hl.1 rfl (lv_room (Nat.le_of_ble_eq_true rfl)) dL_kept_4 ⟨(Nat.le_of_eq (Nat.zero_add _)), (Nat.le_of_eq (Nat.zero_add _))⟩) hP hD hS hA (xix 1 (ws2.length + 1)) [0] (xix_map ((a4, .inr (4, fs)) :: ws2) [(aO, xL cy 1 fo)]) rfl (by decide) (xix_dis _) (fun r u H locs hq hP hD hS => ?_)
  refine lv_i2l (v := r.toInt64) hx hb dL_kept_7 rfl ?_
  refine va_last (D := D) hx hb hE.1 hP hD hS 0 2 rfl rfl (vp_in_nI (by omega) (by omega)) dL_kept_8 (fun H locs hP hD hS => ?_)
  rw [nI_clamp (by omega)] at hP hD
  have hP : xP D ((aO, xL cy 1 (vp_updL fo 0 r.toInt64)) :: w1 u) H := hP
  have hD : va_D A ((aO, xL cy 1 (vp_updL fo 0 r.toInt64)) :: w1 u) := hD
  refine lv_goto (tgt := 15) hx hb dL_kept_9 (by decide) ?_
  refine lv_iconst (v := nI 0) hx hb dL_kept_15 (by decide) ?_
  exact kret _ (r, u) _ _ _ _ _ _ dL_kept_16 ⟨rfl, hq⟩ hP hD hS (Nat.le_of_eq (Nat.zero_add _)) (Nat.le_of_eq (Nat.zero_add _))
set_option maxHeartbeats 4000000 in
set_option maxRecDepth 100000 in
theorem w_keptT {S : Type} (l : Launch) (D : va_G) (cy : Nat → ClassId) (t0 : Nat) (aO a4 : Nat) (fo : Nat → Int64) (fs : List Value) (p0 : Int32) (ws2 : va_W) {F LO : Nat} {w1 : S → va_W}  (hc : xT l yX4_kept wsX4_kept ({ frames := F, cells := 1, slots := 6, locals := LO } : Room) D cy t0 ([.ref a4, .int p0]) ((a4, .inr (4, fs)) :: ws2) xIO w1 1 6) : xWi (S := S) l yL_kept wsL_kept ({ frames := F + 1, cells := 1, slots := 6, locals := LO + 60 } : Room) D cy t0 ([.ref a4, .int p0, .ref aO]) ((aO, xL cy 1 fo) :: (a4, .inr (4, fs)) :: ws2) (fun r _ => r = nI 1) (fun u => (aO, xL cy 1 fo) :: w1 u) 1 6 := by
  refine xofWiW (cc := cL_kept) (maxL := 4) (hh := [(0, 9, 12, 13)]) (by decide) rfl (Nat.le_of_ble_eq_true rfl) ?_
  intro p e s m below meth c Q A ls hx hb hml hts hown hE hA H locs hP hD hl hS htab kret
  have hl : lv_has ls 4 [(0, .ref a4), (1, .int p0), (2, .ref aO)] := hl
  refine lv_aload_n hx hb dL_kept_0 rfl (lv_at hl 2 rfl) ?_
  refine lv_iconst (v := nI 0) hx hb dL_kept_1 (by decide) ?_
  refine lv_aload_n hx hb dL_kept_2 rfl (lv_at hl 0 rfl) ?_
  refine lv_iload_n hx hb dL_kept_3 rfl (lv_at hl 1 rfl) ?_
  refine xcT (wr := [(aO, xL cy 1 fo)]) (vx_runV (As := [.int p0]) (rest := [.int (nI 0), .ref aO]) ⟨hx, hb, hml, hown, hts⟩ (hc H.size) (cwV 1 hts gL_kept_X4_kept rfl rfl rfl (by decide +kernel) ⟨Nat.le_refl _, (by show 8 + (2 + 11) + LO ≤ LO + 60; omega)⟩) (xPw.giveV (wc := ((a4, .inr (4, fs)) :: ws2)) hE hS hA hP hD (xix 1 (ws2.length + 1)) (xix_nd _ _) (xix_map ((a4, .inr (4, fs)) :: ws2) [(aO, xL cy 1 fo)]) 1 4 rfl rfl) rfl rfl hl.1 rfl (lv_room (Nat.le_of_ble_eq_true rfl)) dL_kept_4 ⟨Nat.le_of_ble_eq_true rfl, Nat.le_of_ble_eq_true rfl⟩) hP hD hS hA (xix 1 (ws2.length + 1)) [0] (xix_map ((a4, .inr (4, fs)) :: ws2) [(aO, xL cy 1 fo)]) rfl (by decide) (xix_dis _) (fun u q ce H locs hP hD hS hce hcv hcl => ?_)
  refine vx_catch (name := xIO) hown [] ⟨0, 9, 12, 13⟩ [] htab (fun z hz => by cases hz) (by decide) (by decide) (hts (.classLink RL 13 xIO) (by decide +kernel)) (va_Nw.use rfl hE.2.1.2.2.1.1) hce hcv hcl ?_
  refine lv_astore_n (lv' := [(3, .ref q), (0, .ref a4), (1, .int p0), (2, .ref aO)]) hx hb dL_kept_12 rfl hl (by decide) rfl (fun ls hl => ?_)
  refine lv_iconst (v := nI 1) hx hb dL_kept_13 (by decide) ?_
  exact kret _ u _ _ _ _ _ _ dL_kept_14 rfl hP hD hS (Nat.le_of_eq (Nat.zero_add _)) (Nat.le_of_eq (Nat.zero_add _))
set_option maxHeartbeats 4000000 in
set_option maxRecDepth 100000 in
theorem w_keptAt {S : Type} (l : Launch) (D : va_G) (cy : Nat → ClassId) (t0 : Nat) (aO a4 : Nat) (fo : Nat → Int64) (fs : List Value) (p0 p1 : Int32) (ws2 : va_W) {F LO mc ms : Nat} {post : Int32 → S → Prop} {w1 : S → va_W}  (hc : xWi l yX4_keptAt wsX4_keptAt ({ frames := F, cells := mc, slots := ms, locals := LO } : Room) D cy t0 ([.ref a4, .int p0, .int p1]) ((a4, .inr (4, fs)) :: ws2) post w1 mc ms) : xWi (S := Int32 × S) l yL_keptAt wsL_keptAt ({ frames := F + 1, cells := mc, slots := ms, locals := LO + 60 } : Room) D cy t0 ([.ref a4, .int p0, .int p1, .ref aO]) ((aO, xL cy 1 fo) :: (a4, .inr (4, fs)) :: ws2) (fun r u => r = nI 0 ∧ post u.1 u.2) (fun u => (aO, xL cy 1 (vp_updL fo 0 u.1.toInt64)) :: w1 u.2) mc ms := by
  refine xofWiW (cc := cL_keptAt) (maxL := 5) (hh := [(0, 10, 13, 13)]) (by decide) rfl (Nat.le_of_ble_eq_true rfl) ?_
  intro p e s m below meth c Q A ls hx hb hml hts hown hE hA H locs hP hD hl hS htab kret
  have hl : lv_has ls 5 [(0, .ref a4), (1, .int p0), (2, .int p1), (3, .ref aO)] := hl
  refine lv_aload_n hx hb dL_keptAt_0 rfl (lv_at hl 3 rfl) ?_
  refine lv_iconst (v := nI 0) hx hb dL_keptAt_1 (by decide) ?_
  refine lv_aload_n hx hb dL_keptAt_2 rfl (lv_at hl 0 rfl) ?_
  refine lv_iload_n hx hb dL_keptAt_3 rfl (lv_at hl 1 rfl) ?_
  refine lv_iload_n hx hb dL_keptAt_4 rfl (lv_at hl 2 rfl) ?_
  refine xcWi (wr := [(aO, xL cy 1 fo)]) (va_runV (As := [.int p0, .int p1]) (rest := [.int (nI 0), .ref aO]) ⟨hx, hb, hml, hown, hts⟩ (hc H.size) (cwV 2 hts gL_keptAt_X4_keptAt rfl rfl rfl (by decide +kernel) ⟨Nat.le_refl _, (by show 8 + (3 + 11) + LO ≤ LO + 60; omega)⟩) (xPw.giveV (wc := ((a4, .inr (4, fs)) :: ws2)) hE hS hA hP hD (xix 1 (ws2.length + 1)) (xix_nd _ _) (xix_map ((a4, .inr (4, fs)) :: ws2) [(aO, xL cy 1 fo)]) 1 4 rfl rfl) rfl rfl hl.1 rfl (lv_room (Nat.le_of_ble_eq_true rfl)) dL_keptAt_5 ⟨(Nat.le_of_eq (Nat.zero_add _)), (Nat.le_of_eq (Nat.zero_add _))⟩) hP hD hS hA (xix 1 (ws2.length + 1)) [0] (xix_map ((a4, .inr (4, fs)) :: ws2) [(aO, xL cy 1 fo)]) rfl (by decide) (xix_dis _) (fun r u H locs hq hP hD hS => ?_)
  refine lv_i2l (v := r.toInt64) hx hb dL_keptAt_8 rfl ?_
  refine va_last (D := D) hx hb hE.1 hP hD hS 0 2 rfl rfl (vp_in_nI (by omega) (by omega)) dL_keptAt_9 (fun H locs hP hD hS => ?_)
  rw [nI_clamp (by omega)] at hP hD
  have hP : xP D ((aO, xL cy 1 (vp_updL fo 0 r.toInt64)) :: w1 u) H := hP
  have hD : va_D A ((aO, xL cy 1 (vp_updL fo 0 r.toInt64)) :: w1 u) := hD
  refine lv_goto (tgt := 17) hx hb dL_keptAt_10 (by decide) ?_
  refine lv_iconst (v := nI 0) hx hb dL_keptAt_17 (by decide) ?_
  exact kret _ (r, u) _ _ _ _ _ _ dL_keptAt_18 ⟨rfl, hq⟩ hP hD hS (Nat.le_of_eq (Nat.zero_add _)) (Nat.le_of_eq (Nat.zero_add _))
set_option maxHeartbeats 4000000 in
set_option maxRecDepth 100000 in
theorem w_keptAtT {S : Type} (l : Launch) (D : va_G) (cy : Nat → ClassId) (t0 : Nat) (aO a4 : Nat) (fo : Nat → Int64) (fs : List Value) (p0 p1 : Int32) (ws2 : va_W) {F LO : Nat} {w1 : S → va_W}  (hc : xT l yX4_keptAt wsX4_keptAt ({ frames := F, cells := 1, slots := 6, locals := LO } : Room) D cy t0 ([.ref a4, .int p0, .int p1]) ((a4, .inr (4, fs)) :: ws2) xIO w1 1 6) : xWi (S := S) l yL_keptAt wsL_keptAt ({ frames := F + 1, cells := 1, slots := 6, locals := LO + 60 } : Room) D cy t0 ([.ref a4, .int p0, .int p1, .ref aO]) ((aO, xL cy 1 fo) :: (a4, .inr (4, fs)) :: ws2) (fun r _ => r = nI 1) (fun u => (aO, xL cy 1 fo) :: w1 u) 1 6 := by
  refine xofWiW (cc := cL_keptAt) (maxL := 5) (hh := [(0, 10, 13, 13)]) (by decide) rfl (Nat.le_of_ble_eq_true rfl) ?_
  intro p e s m below meth c Q A ls hx hb hml hts hown hE hA H locs hP hD hl hS htab kret
  have hl : lv_has ls 5 [(0, .ref a4), (1, .int p0), (2, .int p1), (3, .ref aO)] := hl
  refine lv_aload_n hx hb dL_keptAt_0 rfl (lv_at hl 3 rfl) ?_
  refine lv_iconst (v := nI 0) hx hb dL_keptAt_1 (by decide) ?_
  refine lv_aload_n hx hb dL_keptAt_2 rfl (lv_at hl 0 rfl) ?_
  refine lv_iload_n hx hb dL_keptAt_3 rfl (lv_at hl 1 rfl) ?_
  refine lv_iload_n hx hb dL_keptAt_4 rfl (lv_at hl 2 rfl) ?_
  refine xcT (wr := [(aO, xL cy 1 fo)]) (vx_runV (As := [.int p0, .int p1]) (rest := [.int (nI 0), .ref aO]) ⟨hx, hb, hml, hown, hts⟩ (hc H.size) (cwV 2 hts gL_keptAt_X4_keptAt rfl rfl rfl (by decide +kernel) ⟨Nat.le_refl _, (by show 8 + (3 + 11) + LO ≤ LO + 60; omega)⟩) (xPw.giveV (wc := ((a4, .inr (4, fs)) :: ws2)) hE hS hA hP hD (xix 1 (ws2.length + 1)) (xix_nd _ _) (xix_map ((a4, .inr (4, fs)) :: ws2) [(aO, xL cy 1 fo)]) 1 4 rfl rfl) rfl rfl hl.1 rfl (lv_room (Nat.le_of_ble_eq_true rfl)) dL_keptAt_5 ⟨Nat.le_of_ble_eq_true rfl, Nat.le_of_ble_eq_true rfl⟩) hP hD hS hA (xix 1 (ws2.length + 1)) [0] (xix_map ((a4, .inr (4, fs)) :: ws2) [(aO, xL cy 1 fo)]) rfl (by decide) (xix_dis _) (fun u q ce H locs hP hD hS hce hcv hcl => ?_)
  refine vx_catch (name := xIO) hown [] ⟨0, 10, 13, 13⟩ [] htab (fun z hz => by cases hz) (by decide) (by decide) (hts (.classLink RL 13 xIO) (by decide +kernel)) (va_Nw.use rfl hE.2.1.2.2.1.1) hce hcv hcl ?_
  refine lv_astore (lv' := [(4, .ref q), (0, .ref a4), (1, .int p0), (2, .int p1), (3, .ref aO)]) hx hb dL_keptAt_13 hl (by decide) rfl (fun ls hl => ?_)
  refine lv_iconst (v := nI 1) hx hb dL_keptAt_15 (by decide) ?_
  exact kret _ u _ _ _ _ _ _ dL_keptAt_16 rfl hP hD hS (Nat.le_of_eq (Nat.zero_add _)) (Nat.le_of_eq (Nat.zero_add _))
set_option maxHeartbeats 4000000 in
set_option maxRecDepth 100000 in
theorem w_byLeast {S : Type} (l : Launch) (D : va_G) (cy : Nat → ClassId) (t0 : Nat) (aO a4 : Nat) (fo : Nat → Int64) (fs : List Value) (p0 : Int32) (ws2 : va_W) {F LO mc ms : Nat} {post : Int32 → S → Prop} {w1 : S → va_W}  (hc : xWi l yX4_byLeast wsX4_byLeast ({ frames := F, cells := mc, slots := ms, locals := LO } : Room) D cy t0 ([.ref a4, .int p0]) ((a4, .inr (4, fs)) :: ws2) post w1 mc ms) : xWi (S := Int32 × S) l yL_byLeast wsL_byLeast ({ frames := F + 1, cells := mc, slots := ms, locals := LO + 60 } : Room) D cy t0 ([.ref a4, .int p0, .ref aO]) ((aO, xL cy 1 fo) :: (a4, .inr (4, fs)) :: ws2) (fun r u => r = nI 0 ∧ post u.1 u.2) (fun u => (aO, xL cy 1 (vp_updL fo 0 u.1.toInt64)) :: w1 u.2) mc ms := by
  refine xofWiW (cc := cL_byLeast) (maxL := 4) (hh := [(0, 9, 12, 13)]) (by decide) rfl (Nat.le_of_ble_eq_true rfl) ?_
  intro p e s m below meth c Q A ls hx hb hml hts hown hE hA H locs hP hD hl hS htab kret
  have hl : lv_has ls 4 [(0, .ref a4), (1, .int p0), (2, .ref aO)] := hl
  refine lv_aload_n hx hb dL_byLeast_0 rfl (lv_at hl 2 rfl) ?_
  refine lv_iconst (v := nI 0) hx hb dL_byLeast_1 (by decide) ?_
  refine lv_aload_n hx hb dL_byLeast_2 rfl (lv_at hl 0 rfl) ?_
  refine lv_iload_n hx hb dL_byLeast_3 rfl (lv_at hl 1 rfl) ?_
  refine xcWi (wr := [(aO, xL cy 1 fo)]) (va_runV (As := [.int p0]) (rest := [.int (nI 0), .ref aO]) ⟨hx, hb, hml, hown, hts⟩ (hc H.size) (cwV 1 hts gL_byLeast_X4_byLeast rfl rfl rfl (by decide +kernel) ⟨Nat.le_refl _, (by show 8 + (2 + 11) + LO ≤ LO + 60; omega)⟩) (xPw.giveV (wc := ((a4, .inr (4, fs)) :: ws2)) hE hS hA hP hD (xix 1 (ws2.length + 1)) (xix_nd _ _) (xix_map ((a4, .inr (4, fs)) :: ws2) [(aO, xL cy 1 fo)]) 1 4 rfl rfl) rfl rfl hl.1 rfl (lv_room (Nat.le_of_ble_eq_true rfl)) dL_byLeast_4 ⟨(Nat.le_of_eq (Nat.zero_add _)), (Nat.le_of_eq (Nat.zero_add _))⟩) hP hD hS hA (xix 1 (ws2.length + 1)) [0] (xix_map ((a4, .inr (4, fs)) :: ws2) [(aO, xL cy 1 fo)]) rfl (by decide) (xix_dis _) (fun r u H locs hq hP hD hS => ?_)
  refine lv_i2l (v := r.toInt64) hx hb dL_byLeast_7 rfl ?_
  refine va_last (D := D) hx hb hE.1 hP hD hS 0 2 rfl rfl (vp_in_nI (by omega) (by omega)) dL_byLeast_8 (fun H locs hP hD hS => ?_)
  rw [nI_clamp (by omega)] at hP hD
  have hP : xP D ((aO, xL cy 1 (vp_updL fo 0 r.toInt64)) :: w1 u) H := hP
  have hD : va_D A ((aO, xL cy 1 (vp_updL fo 0 r.toInt64)) :: w1 u) := hD
  refine lv_goto (tgt := 15) hx hb dL_byLeast_9 (by decide) ?_
  refine lv_iconst (v := nI 0) hx hb dL_byLeast_15 (by decide) ?_
  exact kret _ (r, u) _ _ _ _ _ _ dL_byLeast_16 ⟨rfl, hq⟩ hP hD hS (Nat.le_of_eq (Nat.zero_add _)) (Nat.le_of_eq (Nat.zero_add _))
set_option maxHeartbeats 4000000 in
set_option maxRecDepth 100000 in
theorem w_byLeastT {S : Type} (l : Launch) (D : va_G) (cy : Nat → ClassId) (t0 : Nat) (aO a4 : Nat) (fo : Nat → Int64) (fs : List Value) (p0 : Int32) (ws2 : va_W) {F LO : Nat} {w1 : S → va_W}  (hc : xT l yX4_byLeast wsX4_byLeast ({ frames := F, cells := 1, slots := 6, locals := LO } : Room) D cy t0 ([.ref a4, .int p0]) ((a4, .inr (4, fs)) :: ws2) xIO w1 1 6) : xWi (S := S) l yL_byLeast wsL_byLeast ({ frames := F + 1, cells := 1, slots := 6, locals := LO + 60 } : Room) D cy t0 ([.ref a4, .int p0, .ref aO]) ((aO, xL cy 1 fo) :: (a4, .inr (4, fs)) :: ws2) (fun r _ => r = nI 1) (fun u => (aO, xL cy 1 fo) :: w1 u) 1 6 := by
  refine xofWiW (cc := cL_byLeast) (maxL := 4) (hh := [(0, 9, 12, 13)]) (by decide) rfl (Nat.le_of_ble_eq_true rfl) ?_
  intro p e s m below meth c Q A ls hx hb hml hts hown hE hA H locs hP hD hl hS htab kret
  have hl : lv_has ls 4 [(0, .ref a4), (1, .int p0), (2, .ref aO)] := hl
  refine lv_aload_n hx hb dL_byLeast_0 rfl (lv_at hl 2 rfl) ?_
  refine lv_iconst (v := nI 0) hx hb dL_byLeast_1 (by decide) ?_
  refine lv_aload_n hx hb dL_byLeast_2 rfl (lv_at hl 0 rfl) ?_
  refine lv_iload_n hx hb dL_byLeast_3 rfl (lv_at hl 1 rfl) ?_
  refine xcT (wr := [(aO, xL cy 1 fo)]) (vx_runV (As := [.int p0]) (rest := [.int (nI 0), .ref aO]) ⟨hx, hb, hml, hown, hts⟩ (hc H.size) (cwV 1 hts gL_byLeast_X4_byLeast rfl rfl rfl (by decide +kernel) ⟨Nat.le_refl _, (by show 8 + (2 + 11) + LO ≤ LO + 60; omega)⟩) (xPw.giveV (wc := ((a4, .inr (4, fs)) :: ws2)) hE hS hA hP hD (xix 1 (ws2.length + 1)) (xix_nd _ _) (xix_map ((a4, .inr (4, fs)) :: ws2) [(aO, xL cy 1 fo)]) 1 4 rfl rfl) rfl rfl hl.1 rfl (lv_room (Nat.le_of_ble_eq_true rfl)) dL_byLeast_4 ⟨Nat.le_of_ble_eq_true rfl, Nat.le_of_ble_eq_true rfl⟩) hP hD hS hA (xix 1 (ws2.length + 1)) [0] (xix_map ((a4, .inr (4, fs)) :: ws2) [(aO, xL cy 1 fo)]) rfl (by decide) (xix_dis _) (fun u q ce H locs hP hD hS hce hcv hcl => ?_)
  refine vx_catch (name := xIO) hown [] ⟨0, 9, 12, 13⟩ [] htab (fun z hz => by cases hz) (by decide) (by decide) (hts (.classLink RL 13 xIO) (by decide +kernel)) (va_Nw.use rfl hE.2.1.2.2.1.1) hce hcv hcl ?_
  refine lv_astore_n (lv' := [(3, .ref q), (0, .ref a4), (1, .int p0), (2, .ref aO)]) hx hb dL_byLeast_12 rfl hl (by decide) rfl (fun ls hl => ?_)
  refine lv_iconst (v := nI 1) hx hb dL_byLeast_13 (by decide) ?_
  exact kret _ u _ _ _ _ _ _ dL_byLeast_14 rfl hP hD hS (Nat.le_of_eq (Nat.zero_add _)) (Nat.le_of_eq (Nat.zero_add _))
set_option maxHeartbeats 4000000 in
set_option maxRecDepth 100000 in
theorem w_together {S : Type} (l : Launch) (D : va_G) (cy : Nat → ClassId) (t0 : Nat) (aO a4 : Nat) (fo : Nat → Int64) (fs : List Value) (p0 p1 : Int32) (ws2 : va_W) {F LO mc ms : Nat} {post : Int32 → S → Prop} {w1 : S → va_W}  (hc : xWi l yX4_together wsX4_together ({ frames := F, cells := mc, slots := ms, locals := LO } : Room) D cy t0 ([.ref a4, .int p0, .int p1]) ((a4, .inr (4, fs)) :: ws2) post w1 mc ms) : xWi (S := Int32 × S) l yL_together wsL_together ({ frames := F + 1, cells := mc, slots := ms, locals := LO + 60 } : Room) D cy t0 ([.ref a4, .int p0, .int p1, .ref aO]) ((aO, xL cy 1 fo) :: (a4, .inr (4, fs)) :: ws2) (fun r u => r = nI 0 ∧ post u.1 u.2) (fun u => (aO, xL cy 1 (vp_updL fo 0 u.1.toInt64)) :: w1 u.2) mc ms := by
  refine xofWiW (cc := cL_together) (maxL := 5) (hh := [(0, 10, 13, 13)]) (by decide) rfl (Nat.le_of_ble_eq_true rfl) ?_
  intro p e s m below meth c Q A ls hx hb hml hts hown hE hA H locs hP hD hl hS htab kret
  have hl : lv_has ls 5 [(0, .ref a4), (1, .int p0), (2, .int p1), (3, .ref aO)] := hl
  refine lv_aload_n hx hb dL_together_0 rfl (lv_at hl 3 rfl) ?_
  refine lv_iconst (v := nI 0) hx hb dL_together_1 (by decide) ?_
  refine lv_aload_n hx hb dL_together_2 rfl (lv_at hl 0 rfl) ?_
  refine lv_iload_n hx hb dL_together_3 rfl (lv_at hl 1 rfl) ?_
  refine lv_iload_n hx hb dL_together_4 rfl (lv_at hl 2 rfl) ?_
  refine xcWi (wr := [(aO, xL cy 1 fo)]) (va_runV (As := [.int p0, .int p1]) (rest := [.int (nI 0), .ref aO]) ⟨hx, hb, hml, hown, hts⟩ (hc H.size) (cwV 2 hts gL_together_X4_together rfl rfl rfl (by decide +kernel) ⟨Nat.le_refl _, (by show 8 + (3 + 11) + LO ≤ LO + 60; omega)⟩) (xPw.giveV (wc := ((a4, .inr (4, fs)) :: ws2)) hE hS hA hP hD (xix 1 (ws2.length + 1)) (xix_nd _ _) (xix_map ((a4, .inr (4, fs)) :: ws2) [(aO, xL cy 1 fo)]) 1 4 rfl rfl) rfl rfl hl.1 rfl (lv_room (Nat.le_of_ble_eq_true rfl)) dL_together_5 ⟨(Nat.le_of_eq (Nat.zero_add _)), (Nat.le_of_eq (Nat.zero_add _))⟩) hP hD hS hA (xix 1 (ws2.length + 1)) [0] (xix_map ((a4, .inr (4, fs)) :: ws2) [(aO, xL cy 1 fo)]) rfl (by decide) (xix_dis _) (fun r u H locs hq hP hD hS => ?_)
  refine lv_i2l (v := r.toInt64) hx hb dL_together_8 rfl ?_
  refine va_last (D := D) hx hb hE.1 hP hD hS 0 2 rfl rfl (vp_in_nI (by omega) (by omega)) dL_together_9 (fun H locs hP hD hS => ?_)
  rw [nI_clamp (by omega)] at hP hD
  have hP : xP D ((aO, xL cy 1 (vp_updL fo 0 r.toInt64)) :: w1 u) H := hP
  have hD : va_D A ((aO, xL cy 1 (vp_updL fo 0 r.toInt64)) :: w1 u) := hD
  refine lv_goto (tgt := 17) hx hb dL_together_10 (by decide) ?_
  refine lv_iconst (v := nI 0) hx hb dL_together_17 (by decide) ?_
  exact kret _ (r, u) _ _ _ _ _ _ dL_together_18 ⟨rfl, hq⟩ hP hD hS (Nat.le_of_eq (Nat.zero_add _)) (Nat.le_of_eq (Nat.zero_add _))
set_option maxHeartbeats 4000000 in
set_option maxRecDepth 100000 in
theorem w_togetherT {S : Type} (l : Launch) (D : va_G) (cy : Nat → ClassId) (t0 : Nat) (aO a4 : Nat) (fo : Nat → Int64) (fs : List Value) (p0 p1 : Int32) (ws2 : va_W) {F LO : Nat} {w1 : S → va_W}  (hc : xT l yX4_together wsX4_together ({ frames := F, cells := 1, slots := 6, locals := LO } : Room) D cy t0 ([.ref a4, .int p0, .int p1]) ((a4, .inr (4, fs)) :: ws2) xIO w1 1 6) : xWi (S := S) l yL_together wsL_together ({ frames := F + 1, cells := 1, slots := 6, locals := LO + 60 } : Room) D cy t0 ([.ref a4, .int p0, .int p1, .ref aO]) ((aO, xL cy 1 fo) :: (a4, .inr (4, fs)) :: ws2) (fun r _ => r = nI 1) (fun u => (aO, xL cy 1 fo) :: w1 u) 1 6 := by
  refine xofWiW (cc := cL_together) (maxL := 5) (hh := [(0, 10, 13, 13)]) (by decide) rfl (Nat.le_of_ble_eq_true rfl) ?_
  intro p e s m below meth c Q A ls hx hb hml hts hown hE hA H locs hP hD hl hS htab kret
  have hl : lv_has ls 5 [(0, .ref a4), (1, .int p0), (2, .int p1), (3, .ref aO)] := hl
  refine lv_aload_n hx hb dL_together_0 rfl (lv_at hl 3 rfl) ?_
  refine lv_iconst (v := nI 0) hx hb dL_together_1 (by decide) ?_
  refine lv_aload_n hx hb dL_together_2 rfl (lv_at hl 0 rfl) ?_
  refine lv_iload_n hx hb dL_together_3 rfl (lv_at hl 1 rfl) ?_
  refine lv_iload_n hx hb dL_together_4 rfl (lv_at hl 2 rfl) ?_
  refine xcT (wr := [(aO, xL cy 1 fo)]) (vx_runV (As := [.int p0, .int p1]) (rest := [.int (nI 0), .ref aO]) ⟨hx, hb, hml, hown, hts⟩ (hc H.size) (cwV 2 hts gL_together_X4_together rfl rfl rfl (by decide +kernel) ⟨Nat.le_refl _, (by show 8 + (3 + 11) + LO ≤ LO + 60; omega)⟩) (xPw.giveV (wc := ((a4, .inr (4, fs)) :: ws2)) hE hS hA hP hD (xix 1 (ws2.length + 1)) (xix_nd _ _) (xix_map ((a4, .inr (4, fs)) :: ws2) [(aO, xL cy 1 fo)]) 1 4 rfl rfl) rfl rfl hl.1 rfl (lv_room (Nat.le_of_ble_eq_true rfl)) dL_together_5 ⟨Nat.le_of_ble_eq_true rfl, Nat.le_of_ble_eq_true rfl⟩) hP hD hS hA (xix 1 (ws2.length + 1)) [0] (xix_map ((a4, .inr (4, fs)) :: ws2) [(aO, xL cy 1 fo)]) rfl (by decide) (xix_dis _) (fun u q ce H locs hP hD hS hce hcv hcl => ?_)
  refine vx_catch (name := xIO) hown [] ⟨0, 10, 13, 13⟩ [] htab (fun z hz => by cases hz) (by decide) (by decide) (hts (.classLink RL 13 xIO) (by decide +kernel)) (va_Nw.use rfl hE.2.1.2.2.1.1) hce hcv hcl ?_
  refine lv_astore (lv' := [(4, .ref q), (0, .ref a4), (1, .int p0), (2, .int p1), (3, .ref aO)]) hx hb dL_together_13 hl (by decide) rfl (fun ls hl => ?_)
  refine lv_iconst (v := nI 1) hx hb dL_together_15 (by decide) ?_
  exact kret _ u _ _ _ _ _ _ dL_together_16 rfl hP hD hS (Nat.le_of_eq (Nat.zero_add _)) (Nat.le_of_eq (Nat.zero_add _))
set_option maxHeartbeats 4000000 in
set_option maxRecDepth 100000 in
theorem w_common {S : Type} (l : Launch) (D : va_G) (cy : Nat → ClassId) (t0 : Nat) (aO a4 : Nat) (fo : Nat → Int64) (fs : List Value) (p0 p1 : Int32) (ws2 : va_W) {F LO mc ms : Nat} {post : Int32 → S → Prop} {w1 : S → va_W}  (hc : xWi l yX4_common wsX4_common ({ frames := F, cells := mc, slots := ms, locals := LO } : Room) D cy t0 ([.ref a4, .int p0, .int p1]) ((a4, .inr (4, fs)) :: ws2) post w1 mc ms) : xWi (S := Int32 × S) l yL_common wsL_common ({ frames := F + 1, cells := mc, slots := ms, locals := LO + 60 } : Room) D cy t0 ([.ref a4, .int p0, .int p1, .ref aO]) ((aO, xL cy 1 fo) :: (a4, .inr (4, fs)) :: ws2) (fun r u => r = nI 0 ∧ post u.1 u.2) (fun u => (aO, xL cy 1 (vp_updL fo 0 u.1.toInt64)) :: w1 u.2) mc ms := by
  refine xofWiW (cc := cL_common) (maxL := 5) (hh := [(0, 10, 13, 13)]) (by decide) rfl (Nat.le_of_ble_eq_true rfl) ?_
  intro p e s m below meth c Q A ls hx hb hml hts hown hE hA H locs hP hD hl hS htab kret
  have hl : lv_has ls 5 [(0, .ref a4), (1, .int p0), (2, .int p1), (3, .ref aO)] := hl
  refine lv_aload_n hx hb dL_common_0 rfl (lv_at hl 3 rfl) ?_
  refine lv_iconst (v := nI 0) hx hb dL_common_1 (by decide) ?_
  refine lv_aload_n hx hb dL_common_2 rfl (lv_at hl 0 rfl) ?_
  refine lv_iload_n hx hb dL_common_3 rfl (lv_at hl 1 rfl) ?_
  refine lv_iload_n hx hb dL_common_4 rfl (lv_at hl 2 rfl) ?_
  refine xcWi (wr := [(aO, xL cy 1 fo)]) (va_runV (As := [.int p0, .int p1]) (rest := [.int (nI 0), .ref aO]) ⟨hx, hb, hml, hown, hts⟩ (hc H.size) (cwV 2 hts gL_common_X4_common rfl rfl rfl (by decide +kernel) ⟨Nat.le_refl _, (by show 8 + (6 + 11) + LO ≤ LO + 60; omega)⟩) (xPw.giveV (wc := ((a4, .inr (4, fs)) :: ws2)) hE hS hA hP hD (xix 1 (ws2.length + 1)) (xix_nd _ _) (xix_map ((a4, .inr (4, fs)) :: ws2) [(aO, xL cy 1 fo)]) 1 4 rfl rfl) rfl rfl hl.1 rfl (lv_room (Nat.le_of_ble_eq_true rfl)) dL_common_5 ⟨(Nat.le_of_eq (Nat.zero_add _)), (Nat.le_of_eq (Nat.zero_add _))⟩) hP hD hS hA (xix 1 (ws2.length + 1)) [0] (xix_map ((a4, .inr (4, fs)) :: ws2) [(aO, xL cy 1 fo)]) rfl (by decide) (xix_dis _) (fun r u H locs hq hP hD hS => ?_)
  refine lv_i2l (v := r.toInt64) hx hb dL_common_8 rfl ?_
  refine va_last (D := D) hx hb hE.1 hP hD hS 0 2 rfl rfl (vp_in_nI (by omega) (by omega)) dL_common_9 (fun H locs hP hD hS => ?_)
  rw [nI_clamp (by omega)] at hP hD
  have hP : xP D ((aO, xL cy 1 (vp_updL fo 0 r.toInt64)) :: w1 u) H := hP
  have hD : va_D A ((aO, xL cy 1 (vp_updL fo 0 r.toInt64)) :: w1 u) := hD
  refine lv_goto (tgt := 17) hx hb dL_common_10 (by decide) ?_
  refine lv_iconst (v := nI 0) hx hb dL_common_17 (by decide) ?_
  exact kret _ (r, u) _ _ _ _ _ _ dL_common_18 ⟨rfl, hq⟩ hP hD hS (Nat.le_of_eq (Nat.zero_add _)) (Nat.le_of_eq (Nat.zero_add _))
set_option maxHeartbeats 4000000 in
set_option maxRecDepth 100000 in
theorem w_commonT {S : Type} (l : Launch) (D : va_G) (cy : Nat → ClassId) (t0 : Nat) (aO a4 : Nat) (fo : Nat → Int64) (fs : List Value) (p0 p1 : Int32) (ws2 : va_W) {F LO : Nat} {w1 : S → va_W}  (hc : xT l yX4_common wsX4_common ({ frames := F, cells := 1, slots := 6, locals := LO } : Room) D cy t0 ([.ref a4, .int p0, .int p1]) ((a4, .inr (4, fs)) :: ws2) xIO w1 1 6) : xWi (S := S) l yL_common wsL_common ({ frames := F + 1, cells := 1, slots := 6, locals := LO + 60 } : Room) D cy t0 ([.ref a4, .int p0, .int p1, .ref aO]) ((aO, xL cy 1 fo) :: (a4, .inr (4, fs)) :: ws2) (fun r _ => r = nI 1) (fun u => (aO, xL cy 1 fo) :: w1 u) 1 6 := by
  refine xofWiW (cc := cL_common) (maxL := 5) (hh := [(0, 10, 13, 13)]) (by decide) rfl (Nat.le_of_ble_eq_true rfl) ?_
  intro p e s m below meth c Q A ls hx hb hml hts hown hE hA H locs hP hD hl hS htab kret
  have hl : lv_has ls 5 [(0, .ref a4), (1, .int p0), (2, .int p1), (3, .ref aO)] := hl
  refine lv_aload_n hx hb dL_common_0 rfl (lv_at hl 3 rfl) ?_
  refine lv_iconst (v := nI 0) hx hb dL_common_1 (by decide) ?_
  refine lv_aload_n hx hb dL_common_2 rfl (lv_at hl 0 rfl) ?_
  refine lv_iload_n hx hb dL_common_3 rfl (lv_at hl 1 rfl) ?_
  refine lv_iload_n hx hb dL_common_4 rfl (lv_at hl 2 rfl) ?_
  refine xcT (wr := [(aO, xL cy 1 fo)]) (vx_runV (As := [.int p0, .int p1]) (rest := [.int (nI 0), .ref aO]) ⟨hx, hb, hml, hown, hts⟩ (hc H.size) (cwV 2 hts gL_common_X4_common rfl rfl rfl (by decide +kernel) ⟨Nat.le_refl _, (by show 8 + (6 + 11) + LO ≤ LO + 60; omega)⟩) (xPw.giveV (wc := ((a4, .inr (4, fs)) :: ws2)) hE hS hA hP hD (xix 1 (ws2.length + 1)) (xix_nd _ _) (xix_map ((a4, .inr (4, fs)) :: ws2) [(aO, xL cy 1 fo)]) 1 4 rfl rfl) rfl rfl hl.1 rfl (lv_room (Nat.le_of_ble_eq_true rfl)) dL_common_5 ⟨Nat.le_of_ble_eq_true rfl, Nat.le_of_ble_eq_true rfl⟩) hP hD hS hA (xix 1 (ws2.length + 1)) [0] (xix_map ((a4, .inr (4, fs)) :: ws2) [(aO, xL cy 1 fo)]) rfl (by decide) (xix_dis _) (fun u q ce H locs hP hD hS hce hcv hcl => ?_)
  refine vx_catch (name := xIO) hown [] ⟨0, 10, 13, 13⟩ [] htab (fun z hz => by cases hz) (by decide) (by decide) (hts (.classLink RL 13 xIO) (by decide +kernel)) (va_Nw.use rfl hE.2.1.2.2.1.1) hce hcv hcl ?_
  refine lv_astore (lv' := [(4, .ref q), (0, .ref a4), (1, .int p0), (2, .int p1), (3, .ref aO)]) hx hb dL_common_13 hl (by decide) rfl (fun ls hl => ?_)
  refine lv_iconst (v := nI 1) hx hb dL_common_15 (by decide) ?_
  exact kret _ u _ _ _ _ _ _ dL_common_16 rfl hP hD hS (Nat.le_of_eq (Nat.zero_add _)) (Nat.le_of_eq (Nat.zero_add _))
set_option maxHeartbeats 4000000 in
set_option maxRecDepth 100000 in
theorem w_without {S : Type} (l : Launch) (D : va_G) (cy : Nat → ClassId) (t0 : Nat) (aO a4 : Nat) (fo : Nat → Int64) (fs : List Value) (p0 p1 : Int32) (ws2 : va_W) {F LO mc ms : Nat} {post : Int32 → S → Prop} {w1 : S → va_W}  (hc : xWi l yX4_without wsX4_without ({ frames := F, cells := mc, slots := ms, locals := LO } : Room) D cy t0 ([.ref a4, .int p0, .int p1]) ((a4, .inr (4, fs)) :: ws2) post w1 mc ms) : xWi (S := Int32 × S) l yL_without wsL_without ({ frames := F + 1, cells := mc, slots := ms, locals := LO + 60 } : Room) D cy t0 ([.ref a4, .int p0, .int p1, .ref aO]) ((aO, xL cy 1 fo) :: (a4, .inr (4, fs)) :: ws2) (fun r u => r = nI 0 ∧ post u.1 u.2) (fun u => (aO, xL cy 1 (vp_updL fo 0 u.1.toInt64)) :: w1 u.2) mc ms := by
  refine xofWiW (cc := cL_without) (maxL := 5) (hh := [(0, 10, 13, 13)]) (by decide) rfl (Nat.le_of_ble_eq_true rfl) ?_
  intro p e s m below meth c Q A ls hx hb hml hts hown hE hA H locs hP hD hl hS htab kret
  have hl : lv_has ls 5 [(0, .ref a4), (1, .int p0), (2, .int p1), (3, .ref aO)] := hl
  refine lv_aload_n hx hb dL_without_0 rfl (lv_at hl 3 rfl) ?_
  refine lv_iconst (v := nI 0) hx hb dL_without_1 (by decide) ?_
  refine lv_aload_n hx hb dL_without_2 rfl (lv_at hl 0 rfl) ?_
  refine lv_iload_n hx hb dL_without_3 rfl (lv_at hl 1 rfl) ?_
  refine lv_iload_n hx hb dL_without_4 rfl (lv_at hl 2 rfl) ?_
  refine xcWi (wr := [(aO, xL cy 1 fo)]) (va_runV (As := [.int p0, .int p1]) (rest := [.int (nI 0), .ref aO]) ⟨hx, hb, hml, hown, hts⟩ (hc H.size) (cwV 2 hts gL_without_X4_without rfl rfl rfl (by decide +kernel) ⟨Nat.le_refl _, (by show 8 + (5 + 11) + LO ≤ LO + 60; omega)⟩) (xPw.giveV (wc := ((a4, .inr (4, fs)) :: ws2)) hE hS hA hP hD (xix 1 (ws2.length + 1)) (xix_nd _ _) (xix_map ((a4, .inr (4, fs)) :: ws2) [(aO, xL cy 1 fo)]) 1 4 rfl rfl) rfl rfl hl.1 rfl (lv_room (Nat.le_of_ble_eq_true rfl)) dL_without_5 ⟨(Nat.le_of_eq (Nat.zero_add _)), (Nat.le_of_eq (Nat.zero_add _))⟩) hP hD hS hA (xix 1 (ws2.length + 1)) [0] (xix_map ((a4, .inr (4, fs)) :: ws2) [(aO, xL cy 1 fo)]) rfl (by decide) (xix_dis _) (fun r u H locs hq hP hD hS => ?_)
  refine lv_i2l (v := r.toInt64) hx hb dL_without_8 rfl ?_
  refine va_last (D := D) hx hb hE.1 hP hD hS 0 2 rfl rfl (vp_in_nI (by omega) (by omega)) dL_without_9 (fun H locs hP hD hS => ?_)
  rw [nI_clamp (by omega)] at hP hD
  have hP : xP D ((aO, xL cy 1 (vp_updL fo 0 r.toInt64)) :: w1 u) H := hP
  have hD : va_D A ((aO, xL cy 1 (vp_updL fo 0 r.toInt64)) :: w1 u) := hD
  refine lv_goto (tgt := 17) hx hb dL_without_10 (by decide) ?_
  refine lv_iconst (v := nI 0) hx hb dL_without_17 (by decide) ?_
  exact kret _ (r, u) _ _ _ _ _ _ dL_without_18 ⟨rfl, hq⟩ hP hD hS (Nat.le_of_eq (Nat.zero_add _)) (Nat.le_of_eq (Nat.zero_add _))
set_option maxHeartbeats 4000000 in
set_option maxRecDepth 100000 in
theorem w_withoutT {S : Type} (l : Launch) (D : va_G) (cy : Nat → ClassId) (t0 : Nat) (aO a4 : Nat) (fo : Nat → Int64) (fs : List Value) (p0 p1 : Int32) (ws2 : va_W) {F LO : Nat} {w1 : S → va_W}  (hc : xT l yX4_without wsX4_without ({ frames := F, cells := 1, slots := 6, locals := LO } : Room) D cy t0 ([.ref a4, .int p0, .int p1]) ((a4, .inr (4, fs)) :: ws2) xIO w1 1 6) : xWi (S := S) l yL_without wsL_without ({ frames := F + 1, cells := 1, slots := 6, locals := LO + 60 } : Room) D cy t0 ([.ref a4, .int p0, .int p1, .ref aO]) ((aO, xL cy 1 fo) :: (a4, .inr (4, fs)) :: ws2) (fun r _ => r = nI 1) (fun u => (aO, xL cy 1 fo) :: w1 u) 1 6 := by
  refine xofWiW (cc := cL_without) (maxL := 5) (hh := [(0, 10, 13, 13)]) (by decide) rfl (Nat.le_of_ble_eq_true rfl) ?_
  intro p e s m below meth c Q A ls hx hb hml hts hown hE hA H locs hP hD hl hS htab kret
  have hl : lv_has ls 5 [(0, .ref a4), (1, .int p0), (2, .int p1), (3, .ref aO)] := hl
  refine lv_aload_n hx hb dL_without_0 rfl (lv_at hl 3 rfl) ?_
  refine lv_iconst (v := nI 0) hx hb dL_without_1 (by decide) ?_
  refine lv_aload_n hx hb dL_without_2 rfl (lv_at hl 0 rfl) ?_
  refine lv_iload_n hx hb dL_without_3 rfl (lv_at hl 1 rfl) ?_
  refine lv_iload_n hx hb dL_without_4 rfl (lv_at hl 2 rfl) ?_
  refine xcT (wr := [(aO, xL cy 1 fo)]) (vx_runV (As := [.int p0, .int p1]) (rest := [.int (nI 0), .ref aO]) ⟨hx, hb, hml, hown, hts⟩ (hc H.size) (cwV 2 hts gL_without_X4_without rfl rfl rfl (by decide +kernel) ⟨Nat.le_refl _, (by show 8 + (5 + 11) + LO ≤ LO + 60; omega)⟩) (xPw.giveV (wc := ((a4, .inr (4, fs)) :: ws2)) hE hS hA hP hD (xix 1 (ws2.length + 1)) (xix_nd _ _) (xix_map ((a4, .inr (4, fs)) :: ws2) [(aO, xL cy 1 fo)]) 1 4 rfl rfl) rfl rfl hl.1 rfl (lv_room (Nat.le_of_ble_eq_true rfl)) dL_without_5 ⟨Nat.le_of_ble_eq_true rfl, Nat.le_of_ble_eq_true rfl⟩) hP hD hS hA (xix 1 (ws2.length + 1)) [0] (xix_map ((a4, .inr (4, fs)) :: ws2) [(aO, xL cy 1 fo)]) rfl (by decide) (xix_dis _) (fun u q ce H locs hP hD hS hce hcv hcl => ?_)
  refine vx_catch (name := xIO) hown [] ⟨0, 10, 13, 13⟩ [] htab (fun z hz => by cases hz) (by decide) (by decide) (hts (.classLink RL 13 xIO) (by decide +kernel)) (va_Nw.use rfl hE.2.1.2.2.1.1) hce hcv hcl ?_
  refine lv_astore (lv' := [(4, .ref q), (0, .ref a4), (1, .int p0), (2, .int p1), (3, .ref aO)]) hx hb dL_without_13 hl (by decide) rfl (fun ls hl => ?_)
  refine lv_iconst (v := nI 1) hx hb dL_without_15 (by decide) ?_
  exact kret _ u _ _ _ _ _ _ dL_without_16 rfl hP hD hS (Nat.le_of_eq (Nat.zero_add _)) (Nat.le_of_eq (Nat.zero_add _))
set_option maxHeartbeats 4000000 in
set_option maxRecDepth 100000 in
theorem w_register {S : Type} (l : Launch) (D : va_G) (cy : Nat → ClassId) (t0 : Nat) (aO a4 : Nat) (fo : Nat → Int64) (fs : List Value) (p0 p1 : Int32) (ws2 : va_W) {F LO mc ms : Nat} {post : Int32 → S → Prop} {w1 : S → va_W}  (hc : xWi l yX4_register wsX4_register ({ frames := F, cells := mc, slots := ms, locals := LO } : Room) D cy t0 ([.ref a4, .int p0, .int p1]) ((a4, .inr (4, fs)) :: ws2) post w1 mc ms) : xWi (S := Int32 × S) l yL_register wsL_register ({ frames := F + 1, cells := mc, slots := ms, locals := LO + 60 } : Room) D cy t0 ([.ref a4, .int p0, .int p1, .ref aO]) ((aO, xL cy 1 fo) :: (a4, .inr (4, fs)) :: ws2) (fun r u => r = nI 0 ∧ post u.1 u.2) (fun u => (aO, xL cy 1 (vp_updL fo 0 u.1.toInt64)) :: w1 u.2) mc ms := by
  refine xofWiW (cc := cL_register) (maxL := 5) (hh := [(0, 10, 13, 13)]) (by decide) rfl (Nat.le_of_ble_eq_true rfl) ?_
  intro p e s m below meth c Q A ls hx hb hml hts hown hE hA H locs hP hD hl hS htab kret
  have hl : lv_has ls 5 [(0, .ref a4), (1, .int p0), (2, .int p1), (3, .ref aO)] := hl
  refine lv_aload_n hx hb dL_register_0 rfl (lv_at hl 3 rfl) ?_
  refine lv_iconst (v := nI 0) hx hb dL_register_1 (by decide) ?_
  refine lv_aload_n hx hb dL_register_2 rfl (lv_at hl 0 rfl) ?_
  refine lv_iload_n hx hb dL_register_3 rfl (lv_at hl 1 rfl) ?_
  refine lv_iload_n hx hb dL_register_4 rfl (lv_at hl 2 rfl) ?_
  refine xcWi (wr := [(aO, xL cy 1 fo)]) (va_runV (As := [.int p0, .int p1]) (rest := [.int (nI 0), .ref aO]) ⟨hx, hb, hml, hown, hts⟩ (hc H.size) (cwV 2 hts gL_register_X4_register rfl rfl rfl (by decide +kernel) ⟨Nat.le_refl _, (by show 8 + (4 + 11) + LO ≤ LO + 60; omega)⟩) (xPw.giveV (wc := ((a4, .inr (4, fs)) :: ws2)) hE hS hA hP hD (xix 1 (ws2.length + 1)) (xix_nd _ _) (xix_map ((a4, .inr (4, fs)) :: ws2) [(aO, xL cy 1 fo)]) 1 4 rfl rfl) rfl rfl hl.1 rfl (lv_room (Nat.le_of_ble_eq_true rfl)) dL_register_5 ⟨(Nat.le_of_eq (Nat.zero_add _)), (Nat.le_of_eq (Nat.zero_add _))⟩) hP hD hS hA (xix 1 (ws2.length + 1)) [0] (xix_map ((a4, .inr (4, fs)) :: ws2) [(aO, xL cy 1 fo)]) rfl (by decide) (xix_dis _) (fun r u H locs hq hP hD hS => ?_)
  refine lv_i2l (v := r.toInt64) hx hb dL_register_8 rfl ?_
  refine va_last (D := D) hx hb hE.1 hP hD hS 0 2 rfl rfl (vp_in_nI (by omega) (by omega)) dL_register_9 (fun H locs hP hD hS => ?_)
  rw [nI_clamp (by omega)] at hP hD
  have hP : xP D ((aO, xL cy 1 (vp_updL fo 0 r.toInt64)) :: w1 u) H := hP
  have hD : va_D A ((aO, xL cy 1 (vp_updL fo 0 r.toInt64)) :: w1 u) := hD
  refine lv_goto (tgt := 17) hx hb dL_register_10 (by decide) ?_
  refine lv_iconst (v := nI 0) hx hb dL_register_17 (by decide) ?_
  exact kret _ (r, u) _ _ _ _ _ _ dL_register_18 ⟨rfl, hq⟩ hP hD hS (Nat.le_of_eq (Nat.zero_add _)) (Nat.le_of_eq (Nat.zero_add _))
set_option maxHeartbeats 4000000 in
set_option maxRecDepth 100000 in
theorem w_registerT {S : Type} (l : Launch) (D : va_G) (cy : Nat → ClassId) (t0 : Nat) (aO a4 : Nat) (fo : Nat → Int64) (fs : List Value) (p0 p1 : Int32) (ws2 : va_W) {F LO : Nat} {w1 : S → va_W}  (hc : xT l yX4_register wsX4_register ({ frames := F, cells := 1, slots := 6, locals := LO } : Room) D cy t0 ([.ref a4, .int p0, .int p1]) ((a4, .inr (4, fs)) :: ws2) xIO w1 1 6) : xWi (S := S) l yL_register wsL_register ({ frames := F + 1, cells := 1, slots := 6, locals := LO + 60 } : Room) D cy t0 ([.ref a4, .int p0, .int p1, .ref aO]) ((aO, xL cy 1 fo) :: (a4, .inr (4, fs)) :: ws2) (fun r _ => r = nI 1) (fun u => (aO, xL cy 1 fo) :: w1 u) 1 6 := by
  refine xofWiW (cc := cL_register) (maxL := 5) (hh := [(0, 10, 13, 13)]) (by decide) rfl (Nat.le_of_ble_eq_true rfl) ?_
  intro p e s m below meth c Q A ls hx hb hml hts hown hE hA H locs hP hD hl hS htab kret
  have hl : lv_has ls 5 [(0, .ref a4), (1, .int p0), (2, .int p1), (3, .ref aO)] := hl
  refine lv_aload_n hx hb dL_register_0 rfl (lv_at hl 3 rfl) ?_
  refine lv_iconst (v := nI 0) hx hb dL_register_1 (by decide) ?_
  refine lv_aload_n hx hb dL_register_2 rfl (lv_at hl 0 rfl) ?_
  refine lv_iload_n hx hb dL_register_3 rfl (lv_at hl 1 rfl) ?_
  refine lv_iload_n hx hb dL_register_4 rfl (lv_at hl 2 rfl) ?_
  refine xcT (wr := [(aO, xL cy 1 fo)]) (vx_runV (As := [.int p0, .int p1]) (rest := [.int (nI 0), .ref aO]) ⟨hx, hb, hml, hown, hts⟩ (hc H.size) (cwV 2 hts gL_register_X4_register rfl rfl rfl (by decide +kernel) ⟨Nat.le_refl _, (by show 8 + (4 + 11) + LO ≤ LO + 60; omega)⟩) (xPw.giveV (wc := ((a4, .inr (4, fs)) :: ws2)) hE hS hA hP hD (xix 1 (ws2.length + 1)) (xix_nd _ _) (xix_map ((a4, .inr (4, fs)) :: ws2) [(aO, xL cy 1 fo)]) 1 4 rfl rfl) rfl rfl hl.1 rfl (lv_room (Nat.le_of_ble_eq_true rfl)) dL_register_5 ⟨Nat.le_of_ble_eq_true rfl, Nat.le_of_ble_eq_true rfl⟩) hP hD hS hA (xix 1 (ws2.length + 1)) [0] (xix_map ((a4, .inr (4, fs)) :: ws2) [(aO, xL cy 1 fo)]) rfl (by decide) (xix_dis _) (fun u q ce H locs hP hD hS hce hcv hcl => ?_)
  refine vx_catch (name := xIO) hown [] ⟨0, 10, 13, 13⟩ [] htab (fun z hz => by cases hz) (by decide) (by decide) (hts (.classLink RL 13 xIO) (by decide +kernel)) (va_Nw.use rfl hE.2.1.2.2.1.1) hce hcv hcl ?_
  refine lv_astore (lv' := [(4, .ref q), (0, .ref a4), (1, .int p0), (2, .int p1), (3, .ref aO)]) hx hb dL_register_13 hl (by decide) rfl (fun ls hl => ?_)
  refine lv_iconst (v := nI 1) hx hb dL_register_15 (by decide) ?_
  exact kret _ u _ _ _ _ _ _ dL_register_16 rfl hP hD hS (Nat.le_of_eq (Nat.zero_add _)) (Nat.le_of_eq (Nat.zero_add _))
set_option maxHeartbeats 4000000 in
set_option maxRecDepth 100000 in
theorem w_byRegisters {S : Type} (l : Launch) (D : va_G) (cy : Nat → ClassId) (t0 : Nat) (aO a4 : Nat) (fo : Nat → Int64) (fs : List Value) (p0 : Int32) (ws2 : va_W) {F LO mc ms : Nat} {post : Int64 → S → Prop} {w1 : S → va_W}  (hc : xWl l yX4_byRegisters wsX4_byRegisters ({ frames := F, cells := mc, slots := ms, locals := LO } : Room) D cy t0 ([.ref a4, .int p0]) ((a4, .inr (4, fs)) :: ws2) post w1 mc ms) : xWi (S := Int64 × S) l yL_byRegisters wsL_byRegisters ({ frames := F + 1, cells := mc, slots := ms, locals := LO + 60 } : Room) D cy t0 ([.ref a4, .int p0, .ref aO]) ((aO, xL cy 1 fo) :: (a4, .inr (4, fs)) :: ws2) (fun r u => r = nI 0 ∧ post u.1 u.2) (fun u => (aO, xL cy 1 (vp_updL fo 0 u.1)) :: w1 u.2) mc ms := by
  refine xofWiW (cc := cL_byRegisters) (maxL := 4) (hh := [(0, 8, 11, 13)]) (by decide) rfl (Nat.le_of_ble_eq_true rfl) ?_
  intro p e s m below meth c Q A ls hx hb hml hts hown hE hA H locs hP hD hl hS htab kret
  have hl : lv_has ls 4 [(0, .ref a4), (1, .int p0), (2, .ref aO)] := hl
  refine lv_aload_n hx hb dL_byRegisters_0 rfl (lv_at hl 2 rfl) ?_
  refine lv_iconst (v := nI 0) hx hb dL_byRegisters_1 (by decide) ?_
  refine lv_aload_n hx hb dL_byRegisters_2 rfl (lv_at hl 0 rfl) ?_
  refine lv_iload_n hx hb dL_byRegisters_3 rfl (lv_at hl 1 rfl) ?_
  refine xcWl (wr := [(aO, xL cy 1 fo)]) (va_runV (As := [.int p0]) (rest := [.int (nI 0), .ref aO]) ⟨hx, hb, hml, hown, hts⟩ (hc H.size) (cwV 1 hts gL_byRegisters_X4_byRegisters rfl rfl rfl (by decide +kernel) ⟨Nat.le_refl _, (by show 8 + (2 + 11) + LO ≤ LO + 60; omega)⟩) (xPw.giveV (wc := ((a4, .inr (4, fs)) :: ws2)) hE hS hA hP hD (xix 1 (ws2.length + 1)) (xix_nd _ _) (xix_map ((a4, .inr (4, fs)) :: ws2) [(aO, xL cy 1 fo)]) 1 4 rfl rfl) rfl rfl hl.1 rfl (lv_room (Nat.le_of_ble_eq_true rfl)) dL_byRegisters_4 ⟨(Nat.le_of_eq (Nat.zero_add _)), (Nat.le_of_eq (Nat.zero_add _))⟩) hP hD hS hA (xix 1 (ws2.length + 1)) [0] (xix_map ((a4, .inr (4, fs)) :: ws2) [(aO, xL cy 1 fo)]) rfl (by decide) (xix_dis _) (fun r u H locs hq hP hD hS => ?_)
  refine va_last (D := D) hx hb hE.1 hP hD hS 0 2 rfl rfl (vp_in_nI (by omega) (by omega)) dL_byRegisters_7 (fun H locs hP hD hS => ?_)
  rw [nI_clamp (by omega)] at hP hD
  have hP : xP D ((aO, xL cy 1 (vp_updL fo 0 r)) :: w1 u) H := hP
  have hD : va_D A ((aO, xL cy 1 (vp_updL fo 0 r)) :: w1 u) := hD
  refine lv_goto (tgt := 14) hx hb dL_byRegisters_8 (by decide) ?_
  refine lv_iconst (v := nI 0) hx hb dL_byRegisters_14 (by decide) ?_
  exact kret _ (r, u) _ _ _ _ _ _ dL_byRegisters_15 ⟨rfl, hq⟩ hP hD hS (Nat.le_of_eq (Nat.zero_add _)) (Nat.le_of_eq (Nat.zero_add _))
set_option maxHeartbeats 4000000 in
set_option maxRecDepth 100000 in
theorem w_byRegistersT {S : Type} (l : Launch) (D : va_G) (cy : Nat → ClassId) (t0 : Nat) (aO a4 : Nat) (fo : Nat → Int64) (fs : List Value) (p0 : Int32) (ws2 : va_W) {F LO : Nat} {w1 : S → va_W}  (hc : xT l yX4_byRegisters wsX4_byRegisters ({ frames := F, cells := 1, slots := 6, locals := LO } : Room) D cy t0 ([.ref a4, .int p0]) ((a4, .inr (4, fs)) :: ws2) xIO w1 1 6) : xWi (S := S) l yL_byRegisters wsL_byRegisters ({ frames := F + 1, cells := 1, slots := 6, locals := LO + 60 } : Room) D cy t0 ([.ref a4, .int p0, .ref aO]) ((aO, xL cy 1 fo) :: (a4, .inr (4, fs)) :: ws2) (fun r _ => r = nI 1) (fun u => (aO, xL cy 1 fo) :: w1 u) 1 6 := by
  refine xofWiW (cc := cL_byRegisters) (maxL := 4) (hh := [(0, 8, 11, 13)]) (by decide) rfl (Nat.le_of_ble_eq_true rfl) ?_
  intro p e s m below meth c Q A ls hx hb hml hts hown hE hA H locs hP hD hl hS htab kret
  have hl : lv_has ls 4 [(0, .ref a4), (1, .int p0), (2, .ref aO)] := hl
  refine lv_aload_n hx hb dL_byRegisters_0 rfl (lv_at hl 2 rfl) ?_
  refine lv_iconst (v := nI 0) hx hb dL_byRegisters_1 (by decide) ?_
  refine lv_aload_n hx hb dL_byRegisters_2 rfl (lv_at hl 0 rfl) ?_
  refine lv_iload_n hx hb dL_byRegisters_3 rfl (lv_at hl 1 rfl) ?_
  refine xcT (wr := [(aO, xL cy 1 fo)]) (vx_runV (As := [.int p0]) (rest := [.int (nI 0), .ref aO]) ⟨hx, hb, hml, hown, hts⟩ (hc H.size) (cwV 1 hts gL_byRegisters_X4_byRegisters rfl rfl rfl (by decide +kernel) ⟨Nat.le_refl _, (by show 8 + (2 + 11) + LO ≤ LO + 60; omega)⟩) (xPw.giveV (wc := ((a4, .inr (4, fs)) :: ws2)) hE hS hA hP hD (xix 1 (ws2.length + 1)) (xix_nd _ _) (xix_map ((a4, .inr (4, fs)) :: ws2) [(aO, xL cy 1 fo)]) 1 4 rfl rfl) rfl rfl hl.1 rfl (lv_room (Nat.le_of_ble_eq_true rfl)) dL_byRegisters_4 ⟨Nat.le_of_ble_eq_true rfl, Nat.le_of_ble_eq_true rfl⟩) hP hD hS hA (xix 1 (ws2.length + 1)) [0] (xix_map ((a4, .inr (4, fs)) :: ws2) [(aO, xL cy 1 fo)]) rfl (by decide) (xix_dis _) (fun u q ce H locs hP hD hS hce hcv hcl => ?_)
  refine vx_catch (name := xIO) hown [] ⟨0, 8, 11, 13⟩ [] htab (fun z hz => by cases hz) (by decide) (by decide) (hts (.classLink RL 13 xIO) (by decide +kernel)) (va_Nw.use rfl hE.2.1.2.2.1.1) hce hcv hcl ?_
  refine lv_astore_n (lv' := [(3, .ref q), (0, .ref a4), (1, .int p0), (2, .ref aO)]) hx hb dL_byRegisters_11 rfl hl (by decide) rfl (fun ls hl => ?_)
  refine lv_iconst (v := nI 1) hx hb dL_byRegisters_12 (by decide) ?_
  exact kret _ u _ _ _ _ _ _ dL_byRegisters_13 rfl hP hD hS (Nat.le_of_eq (Nat.zero_add _)) (Nat.le_of_eq (Nat.zero_add _))
set_option maxHeartbeats 4000000 in
set_option maxRecDepth 100000 in
theorem w_recent {S : Type} (l : Launch) (D : va_G) (cy : Nat → ClassId) (t0 : Nat) (aO a4 : Nat) (fo : Nat → Int64) (fs : List Value) (p0 p1 : Int32) (ws2 : va_W) {F LO mc ms : Nat} {post : Int64 → S → Prop} {w1 : S → va_W}  (hc : xWl l yX4_recent wsX4_recent ({ frames := F, cells := mc, slots := ms, locals := LO } : Room) D cy t0 ([.ref a4, .int p0, .int p1]) ((a4, .inr (4, fs)) :: ws2) post w1 mc ms) : xWi (S := Int64 × S) l yL_recent wsL_recent ({ frames := F + 1, cells := mc, slots := ms, locals := LO + 60 } : Room) D cy t0 ([.ref a4, .int p0, .int p1, .ref aO]) ((aO, xL cy 1 fo) :: (a4, .inr (4, fs)) :: ws2) (fun r u => r = nI 0 ∧ post u.1 u.2) (fun u => (aO, xL cy 1 (vp_updL fo 0 u.1)) :: w1 u.2) mc ms := by
  refine xofWiW (cc := cL_recent) (maxL := 5) (hh := [(0, 9, 12, 13), (0, 9, 16, 15)]) (by decide) rfl (Nat.le_of_ble_eq_true rfl) ?_
  intro p e s m below meth c Q A ls hx hb hml hts hown hE hA H locs hP hD hl hS htab kret
  have hl : lv_has ls 5 [(0, .ref a4), (1, .int p0), (2, .int p1), (3, .ref aO)] := hl
  refine lv_aload_n hx hb dL_recent_0 rfl (lv_at hl 3 rfl) ?_
  refine lv_iconst (v := nI 0) hx hb dL_recent_1 (by decide) ?_
  refine lv_aload_n hx hb dL_recent_2 rfl (lv_at hl 0 rfl) ?_
  refine lv_iload_n hx hb dL_recent_3 rfl (lv_at hl 1 rfl) ?_
  refine lv_iload_n hx hb dL_recent_4 rfl (lv_at hl 2 rfl) ?_
  refine xcWl (wr := [(aO, xL cy 1 fo)]) (va_runV (As := [.int p0, .int p1]) (rest := [.int (nI 0), .ref aO]) ⟨hx, hb, hml, hown, hts⟩ (hc H.size) (cwV 2 hts gL_recent_X4_recent rfl rfl rfl (by decide +kernel) ⟨Nat.le_refl _, (by show 8 + (4 + 11) + LO ≤ LO + 60; omega)⟩) (xPw.giveV (wc := ((a4, .inr (4, fs)) :: ws2)) hE hS hA hP hD (xix 1 (ws2.length + 1)) (xix_nd _ _) (xix_map ((a4, .inr (4, fs)) :: ws2) [(aO, xL cy 1 fo)]) 1 4 rfl rfl) rfl rfl hl.1 rfl (lv_room (Nat.le_of_ble_eq_true rfl)) dL_recent_5 ⟨(Nat.le_of_eq (Nat.zero_add _)), (Nat.le_of_eq (Nat.zero_add _))⟩) hP hD hS hA (xix 1 (ws2.length + 1)) [0] (xix_map ((a4, .inr (4, fs)) :: ws2) [(aO, xL cy 1 fo)]) rfl (by decide) (xix_dis _) (fun r u H locs hq hP hD hS => ?_)
  refine va_last (D := D) hx hb hE.1 hP hD hS 0 2 rfl rfl (vp_in_nI (by omega) (by omega)) dL_recent_8 (fun H locs hP hD hS => ?_)
  rw [nI_clamp (by omega)] at hP hD
  have hP : xP D ((aO, xL cy 1 (vp_updL fo 0 r)) :: w1 u) H := hP
  have hD : va_D A ((aO, xL cy 1 (vp_updL fo 0 r)) :: w1 u) := hD
  refine lv_goto (tgt := 20) hx hb dL_recent_9 (by decide) ?_
  refine lv_iconst (v := nI 0) hx hb dL_recent_20 (by decide) ?_
  exact kret _ (r, u) _ _ _ _ _ _ dL_recent_21 ⟨rfl, hq⟩ hP hD hS (Nat.le_of_eq (Nat.zero_add _)) (Nat.le_of_eq (Nat.zero_add _))
set_option maxHeartbeats 4000000 in
set_option maxRecDepth 100000 in
theorem w_recentT {S : Type} (l : Launch) (D : va_G) (cy : Nat → ClassId) (t0 : Nat) (aO a4 : Nat) (fo : Nat → Int64) (fs : List Value) (p0 p1 : Int32) (ws2 : va_W) {F LO : Nat} {w1 : S → va_W}  (hc : xT l yX4_recent wsX4_recent ({ frames := F, cells := 1, slots := 6, locals := LO } : Room) D cy t0 ([.ref a4, .int p0, .int p1]) ((a4, .inr (4, fs)) :: ws2) xIO w1 1 6) : xWi (S := S) l yL_recent wsL_recent ({ frames := F + 1, cells := 1, slots := 6, locals := LO + 60 } : Room) D cy t0 ([.ref a4, .int p0, .int p1, .ref aO]) ((aO, xL cy 1 fo) :: (a4, .inr (4, fs)) :: ws2) (fun r _ => r = nI 1) (fun u => (aO, xL cy 1 fo) :: w1 u) 1 6 := by
  refine xofWiW (cc := cL_recent) (maxL := 5) (hh := [(0, 9, 12, 13), (0, 9, 16, 15)]) (by decide) rfl (Nat.le_of_ble_eq_true rfl) ?_
  intro p e s m below meth c Q A ls hx hb hml hts hown hE hA H locs hP hD hl hS htab kret
  have hl : lv_has ls 5 [(0, .ref a4), (1, .int p0), (2, .int p1), (3, .ref aO)] := hl
  refine lv_aload_n hx hb dL_recent_0 rfl (lv_at hl 3 rfl) ?_
  refine lv_iconst (v := nI 0) hx hb dL_recent_1 (by decide) ?_
  refine lv_aload_n hx hb dL_recent_2 rfl (lv_at hl 0 rfl) ?_
  refine lv_iload_n hx hb dL_recent_3 rfl (lv_at hl 1 rfl) ?_
  refine lv_iload_n hx hb dL_recent_4 rfl (lv_at hl 2 rfl) ?_
  refine xcT (wr := [(aO, xL cy 1 fo)]) (vx_runV (As := [.int p0, .int p1]) (rest := [.int (nI 0), .ref aO]) ⟨hx, hb, hml, hown, hts⟩ (hc H.size) (cwV 2 hts gL_recent_X4_recent rfl rfl rfl (by decide +kernel) ⟨Nat.le_refl _, (by show 8 + (4 + 11) + LO ≤ LO + 60; omega)⟩) (xPw.giveV (wc := ((a4, .inr (4, fs)) :: ws2)) hE hS hA hP hD (xix 1 (ws2.length + 1)) (xix_nd _ _) (xix_map ((a4, .inr (4, fs)) :: ws2) [(aO, xL cy 1 fo)]) 1 4 rfl rfl) rfl rfl hl.1 rfl (lv_room (Nat.le_of_ble_eq_true rfl)) dL_recent_5 ⟨Nat.le_of_ble_eq_true rfl, Nat.le_of_ble_eq_true rfl⟩) hP hD hS hA (xix 1 (ws2.length + 1)) [0] (xix_map ((a4, .inr (4, fs)) :: ws2) [(aO, xL cy 1 fo)]) rfl (by decide) (xix_dis _) (fun u q ce H locs hP hD hS hce hcv hcl => ?_)
  refine vx_catch (name := xIO) hown [] ⟨0, 9, 12, 13⟩ [⟨0, 9, 16, 15⟩] htab (fun z hz => by cases hz) (by decide) (by decide) (hts (.classLink RL 13 xIO) (by decide +kernel)) (va_Nw.use rfl hE.2.1.2.2.1.1) hce hcv hcl ?_
  refine lv_astore (lv' := [(4, .ref q), (0, .ref a4), (1, .int p0), (2, .int p1), (3, .ref aO)]) hx hb dL_recent_12 hl (by decide) rfl (fun ls hl => ?_)
  refine lv_iconst (v := nI 1) hx hb dL_recent_14 (by decide) ?_
  exact kret _ u _ _ _ _ _ _ dL_recent_15 rfl hP hD hS (Nat.le_of_eq (Nat.zero_add _)) (Nat.le_of_eq (Nat.zero_add _))
set_option maxHeartbeats 4000000 in
set_option maxRecDepth 100000 in
theorem w_recentV {S : Type} (l : Launch) (D : va_G) (cy : Nat → ClassId) (t0 : Nat) (aO a4 : Nat) (fo : Nat → Int64) (fs : List Value) (p0 p1 : Int32) (ws2 : va_W) {F LO : Nat} {w1 : S → va_W}  (hc : xT l yX4_recent wsX4_recent ({ frames := F, cells := 1, slots := 6, locals := LO } : Room) D cy t0 ([.ref a4, .int p0, .int p1]) ((a4, .inr (4, fs)) :: ws2) xIA w1 1 6) : xWi (S := S) l yL_recent wsL_recent ({ frames := F + 1, cells := 1, slots := 6, locals := LO + 60 } : Room) D cy t0 ([.ref a4, .int p0, .int p1, .ref aO]) ((aO, xL cy 1 fo) :: (a4, .inr (4, fs)) :: ws2) (fun r _ => r = nI 2) (fun u => (aO, xL cy 1 fo) :: w1 u) 1 6 := by
  refine xofWiW (cc := cL_recent) (maxL := 5) (hh := [(0, 9, 12, 13), (0, 9, 16, 15)]) (by decide) rfl (Nat.le_of_ble_eq_true rfl) ?_
  intro p e s m below meth c Q A ls hx hb hml hts hown hE hA H locs hP hD hl hS htab kret
  have hl : lv_has ls 5 [(0, .ref a4), (1, .int p0), (2, .int p1), (3, .ref aO)] := hl
  refine lv_aload_n hx hb dL_recent_0 rfl (lv_at hl 3 rfl) ?_
  refine lv_iconst (v := nI 0) hx hb dL_recent_1 (by decide) ?_
  refine lv_aload_n hx hb dL_recent_2 rfl (lv_at hl 0 rfl) ?_
  refine lv_iload_n hx hb dL_recent_3 rfl (lv_at hl 1 rfl) ?_
  refine lv_iload_n hx hb dL_recent_4 rfl (lv_at hl 2 rfl) ?_
  refine xcT (wr := [(aO, xL cy 1 fo)]) (vx_runV (As := [.int p0, .int p1]) (rest := [.int (nI 0), .ref aO]) ⟨hx, hb, hml, hown, hts⟩ (hc H.size) (cwV 2 hts gL_recent_X4_recent rfl rfl rfl (by decide +kernel) ⟨Nat.le_refl _, (by show 8 + (4 + 11) + LO ≤ LO + 60; omega)⟩) (xPw.giveV (wc := ((a4, .inr (4, fs)) :: ws2)) hE hS hA hP hD (xix 1 (ws2.length + 1)) (xix_nd _ _) (xix_map ((a4, .inr (4, fs)) :: ws2) [(aO, xL cy 1 fo)]) 1 4 rfl rfl) rfl rfl hl.1 rfl (lv_room (Nat.le_of_ble_eq_true rfl)) dL_recent_5 ⟨Nat.le_of_ble_eq_true rfl, Nat.le_of_ble_eq_true rfl⟩) hP hD hS hA (xix 1 (ws2.length + 1)) [0] (xix_map ((a4, .inr (4, fs)) :: ws2) [(aO, xL cy 1 fo)]) rfl (by decide) (xix_dis _) (fun u q ce H locs hP hD hS hce hcv hcl => ?_)
  refine vx_catch (name := xIA) hown [⟨0, 9, 12, 13⟩] ⟨0, 9, 16, 15⟩ [] htab (fun z hz => by
      cases hz with
      | head => exact Or.inr ⟨by decide, xIO, hts (.classLink RL 13 xIO) (by decide +kernel), hE.2.1.2.2.1.2.2.2⟩
      | tail _ h9 => cases h9) (by decide) (by decide) (hts (.classLink RL 15 xIA) (by decide +kernel)) (va_Nw.use rfl hE.2.1.2.2.1.2.1) hce hcv hcl ?_
  refine lv_astore (lv' := [(4, .ref q), (0, .ref a4), (1, .int p0), (2, .int p1), (3, .ref aO)]) hx hb dL_recent_16 hl (by decide) rfl (fun ls hl => ?_)
  refine lv_iconst (v := nI 2) hx hb dL_recent_18 (by decide) ?_
  exact kret _ u _ _ _ _ _ _ dL_recent_19 rfl hP hD hS (Nat.le_of_eq (Nat.zero_add _)) (Nat.le_of_eq (Nat.zero_add _))
set_option maxHeartbeats 4000000 in
set_option maxRecDepth 100000 in
theorem w_level {S : Type} (l : Launch) (D : va_G) (cy : Nat → ClassId) (t0 : Nat) (aO a4 : Nat) (fo : Nat → Int64) (fs : List Value) (p0 : Int32) (ws2 : va_W) {F LO mc ms : Nat} {post : Int32 → S → Prop} {w1 : S → va_W}  (hc : xWi l yX4_level wsX4_level ({ frames := F, cells := mc, slots := ms, locals := LO } : Room) D cy t0 ([.ref a4, .int p0]) ((a4, .inr (4, fs)) :: ws2) post w1 mc ms) : xWi (S := Int32 × S) l yL_level wsL_level ({ frames := F + 1, cells := mc, slots := ms, locals := LO + 60 } : Room) D cy t0 ([.ref a4, .int p0, .ref aO]) ((aO, xL cy 1 fo) :: (a4, .inr (4, fs)) :: ws2) (fun r u => r = nI 0 ∧ post u.1 u.2) (fun u => (aO, xL cy 1 (vp_updL fo 0 u.1.toInt64)) :: w1 u.2) mc ms := by
  refine xofWiW (cc := cL_level) (maxL := 4) (hh := [(0, 9, 12, 13)]) (by decide) rfl (Nat.le_of_ble_eq_true rfl) ?_
  intro p e s m below meth c Q A ls hx hb hml hts hown hE hA H locs hP hD hl hS htab kret
  have hl : lv_has ls 4 [(0, .ref a4), (1, .int p0), (2, .ref aO)] := hl
  refine lv_aload_n hx hb dL_level_0 rfl (lv_at hl 2 rfl) ?_
  refine lv_iconst (v := nI 0) hx hb dL_level_1 (by decide) ?_
  refine lv_aload_n hx hb dL_level_2 rfl (lv_at hl 0 rfl) ?_
  refine lv_iload_n hx hb dL_level_3 rfl (lv_at hl 1 rfl) ?_
  refine xcWi (wr := [(aO, xL cy 1 fo)]) (va_runV (As := [.int p0]) (rest := [.int (nI 0), .ref aO]) ⟨hx, hb, hml, hown, hts⟩ (hc H.size) (cwV 1 hts gL_level_X4_level rfl rfl rfl (by decide +kernel) ⟨Nat.le_refl _, (by show 8 + (2 + 11) + LO ≤ LO + 60; omega)⟩) (xPw.giveV (wc := ((a4, .inr (4, fs)) :: ws2)) hE hS hA hP hD (xix 1 (ws2.length + 1)) (xix_nd _ _) (xix_map ((a4, .inr (4, fs)) :: ws2) [(aO, xL cy 1 fo)]) 1 4 rfl rfl) rfl rfl hl.1 rfl (lv_room (Nat.le_of_ble_eq_true rfl)) dL_level_4 ⟨(Nat.le_of_eq (Nat.zero_add _)), (Nat.le_of_eq (Nat.zero_add _))⟩) hP hD hS hA (xix 1 (ws2.length + 1)) [0] (xix_map ((a4, .inr (4, fs)) :: ws2) [(aO, xL cy 1 fo)]) rfl (by decide) (xix_dis _) (fun r u H locs hq hP hD hS => ?_)
  refine lv_i2l (v := r.toInt64) hx hb dL_level_7 rfl ?_
  refine va_last (D := D) hx hb hE.1 hP hD hS 0 2 rfl rfl (vp_in_nI (by omega) (by omega)) dL_level_8 (fun H locs hP hD hS => ?_)
  rw [nI_clamp (by omega)] at hP hD
  have hP : xP D ((aO, xL cy 1 (vp_updL fo 0 r.toInt64)) :: w1 u) H := hP
  have hD : va_D A ((aO, xL cy 1 (vp_updL fo 0 r.toInt64)) :: w1 u) := hD
  refine lv_goto (tgt := 15) hx hb dL_level_9 (by decide) ?_
  refine lv_iconst (v := nI 0) hx hb dL_level_15 (by decide) ?_
  exact kret _ (r, u) _ _ _ _ _ _ dL_level_16 ⟨rfl, hq⟩ hP hD hS (Nat.le_of_eq (Nat.zero_add _)) (Nat.le_of_eq (Nat.zero_add _))
set_option maxHeartbeats 4000000 in
set_option maxRecDepth 100000 in
theorem w_levelT {S : Type} (l : Launch) (D : va_G) (cy : Nat → ClassId) (t0 : Nat) (aO a4 : Nat) (fo : Nat → Int64) (fs : List Value) (p0 : Int32) (ws2 : va_W) {F LO : Nat} {w1 : S → va_W}  (hc : xT l yX4_level wsX4_level ({ frames := F, cells := 1, slots := 6, locals := LO } : Room) D cy t0 ([.ref a4, .int p0]) ((a4, .inr (4, fs)) :: ws2) xIO w1 1 6) : xWi (S := S) l yL_level wsL_level ({ frames := F + 1, cells := 1, slots := 6, locals := LO + 60 } : Room) D cy t0 ([.ref a4, .int p0, .ref aO]) ((aO, xL cy 1 fo) :: (a4, .inr (4, fs)) :: ws2) (fun r _ => r = nI 1) (fun u => (aO, xL cy 1 fo) :: w1 u) 1 6 := by
  refine xofWiW (cc := cL_level) (maxL := 4) (hh := [(0, 9, 12, 13)]) (by decide) rfl (Nat.le_of_ble_eq_true rfl) ?_
  intro p e s m below meth c Q A ls hx hb hml hts hown hE hA H locs hP hD hl hS htab kret
  have hl : lv_has ls 4 [(0, .ref a4), (1, .int p0), (2, .ref aO)] := hl
  refine lv_aload_n hx hb dL_level_0 rfl (lv_at hl 2 rfl) ?_
  refine lv_iconst (v := nI 0) hx hb dL_level_1 (by decide) ?_
  refine lv_aload_n hx hb dL_level_2 rfl (lv_at hl 0 rfl) ?_
  refine lv_iload_n hx hb dL_level_3 rfl (lv_at hl 1 rfl) ?_
  refine xcT (wr := [(aO, xL cy 1 fo)]) (vx_runV (As := [.int p0]) (rest := [.int (nI 0), .ref aO]) ⟨hx, hb, hml, hown, hts⟩ (hc H.size) (cwV 1 hts gL_level_X4_level rfl rfl rfl (by decide +kernel) ⟨Nat.le_refl _, (by show 8 + (2 + 11) + LO ≤ LO + 60; omega)⟩) (xPw.giveV (wc := ((a4, .inr (4, fs)) :: ws2)) hE hS hA hP hD (xix 1 (ws2.length + 1)) (xix_nd _ _) (xix_map ((a4, .inr (4, fs)) :: ws2) [(aO, xL cy 1 fo)]) 1 4 rfl rfl) rfl rfl hl.1 rfl (lv_room (Nat.le_of_ble_eq_true rfl)) dL_level_4 ⟨Nat.le_of_ble_eq_true rfl, Nat.le_of_ble_eq_true rfl⟩) hP hD hS hA (xix 1 (ws2.length + 1)) [0] (xix_map ((a4, .inr (4, fs)) :: ws2) [(aO, xL cy 1 fo)]) rfl (by decide) (xix_dis _) (fun u q ce H locs hP hD hS hce hcv hcl => ?_)
  refine vx_catch (name := xIO) hown [] ⟨0, 9, 12, 13⟩ [] htab (fun z hz => by cases hz) (by decide) (by decide) (hts (.classLink RL 13 xIO) (by decide +kernel)) (va_Nw.use rfl hE.2.1.2.2.1.1) hce hcv hcl ?_
  refine lv_astore_n (lv' := [(3, .ref q), (0, .ref a4), (1, .int p0), (2, .ref aO)]) hx hb dL_level_12 rfl hl (by decide) rfl (fun ls hl => ?_)
  refine lv_iconst (v := nI 1) hx hb dL_level_13 (by decide) ?_
  exact kret _ u _ _ _ _ _ _ dL_level_14 rfl hP hD hS (Nat.le_of_eq (Nat.zero_add _)) (Nat.le_of_eq (Nat.zero_add _))
set_option maxHeartbeats 4000000 in
set_option maxRecDepth 100000 in
theorem w_sampled {S : Type} (l : Launch) (D : va_G) (cy : Nat → ClassId) (t0 : Nat) (aO a4 : Nat) (fo : Nat → Int64) (fs : List Value) (p0 : Int32) (ws2 : va_W) {F LO mc ms : Nat} {post : Int32 → S → Prop} {w1 : S → va_W}  (hc : xWi l yX4_sampled wsX4_sampled ({ frames := F, cells := mc, slots := ms, locals := LO } : Room) D cy t0 ([.ref a4, .int p0]) ((a4, .inr (4, fs)) :: ws2) post w1 mc ms) : xWi (S := Int32 × S) l yL_sampled wsL_sampled ({ frames := F + 1, cells := mc, slots := ms, locals := LO + 60 } : Room) D cy t0 ([.ref a4, .int p0, .ref aO]) ((aO, xL cy 1 fo) :: (a4, .inr (4, fs)) :: ws2) (fun r u => r = nI 0 ∧ post u.1 u.2) (fun u => (aO, xL cy 1 (vp_updL fo 0 u.1.toInt64)) :: w1 u.2) mc ms := by
  refine xofWiW (cc := cL_sampled) (maxL := 4) (hh := [(0, 9, 12, 13)]) (by decide) rfl (Nat.le_of_ble_eq_true rfl) ?_
  intro p e s m below meth c Q A ls hx hb hml hts hown hE hA H locs hP hD hl hS htab kret
  have hl : lv_has ls 4 [(0, .ref a4), (1, .int p0), (2, .ref aO)] := hl
  refine lv_aload_n hx hb dL_sampled_0 rfl (lv_at hl 2 rfl) ?_
  refine lv_iconst (v := nI 0) hx hb dL_sampled_1 (by decide) ?_
  refine lv_aload_n hx hb dL_sampled_2 rfl (lv_at hl 0 rfl) ?_
  refine lv_iload_n hx hb dL_sampled_3 rfl (lv_at hl 1 rfl) ?_
  refine xcWi (wr := [(aO, xL cy 1 fo)]) (va_runV (As := [.int p0]) (rest := [.int (nI 0), .ref aO]) ⟨hx, hb, hml, hown, hts⟩ (hc H.size) (cwV 1 hts gL_sampled_X4_sampled rfl rfl rfl (by decide +kernel) ⟨Nat.le_refl _, (by show 8 + (2 + 11) + LO ≤ LO + 60; omega)⟩) (xPw.giveV (wc := ((a4, .inr (4, fs)) :: ws2)) hE hS hA hP hD (xix 1 (ws2.length + 1)) (xix_nd _ _) (xix_map ((a4, .inr (4, fs)) :: ws2) [(aO, xL cy 1 fo)]) 1 4 rfl rfl) rfl rfl hl.1 rfl (lv_room (Nat.le_of_ble_eq_true rfl)) dL_sampled_4 ⟨(Nat.le_of_eq (Nat.zero_add _)), (Nat.le_of_eq (Nat.zero_add _))⟩) hP hD hS hA (xix 1 (ws2.length + 1)) [0] (xix_map ((a4, .inr (4, fs)) :: ws2) [(aO, xL cy 1 fo)]) rfl (by decide) (xix_dis _) (fun r u H locs hq hP hD hS => ?_)
  refine lv_i2l (v := r.toInt64) hx hb dL_sampled_7 rfl ?_
  refine va_last (D := D) hx hb hE.1 hP hD hS 0 2 rfl rfl (vp_in_nI (by omega) (by omega)) dL_sampled_8 (fun H locs hP hD hS => ?_)
  rw [nI_clamp (by omega)] at hP hD
  have hP : xP D ((aO, xL cy 1 (vp_updL fo 0 r.toInt64)) :: w1 u) H := hP
  have hD : va_D A ((aO, xL cy 1 (vp_updL fo 0 r.toInt64)) :: w1 u) := hD
  refine lv_goto (tgt := 15) hx hb dL_sampled_9 (by decide) ?_
  refine lv_iconst (v := nI 0) hx hb dL_sampled_15 (by decide) ?_
  exact kret _ (r, u) _ _ _ _ _ _ dL_sampled_16 ⟨rfl, hq⟩ hP hD hS (Nat.le_of_eq (Nat.zero_add _)) (Nat.le_of_eq (Nat.zero_add _))
set_option maxHeartbeats 4000000 in
set_option maxRecDepth 100000 in
theorem w_sampledT {S : Type} (l : Launch) (D : va_G) (cy : Nat → ClassId) (t0 : Nat) (aO a4 : Nat) (fo : Nat → Int64) (fs : List Value) (p0 : Int32) (ws2 : va_W) {F LO : Nat} {w1 : S → va_W}  (hc : xT l yX4_sampled wsX4_sampled ({ frames := F, cells := 1, slots := 6, locals := LO } : Room) D cy t0 ([.ref a4, .int p0]) ((a4, .inr (4, fs)) :: ws2) xIO w1 1 6) : xWi (S := S) l yL_sampled wsL_sampled ({ frames := F + 1, cells := 1, slots := 6, locals := LO + 60 } : Room) D cy t0 ([.ref a4, .int p0, .ref aO]) ((aO, xL cy 1 fo) :: (a4, .inr (4, fs)) :: ws2) (fun r _ => r = nI 1) (fun u => (aO, xL cy 1 fo) :: w1 u) 1 6 := by
  refine xofWiW (cc := cL_sampled) (maxL := 4) (hh := [(0, 9, 12, 13)]) (by decide) rfl (Nat.le_of_ble_eq_true rfl) ?_
  intro p e s m below meth c Q A ls hx hb hml hts hown hE hA H locs hP hD hl hS htab kret
  have hl : lv_has ls 4 [(0, .ref a4), (1, .int p0), (2, .ref aO)] := hl
  refine lv_aload_n hx hb dL_sampled_0 rfl (lv_at hl 2 rfl) ?_
  refine lv_iconst (v := nI 0) hx hb dL_sampled_1 (by decide) ?_
  refine lv_aload_n hx hb dL_sampled_2 rfl (lv_at hl 0 rfl) ?_
  refine lv_iload_n hx hb dL_sampled_3 rfl (lv_at hl 1 rfl) ?_
  refine xcT (wr := [(aO, xL cy 1 fo)]) (vx_runV (As := [.int p0]) (rest := [.int (nI 0), .ref aO]) ⟨hx, hb, hml, hown, hts⟩ (hc H.size) (cwV 1 hts gL_sampled_X4_sampled rfl rfl rfl (by decide +kernel) ⟨Nat.le_refl _, (by show 8 + (2 + 11) + LO ≤ LO + 60; omega)⟩) (xPw.giveV (wc := ((a4, .inr (4, fs)) :: ws2)) hE hS hA hP hD (xix 1 (ws2.length + 1)) (xix_nd _ _) (xix_map ((a4, .inr (4, fs)) :: ws2) [(aO, xL cy 1 fo)]) 1 4 rfl rfl) rfl rfl hl.1 rfl (lv_room (Nat.le_of_ble_eq_true rfl)) dL_sampled_4 ⟨Nat.le_of_ble_eq_true rfl, Nat.le_of_ble_eq_true rfl⟩) hP hD hS hA (xix 1 (ws2.length + 1)) [0] (xix_map ((a4, .inr (4, fs)) :: ws2) [(aO, xL cy 1 fo)]) rfl (by decide) (xix_dis _) (fun u q ce H locs hP hD hS hce hcv hcl => ?_)
  refine vx_catch (name := xIO) hown [] ⟨0, 9, 12, 13⟩ [] htab (fun z hz => by cases hz) (by decide) (by decide) (hts (.classLink RL 13 xIO) (by decide +kernel)) (va_Nw.use rfl hE.2.1.2.2.1.1) hce hcv hcl ?_
  refine lv_astore_n (lv' := [(3, .ref q), (0, .ref a4), (1, .int p0), (2, .ref aO)]) hx hb dL_sampled_12 rfl hl (by decide) rfl (fun ls hl => ?_)
  refine lv_iconst (v := nI 1) hx hb dL_sampled_13 (by decide) ?_
  exact kret _ u _ _ _ _ _ _ dL_sampled_14 rfl hP hD hS (Nat.le_of_eq (Nat.zero_add _)) (Nat.le_of_eq (Nat.zero_add _))
set_option maxHeartbeats 4000000 in
set_option maxRecDepth 100000 in
theorem w_sampledAt {S : Type} (l : Launch) (D : va_G) (cy : Nat → ClassId) (t0 : Nat) (aO a4 : Nat) (fo : Nat → Int64) (fs : List Value) (p0 p1 : Int32) (ws2 : va_W) {F LO mc ms : Nat} {post : Int32 → S → Prop} {w1 : S → va_W}  (hc : xWi l yX4_sampledAt wsX4_sampledAt ({ frames := F, cells := mc, slots := ms, locals := LO } : Room) D cy t0 ([.ref a4, .int p0, .int p1]) ((a4, .inr (4, fs)) :: ws2) post w1 mc ms) : xWi (S := Int32 × S) l yL_sampledAt wsL_sampledAt ({ frames := F + 1, cells := mc, slots := ms, locals := LO + 60 } : Room) D cy t0 ([.ref a4, .int p0, .int p1, .ref aO]) ((aO, xL cy 1 fo) :: (a4, .inr (4, fs)) :: ws2) (fun r u => r = nI 0 ∧ post u.1 u.2) (fun u => (aO, xL cy 1 (vp_updL fo 0 u.1.toInt64)) :: w1 u.2) mc ms := by
  refine xofWiW (cc := cL_sampledAt) (maxL := 5) (hh := [(0, 10, 13, 13)]) (by decide) rfl (Nat.le_of_ble_eq_true rfl) ?_
  intro p e s m below meth c Q A ls hx hb hml hts hown hE hA H locs hP hD hl hS htab kret
  have hl : lv_has ls 5 [(0, .ref a4), (1, .int p0), (2, .int p1), (3, .ref aO)] := hl
  refine lv_aload_n hx hb dL_sampledAt_0 rfl (lv_at hl 3 rfl) ?_
  refine lv_iconst (v := nI 0) hx hb dL_sampledAt_1 (by decide) ?_
  refine lv_aload_n hx hb dL_sampledAt_2 rfl (lv_at hl 0 rfl) ?_
  refine lv_iload_n hx hb dL_sampledAt_3 rfl (lv_at hl 1 rfl) ?_
  refine lv_iload_n hx hb dL_sampledAt_4 rfl (lv_at hl 2 rfl) ?_
  refine xcWi (wr := [(aO, xL cy 1 fo)]) (va_runV (As := [.int p0, .int p1]) (rest := [.int (nI 0), .ref aO]) ⟨hx, hb, hml, hown, hts⟩ (hc H.size) (cwV 2 hts gL_sampledAt_X4_sampledAt rfl rfl rfl (by decide +kernel) ⟨Nat.le_refl _, (by show 8 + (4 + 11) + LO ≤ LO + 60; omega)⟩) (xPw.giveV (wc := ((a4, .inr (4, fs)) :: ws2)) hE hS hA hP hD (xix 1 (ws2.length + 1)) (xix_nd _ _) (xix_map ((a4, .inr (4, fs)) :: ws2) [(aO, xL cy 1 fo)]) 1 4 rfl rfl) rfl rfl hl.1 rfl (lv_room (Nat.le_of_ble_eq_true rfl)) dL_sampledAt_5 ⟨(Nat.le_of_eq (Nat.zero_add _)), (Nat.le_of_eq (Nat.zero_add _))⟩) hP hD hS hA (xix 1 (ws2.length + 1)) [0] (xix_map ((a4, .inr (4, fs)) :: ws2) [(aO, xL cy 1 fo)]) rfl (by decide) (xix_dis _) (fun r u H locs hq hP hD hS => ?_)
  refine lv_i2l (v := r.toInt64) hx hb dL_sampledAt_8 rfl ?_
  refine va_last (D := D) hx hb hE.1 hP hD hS 0 2 rfl rfl (vp_in_nI (by omega) (by omega)) dL_sampledAt_9 (fun H locs hP hD hS => ?_)
  rw [nI_clamp (by omega)] at hP hD
  have hP : xP D ((aO, xL cy 1 (vp_updL fo 0 r.toInt64)) :: w1 u) H := hP
  have hD : va_D A ((aO, xL cy 1 (vp_updL fo 0 r.toInt64)) :: w1 u) := hD
  refine lv_goto (tgt := 17) hx hb dL_sampledAt_10 (by decide) ?_
  refine lv_iconst (v := nI 0) hx hb dL_sampledAt_17 (by decide) ?_
  exact kret _ (r, u) _ _ _ _ _ _ dL_sampledAt_18 ⟨rfl, hq⟩ hP hD hS (Nat.le_of_eq (Nat.zero_add _)) (Nat.le_of_eq (Nat.zero_add _))
set_option maxHeartbeats 4000000 in
set_option maxRecDepth 100000 in
theorem w_sampledAtT {S : Type} (l : Launch) (D : va_G) (cy : Nat → ClassId) (t0 : Nat) (aO a4 : Nat) (fo : Nat → Int64) (fs : List Value) (p0 p1 : Int32) (ws2 : va_W) {F LO : Nat} {w1 : S → va_W}  (hc : xT l yX4_sampledAt wsX4_sampledAt ({ frames := F, cells := 1, slots := 6, locals := LO } : Room) D cy t0 ([.ref a4, .int p0, .int p1]) ((a4, .inr (4, fs)) :: ws2) xIO w1 1 6) : xWi (S := S) l yL_sampledAt wsL_sampledAt ({ frames := F + 1, cells := 1, slots := 6, locals := LO + 60 } : Room) D cy t0 ([.ref a4, .int p0, .int p1, .ref aO]) ((aO, xL cy 1 fo) :: (a4, .inr (4, fs)) :: ws2) (fun r _ => r = nI 1) (fun u => (aO, xL cy 1 fo) :: w1 u) 1 6 := by
  refine xofWiW (cc := cL_sampledAt) (maxL := 5) (hh := [(0, 10, 13, 13)]) (by decide) rfl (Nat.le_of_ble_eq_true rfl) ?_
  intro p e s m below meth c Q A ls hx hb hml hts hown hE hA H locs hP hD hl hS htab kret
  have hl : lv_has ls 5 [(0, .ref a4), (1, .int p0), (2, .int p1), (3, .ref aO)] := hl
  refine lv_aload_n hx hb dL_sampledAt_0 rfl (lv_at hl 3 rfl) ?_
  refine lv_iconst (v := nI 0) hx hb dL_sampledAt_1 (by decide) ?_
  refine lv_aload_n hx hb dL_sampledAt_2 rfl (lv_at hl 0 rfl) ?_
  refine lv_iload_n hx hb dL_sampledAt_3 rfl (lv_at hl 1 rfl) ?_
  refine lv_iload_n hx hb dL_sampledAt_4 rfl (lv_at hl 2 rfl) ?_
  refine xcT (wr := [(aO, xL cy 1 fo)]) (vx_runV (As := [.int p0, .int p1]) (rest := [.int (nI 0), .ref aO]) ⟨hx, hb, hml, hown, hts⟩ (hc H.size) (cwV 2 hts gL_sampledAt_X4_sampledAt rfl rfl rfl (by decide +kernel) ⟨Nat.le_refl _, (by show 8 + (4 + 11) + LO ≤ LO + 60; omega)⟩) (xPw.giveV (wc := ((a4, .inr (4, fs)) :: ws2)) hE hS hA hP hD (xix 1 (ws2.length + 1)) (xix_nd _ _) (xix_map ((a4, .inr (4, fs)) :: ws2) [(aO, xL cy 1 fo)]) 1 4 rfl rfl) rfl rfl hl.1 rfl (lv_room (Nat.le_of_ble_eq_true rfl)) dL_sampledAt_5 ⟨Nat.le_of_ble_eq_true rfl, Nat.le_of_ble_eq_true rfl⟩) hP hD hS hA (xix 1 (ws2.length + 1)) [0] (xix_map ((a4, .inr (4, fs)) :: ws2) [(aO, xL cy 1 fo)]) rfl (by decide) (xix_dis _) (fun u q ce H locs hP hD hS hce hcv hcl => ?_)
  refine vx_catch (name := xIO) hown [] ⟨0, 10, 13, 13⟩ [] htab (fun z hz => by cases hz) (by decide) (by decide) (hts (.classLink RL 13 xIO) (by decide +kernel)) (va_Nw.use rfl hE.2.1.2.2.1.1) hce hcv hcl ?_
  refine lv_astore (lv' := [(4, .ref q), (0, .ref a4), (1, .int p0), (2, .int p1), (3, .ref aO)]) hx hb dL_sampledAt_13 hl (by decide) rfl (fun ls hl => ?_)
  refine lv_iconst (v := nI 1) hx hb dL_sampledAt_15 (by decide) ?_
  exact kret _ u _ _ _ _ _ _ dL_sampledAt_16 rfl hP hD hS (Nat.le_of_eq (Nat.zero_add _)) (Nat.le_of_eq (Nat.zero_add _))
set_option maxHeartbeats 4000000 in
set_option maxRecDepth 100000 in
theorem w_bySample {S : Type} (l : Launch) (D : va_G) (cy : Nat → ClassId) (t0 : Nat) (aO a4 : Nat) (fo : Nat → Int64) (fs : List Value) (p0 : Int32) (ws2 : va_W) {F LO mc ms : Nat} {post : Int32 → S → Prop} {w1 : S → va_W}  (hc : xWi l yX4_bySample wsX4_bySample ({ frames := F, cells := mc, slots := ms, locals := LO } : Room) D cy t0 ([.ref a4, .int p0]) ((a4, .inr (4, fs)) :: ws2) post w1 mc ms) : xWi (S := Int32 × S) l yL_bySample wsL_bySample ({ frames := F + 1, cells := mc, slots := ms, locals := LO + 60 } : Room) D cy t0 ([.ref a4, .int p0, .ref aO]) ((aO, xL cy 1 fo) :: (a4, .inr (4, fs)) :: ws2) (fun r u => r = nI 0 ∧ post u.1 u.2) (fun u => (aO, xL cy 1 (vp_updL fo 0 u.1.toInt64)) :: w1 u.2) mc ms := by
  refine xofWiW (cc := cL_bySample) (maxL := 4) (hh := [(0, 9, 12, 13)]) (by decide) rfl (Nat.le_of_ble_eq_true rfl) ?_
  intro p e s m below meth c Q A ls hx hb hml hts hown hE hA H locs hP hD hl hS htab kret
  have hl : lv_has ls 4 [(0, .ref a4), (1, .int p0), (2, .ref aO)] := hl
  refine lv_aload_n hx hb dL_bySample_0 rfl (lv_at hl 2 rfl) ?_
  refine lv_iconst (v := nI 0) hx hb dL_bySample_1 (by decide) ?_
  refine lv_aload_n hx hb dL_bySample_2 rfl (lv_at hl 0 rfl) ?_
  refine lv_iload_n hx hb dL_bySample_3 rfl (lv_at hl 1 rfl) ?_
  refine xcWi (wr := [(aO, xL cy 1 fo)]) (va_runV (As := [.int p0]) (rest := [.int (nI 0), .ref aO]) ⟨hx, hb, hml, hown, hts⟩ (hc H.size) (cwV 1 hts gL_bySample_X4_bySample rfl rfl rfl (by decide +kernel) ⟨Nat.le_refl _, (by show 8 + (2 + 11) + LO ≤ LO + 60; omega)⟩) (xPw.giveV (wc := ((a4, .inr (4, fs)) :: ws2)) hE hS hA hP hD (xix 1 (ws2.length + 1)) (xix_nd _ _) (xix_map ((a4, .inr (4, fs)) :: ws2) [(aO, xL cy 1 fo)]) 1 4 rfl rfl) rfl rfl hl.1 rfl (lv_room (Nat.le_of_ble_eq_true rfl)) dL_bySample_4 ⟨(Nat.le_of_eq (Nat.zero_add _)), (Nat.le_of_eq (Nat.zero_add _))⟩) hP hD hS hA (xix 1 (ws2.length + 1)) [0] (xix_map ((a4, .inr (4, fs)) :: ws2) [(aO, xL cy 1 fo)]) rfl (by decide) (xix_dis _) (fun r u H locs hq hP hD hS => ?_)
  refine lv_i2l (v := r.toInt64) hx hb dL_bySample_7 rfl ?_
  refine va_last (D := D) hx hb hE.1 hP hD hS 0 2 rfl rfl (vp_in_nI (by omega) (by omega)) dL_bySample_8 (fun H locs hP hD hS => ?_)
  rw [nI_clamp (by omega)] at hP hD
  have hP : xP D ((aO, xL cy 1 (vp_updL fo 0 r.toInt64)) :: w1 u) H := hP
  have hD : va_D A ((aO, xL cy 1 (vp_updL fo 0 r.toInt64)) :: w1 u) := hD
  refine lv_goto (tgt := 15) hx hb dL_bySample_9 (by decide) ?_
  refine lv_iconst (v := nI 0) hx hb dL_bySample_15 (by decide) ?_
  exact kret _ (r, u) _ _ _ _ _ _ dL_bySample_16 ⟨rfl, hq⟩ hP hD hS (Nat.le_of_eq (Nat.zero_add _)) (Nat.le_of_eq (Nat.zero_add _))
set_option maxHeartbeats 4000000 in
set_option maxRecDepth 100000 in
theorem w_bySampleT {S : Type} (l : Launch) (D : va_G) (cy : Nat → ClassId) (t0 : Nat) (aO a4 : Nat) (fo : Nat → Int64) (fs : List Value) (p0 : Int32) (ws2 : va_W) {F LO : Nat} {w1 : S → va_W}  (hc : xT l yX4_bySample wsX4_bySample ({ frames := F, cells := 1, slots := 6, locals := LO } : Room) D cy t0 ([.ref a4, .int p0]) ((a4, .inr (4, fs)) :: ws2) xIO w1 1 6) : xWi (S := S) l yL_bySample wsL_bySample ({ frames := F + 1, cells := 1, slots := 6, locals := LO + 60 } : Room) D cy t0 ([.ref a4, .int p0, .ref aO]) ((aO, xL cy 1 fo) :: (a4, .inr (4, fs)) :: ws2) (fun r _ => r = nI 1) (fun u => (aO, xL cy 1 fo) :: w1 u) 1 6 := by
  refine xofWiW (cc := cL_bySample) (maxL := 4) (hh := [(0, 9, 12, 13)]) (by decide) rfl (Nat.le_of_ble_eq_true rfl) ?_
  intro p e s m below meth c Q A ls hx hb hml hts hown hE hA H locs hP hD hl hS htab kret
  have hl : lv_has ls 4 [(0, .ref a4), (1, .int p0), (2, .ref aO)] := hl
  refine lv_aload_n hx hb dL_bySample_0 rfl (lv_at hl 2 rfl) ?_
  refine lv_iconst (v := nI 0) hx hb dL_bySample_1 (by decide) ?_
  refine lv_aload_n hx hb dL_bySample_2 rfl (lv_at hl 0 rfl) ?_
  refine lv_iload_n hx hb dL_bySample_3 rfl (lv_at hl 1 rfl) ?_
  refine xcT (wr := [(aO, xL cy 1 fo)]) (vx_runV (As := [.int p0]) (rest := [.int (nI 0), .ref aO]) ⟨hx, hb, hml, hown, hts⟩ (hc H.size) (cwV 1 hts gL_bySample_X4_bySample rfl rfl rfl (by decide +kernel) ⟨Nat.le_refl _, (by show 8 + (2 + 11) + LO ≤ LO + 60; omega)⟩) (xPw.giveV (wc := ((a4, .inr (4, fs)) :: ws2)) hE hS hA hP hD (xix 1 (ws2.length + 1)) (xix_nd _ _) (xix_map ((a4, .inr (4, fs)) :: ws2) [(aO, xL cy 1 fo)]) 1 4 rfl rfl) rfl rfl hl.1 rfl (lv_room (Nat.le_of_ble_eq_true rfl)) dL_bySample_4 ⟨Nat.le_of_ble_eq_true rfl, Nat.le_of_ble_eq_true rfl⟩) hP hD hS hA (xix 1 (ws2.length + 1)) [0] (xix_map ((a4, .inr (4, fs)) :: ws2) [(aO, xL cy 1 fo)]) rfl (by decide) (xix_dis _) (fun u q ce H locs hP hD hS hce hcv hcl => ?_)
  refine vx_catch (name := xIO) hown [] ⟨0, 9, 12, 13⟩ [] htab (fun z hz => by cases hz) (by decide) (by decide) (hts (.classLink RL 13 xIO) (by decide +kernel)) (va_Nw.use rfl hE.2.1.2.2.1.1) hce hcv hcl ?_
  refine lv_astore_n (lv' := [(3, .ref q), (0, .ref a4), (1, .int p0), (2, .ref aO)]) hx hb dL_bySample_12 rfl hl (by decide) rfl (fun ls hl => ?_)
  refine lv_iconst (v := nI 1) hx hb dL_bySample_13 (by decide) ?_
  exact kret _ u _ _ _ _ _ _ dL_bySample_14 rfl hP hD hS (Nat.le_of_eq (Nat.zero_add _)) (Nat.le_of_eq (Nat.zero_add _))
end XX7
