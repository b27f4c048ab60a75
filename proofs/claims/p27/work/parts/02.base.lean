section XBASE
/-! the worlds of this claim: arrays of four kinds, the words of nest mates and of throws, the static table -/
abbrev xTY (cy : Nat → ClassId) : List (ClassId × FieldType) := [(cy 0, .int), (cy 0, .int), (cy 0, .int), (cy 3, .object RX0)]
abbrev xP (D : va_G) (ws : va_W) (H : Heap) : Prop := va_P D vwCl ws H
abbrev xK (D : va_G) (cy : Nat → ClassId) (U : State) : Prop := va_K D vwCl (xTY cy) U
abbrev xI (cy : Nat → ClassId) (n : Nat) (f : Nat → Int32) : va_E := .inl (cy 0, n, .inl f)
abbrev xZ (cy : Nat → ClassId) (n : Nat) (f : Nat → Int32) : va_E := .inl (cy 1, n, .inl f)
abbrev xL (cy : Nat → ClassId) (n : Nat) (f : Nat → Int64) : va_E := .inl (cy 2, n, .inr (.inl f))
abbrev xB (cy : Nat → ClassId) (n : Nat) (f : Nat → Option Nat) : va_E := .inl (cy 3, n, .inr (.inr (.inr (.inr f))))
def xnM : List (String × Nat × MethodName) := [(RX4, 28, yX0_init), (RX4, 31, yX2_init), (RX4, 38, yX3_init), (RX0, 30, yX4_at), (RX0, 39, yX4_put), (RX1, 31, yX4_at), (RX1, 35, yX4_hashFor), (RX1, 48, yX4_put), (RX2, 19, yX4_put), (RX2, 32, yX4_at), (RX2, 39, yX4_hashFor), (RX2, 55, yX4_lowZeros), (RX3, 46, yX4_put), (RX3, 31, yX4_at), (RX3, 35, yX4_hashFor), (RX3, 50, yX4_lowZeros)]
def xN (U : State) : Prop := ∀ q ∈ xnM, va_Nw (.methodLinkNest q.1 q.2.1 q.2.2 RX4) U
abbrev xIO : String := "java/lang/IndexOutOfBoundsException"
abbrev xIA : String := "java/lang/IllegalArgumentException"
def xdM : List MethodName := [Bundle.initS "java/lang/RuntimeException", Bundle.initS "java/lang/Exception", Bundle.initS Bundle.tN]
def xsM : List (Nat × String) := [(119, "the basket does not keep so many"), (143, "no such register"), (166, "the sample has not so many"), (172, "no such basket"), (176, "an argument is out of range")]
def xX (U : State) : Prop := (∀ q ∈ xdM, va_Nw (.declares q) U) ∧ (va_Nw (.castable xIO xIO) U ∧ va_Nw (.castable xIA xIA) U ∧ va_AO RX0 U ∧ va_Nc xIA xIO U) ∧ ∀ q ∈ xsM, ∃ sa : Nat, vk_R RX4 q.1 q.2 sa U
def xTab : List Int32 := [0, 44361, 33271, 26784, 22181, 18610, 15693, 13227, 11090, 9206, 7520, 5995, 4603, 3322, 2137, 1033, 0]
def xH (t0 : Nat) (A : Nat → Prop) (U : State) (H : Heap) : Prop := (vx_Zq Bundle.tN "UNASSIGNED_STACK" Bundle.steD A U H ∧ vx_Zq Bundle.tN "SUPPRESSED_SENTINEL" Bundle.listD A U H) ∧ va_Z RX2 "ESTIMATE_BY_ZEROS" "[I" (.ref t0) A U H ∧ va_T .int t0 17 (fun j => .int (xTab.getD j 0)) A U H
def xE (D : va_G) (cy : Nat → ClassId) (t0 : Nat) (A : Nat → Prop) (U : State) (H : Heap) : Prop := xK D cy U ∧ (xN U ∧ xX U) ∧ xH t0 A U H
theorem xN.same {u U : State} (h : u.vm = U.vm) (hN : xN u) : xN U := fun q hq => va_Nw.same rfl h (hN q hq)
theorem xN.warm {u U : State} (h : u.WarmedH U.vm) (hN : xN u) : xN U := fun q hq => va_Nw.warmM h (hN q hq)
theorem xX.same {u U : State} (h : u.vm = U.vm) (hN : xX u) : xX U := ⟨fun q hq => va_Nw.same rfl h (hN.1 q hq), ⟨va_Nw.same rfl h hN.2.1.1, va_Nw.same rfl h hN.2.1.2.1, hN.2.1.2.2.1.moved (by rw [h]; exact Vm.Alike.refl _), hN.2.1.2.2.2.moved (by rw [h]; exact Vm.Alike.refl _)⟩, fun q hq => by
  obtain ⟨sa, hs⟩ := hN.2.2 q hq
  exact ⟨sa, vk_R.same h.symm hs⟩⟩
theorem xX.warm {u U : State} (h : u.WarmedH U.vm) (hN : xX u) : xX U := ⟨fun q hq => va_Nw.warmD h (hN.1 q hq), ⟨va_Nw.warmC h hN.2.1.1, va_Nw.warmC h hN.2.1.2.1, hN.2.1.2.2.1.moved h.alike, hN.2.1.2.2.2.moved h.alike⟩, fun q hq => by
  obtain ⟨sa, hs⟩ := hN.2.2 q hq
  exact ⟨sa, vk_R.warm h hs⟩⟩
theorem xH.moved {t0 : Nat} {A : Nat → Prop} {u U : State} {H : Heap} (hvm : u.vm.Alike U.vm) (h : xH t0 A u H) : xH t0 A U H := ⟨⟨vx_Zq.moved hvm h.1.1, vx_Zq.moved hvm h.1.2⟩, va_Z.moved hvm h.2.1, va_T.moved hvm h.2.2⟩
theorem xH.kept {t0 : Nat} {A : Nat → Prop} {U : State} {H H1 : Heap} (h : xH t0 A U H) (hq : ∀ a : Nat, a < H.size → ¬ A a → H1[a]? = H[a]?) : xH t0 A U H1 := ⟨⟨vx_Zq.kept h.1.1 hq, vx_Zq.kept h.1.2 hq⟩, va_Z.kept h.2.1 hq, va_T.kept h.2.2 hq⟩
theorem xH.narrow {t0 : Nat} {A B : Nat → Prop} {U : State} {H : Heap} (h : xH t0 A U H) (hAB : ∀ q, B q → A q) : xH t0 B U H := ⟨⟨vx_Zq.narrow h.1.1 hAB, vx_Zq.narrow h.1.2 hAB⟩, va_Z.narrow h.2.1 hAB, va_T.narrow h.2.2 hAB⟩
theorem xE.call {D : va_G} {cy : Nat → ClassId} {t0 : Nat} {A B : Nat → Prop} {s U : State} {H : Heap} {locs : List Loc} (h : xE D cy t0 A s s.heap) (hS : va_S A s.heap H locs) (hAB : ∀ q, B q → A q) (hU : U.heap = H) (hW : s.WarmedH U.vm) : xE D cy t0 B U U.heap := by
  refine ⟨va_K.moved hW.alike h.1, ⟨h.2.1.1.warm hW, h.2.1.2.warm hW⟩, ?_⟩
  rw [hU]
  exact ((h.2.2.kept hS.2.1).narrow hAB).moved hW.alike
/-! contracts -/
def xPw (D : va_G) (cy : Nat → ClassId) (t0 : Nat) (as : List Value) (ws : va_W) (sz : Nat) : Array Value → State → Prop := va_Pc as (fun U => U.heap.size = sz ∧ xP D ws U.heap ∧ va_D (fun _ => True) ws ∧ xE D cy t0 (va_A ws sz) U U.heap)
def xPr (D : va_G) (cy : Nat → ClassId) (t0 : Nat) (as : List Value) (ws : va_W) : Array Value → State → Prop := va_Pc as (fun U => xP D ws U.heap ∧ xE D cy t0 (fun _ => False) U U.heap)
def xBw {S : Type} (D : va_G) (w1 : S → va_W) (A : Nat → Prop) : S → State → Prop := fun u t => xP D (w1 u) t.heap ∧ va_D A (w1 u)
def xBx {S : Type} (D : va_G) (pE : String → S → Prop) (wx : S → va_W) (A : Nat → Prop) : String → S → State → Prop := fun E u t => pE E u ∧ xP D (wx u) t.heap ∧ va_D A (wx u)
def xWi {S : Type} (l : Launch) (y : MethodName) (wl : List Cond) (rm : Room) (D : va_G) (cy : Nat → ClassId) (t0 : Nat) (as : List Value) (ws : va_W) (post : Int32 → S → Prop) (w1 : S → va_W) (mc ms : Nat) : Prop := ∀ sz : Nat, Met l y wl rm (xPw D cy t0 as ws sz) (va_Qi post (xBw D w1 (va_A ws sz)) (va_A ws sz)) mc ms (va_A ws sz)
def xWl {S : Type} (l : Launch) (y : MethodName) (wl : List Cond) (rm : Room) (D : va_G) (cy : Nat → ClassId) (t0 : Nat) (as : List Value) (ws : va_W) (post : Int64 → S → Prop) (w1 : S → va_W) (mc ms : Nat) : Prop := ∀ sz : Nat, Met l y wl rm (xPw D cy t0 as ws sz) (va_Ql post (xBw D w1 (va_A ws sz)) (va_A ws sz)) mc ms (va_A ws sz)
def xWv {S : Type} (l : Launch) (y : MethodName) (wl : List Cond) (rm : Room) (D : va_G) (cy : Nat → ClassId) (t0 : Nat) (as : List Value) (ws : va_W) (post : S → Prop) (w1 : S → va_W) (mc ms : Nat) : Prop := ∀ sz : Nat, Met l y wl rm (xPw D cy t0 as ws sz) (va_Qv post (xBw D w1 (va_A ws sz)) (va_A ws sz)) mc ms (va_A ws sz)
def xWr {S : Type} (l : Launch) (y : MethodName) (wl : List Cond) (rm : Room) (D : va_G) (cy : Nat → ClassId) (t0 : Nat) (as : List Value) (ws : va_W) (post : S → Prop) (w1 : S → Nat → va_W) (mc ms : Nat) : Prop := ∀ sz : Nat, Met l y wl rm (xPw D cy t0 as ws sz) (va_Qr post (fun u a t => xP D (w1 u a) t.heap ∧ va_D (va_A ws sz) (w1 u a)) (va_A ws sz)) mc ms (va_A ws sz)
def xRi (l : Launch) (y : MethodName) (wl : List Cond) (rm : Room) (D : va_G) (cy : Nat → ClassId) (t0 : Nat) (as : List Value) (ws : va_W) (post : Int32 → Prop) : Prop := Met l y wl rm (xPr D cy t0 as ws) (vp_Si post) 0 0 (fun _ => False)
def xRl (l : Launch) (y : MethodName) (wl : List Cond) (rm : Room) (D : va_G) (cy : Nat → ClassId) (t0 : Nat) (as : List Value) (ws : va_W) (post : Int64 → Prop) : Prop := Met l y wl rm (xPr D cy t0 as ws) (vp_Sl post) 0 0 (fun _ => False)
/-! .. that may throw: a name E with pE, the cells wx -/
def xXi {S SX : Type} (l : Launch) (y : MethodName) (wl : List Cond) (rm : Room) (D : va_G) (cy : Nat → ClassId) (t0 : Nat) (as : List Value) (ws : va_W) (post : Int32 → S → Prop) (w1 : S → va_W) (pE : String → SX → Prop) (wx : SX → va_W) (mc ms : Nat) : Prop := ∀ sz : Nat, vx_Met l y wl rm (xPw D cy t0 as ws sz) (va_Qi post (xBw D w1 (va_A ws sz)) (va_A ws sz)) (vx_X (fun _ : SX => True) (xBx D pE wx (va_A ws sz)) (va_A ws sz)) mc ms (va_A ws sz)
def xXl {S SX : Type} (l : Launch) (y : MethodName) (wl : List Cond) (rm : Room) (D : va_G) (cy : Nat → ClassId) (t0 : Nat) (as : List Value) (ws : va_W) (post : Int64 → S → Prop) (w1 : S → va_W) (pE : String → SX → Prop) (wx : SX → va_W) (mc ms : Nat) : Prop := ∀ sz : Nat, vx_Met l y wl rm (xPw D cy t0 as ws sz) (va_Ql post (xBw D w1 (va_A ws sz)) (va_A ws sz)) (vx_X (fun _ : SX => True) (xBx D pE wx (va_A ws sz)) (va_A ws sz)) mc ms (va_A ws sz)
def xXv {S SX : Type} (l : Launch) (y : MethodName) (wl : List Cond) (rm : Room) (D : va_G) (cy : Nat → ClassId) (t0 : Nat) (as : List Value) (ws : va_W) (post : S → Prop) (w1 : S → va_W) (pE : String → SX → Prop) (wx : SX → va_W) (mc ms : Nat) : Prop := ∀ sz : Nat, vx_Met l y wl rm (xPw D cy t0 as ws sz) (va_Qv post (xBw D w1 (va_A ws sz)) (va_A ws sz)) (vx_X (fun _ : SX => True) (xBx D pE wx (va_A ws sz)) (va_A ws sz)) mc ms (va_A ws sz)
def xXq {S SX : Type} (l : Launch) (y : MethodName) (wl : List Cond) (rm : Room) (D : va_G) (cy : Nat → ClassId) (t0 : Nat) (as : List Value) (ws : va_W) (post : Option Nat → S → Prop) (w1 : S → va_W) (pE : String → SX → Prop) (wx : SX → va_W) (mc ms : Nat) : Prop := ∀ sz : Nat, vx_Met l y wl rm (xPw D cy t0 as ws sz) (va_Qq post (xBw D w1 (va_A ws sz)) (va_A ws sz)) (vx_X (fun _ : SX => True) (xBx D pE wx (va_A ws sz)) (va_A ws sz)) mc ms (va_A ws sz)
theorem xE.same {D : va_G} {cy : Nat → ClassId} {t0 : Nat} {A : Nat → Prop} {u U : State} {H : Heap} (e : u.vm = U.vm) (h : xE D cy t0 A u H) : xE D cy t0 A U H := by
  have hA : u.vm.Alike U.vm := by rw [e]; exact Vm.Alike.refl _
  exact ⟨va_K.moved hA h.1, ⟨h.2.1.1.same e, h.2.1.2.same e⟩, h.2.2.moved hA⟩
theorem xPw.blind {D : va_G} {cy : Nat → ClassId} {t0 : Nat} {as : List Value} {ws : va_W} {sz : Nat} : FrameBlind (xPw D cy t0 as ws sz) := fun a U g mk q => by
  obtain ⟨q0, q1, qP, qD, qE⟩ := q
  exact ⟨q0, q1, qP, qD, xE.same (u := U) (U := U.calling g mk a) rfl qE⟩
theorem xPr.blind {D : va_G} {cy : Nat → ClassId} {t0 : Nat} {as : List Value} {ws : va_W} : FrameBlind (xPr D cy t0 as ws) := fun a U g mk q => by
  obtain ⟨q0, qP, qE⟩ := q
  exact ⟨q0, qP, xE.same (u := U) (U := U.calling g mk a) rfl qE⟩
/-- what a callee that changes its world is given -/
theorem xPw.give {D : va_G} {cy : Nat → ClassId} {t0 : Nat} {A : Nat → Prop} {s : State} {H : Heap} {locs : List Loc} {as : List Value} {ws wc : va_W} (hE : xE D cy t0 A s s.heap) (hS : va_S A s.heap H locs) (hA : ∀ q, s.heap.size ≤ q → A q) (hP : xP D ws H) (hD : va_D A ws) (isC : List Nat) (hn : va_nd isC = true) (hC : isC.map (fun i => ws[i]?) = wc.map some) : FrameBlind (xPw D cy t0 as wc H.size) ∧ ∀ U : State, U.heap = H → s.WarmedH U.vm → xPw D cy t0 as wc H.size as.toArray U := by
  refine ⟨xPw.blind, fun U hU hW => ⟨rfl, by rw [hU], ?_, ?_, ?_⟩⟩
  · rw [hU]
    intro k q hk
    have h1 : (isC.map (fun i => ws[i]?))[k]? = some (some q) := by rw [hC, List.getElem?_map, hk]; rfl
    rw [List.getElem?_map] at h1
    cases hi : isC[k]? with
    | none => rw [hi] at h1; cases h1
    | some i => rw [hi] at h1; exact hP i q (Option.some.inj h1)
  · exact (hD.sub isC hn hC).weaken (fun _ _ _ _ => trivial)
  · exact hE.call hS (va_free hD hS hA isC hC) hU hW
theorem xPr.give {D : va_G} {cy : Nat → ClassId} {t0 : Nat} {A : Nat → Prop} {s : State} {H : Heap} {locs : List Loc} {as : List Value} {ws wc : va_W} (hE : xE D cy t0 A s s.heap) (hS : va_S A s.heap H locs) (hP : xP D ws H) (isC : List Nat) (hC : isC.filterMap (fun i => ws[i]?) = wc) : FrameBlind (xPr D cy t0 as wc) ∧ ∀ U : State, U.heap = H → s.WarmedH U.vm → xPr D cy t0 as wc as.toArray U := by
  refine ⟨xPr.blind, fun U hU hW => ⟨rfl, ?_, ?_⟩⟩
  · rw [hU]; exact hP.sub isC hC
  · exact hE.call hS (fun _ h => h.elim) hU hW
theorem xPw.giveV {D : va_G} {cy : Nat → ClassId} {t0 : Nat} {A : Nat → Prop} {s : State} {H : Heap} {locs : List Loc} {b : Addr} {As : List Value} {ws wc : va_W} (hE : xE D cy t0 A s s.heap) (hS : va_S A s.heap H locs) (hA : ∀ q, s.heap.size ≤ q → A q) (hP : xP D ws H) (hD : va_D A ws) (isC : List Nat) (hn : va_nd isC = true) (hC : isC.map (fun i => ws[i]?) = wc.map some) (k ci : Nat) {q : vw_C} {fs : List Value} (hc : vwCl[ci]? = some q) (he : ws[k]? = some (b, .inr (ci, fs))) : PreV s H q.1 b (xPw D cy t0 (.ref b :: As) wc H.size) As :=
  ⟨xPw.blind, va_recv hE.1 hP hc he, (xPw.give hE hS hA hP hD isC hn hC).2⟩
theorem xPr.giveV {D : va_G} {cy : Nat → ClassId} {t0 : Nat} {A : Nat → Prop} {s : State} {H : Heap} {locs : List Loc} {b : Addr} {As : List Value} {ws wc : va_W} (hE : xE D cy t0 A s s.heap) (hS : va_S A s.heap H locs) (hP : xP D ws H) (isC : List Nat) (hC : isC.filterMap (fun i => ws[i]?) = wc) (k ci : Nat) {q : vw_C} {fs : List Value} (hc : vwCl[ci]? = some q) (he : ws[k]? = some (b, .inr (ci, fs))) : PreV s H q.1 b (xPr D cy t0 (.ref b :: As) wc) As :=
  ⟨xPr.blind, va_recv hE.1 hP hc he, (xPr.give hE hS hP isC hC).2⟩
section XC
variable {p : Program} {l : Launch} {e : Env} {R : Room} {s : State} {m : MethodId} {args : Array Value} {below : List Frame} {meth : Method} {c : Code} {H : Heap} {locs : List Loc} {cells slots : Nat} {Q : State → Prop}
variable {pc : Nat} {ls : Array Slot} {rest st0 : List Value} {a : Array Value} {A : Nat → Prop} {H0 : Heap} {mc ms : Nat} {D : va_G} {ws wc wr : va_W}
theorem xcRi {post : Int32 → Prop} (hr : va_Run p l e R s m args below meth c H locs cells slots 0 0 (F0 m pc ls st0) rest (vp_Si post a) (fun _ => False))
    (kk : ∀ r : Int32, post r → W p l e R s m args below meth c H locs cells slots Q (F0 m (pc + 3) ls (.int r :: rest))) : W p l e R s m args below meth c H locs cells slots Q (F0 m pc ls st0) := vp_callSi hr.run kk
theorem xcRl {post : Int64 → Prop} (hr : va_Run p l e R s m args below meth c H locs cells slots 0 0 (F0 m pc ls st0) rest (vp_Sl post a) (fun _ => False))
    (kk : ∀ r : Int64, post r → W p l e R s m args below meth c H locs cells slots Q (F0 m (pc + 3) ls (.long r :: rest))) : W p l e R s m args below meth c H locs cells slots Q (F0 m pc ls st0) := vp_callSl hr.run kk
theorem xJ {w1 : va_W} {H1 : Heap} (hP : xP D ws H) (hD : va_D A ws) (hS : va_S A H0 H locs) (hA : ∀ q, H0.size ≤ q → A q) (isC isR : List Nat) (hC : isC.map (fun i => ws[i]?) = wc.map some) (hR : isR.map (fun i => ws[i]?) = wr.map some) (hn : va_nd isR = true) (hdis : ∀ i ∈ isR, i ∉ isC) (hk : ∀ q : Nat, q < H.size → ¬ va_A wc H.size q → H1[q]? = H[q]?) (hP1 : xP D w1 H1) (hD1 : va_D (va_A wc H.size) w1) : xP D (wr ++ w1) H1 ∧ va_D A (wr ++ w1) := va_join hP hD isC isR hC hR hn hdis hk (va_free hD hS hA isC hC) hP1 hD1
theorem xcWi {S : Type} {post : Int32 → S → Prop} {w1 : S → va_W} (hr : va_Run p l e R s m args below meth c H locs cells slots mc ms (F0 m pc ls st0) rest (va_Qi post (xBw D w1 (va_A wc H.size)) (va_A wc H.size) a) (va_A wc H.size)) (hP : xP D ws H) (hD : va_D A ws) (hS : va_S A H0 H locs) (hA : ∀ q, H0.size ≤ q → A q) (isC isR : List Nat) (hC : isC.map (fun i => ws[i]?) = wc.map some) (hR : isR.map (fun i => ws[i]?) = wr.map some) (hn : va_nd isR = true) (hdis : ∀ i ∈ isR, i ∉ isC)
    (kk : ∀ (r : Int32) (u : S) (H1 : Heap) (locs1 : List Loc), post r u → xP D (wr ++ w1 u) H1 → va_D A (wr ++ w1 u) → va_S A H0 H1 locs1 → W p l e R s m args below meth c H1 locs1 (cells + mc) (slots + ms) Q (F0 m (pc + 3) ls (.int r :: rest))) : W p l e R s m args below meth c H locs cells slots Q (F0 m pc ls st0) :=
  va_calli hr hS (fun q _ h => va_free hD hS hA isC hC q h) (va_free hD hS hA isC hC) (fun r u t H1 locs1 ht hvm hw hB hz hk1 hS1 => by
    have hB2 : xP D (w1 u) H1 := by rw [← ht]; exact hB.1
    obtain ⟨j1, j2⟩ := xJ hP hD hS hA isC isR hC hR hn hdis hk1 hB2 hB.2
    exact kk r u H1 locs1 hw j1 j2 hS1)
theorem xcWl {S : Type} {post : Int64 → S → Prop} {w1 : S → va_W} (hr : va_Run p l e R s m args below meth c H locs cells slots mc ms (F0 m pc ls st0) rest (va_Ql post (xBw D w1 (va_A wc H.size)) (va_A wc H.size) a) (va_A wc H.size)) (hP : xP D ws H) (hD : va_D A ws) (hS : va_S A H0 H locs) (hA : ∀ q, H0.size ≤ q → A q) (isC isR : List Nat) (hC : isC.map (fun i => ws[i]?) = wc.map some) (hR : isR.map (fun i => ws[i]?) = wr.map some) (hn : va_nd isR = true) (hdis : ∀ i ∈ isR, i ∉ isC)
    (kk : ∀ (r : Int64) (u : S) (H1 : Heap) (locs1 : List Loc), post r u → xP D (wr ++ w1 u) H1 → va_D A (wr ++ w1 u) → va_S A H0 H1 locs1 → W p l e R s m args below meth c H1 locs1 (cells + mc) (slots + ms) Q (F0 m (pc + 3) ls (.long r :: rest))) : W p l e R s m args below meth c H locs cells slots Q (F0 m pc ls st0) :=
  va_calll hr hS (fun q _ h => va_free hD hS hA isC hC q h) (va_free hD hS hA isC hC) (fun r u t H1 locs1 ht hvm hw hB hz hk1 hS1 => by
    have hB2 : xP D (w1 u) H1 := by rw [← ht]; exact hB.1
    obtain ⟨j1, j2⟩ := xJ hP hD hS hA isC isR hC hR hn hdis hk1 hB2 hB.2
    exact kk r u H1 locs1 hw j1 j2 hS1)
theorem xcWv {S : Type} {post : S → Prop} {w1 : S → va_W} (hr : va_Run p l e R s m args below meth c H locs cells slots mc ms (F0 m pc ls st0) rest (va_Qv post (xBw D w1 (va_A wc H.size)) (va_A wc H.size) a) (va_A wc H.size)) (hP : xP D ws H) (hD : va_D A ws) (hS : va_S A H0 H locs) (hA : ∀ q, H0.size ≤ q → A q) (isC isR : List Nat) (hC : isC.map (fun i => ws[i]?) = wc.map some) (hR : isR.map (fun i => ws[i]?) = wr.map some) (hn : va_nd isR = true) (hdis : ∀ i ∈ isR, i ∉ isC)
    (kk : ∀ (u : S) (H1 : Heap) (locs1 : List Loc), post u → xP D (wr ++ w1 u) H1 → va_D A (wr ++ w1 u) → va_S A H0 H1 locs1 → W p l e R s m args below meth c H1 locs1 (cells + mc) (slots + ms) Q (F0 m (pc + 3) ls rest)) : W p l e R s m args below meth c H locs cells slots Q (F0 m pc ls st0) :=
  va_callv hr hS (fun q _ h => va_free hD hS hA isC hC q h) (va_free hD hS hA isC hC) (fun u t H1 locs1 ht hvm hw hB hz hk1 hS1 => by
    have hB2 : xP D (w1 u) H1 := by rw [← ht]; exact hB.1
    obtain ⟨j1, j2⟩ := xJ hP hD hS hA isC isR hC hR hn hdis hk1 hB2 hB.2
    exact kk u H1 locs1 hw j1 j2 hS1)
theorem xcWr {S : Type} {post : S → Prop} {w1 : S → Nat → va_W} (hr : va_Run p l e R s m args below meth c H locs cells slots mc ms (F0 m pc ls st0) rest (va_Qr post (fun u a t => xP D (w1 u a) t.heap ∧ va_D (va_A wc H.size) (w1 u a)) (va_A wc H.size) a) (va_A wc H.size)) (hP : xP D ws H) (hD : va_D A ws) (hS : va_S A H0 H locs) (hA : ∀ q, H0.size ≤ q → A q) (isC isR : List Nat) (hC : isC.map (fun i => ws[i]?) = wc.map some) (hR : isR.map (fun i => ws[i]?) = wr.map some) (hn : va_nd isR = true) (hdis : ∀ i ∈ isR, i ∉ isC)
    (kk : ∀ (u : S) (q : Nat) (H1 : Heap) (locs1 : List Loc), post u → xP D (wr ++ w1 u q) H1 → va_D A (wr ++ w1 u q) → va_S A H0 H1 locs1 → W p l e R s m args below meth c H1 locs1 (cells + mc) (slots + ms) Q (F0 m (pc + 3) ls (.ref q :: rest))) : W p l e R s m args below meth c H locs cells slots Q (F0 m pc ls st0) :=
  va_callr hr hS (fun q _ h => va_free hD hS hA isC hC q h) (va_free hD hS hA isC hC) (fun u q t H1 locs1 ht hvm hw hB hz hk1 hS1 => by
    have hB2 : xP D (w1 u q) H1 := by rw [← ht]; exact hB.1
    obtain ⟨j1, j2⟩ := xJ hP hD hS hA isC isR hC hR hn hdis hk1 hB2 hB.2
    exact kk u q H1 locs1 hw j1 j2 hS1)
end XC
end XBASE
