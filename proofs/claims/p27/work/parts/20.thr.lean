section XTHR
def xTx {S : Type} (D : va_G) (w1 : S → va_W) (E0 : String) (A : Nat → Prop) : String → S → State → Prop := fun E u t => E = E0 ∧ xP D (w1 u) t.heap ∧ va_D A (w1 u)
/-- a call that throws an E0, always; its cells are w1 then -/
def xT {S : Type} (l : Launch) (y : MethodName) (wl : List Cond) (rm : Room) (D : va_G) (cy : Nat → ClassId) (t0 : Nat) (as : List Value) (ws : va_W) (E0 : String) (w1 : S → va_W) (mc ms : Nat) : Prop := ∀ sz : Nat, vx_Met l y wl rm (xPw D cy t0 as ws sz) (fun _ _ _ _ => False) (vx_X (fun _ : S => True) (xTx D w1 E0 (va_A ws sz)) (va_A ws sz)) mc ms (va_A ws sz)
/-- a read that answers a cell -/
def xRa (l : Launch) (y : MethodName) (wl : List Cond) (rm : Room) (D : va_G) (cy : Nat → ClassId) (t0 : Nat) (as : List Value) (ws : va_W) (post : Nat → Prop) : Prop := Met l y wl rm (xPr D cy t0 as ws) (va_Sr post (fun k => Value.ref k)) 0 0 (fun _ => False)
/-- a read that answers nothing -/
def xRv (l : Launch) (y : MethodName) (wl : List Cond) (rm : Room) (D : va_G) (cy : Nat → ClassId) (t0 : Nat) (as : List Value) (ws : va_W) : Prop := Met l y wl rm (xPr D cy t0 as ws) (va_Sv (fun _ => True)) 0 0 (fun _ => False)
section XO
variable {l : Launch} {y : MethodName} {wl wl' : List Cond} {rm : Room} {D : va_G} {cy : Nat → ClassId} {t0 : Nat} {as : List Value} {ws : va_W} {mc ms : Nat} {cc : ByteArray} {maxL : Nat}
theorem xofRa {ret : FieldType} {post : Nat → Prop} (hy : plainName y.cls = true) (hw : wl = Cond.code y cc maxL (some ret) :: wl') (hL : (lg_sl as).length ≤ maxL) (hret : (∃ n, ret = .object n) ∨ ∃ t, ret = .array t)
    (body : ∀ (p : Program) (e : Env) (s : State) (m : MethodId) (below : List Frame) (meth : Method) (c : Code) (Q : State → Prop) (ls : Array Slot), p.tables.exec = Jvm.exec → c.code = cc → c.maxLocals = maxL → (∀ w ∈ wl, w.before as.toArray s = true) → s.vm.findClass y.cls = some m.cls → xE D cy t0 (fun _ => False) s s.heap → xP D ws s.heap → lv_has ls maxL (lv_args 0 as) → va_S (fun _ => False) s.heap s.heap [] →
      (∀ (r : Nat) (pc : Nat) (ls : Array Slot), decode cc pc = .ok (.areturn, 1) → post r → W p l e rm s m as.toArray below meth c s.heap [] 0 0 Q (F0 m pc ls [.ref r])) →
      W p l e rm s m as.toArray below meth c s.heap [] 0 0 Q (F0 m 0 ls [])) : xRa l y wl rm D cy t0 as ws post := by
  refine Met.ofW (cc := cc) (maxL := maxL) (ret := some ret) hy hw ?_
  intro p e s m args below meth c s₁ B hml hv
  obtain ⟨rfl, hP, hE⟩ := hv
  rw [lg_entry_eq]
  refine body p e s m below meth c _ _ B.exec B.bytes hml (atoms_spec (ws := wl) B.pre) (findClass_of_methodNamed B.named) hE hP (lv_entry as hL) va_S.rf (fun r pc ls hd hp => ?_)
  exact W.aret B.exec B.bytes B.returns hret (Or.inr ⟨r, rfl⟩) (fun t ht hW => ⟨r, rfl, hp, ht⟩) (fun _ h => by cases h) hd (hlocks := B.notSynchronized)
theorem xofRv (hy : plainName y.cls = true) (hw : wl = Cond.code y cc maxL none :: wl') (hL : (lg_sl as).length ≤ maxL)
    (body : ∀ (p : Program) (e : Env) (s : State) (m : MethodId) (below : List Frame) (meth : Method) (c : Code) (Q : State → Prop) (ls : Array Slot), p.tables.exec = Jvm.exec → c.code = cc → c.maxLocals = maxL → (∀ w ∈ wl, w.before as.toArray s = true) → s.vm.findClass y.cls = some m.cls → xE D cy t0 (fun _ => False) s s.heap → xP D ws s.heap → lv_has ls maxL (lv_args 0 as) → va_S (fun _ => False) s.heap s.heap [] →
      (∀ (pc : Nat) (ls : Array Slot), decode cc pc = .ok (.return_, 1) → True → W p l e rm s m as.toArray below meth c s.heap [] 0 0 Q (F0 m pc ls [])) →
      W p l e rm s m as.toArray below meth c s.heap [] 0 0 Q (F0 m 0 ls [])) : xRv l y wl rm D cy t0 as ws := by
  refine Met.ofW (cc := cc) (maxL := maxL) (ret := none) hy hw ?_
  intro p e s m args below meth c s₁ B hml hv
  obtain ⟨rfl, hP, hE⟩ := hv
  rw [lg_entry_eq]
  refine body p e s m below meth c _ _ B.exec B.bytes hml (atoms_spec (ws := wl) B.pre) (findClass_of_methodNamed B.named) hE hP (lv_entry as hL) va_S.rf (fun pc ls hd _ => ?_)
  exact W.vret B.exec B.bytes B.returns (fun t ht hW => ⟨rfl, trivial, ht⟩) (fun _ h => by cases h) hd (hlocks := B.notSynchronized)
theorem xofT {S : Type} {ret : Option FieldType} {E0 : String} {w1 : S → va_W} (hy : plainName y.cls = true) (hw : wl = Cond.code y cc maxL ret :: wl') (hL : (lg_sl as).length ≤ maxL)
    (body : ∀ (p : Program) (e : Env) (s : State) (m : MethodId) (below : List Frame) (meth : Method) (c : Code) (Q : State → Prop) (A : Nat → Prop) (ls : Array Slot), p.tables.exec = Jvm.exec → c.code = cc → c.maxLocals = maxL → (∀ w ∈ wl, w.before as.toArray s = true) → s.vm.findClass y.cls = some m.cls → xE D cy t0 A s s.heap → (∀ q, s.heap.size ≤ q → A q) → ∀ (H : Heap) (locs : List Loc), xP D ws H → va_D A ws → lv_has ls maxL (lv_args 0 as) → va_S A s.heap H locs → (∀ x ∈ c.exceptionTable.toList, False) → meth.locks = false →
      Q = vx_MQ below (fun _ _ _ _ => False) (vx_X (fun _ : S => True) (xTx D w1 E0 A) A) as.toArray s mc ms A →
      (∀ (u : S) (H : Heap) (locs : List Loc) (q : Nat) (ce : Cell) (pc : Nat) (ls : Array Slot) (rest : List Value) (cells slots : Nat), H[q]? = some ce → ce.vm = .none → s.vm.findClass E0 = some ce.cls → xP D (w1 u) H → va_D A (w1 u) → va_S A s.heap H locs → cells ≤ mc → slots ≤ ms → vx_W p l e rm s m as.toArray below meth c H locs cells slots Q (F0 m pc ls rest) q) →
      W p l e rm s m as.toArray below meth c H locs 0 0 Q (F0 m 0 ls [])) : xT l y wl rm D cy t0 as ws E0 w1 mc ms := by
  intro sz
  refine vx_ofW (cc := cc) (maxL := maxL) (ret := ret) hy hw ?_
  intro p e s m args below meth c s₁ B hml htab hv
  obtain ⟨rfl, hsz, hP, hD0, hE⟩ := hv
  subst hsz
  rw [lg_entry_eq]
  refine body p e s m below meth c _ (va_A ws s.heap.size) _ B.exec B.bytes hml (atoms_spec (ws := wl) B.pre) (findClass_of_methodNamed B.named) hE (fun q h => Or.inr h) s.heap [] hP hD0.self (lv_entry as hL) va_S.rf htab B.notSynchronized rfl (fun u H locs q ce pc ls rest cells slots hce hcv hcl hP1 hD1 hS1 h1 h2 => ?_)
  refine vx_out (fun x hx => (htab x hx).elim) B.notSynchronized hce hcv hcl (fun t ht _ => ⟨u, trivial, ⟨rfl, by rw [ht]; exact hP1, hD1⟩, hS1.F ht⟩) hS1.2.2 h1 h2
end XO
section XCT
variable {p : Program} {l : Launch} {e : Env} {R : Room} {s : State} {m : MethodId} {args : Array Value} {below : List Frame} {meth : Method} {c : Code} {H : Heap} {locs : List Loc} {cells slots : Nat} {Q : State → Prop}
variable {pc : Nat} {ls : Array Slot} {rest st0 : List Value} {A : Nat → Prop} {H0 : Heap} {mc ms : Nat} {D : va_G} {ws wc wr : va_W}
theorem xcRa {a : Array Value} {post : Nat → Prop} (hr : va_Run p l e R s m args below meth c H locs cells slots 0 0 (F0 m pc ls st0) rest (va_Sr post (fun k => Value.ref k) a) (fun _ => False))
    (kk : ∀ r : Nat, post r → W p l e R s m args below meth c H locs cells slots Q (F0 m (pc + 3) ls (.ref r :: rest))) : W p l e R s m args below meth c H locs cells slots Q (F0 m pc ls st0) := va_csr hr.run kk
theorem xcRv {a : Array Value} (hr : va_Run p l e R s m args below meth c H locs cells slots 0 0 (F0 m pc ls st0) rest (va_Sv (fun _ => True) a) (fun _ => False))
    (kk : True → W p l e R s m args below meth c H locs cells slots Q (F0 m (pc + 3) ls rest)) : W p l e R s m args below meth c H locs cells slots Q (F0 m pc ls st0) := va_csv hr.run kk
theorem xcT {S : Type} {E0 : String} {w1 : S → va_W} (hr : vx_Run p l e R s m args below meth c H locs cells slots mc ms (F0 m pc ls st0) rest (fun _ _ _ => False) (vx_X (fun _ : S => True) (xTx D w1 E0 (va_A wc H.size)) (va_A wc H.size)) (va_A wc H.size)) (hP : xP D ws H) (hD : va_D A ws) (hS : va_S A H0 H locs) (hA : ∀ q, H0.size ≤ q → A q) (isC isR : List Nat) (hC : isC.map (fun i => ws[i]?) = wc.map some) (hR : isR.map (fun i => ws[i]?) = wr.map some) (hn : va_nd isR = true) (hdis : ∀ i ∈ isR, i ∉ isC)
    (kx : ∀ (u : S) (q : Nat) (ce : Cell) (H1 : Heap) (locs1 : List Loc), xP D (wr ++ w1 u) H1 → va_D A (wr ++ w1 u) → va_S A H0 H1 locs1 → H1[q]? = some ce → ce.vm = .none → s.vm.findClass E0 = some ce.cls → vx_W p l e R s m args below meth c H1 locs1 (cells + mc) (slots + ms) Q (F0 m pc ls rest) q) : W p l e R s m args below meth c H locs cells slots Q (F0 m pc ls st0) := by
  intro T hT X
  rcases hr T hT X with ⟨v, st₀, t, T', L, h0, X', hL, e1, e2, hq, st⟩ | ⟨q, st₀, t, T', L, E, ce, h0, X', hL, e1, e2, ⟨u, hp, ⟨hEE, hPt, hDt⟩, hF⟩, hce, hcv, hcl, st⟩
  · exact hq.elim
  · subst hEE
    have hf := va_free hD hS hA isC hC
    obtain ⟨k1, k2, k3⟩ := vx_keep h0 e1 hS (fun q _ h => hf q h) hf hL hF
    have hP2 : xP D (w1 u) T'.heap := by rw [e1]; exact hPt
    obtain ⟨j1, j2⟩ := xJ hP hD hS hA isC isR hC hR hn hdis k2 hP2 hDt
    obtain ⟨t2, a1, b1⟩ := kx u q ce T'.heap (locs ++ L) j1 j2 k3 (by rw [e1]; exact hce) hcv hcl T' rfl X'
    exact ⟨t2, st.trans a1, b1⟩
end XCT
abbrev xNn : List String := ["java/lang/RuntimeException", "java/lang/Exception"]
def xBX (E0 : String) : List Cond := [.castable E0 E0, .declares (Bundle.initS "java/lang/RuntimeException"), .declares (Bundle.initS "java/lang/Exception"), .declares (Bundle.initS Bundle.tN)]
theorem xngIO : ∀ w ∈ (vx_atS RX4 121 xIO xNn).filter (fun w => !goodWord w), w ∈ xBX xIO := by decide +kernel
theorem xngIA : ∀ w ∈ (vx_atS RX4 178 xIA xNn).filter (fun w => !goodWord w), w ∈ xBX xIA := by decide +kernel
theorem xotIO : ∀ w ∈ Cond.classLink RX4 117 xIO :: Cond.initialized xIO :: vx_atS RX4 121 xIO xNn, vx_ot w = true := by decide +kernel
theorem xotIA : ∀ w ∈ Cond.classLink RX4 174 xIA :: Cond.initialized xIA :: vx_atS RX4 178 xIA xNn, vx_ot w = true := by decide +kernel
theorem xBX_of {s : State} {args : Array Value} {E0 : String} (hE0 : E0 = xIO ∨ E0 = xIA) (hX : xX s) : ∀ w ∈ xBX E0, w.before args s = true := by
  have hc : va_Nw (.castable E0 E0) s := by
    rcases hE0 with rfl | rfl
    · exact hX.2.1.1
    · exact hX.2.1.2.1
  refine vx_c (va_Nw.use rfl hc) (vx_c (va_Nw.use rfl (hX.1 _ ?_)) (vx_c (va_Nw.use rfl (hX.1 _ ?_)) (vx_c (va_Nw.use rfl (hX.1 _ ?_)) vx_n)))
  · exact List.mem_cons_self
  · exact List.mem_cons_of_mem _ List.mem_cons_self
  · exact List.mem_cons_of_mem _ (List.mem_cons_of_mem _ List.mem_cons_self)
set_option maxHeartbeats 2000000 in
theorem xthr {p : Program} {l : Launch} {e : Env} {R : Room} {s : State} {m : MethodId} {below : List Frame} {meth : Method} {c : Code} {H : Heap} {locs : List Loc} {cells slots mc ms : Nat} {as : List Value} {cc : ByteArray} {pc : Nat} {ls : Array Slot} {rest : List Value} {wl : List Cond} {S : Type} {D : va_G} {cy : Nat → ClassId} {t0 : Nat} {A : Nat → Prop} {w1 : S → va_W} {E0 text : String} {ik is ic : Nat}
    (hx : p.tables.exec = Jvm.exec) (hb : c.code = cc) (hl : l.stackTraces = false) (hts : ∀ w ∈ wl, w.before as.toArray s = true) (hown : s.vm.findClass RX4 = some m.cls) (hE : xE D cy t0 A s s.heap) (hE0 : E0 = xIO ∨ E0 = xIA) (hfit : Bundle.fit E0 = true)
    (hk : Cond.classLink RX4 ik E0 ∈ wl) (hini : Cond.initialized E0 ∈ wl) (hgw : ∀ w ∈ (vx_atS RX4 ic E0 xNn).filter goodWord, w ∈ wl) (hng : ∀ w ∈ (vx_atS RX4 ic E0 xNn).filter (fun w => !goodWord w), w ∈ xBX E0) (hot : ∀ w ∈ Cond.classLink RX4 ik E0 :: Cond.initialized E0 :: vx_atS RX4 ic E0 xNn, vx_ot w = true) (hstr : (is, text) ∈ xsM)
    (hS : va_S A s.heap H locs) (hsize : ls.size = c.maxLocals)
    (d0 : decode cc pc = .ok (.new ik, 3)) (d3 : decode cc (pc + 3) = .ok (.dup, 1)) (d4 : decode cc (pc + 4) = .ok (.ldc is, 2)) (d6 : decode cc (pc + 6) = .ok (.invokespecial ic, 3)) (d9 : decode cc (pc + 9) = .ok (.athrow, 1)) (htab : ∀ x ∈ c.exceptionTable.toList, False) (hlocks : meth.locks = false)
    (hRf : 5 < R.frames) (hRl : (rest.map fun v => v.category).sum + 82 ≤ R.locals) (hRc : cells + 1 ≤ R.cells) (hRs : slots + 6 ≤ R.slots) (u : S) (hP : xP D (w1 u) H) (hD : va_D A (w1 u)) (hc : cells + 1 ≤ mc) (hs : slots + 6 ≤ ms) :
    W p l e R s m as.toArray below meth c H locs cells slots (vx_MQ below (fun _ _ _ _ => False) (vx_X (fun _ : S => True) (xTx D w1 E0 A) A) as.toArray s mc ms A) (F0 m pc ls rest) := by
  obtain ⟨sa, hsa⟩ := hE.2.1.2.2.2 (is, text) hstr
  have hat : ∀ w ∈ vx_atS RX4 ic E0 xNn, w.before as.toArray s = true := vx_hat (fun w hw => hts w (hgw w hw)) hng (xBX_of hE0 hE.2.1.2)
  refine vx_throwS (A := A) (names := xNn) hx hb hl hown hfit (by decide +kernel) (hts _ hk) (hts _ hini) hsa hat hot hE.2.2.1.1 hE.2.2.1.2 hS hsize d0 d3 d4 d6 d9 (fun x hx => (htab x hx).elim) hRf hRl hRc hRs hlocks (fun t hvm hz hq => ?_) hS.2.2 hc hs
  refine ⟨u, trivial, ⟨rfl, hP.kept (fun k q hk => hq q.1 (hP k q hk).lt), hD⟩, ⟨Nat.le_trans hS.1 hz, fun q h1 h2 => ?_⟩⟩
  rw [hq q (Nat.lt_of_lt_of_le h1 hS.1)]
  exact hS.2.1 q h1 h2
end XTHR
