section
-- ===== PART A: goes FIRST, ahead of the names: the tables' words, and 'selects' of the private methods out of them =====
/-- a private method of a class that the tables say can be made, by its rows of tables_1 -/
def lw_okq (q : MethodName × Nat) : Prop := (q.1.cls ≠ "java/lang/invoke/MethodHandle" ∧ q.1.cls ≠ "java/lang/invoke/VarHandle") ∧ Cond.instantiable q.1.cls q.2 ∈ tables_1 ∧ Cond.privateMethod q.1 ∈ tables_1 ∧ Cond.instanceMethod q.1 ∈ tables_1
theorem lw_p0 : lw_okq (⟨"DistinctDale", "need", "(I)LDistinctDale$Basket;"⟩, 10) := ⟨⟨by decide +kernel, by decide +kernel⟩, List.mem_of_getElem? (i := 16) (by decide +kernel), List.mem_of_getElem? (i := 156) (by decide +kernel), List.mem_of_getElem? (i := 157) (by decide +kernel)⟩
theorem lw_p1 : lw_okq (⟨"java/lang/Throwable", "fillInStackTrace", "(I)Ljava/lang/Throwable;"⟩, 6) := ⟨⟨by decide +kernel, by decide +kernel⟩, List.mem_of_getElem? (i := 197) (by decide +kernel), List.mem_of_getElem? (i := 195) (by decide +kernel), List.mem_of_getElem? (i := 196) (by decide +kernel)⟩
theorem lw_p2 : lw_okq (⟨"DistinctDale", "takeLine", "(LDistinctDale$Basket;III)I"⟩, 10) := ⟨⟨by decide +kernel, by decide +kernel⟩, List.mem_of_getElem? (i := 16) (by decide +kernel), List.mem_of_getElem? (i := 250) (by decide +kernel), List.mem_of_getElem? (i := 251) (by decide +kernel)⟩
theorem lw_p3 : lw_okq (⟨"DistinctDale$Basket", "makeRoomFor", "(I)V"⟩, 3) := ⟨⟨by decide +kernel, by decide +kernel⟩, List.mem_of_getElem? (i := 31) (by decide +kernel), List.mem_of_getElem? (i := 268) (by decide +kernel), List.mem_of_getElem? (i := 269) (by decide +kernel)⟩
theorem lw_p4 : lw_okq (⟨"DistinctDale$LeastHashes", "offer", "(I)V"⟩, 3) := ⟨⟨by decide +kernel, by decide +kernel⟩, List.mem_of_getElem? (i := 87) (by decide +kernel), List.mem_of_getElem? (i := 380) (by decide +kernel), List.mem_of_getElem? (i := 381) (by decide +kernel)⟩
theorem lw_p5 : lw_okq (⟨"DistinctDale", "keepLeastOf", "(LDistinctDale$Basket;LDistinctDale$Basket;)V"⟩, 10) := ⟨⟨by decide +kernel, by decide +kernel⟩, List.mem_of_getElem? (i := 16) (by decide +kernel), List.mem_of_getElem? (i := 413) (by decide +kernel), List.mem_of_getElem? (i := 414) (by decide +kernel)⟩
theorem lw_p6 : lw_okq (⟨"DistinctDale$Registers", "rank", "(I)V"⟩, 1) := ⟨⟨by decide +kernel, by decide +kernel⟩, List.mem_of_getElem? (i := 58) (by decide +kernel), List.mem_of_getElem? (i := 464) (by decide +kernel), List.mem_of_getElem? (i := 465) (by decide +kernel)⟩
theorem lw_p7 : lw_okq (⟨"DistinctDaleModel", "goesWell", "(I)Z"⟩, 14) := ⟨⟨by decide +kernel, by decide +kernel⟩, List.mem_of_getElem? (i := 539) (by decide +kernel), List.mem_of_getElem? (i := 607) (by decide +kernel), List.mem_of_getElem? (i := 608) (by decide +kernel)⟩
theorem lw_p8 : lw_okq (⟨"DistinctDaleModel", "put", "(III)Z"⟩, 14) := ⟨⟨by decide +kernel, by decide +kernel⟩, List.mem_of_getElem? (i := 539) (by decide +kernel), List.mem_of_getElem? (i := 611) (by decide +kernel), List.mem_of_getElem? (i := 612) (by decide +kernel)⟩
theorem lw_p9 : lw_okq (⟨"DistinctDaleModel", "has", "(II)Z"⟩, 14) := ⟨⟨by decide +kernel, by decide +kernel⟩, List.mem_of_getElem? (i := 539) (by decide +kernel), List.mem_of_getElem? (i := 615) (by decide +kernel), List.mem_of_getElem? (i := 616) (by decide +kernel)⟩
theorem lw_p10 : lw_okq (⟨"DistinctDaleModel", "count", "(I)I"⟩, 14) := ⟨⟨by decide +kernel, by decide +kernel⟩, List.mem_of_getElem? (i := 539) (by decide +kernel), List.mem_of_getElem? (i := 627) (by decide +kernel), List.mem_of_getElem? (i := 628) (by decide +kernel)⟩
theorem lw_p11 : lw_okq (⟨"DistinctDaleModel", "layKept", "(I)I"⟩, 14) := ⟨⟨by decide +kernel, by decide +kernel⟩, List.mem_of_getElem? (i := 539) (by decide +kernel), List.mem_of_getElem? (i := 674) (by decide +kernel), List.mem_of_getElem? (i := 675) (by decide +kernel)⟩
theorem lw_p12 : lw_okq (⟨"DistinctDaleModel", "above", "(II)I"⟩, 14) := ⟨⟨by decide +kernel, by decide +kernel⟩, List.mem_of_getElem? (i := 539) (by decide +kernel), List.mem_of_getElem? (i := 678) (by decide +kernel), List.mem_of_getElem? (i := 679) (by decide +kernel)⟩
theorem lw_p13 : lw_okq (⟨"DistinctDaleModel", "estimate", "(II)J"⟩, 14) := ⟨⟨by decide +kernel, by decide +kernel⟩, List.mem_of_getElem? (i := 539) (by decide +kernel), List.mem_of_getElem? (i := 690) (by decide +kernel), List.mem_of_getElem? (i := 691) (by decide +kernel)⟩
theorem lw_p14 : lw_okq (⟨"DistinctDaleModel", "share", "(III)I"⟩, 14) := ⟨⟨by decide +kernel, by decide +kernel⟩, List.mem_of_getElem? (i := 539) (by decide +kernel), List.mem_of_getElem? (i := 698) (by decide +kernel), List.mem_of_getElem? (i := 699) (by decide +kernel)⟩
theorem lw_p15 : lw_okq (⟨"DistinctDaleModel", "layBoth", "(II)I"⟩, 14) := ⟨⟨by decide +kernel, by decide +kernel⟩, List.mem_of_getElem? (i := 539) (by decide +kernel), List.mem_of_getElem? (i := 702) (by decide +kernel), List.mem_of_getElem? (i := 703) (by decide +kernel)⟩
def lw_privs_1 : List (MethodName × Nat) := [(⟨"DistinctDale", "need", "(I)LDistinctDale$Basket;"⟩, 10), (⟨"java/lang/Throwable", "fillInStackTrace", "(I)Ljava/lang/Throwable;"⟩, 6), (⟨"DistinctDale", "takeLine", "(LDistinctDale$Basket;III)I"⟩, 10), (⟨"DistinctDale$Basket", "makeRoomFor", "(I)V"⟩, 3), (⟨"DistinctDale$LeastHashes", "offer", "(I)V"⟩, 3), (⟨"DistinctDale", "keepLeastOf", "(LDistinctDale$Basket;LDistinctDale$Basket;)V"⟩, 10), (⟨"DistinctDale$Registers", "rank", "(I)V"⟩, 1), (⟨"DistinctDaleModel", "goesWell", "(I)Z"⟩, 14), (⟨"DistinctDaleModel", "put", "(III)Z"⟩, 14), (⟨"DistinctDaleModel", "has", "(II)Z"⟩, 14), (⟨"DistinctDaleModel", "count", "(I)I"⟩, 14), (⟨"DistinctDaleModel", "layKept", "(I)I"⟩, 14), (⟨"DistinctDaleModel", "above", "(II)I"⟩, 14), (⟨"DistinctDaleModel", "estimate", "(II)J"⟩, 14), (⟨"DistinctDaleModel", "share", "(III)I"⟩, 14), (⟨"DistinctDaleModel", "layBoth", "(II)I"⟩, 14)]
theorem lw_r1 : ∀ q ∈ lw_privs_1, lw_okq q := List.forall_mem_cons.mpr ⟨lw_p0, List.forall_mem_cons.mpr ⟨lw_p1, List.forall_mem_cons.mpr ⟨lw_p2, List.forall_mem_cons.mpr ⟨lw_p3, List.forall_mem_cons.mpr ⟨lw_p4, List.forall_mem_cons.mpr ⟨lw_p5, List.forall_mem_cons.mpr ⟨lw_p6, List.forall_mem_cons.mpr ⟨lw_p7, List.forall_mem_cons.mpr ⟨lw_p8, List.forall_mem_cons.mpr ⟨lw_p9, List.forall_mem_cons.mpr ⟨lw_p10, List.forall_mem_cons.mpr ⟨lw_p11, List.forall_mem_cons.mpr ⟨lw_p12, List.forall_mem_cons.mpr ⟨lw_p13, List.forall_mem_cons.mpr ⟨lw_p14, List.forall_mem_cons.mpr ⟨lw_p15, fun _ h => absurd h List.not_mem_nil⟩⟩⟩⟩⟩⟩⟩⟩⟩⟩⟩⟩⟩⟩⟩⟩
theorem lw_p16 : lw_okq (⟨"DistinctDaleModel", "isKept", "(I)Z"⟩, 14) := ⟨⟨by decide +kernel, by decide +kernel⟩, List.mem_of_getElem? (i := 539) (by decide +kernel), List.mem_of_getElem? (i := 707) (by decide +kernel), List.mem_of_getElem? (i := 708) (by decide +kernel)⟩
theorem lw_p17 : lw_okq (⟨"DistinctDaleModel", "isOther", "(I)Z"⟩, 14) := ⟨⟨by decide +kernel, by decide +kernel⟩, List.mem_of_getElem? (i := 539) (by decide +kernel), List.mem_of_getElem? (i := 711) (by decide +kernel), List.mem_of_getElem? (i := 712) (by decide +kernel)⟩
theorem lw_p18 : lw_okq (⟨"DistinctDaleModel", "layRegisters", "(II)V"⟩, 14) := ⟨⟨by decide +kernel, by decide +kernel⟩, List.mem_of_getElem? (i := 539) (by decide +kernel), List.mem_of_getElem? (i := 727) (by decide +kernel), List.mem_of_getElem? (i := 728) (by decide +kernel)⟩
theorem lw_p19 : lw_okq (⟨"DistinctDaleModel", "ofRegisters", "()J"⟩, 14) := ⟨⟨by decide +kernel, by decide +kernel⟩, List.mem_of_getElem? (i := 539) (by decide +kernel), List.mem_of_getElem? (i := 738) (by decide +kernel), List.mem_of_getElem? (i := 739) (by decide +kernel)⟩
theorem lw_p20 : lw_okq (⟨"DistinctDaleModel", "levelOf", "(I)I"⟩, 14) := ⟨⟨by decide +kernel, by decide +kernel⟩, List.mem_of_getElem? (i := 539) (by decide +kernel), List.mem_of_getElem? (i := 753) (by decide +kernel), List.mem_of_getElem? (i := 754) (by decide +kernel)⟩
theorem lw_p21 : lw_okq (⟨"DistinctDaleModel", "countAt", "(II)I"⟩, 14) := ⟨⟨by decide +kernel, by decide +kernel⟩, List.mem_of_getElem? (i := 539) (by decide +kernel), List.mem_of_getElem? (i := 757) (by decide +kernel), List.mem_of_getElem? (i := 758) (by decide +kernel)⟩
def lw_privs_2 : List (MethodName × Nat) := [(⟨"DistinctDaleModel", "isKept", "(I)Z"⟩, 14), (⟨"DistinctDaleModel", "isOther", "(I)Z"⟩, 14), (⟨"DistinctDaleModel", "layRegisters", "(II)V"⟩, 14), (⟨"DistinctDaleModel", "ofRegisters", "()J"⟩, 14), (⟨"DistinctDaleModel", "levelOf", "(I)I"⟩, 14), (⟨"DistinctDaleModel", "countAt", "(II)I"⟩, 14)]
theorem lw_r2 : ∀ q ∈ lw_privs_2, lw_okq q := List.forall_mem_cons.mpr ⟨lw_p16, List.forall_mem_cons.mpr ⟨lw_p17, List.forall_mem_cons.mpr ⟨lw_p18, List.forall_mem_cons.mpr ⟨lw_p19, List.forall_mem_cons.mpr ⟨lw_p20, List.forall_mem_cons.mpr ⟨lw_p21, fun _ h => absurd h List.not_mem_nil⟩⟩⟩⟩⟩⟩
def lw_privs : List (MethodName × Nat) := lw_privs_1 ++ (lw_privs_2)
def lw_tbl : List Cond := k2_sels lw_privs ++ tables_1
theorem lw_privs_ok : ∀ q ∈ lw_privs, lw_okq q := by
  show ∀ q ∈ lw_privs_1 ++ (lw_privs_2), lw_okq q
  exact List.forall_mem_append.mpr ⟨lw_r1, lw_r2⟩
-- ===== end of PART A; then your names; then what follows =====
/-! ===== BEGIN words of one list among another's, by their places ===== -/
theorem goodIn_r {big : List Cond} (ws : List Cond) (ps : List Nat) (hp : ws = ps.filterMap (fun i => big[i]?)) (h : ws.all goodWord = true) : GoodIn big ws := by
  intro w hw
  have h1 := List.all_eq_true.mp h w hw
  rw [hp] at hw
  obtain ⟨i, -, hi⟩ := List.mem_filterMap.mp hw
  have hm : w ∈ big := by first | exact List.mem_of_getElem? hi | exact List.getElem?_mem hi
  exact ⟨hm, good_of_word h1⟩
theorem goodIn_app {big a b : List Cond} (ha : GoodIn big a) (hb : GoodIn big b) : GoodIn big (a ++ b) := fun w h => (List.mem_append.mp h).elim (ha w) (hb w)
theorem goodIn_ca {big a b : List Cond} {c : Cond} (ha : GoodIn big (c :: a)) (hb : GoodIn big b) : GoodIn big (c :: (a ++ b)) := fun w h => (List.mem_cons.mp h).elim (fun e => ha w (List.mem_cons.mpr (Or.inl e))) (fun h => (List.mem_append.mp h).elim (fun h => ha w (List.mem_cons.mpr (Or.inr h))) (hb w))
theorem goodIn_sub {big ws : List Cond} (hm : ∀ w ∈ ws, w ∈ big) (h : ws.all goodWord = true) : GoodIn big ws := fun w hw => ⟨hm w hw, good_of_word (List.all_eq_true.mp h w hw)⟩
/-! ===== END ===== -/

/-! ===== BEGIN exceptions that leave a method, and their catching by the caller (launches without stack traces) ===== -/
section VXA
/-! The laws vx_back, vx_callV, vx_callS, vx_callSW, vx_throw0, vx_throwS follow proofs of the library, with one case more: JvmDerived/Free/Laws.lean (Back.of_free), Shelf42/LK1.lean (callV, callS), Shelf/KitTraced.lean (throwNew0V, throwNewS). -/
/-- where a method has thrown q: the class by its name, the cell, what was written, the world -/
def vx_T (XC : String → State → State → Prop) (st : State) (q : Addr) (t : State) (mc ms : Nat) (free : Addr → Prop) : Prop :=
  ∃ (E : String) (ce : Cell) (L : List Loc), XC E st t ∧ t.heap[q]? = some ce ∧ ce.vm = .none ∧ st.vm.findClass E = some ce.cls ∧ st.WarmedH t.vm ∧ st.sameButNew ({ t with vm := st.vm } : State) L mc ms ∧ ∀ z ∈ L, free z.base
def vx_Q (Qc : Array Value → State → Outcome → State → Prop) (XC : String → State → State → Prop) (mc ms : Nat) (free : Addr → Prop) : Array Value → State → Outcome → State → Prop := fun a st o t =>
  (Qc a st o t ∧ ∃ L, FrameEnd st o t L mc ms ∧ ∀ q ∈ L, free q.base) ∨ ∃ q, o = .threw q ∧ vx_T XC st q t mc ms free
/-- a callee that returns or throws -/
def vx_Met (l : Launch) (y : MethodName) (ws : List Cond) (rm : Room) (Pc : Array Value → State → Prop) (Qc : Array Value → State → Outcome → State → Prop) (XC : String → State → State → Prop) (mc ms : Nat) (free : Addr → Prop) : Prop :=
  MetFree l y (headSpec ws rm) Pc (fun _ _ _ _ _ => True) (vx_Q Qc XC mc ms free)
def vx_Post (XC : String → State → State → Prop) (mc ms : Nat) (free : Addr → Prop) : Pt → Array Value → Addr → Pt → Prop := fun A a q B =>
  ∃ (g : JFrame) (mk : MethodId) (t : State) (L : List Loc) (E : String) (ce : Cell), B.U.heap = t.heap ∧ B.U.vm = t.vm ∧ XC E (A.U.calling g mk a) t ∧ t.heap[q]? = some ce ∧ ce.vm = .none ∧ A.U.vm.findClass E = some ce.cls ∧ B.locs = A.locs ++ L ∧ (∀ z ∈ L, free z.base) ∧ B.cells = A.cells + mc ∧ B.slots = A.slots + ms
def vx_Back (l : Launch) (R : Room) (p : Program) (e : Env) (below : List Frame) (s : State) (sargs : Array Value) (y : MethodName) (len W9 : Nat)
    (Pre : Pt → Array Value → Prop) (Post : Pt → Array Value → Option Value → Pt → Prop) (PostX : Pt → Array Value → Addr → Pt → Prop) : Prop :=
  ∀ (m : MethodId) (meth : Method) (c : Code) (A : Pt) (g : JFrame) (ig : Instr) (mk : MethodId) (a : Array Value),
    Stand p l e R s m sargs below meth c A.U A.locs A.cells A.slots → g.method = m → g.locals.size = c.maxLocals → decode c.code g.pc = .ok (ig, len) →
    2 * g.monitorRoom + (g.stack.map fun v => v.category).sum ≤ W9 → A.U.methodNamed? y = some mk → Pre A a →
    (∃ (v : Option Value) (B : Pt), Stand p l e R s m sargs below meth c B.U B.locs B.cells B.slots ∧ Post A a v B ∧
      Steps p.tables e below (doInvoke e (A.U.setTop g) [] mk a).1 (B.U.setTop { g with pc := g.pc + len, stack := v.toList ++ g.stack })) ∨
    (∃ (q : Addr) (B : Pt), Stand p l e R s m sargs below meth c B.U B.locs B.cells B.slots ∧ PostX A a q B ∧
      Steps p.tables e below (doInvoke e (A.U.setTop g) [] mk a).1 ((B.U.setTop g).pushFrame (.throwing q)))
section Payer
variable {l : Launch} {R : Room} {p : Program} {e : Env} {below : List Frame} {s : State} {sargs : Array Value} {y : MethodName} {len W9 : Nat}
theorem vx_back {ws : List Cond} {rm : Room} {Pc : Array Value → State → Prop} {Qc : Array Value → State → Outcome → State → Prop} {XC : String → State → State → Prop} {mc ms : Nat} {free : Addr → Prop} {bytes : ByteArray} {maxL : Nat} {ret : Option FieldType}
    (hM : vx_Met l y ws rm Pc Qc XC mc ms free) (hblind : FrameBlind Pc) (hrc : rm.cells = mc) (hrs : rm.slots = ms)
    (hframes : rm.frames + 1 ≤ R.frames) (hlocals : W9 + (maxL + 11) + rm.locals ≤ R.locals)
    (hws : ∀ w ∈ ws, ∀ a' U, s.WarmedH U.vm → w.before a' U = true) (hcode : Cond.code y bytes maxL ret ∈ ws) (hinit : ∀ a' U, s.WarmedH U.vm → (Cond.initialized y.cls).before a' U = true) :
    vx_Back l R p e below s sargs y len W9 (PreOf R mc ms Pc) (PostOf Qc mc ms free) (vx_Post XC mc ms free) := by
  intro m meth c A g ig mk a X hg hsize hdg hW hn hp
  have h1 : (headSpec ws rm).pre.before a A.U = true := atoms_intro fun w hw => hws w hw _ _ X.warmed
  have h2 : (Cond.code y bytes maxL ret).before a A.U = true := hws _ hcode _ _ X.warmed
  have h3 : (Cond.initialized y.cls).before a A.U = true := hinit _ _ X.warmed
  have h4 : A.cells + (headSpec ws rm).room.cells ≤ R.cells := by rw [show (headSpec ws rm).room.cells = mc from hrc]; exact hp.1
  have h5 : A.slots + (headSpec ws rm).room.slots ≤ R.slots := by rw [show (headSpec ws rm).room.slots = ms from hrs]; exact hp.2.1
  have hPc : Pc a (A.U.calling g mk a) := hblind _ _ _ _ hp.2.2
  obtain ⟨U, Ls, c0, s0⟩ := A
  dsimp only [Pt.U, Pt.locs, Pt.cells, Pt.slots] at h1 h2 h3 h4 h5 X hn hPc ⊢
  obtain ⟨methY, cY, hmY, hcY, -, hlY, -, -, -, -⟩ := Cond.code_spec hn h2
  obtain ⟨kY, hkY, -⟩ := className_of_methodNamed hn
  have hinitY : kY.init = .initialized := Cond.initialized_spec (findClass_of_methodNamed hn) hkY h3
  have h : At U g.method c below := by rw [hg]; exact X.here
  have hlocals9 : W9 + (maxL + 11) + (headSpec ws rm).room.locals ≤ R.locals := hlocals
  have happ : (headSpec ws rm).appliesLoose y e.platform (U.calling g mk a) = true :=
    Spec.appliesLoose_calling (g := g) h hdg hn hkY hinitY
      (X.room_calling (g := g) (R' := (headSpec ws rm).room) hsize hmY hcY hframes (by rw [hlY]; omega) h4 h5) h1
  obtain ⟨mid, hmid⟩ := h.above
  have hfr : (U.setTop g).frames = (.java g :: mid) ++ below := by rw [State.frames_setTop' g h.top, hmid]; rfl
  obtain ⟨o, s₂, hsteps, -, hend, hq⟩ := Steps.callFree hM p X.admits X.cas X.clock (acts := []) hfr happ hPc trivial
  have hq' : vx_Q Qc XC mc ms free a (U.calling g mk a) o s₂ := hq
  rw [State.frames_setTop' g h.top] at hend
  obtain ⟨g₀, hg0⟩ := Option.isSome_iff_exists.mp h.top
  obtain ⟨r, hr⟩ := State.topJava?_eq_some.mp hg0
  have hr' : (({ U with heap := s₂.heap, slotsUsed := s₂.slotsUsed } : State).setVm s₂.vm).frames = .java g₀ :: r := hr
  rcases hq' with ⟨hqc, L, hfe, hL⟩ | ⟨q, rfl, E, ce, L, hx, hce, hcv, hcl, hW₂, hsm, hL⟩
  · obtain ⟨⟨v, rfl⟩, hW₂, e2, q2, q3, q4, q5, q6⟩ := id hfe
    have e3 : s₂ = ({ (U.calling g mk a).setFrames s₂.frames with heap := s₂.heap, slotsUsed := s₂.slotsUsed } : State).setVm s₂.vm := by
      have : s₂ = ({ s₂ with vm := (U.calling g mk a).vm } : State).setVm s₂.vm := rfl
      rw [e2] at this
      exact this
    obtain ⟨c₂, i₂, len₂, hc₂, hd₂, hf₂⟩ := hend
    have hW' : U.WarmedH s₂.vm := hW₂
    have hcc : c₂ = c := by
      have h1 : s₂.code? g.method = U.code? g.method := by
        rw [State.code?_eq, State.code?_eq, hW'.alike.method?]
      exact Option.some.inj (hc₂.symm.trans (h1.trans h.code))
    subst hcc
    have hlen : len₂ = len := by rw [hdg] at hd₂; cases hd₂; rfl
    subst hlen
    have hs₂ : s₂ = (({ U with heap := s₂.heap, slotsUsed := s₂.slotsUsed } : State).setVm s₂.vm).setTop { g with pc := g.pc + len₂, stack := v.toList ++ g.stack } := by
      refine e3.trans ?_
      rw [hf₂, State.calling_eq h.top, State.setFrames_setFrames, State.setTop_of_frames _ hr', hr]
      rfl
    have hsame : U.sameButNew ({ U with heap := s₂.heap, slotsUsed := s₂.slotsUsed } : State) L mc ms := by
      refine ⟨?_, q2, q3, q4, q5, q6⟩
      obtain ⟨t, ht, -⟩ := State.frames_cons hr
      show ({ U with heap := s₂.heap, slotsUsed := s₂.slotsUsed } : State) = { U.setFrames U.frames with heap := s₂.heap, slotsUsed := s₂.slotsUsed }
      rw [State.setFrames_self ht]
    subst hg
    refine Or.inl ⟨v, ⟨(({ U with heap := s₂.heap, slotsUsed := s₂.slotsUsed } : State).setVm s₂.vm), Ls ++ L, c0 + mc, s0 + ms⟩,
      ⟨X.admits, X.cas, X.clock, X.frames, X.room, X.hears, X.method, X.code, (X.here.setHeapUsed s₂.heap s₂.slotsUsed).setVm hW'.alike, X.tail, State.WarmedH.trans X.warmed hW', X.limits, X.bytes, X.same.trans (hsame.setVm s.vm)⟩,
      ⟨g, mk, s₂, L, rfl, rfl, hqc, rfl, hL, rfl, rfl⟩, ?_⟩
    show Steps p.tables e below _ ((({ U with heap := s₂.heap, slotsUsed := s₂.slotsUsed } : State).setVm s₂.vm).setTop { g with pc := g.pc + len₂, stack := v.toList ++ g.stack })
    rw [← hs₂]
    exact hsteps
  · obtain ⟨e2, q2, q3, q4, q5, q6⟩ := id hsm
    have e3 : s₂ = ({ (U.calling g mk a).setFrames s₂.frames with heap := s₂.heap, slotsUsed := s₂.slotsUsed } : State).setVm s₂.vm := by
      have : s₂ = ({ s₂ with vm := (U.calling g mk a).vm } : State).setVm s₂.vm := rfl
      rw [e2] at this
      exact this
    have hf₂ : s₂.frames = .throwing q :: .java g :: U.frames.tail := hend
    have hW' : U.WarmedH s₂.vm := hW₂
    have hs₂ : s₂ = ((({ U with heap := s₂.heap, slotsUsed := s₂.slotsUsed } : State).setVm s₂.vm).setTop g).pushFrame (.throwing q) := by
      refine e3.trans ?_
      rw [hf₂, State.calling_eq h.top, State.setFrames_setFrames, State.pushFrame, State.frames_setTop _ hr', State.setTop_of_frames _ hr', State.setFrames_setFrames, hr]
      rfl
    have hsame : U.sameButNew ({ U with heap := s₂.heap, slotsUsed := s₂.slotsUsed } : State) L mc ms := by
      refine ⟨?_, q2, q3, q4, q5, q6⟩
      obtain ⟨t, ht, -⟩ := State.frames_cons hr
      show ({ U with heap := s₂.heap, slotsUsed := s₂.slotsUsed } : State) = { U.setFrames U.frames with heap := s₂.heap, slotsUsed := s₂.slotsUsed }
      rw [State.setFrames_self ht]
    subst hg
    refine Or.inr ⟨q, ⟨(({ U with heap := s₂.heap, slotsUsed := s₂.slotsUsed } : State).setVm s₂.vm), Ls ++ L, c0 + mc, s0 + ms⟩,
      ⟨X.admits, X.cas, X.clock, X.frames, X.room, X.hears, X.method, X.code, (X.here.setHeapUsed s₂.heap s₂.slotsUsed).setVm hW'.alike, X.tail, State.WarmedH.trans X.warmed hW', X.limits, X.bytes, X.same.trans (hsame.setVm s.vm)⟩,
      ⟨g, mk, s₂, L, E, ce, rfl, rfl, hx, hce, hcv, hcl, rfl, hL, rfl, rfl⟩, ?_⟩
    show Steps p.tables e below _ (((({ U with heap := s₂.heap, slotsUsed := s₂.slotsUsed } : State).setVm s₂.vm).setTop g).pushFrame (.throwing q))
    rw [← hs₂]
    exact hsteps
end Payer
section Calls
variable {p : Program} {l : Launch} {e : Env} {R : Room} {s : State} {m : MethodId} {args : Array Value} {below : List Frame} {meth : Method} {c : Code} {T : State} {locs : List Loc} {cells slots : Nat}
theorem vx_callV (X : Stand p l e R s m args below meth c T locs cells slots) (hexec : p.tables.exec = Jvm.exec) {own C : String} {index : Nat} {y : MethodName} {bytes : ByteArray} {maxL : Nat} {ret : Option FieldType}
    (hown : s.vm.findClass own = some m.cls) (hlink : (Cond.methodLink own index y).before args s = true) (hinst : (Cond.instanceMethod y).before args s = true) (hsel : (Cond.selects C y y).before args s = true)
    (hcode : (Cond.code y bytes maxL ret).before args s = true) (hy : y.cls ≠ "java/lang/invoke/MethodHandle" ∧ y.cls ≠ "java/lang/invoke/VarHandle")
    {W9 : Nat} {Pre : Pt → Array Value → Prop} {Post : Pt → Array Value → Option Value → Pt → Prop} {PostX : Pt → Array Value → Addr → Pt → Prop} (hK : vx_Back l R p e below s args y 3 W9 Pre Post PostX)
    {b : Addr} {cellB : Cell} (hcell : T.heap[b]? = some cellB) (hobj : cellB.vm.isStatics = false) (hcls : s.vm.findClass C = some cellB.cls)
    {g : JFrame} (hg : g.method = m) (hsize : g.locals.size = c.maxLocals) {argsL rest : List Value} (hlen : ∀ sig, parseMethodDescriptor y.desc = some sig → argsL.length = sig.parameters.length)
    (hstack : g.stack = argsL.reverse ++ .ref b :: rest) (hW : 2 * g.monitorRoom + (rest.map fun v => v.category).sum ≤ W9) (hdg : decode c.code g.pc = .ok (.invokevirtual index, 3))
    (hpre : ∀ vm₁, s.WarmedH vm₁ → Pre ⟨T.setVm vm₁, locs, cells, slots⟩ (Value.ref b :: argsL).toArray) :
    (∃ (v : Option Value) (vm₁ : Vm) (B : Pt), s.WarmedH vm₁ ∧ Stand p l e R s m args below meth c B.U B.locs B.cells B.slots ∧ Post ⟨T.setVm vm₁, locs, cells, slots⟩ (Value.ref b :: argsL).toArray v B ∧
      ∀ target, Steps p.tables e below (B.U.setTop { g with pc := g.pc + 3, stack := v.toList ++ rest }) target → Steps p.tables e below (T.setTop g) target) ∨
    (∃ (q : Addr) (vm₁ : Vm) (B : Pt), s.WarmedH vm₁ ∧ Stand p l e R s m args below meth c B.U B.locs B.cells B.slots ∧ PostX ⟨T.setVm vm₁, locs, cells, slots⟩ (Value.ref b :: argsL).toArray q B ∧
      Steps p.tables e below (T.setTop g) ((B.U.setTop { g with stack := rest }).pushFrame (.throwing q))) := by
  obtain ⟨mk, methM, hnamed, hmethM, hstM, habM⟩ := Cond.instanceMethod_spec hinst
  obtain ⟨methM', cM, hmethM', -, -, -, -, -, -, hsigM⟩ := Cond.code_spec hnamed hcode
  cases hmethM.symm.trans hmethM'
  obtain ⟨c2, r2, m2, q1, q2, q3, q4, kP, hkP, hkPi⟩ := Cond.selects_spec hsel
  cases hcls.symm.trans q1
  cases (State.methodFound?_of_named hnamed hy).symm.trans q2
  cases hnamed.symm.trans q3
  have hselP : selectMethod e.platform s.vm cellB.cls mk = .method mk := by rw [Launch.admits_selectMethod X.admits]; exact q4
  obtain ⟨vm₁, X₁, hstep₁⟩ := X.invokevirtual hexec hown hlink hnamed hmethM hstM hkP hkPi hy (a := b) (cell := cellB) hcell
    (fun z h => by rw [h] at hobj; cases hobj) hselP hmethM habM hkP hkPi (g := g) hg (argsL := argsL) (rest := rest) (hlen _ hsigM) hstack hdg
  rcases hK m meth c ⟨T.setVm vm₁, locs, cells, slots⟩ { g with stack := rest } (.invokevirtual index) mk (Value.ref b :: argsL).toArray X₁ hg hsize hdg hW (X₁.named hnamed) (hpre vm₁ X₁.warmed) with ⟨v, B, X', hpost, hsteps⟩ | ⟨q, B, X', hpost, hsteps⟩
  · exact Or.inl ⟨v, vm₁, B, X₁.warmed, X', hpost, fun target h => hstep₁ _ fun acts => by rw [doInvoke_state]; exact hsteps.trans h⟩
  · exact Or.inr ⟨q, vm₁, B, X₁.warmed, X', hpost, hstep₁ _ fun acts => by rw [doInvoke_state]; exact hsteps⟩
theorem vx_callS (X : Stand p l e R s m args below meth c T locs cells slots) (hexec : p.tables.exec = Jvm.exec) {own : String} {index : Nat} {y : MethodName} {bytes : ByteArray} {maxL : Nat} {ret : Option FieldType}
    (hown : s.vm.findClass own = some m.cls) (hlink : (Cond.methodLink own index y).before args s = true) (hstat : (Cond.static y).before args s = true) (hinit : (Cond.initialized y.cls).before args s = true)
    (hcode : (Cond.code y bytes maxL ret).before args s = true) (hy : y.cls ≠ "java/lang/invoke/MethodHandle" ∧ y.cls ≠ "java/lang/invoke/VarHandle")
    {W9 : Nat} {Pre : Pt → Array Value → Prop} {Post : Pt → Array Value → Option Value → Pt → Prop} {PostX : Pt → Array Value → Addr → Pt → Prop} (hK : vx_Back l R p e below s args y 3 W9 Pre Post PostX)
    {g : JFrame} (hg : g.method = m) (hsize : g.locals.size = c.maxLocals) {argsL rest : List Value} (hlen : ∀ sig, parseMethodDescriptor y.desc = some sig → argsL.length = sig.parameters.length)
    (hstack : g.stack = argsL.reverse ++ rest) (hW : 2 * g.monitorRoom + (rest.map fun v => v.category).sum ≤ W9) (hdg : decode c.code g.pc = .ok (.invokestatic index, 3))
    (hpre : ∀ vm₁, s.WarmedH vm₁ → Pre ⟨T.setVm vm₁, locs, cells, slots⟩ argsL.toArray) :
    (∃ (v : Option Value) (vm₁ : Vm) (B : Pt), s.WarmedH vm₁ ∧ Stand p l e R s m args below meth c B.U B.locs B.cells B.slots ∧ Post ⟨T.setVm vm₁, locs, cells, slots⟩ argsL.toArray v B ∧
      ∀ target, Steps p.tables e below (B.U.setTop { g with pc := g.pc + 3, stack := v.toList ++ rest }) target → Steps p.tables e below (T.setTop g) target) ∨
    (∃ (q : Addr) (vm₁ : Vm) (B : Pt), s.WarmedH vm₁ ∧ Stand p l e R s m args below meth c B.U B.locs B.cells B.slots ∧ PostX ⟨T.setVm vm₁, locs, cells, slots⟩ argsL.toArray q B ∧
      Steps p.tables e below (T.setTop g) ((B.U.setTop { g with stack := rest }).pushFrame (.throwing q))) := by
  obtain ⟨mk, hnamed⟩ := Cond.code_named hcode
  obtain ⟨methM, cM, hmethM, -, -, -, -, -, -, hsigM⟩ := Cond.code_spec hnamed hcode
  have hstatic : methM.isStatic = true := Cond.static_spec hnamed hmethM hstat
  obtain ⟨kP, hkP, -⟩ := className_of_methodNamed hnamed
  have hinitP : kP.init = .initialized := Cond.initialized_spec (findClass_of_methodNamed hnamed) hkP hinit
  obtain ⟨vm₁, X₁, hstep₁⟩ := X.invokestatic hexec hown hlink hnamed hmethM hstatic hkP hinitP hy (g := g) hg (argsL := argsL) (rest := rest) (hlen _ hsigM) hstack hdg
  rcases hK m meth c ⟨T.setVm vm₁, locs, cells, slots⟩ { g with stack := rest } (.invokestatic index) mk argsL.toArray X₁ hg hsize hdg hW (X₁.named hnamed) (hpre vm₁ X₁.warmed) with ⟨v, B, X', hpost, hsteps⟩ | ⟨q, B, X', hpost, hsteps⟩
  · exact Or.inl ⟨v, vm₁, B, X₁.warmed, X', hpost, fun target h => hstep₁ _ fun acts => by rw [doInvoke_state]; exact hsteps.trans h⟩
  · exact Or.inr ⟨q, vm₁, B, X₁.warmed, X', hpost, hstep₁ _ fun acts => by rw [doInvoke_state]; exact hsteps⟩
end Calls
theorem vx_cls {s : State} {T : State} {vm₁ : Vm} {E : String} {k : ClassId} (hW : s.WarmedH vm₁) (h : (T.setVm vm₁).vm.findClass E = some k) : s.vm.findClass E = some k := by
  have h1 : vm₁.findClass E = some k := h
  rw [hW.alike.findClass] at h1
  exact h1
/-- the method's frame g, with q thrown over it -/
def vx_W (p : Program) (l : Launch) (e : Env) (R : Room) (s : State) (m : MethodId) (args : Array Value) (below : List Frame) (meth : Method) (c : Code) (H : Heap) (locs : List Loc) (cells slots : Nat) (Q : State → Prop) (g : JFrame) (q : Addr) : Prop :=
  ∀ T : State, T.heap = H → Stand p l e R s m args below meth c T locs cells slots → ∃ t, Steps p.tables e below ((T.setTop g).pushFrame (.throwing q)) t ∧ Q t
def vx_Run (p : Program) (l : Launch) (e : Env) (R : Room) (s : State) (m : MethodId) (args : Array Value) (below : List Frame) (meth : Method) (c : Code) (H : Heap) (locs : List Loc) (cells slots mc ms : Nat) (g : JFrame) (rest : List Value) (Qa : State → Outcome → State → Prop) (XC : String → State → State → Prop) (free : Addr → Prop) : Prop :=
  ∀ T : State, T.heap = H → Stand p l e R s m args below meth c T locs cells slots →
    (∃ (v : Option Value) (st₀ t T' : State) (L : List Loc), st₀.heap = H ∧ Stand p l e R s m args below meth c T' (locs ++ L) (cells + mc) (slots + ms) ∧ (∀ q ∈ L, free q.base) ∧ T'.heap = t.heap ∧ T'.vm = t.vm ∧ Qa st₀ (.returned v) t ∧
      Goes p e below T g T' { g with pc := g.pc + 3, stack := v.toList ++ rest }) ∨
    (∃ (q : Addr) (st₀ t T' : State) (L : List Loc) (E : String) (ce : Cell), st₀.heap = H ∧ Stand p l e R s m args below meth c T' (locs ++ L) (cells + mc) (slots + ms) ∧ (∀ z ∈ L, free z.base) ∧ T'.heap = t.heap ∧ T'.vm = t.vm ∧ XC E st₀ t ∧ t.heap[q]? = some ce ∧ ce.vm = .none ∧ s.vm.findClass E = some ce.cls ∧
      Steps p.tables e below (T.setTop g) ((T'.setTop { g with stack := rest }).pushFrame (.throwing q)))
def vx_X {S : Type} (px : S → Prop) (B : String → S → State → Prop) (A : Nat → Prop) : String → State → State → Prop := fun E st t => ∃ u : S, px u ∧ B E u t ∧ va_F A st t
section Runs
variable {p : Program} {l : Launch} {e : Env} {R : Room} {s : State} {m : MethodId} {args : Array Value} {below : List Frame} {meth : Method} {c : Code} {H : Heap} {locs : List Loc} {cells slots : Nat}
variable {y : MethodName} {bytes cc : ByteArray} {maxL nL mc ms n index : Nat} {ret : Option FieldType} {ws : List Cond} {rm : Room} {Pc : Array Value → State → Prop} {Qc : Array Value → State → Outcome → State → Prop} {XC : String → State → State → Prop} {free : Addr → Prop} {Ts : List Cond} {own C : String} {b : Addr} {As rest : List Value} {g : JFrame}
theorem vx_callBack (cb : CallB R s args own index y bytes maxL ret ws rm mc ms n) (hM : vx_Met l y ws rm Pc Qc XC mc ms free) (hbl : FrameBlind Pc) : vx_Back l R p e below s args y 3 8 (PreOf R mc ms Pc) (PostOf Qc mc ms free) (vx_Post XC mc ms free) := by
  obtain ⟨hrc, hrs, hfr, hlo, hws, hcw, -, hini, -⟩ := cb
  exact vx_back (bytes := bytes) (maxL := maxL) (ret := ret) hM hbl hrc hrs hfr hlo hws hcw (fun a' U hW => word_at hW (Or.inl (by first | rfl | simp [Cond.onTables, Cond.keeps, Cond.steady])) hini)
theorem vx_runV (S : CallFix p m c cc nL s args Ts own) (hM : vx_Met l y ws rm Pc Qc XC mc ms free) (cw : CallW R s args own C index y bytes maxL ret ws rm mc ms n) (hp : PreV s H C b Pc As)
    (hg : g.method = m) (hn : As.length = n) (hsize : g.locals.size = nL) (hstack : g.stack = As.reverse ++ .ref b :: rest) (hW : 2 * g.monitorRoom + (rest.map fun v => v.category).sum ≤ 8) (hdg : decode cc g.pc = .ok (.invokevirtual index, 3)) (hf : cells + mc ≤ R.cells ∧ slots + ms ≤ R.slots) :
    vx_Run p l e R s m args below meth c H locs cells slots mc ms g rest (Qc (Value.ref b :: As).toArray) XC free := by
  have hK : vx_Back l R p e below s args y 3 8 (PreOf R mc ms Pc) (PostOf Qc mc ms free) (vx_Post XC mc ms free) := vx_callBack cw.1 hM hp.1
  obtain ⟨⟨-, -, -, -, -, -, hcode, -, hy, hlen, hl⟩, hin, hse⟩ := cw
  obtain ⟨hx, hb, hml, ho, -⟩ := S
  obtain ⟨-, ⟨cellB, hcB, hoB, hclB⟩, hPc⟩ := hp
  intro T hT X
  rcases vx_callV X hx (C := C) (bytes := bytes) (maxL := maxL) (ret := ret) ho hl hin hse hcode hy hK (by rw [hT]; exact hcB) hoB hclB hg (hsize.trans hml.symm) (argsL := As) (rest := rest) (fun sig h => hn.trans (hlen sig h)) hstack hW (by rw [hb]; exact hdg)
    (fun vm₁ hW₁ => ⟨hf.1, hf.2, hPc (T.setVm vm₁) hT hW₁⟩) with ⟨v, vm₁, ⟨U', l2, c2, s2⟩, hW₁, X', ⟨g', mk, t, L, e1, e2, hq, h1, hL, h2, h3⟩, st⟩ | ⟨q, vm₁, ⟨U', l2, c2, s2⟩, hW₁, X', ⟨g', mk, t, L, E, ce, e1, e2, hq, hce, hcv, hcl, h1, hL, h2, h3⟩, st⟩
  · dsimp only [Pt.U, Pt.locs, Pt.cells, Pt.slots] at X' e1 e2 h1 h2 h3 st
    subst h1; subst h2; subst h3
    exact Or.inl ⟨v, (T.setVm vm₁).calling g' mk (Value.ref b :: As).toArray, t, U', L, hT, X', hL, e1, e2, hq, st⟩
  · dsimp only [Pt.U, Pt.locs, Pt.cells, Pt.slots] at X' e1 e2 h1 h2 h3 st hcl
    subst h1; subst h2; subst h3
    exact Or.inr ⟨q, (T.setVm vm₁).calling g' mk (Value.ref b :: As).toArray, t, U', L, E, ce, hT, X', hL, e1, e2, hq, hce, hcv, vx_cls hW₁ hcl, st⟩
theorem vx_runS (S : CallFix p m c cc nL s args Ts own) (hM : vx_Met l y ws rm Pc Qc XC mc ms free) (cw : CallB R s args own index y bytes maxL ret ws rm mc ms n ∧ (Cond.static y).before args s = true) (hp : PreS s H Pc As)
    (hg : g.method = m) (hn : As.length = n) (hsize : g.locals.size = nL) (hstack : g.stack = As.reverse ++ rest) (hW : 2 * g.monitorRoom + (rest.map fun v => v.category).sum ≤ 8) (hdg : decode cc g.pc = .ok (.invokestatic index, 3)) (hf : cells + mc ≤ R.cells ∧ slots + ms ≤ R.slots) :
    vx_Run p l e R s m args below meth c H locs cells slots mc ms g rest (Qc As.toArray) XC free := by
  have hK : vx_Back l R p e below s args y 3 8 (PreOf R mc ms Pc) (PostOf Qc mc ms free) (vx_Post XC mc ms free) := vx_callBack cw.1 hM hp.1
  obtain ⟨⟨-, -, -, -, -, -, hcode, hini, hy, hlen, hl⟩, hstt⟩ := cw
  obtain ⟨hx, hb, hml, ho, -⟩ := S
  intro T hT X
  rcases vx_callS X hx (bytes := bytes) (maxL := maxL) (ret := ret) ho hl hstt hini hcode hy hK hg (hsize.trans hml.symm) (argsL := As) (rest := rest) (fun sig h => hn.trans (hlen sig h)) hstack hW (by rw [hb]; exact hdg)
    (fun vm₁ hW₁ => ⟨hf.1, hf.2, hp.2 (T.setVm vm₁) hT hW₁⟩) with ⟨v, vm₁, ⟨U', l2, c2, s2⟩, hW₁, X', ⟨g', mk, t, L, e1, e2, hq, h1, hL, h2, h3⟩, st⟩ | ⟨q, vm₁, ⟨U', l2, c2, s2⟩, hW₁, X', ⟨g', mk, t, L, E, ce, e1, e2, hq, hce, hcv, hcl, h1, hL, h2, h3⟩, st⟩
  · dsimp only [Pt.U, Pt.locs, Pt.cells, Pt.slots] at X' e1 e2 h1 h2 h3 st
    subst h1; subst h2; subst h3
    exact Or.inl ⟨v, (T.setVm vm₁).calling g' mk As.toArray, t, U', L, hT, X', hL, e1, e2, hq, st⟩
  · dsimp only [Pt.U, Pt.locs, Pt.cells, Pt.slots] at X' e1 e2 h1 h2 h3 st hcl
    subst h1; subst h2; subst h3
    exact Or.inr ⟨q, (T.setVm vm₁).calling g' mk As.toArray, t, U', L, E, ce, hT, X', hL, e1, e2, hq, hce, hcv, vx_cls hW₁ hcl, st⟩
end Runs
section Rows
variable {p : Program} {l : Launch} {e : Env} {R : Room} {s : State} {m : MethodId} {args : Array Value} {below : List Frame} {meth : Method} {c : Code} {H : Heap} {locs : List Loc} {cells slots : Nat} {Q : State → Prop}
variable {mc ms : Nat} {free : Addr → Prop} {A0 A1 : Nat → Prop} {H0 : Heap} {a : Array Value} {pc : Nat} {ls : Array Slot} {st0 rest : List Value}
theorem vx_keep {st₀ t T' : State} {L : List Loc} (h0 : st₀.heap = H) (e1 : T'.heap = t.heap) (hS : va_S A0 H0 H locs) (hA : ∀ q, q < H.size → A1 q → A0 q) (hf : ∀ q, free q → A0 q) (hL : ∀ q ∈ L, free q.base) (hF : va_F A1 st₀ t) :
    H.size ≤ T'.heap.size ∧ (∀ q : Nat, q < H.size → ¬ A1 q → T'.heap[q]? = H[q]?) ∧ va_S A0 H0 T'.heap (locs ++ L) := by
  obtain ⟨hz, hk⟩ := hF
  rw [h0] at hz hk
  exact ⟨by rw [e1]; exact hz, fun q h1 h2 => by rw [e1]; exact hk q h1 h2,
    ⟨Nat.le_trans hS.1 (by rw [e1]; exact hz), fun q h1 h2 => by rw [e1, hk q (Nat.lt_of_lt_of_le h1 hS.1) (fun z => h2 (hA q (Nat.lt_of_lt_of_le h1 hS.1) z))]; exact hS.2.1 q h1 h2, fun q hq => by
      rcases List.mem_append.mp hq with h | h
      · exact hS.2.2 q h
      · exact hf _ (hL q h)⟩⟩
theorem vx_calli {S SX : Type} {post : Int32 → S → Prop} {px : SX → Prop} {B : S → State → Prop} {BX : String → SX → State → Prop} {AX : Nat → Prop} (hr : vx_Run p l e R s m args below meth c H locs cells slots mc ms (F0 m pc ls st0) rest (va_Qi post B A1 a) (vx_X px BX AX) free) (hS : va_S A0 H0 H locs) (hA : ∀ q, q < H.size → A1 q → A0 q) (hf : ∀ q, free q → A0 q) (hAX : ∀ q, q < H.size → AX q → A0 q)
    (kx : ∀ (E : String) (ce : Cell) (q9 : Addr) (u : SX) (t : State) (H1 : Heap) (locs1 : List Loc), t.heap = H1 → s.vm.Alike t.vm → px u → BX E u t → H.size ≤ H1.size → (∀ q : Nat, q < H.size → ¬ AX q → H1[q]? = H[q]?) → va_S A0 H0 H1 locs1 → H1[q9]? = some ce → ce.vm = .none → s.vm.findClass E = some ce.cls → vx_W p l e R s m args below meth c H1 locs1 (cells + mc) (slots + ms) Q (F0 m pc ls rest) q9)
    (kk : ∀ (r : Int32) (u : S) (t : State) (H1 : Heap) (locs1 : List Loc), t.heap = H1 → s.vm.Alike t.vm → post r u → B u t → H.size ≤ H1.size → (∀ q : Nat, q < H.size → ¬ A1 q → H1[q]? = H[q]?) → va_S A0 H0 H1 locs1 → W p l e R s m args below meth c H1 locs1 (cells + mc) (slots + ms) Q (F0 m (pc + 3) ls (.int r :: rest))) : W p l e R s m args below meth c H locs cells slots Q (F0 m pc ls st0) := by
  intro T hT X
  rcases hr T hT X with ⟨v, st₀, t, T', L, h0, X', hL, e1, e2, ⟨⟨r, u, hv, hp, hb⟩, hF⟩, st⟩ | ⟨q, st₀, t, T', L, E, ce, h0, X', hL, e1, e2, ⟨u, hp, hb, hF⟩, hce, hcv, hcl, st⟩
  · cases hv
    obtain ⟨k1, k2, k3⟩ := vx_keep h0 e1 hS hA hf hL hF
    obtain ⟨t2, a1, b1⟩ := kk r u t T'.heap (locs ++ L) e1.symm (by rw [← e2]; exact X'.warmed.alike) hp hb k1 k2 k3 T' rfl X'
    exact ⟨t2, st t2 a1, b1⟩
  · obtain ⟨k1, k2, k3⟩ := vx_keep h0 e1 hS hAX hf hL hF
    obtain ⟨t2, a1, b1⟩ := kx E ce q u t T'.heap (locs ++ L) e1.symm (by rw [← e2]; exact X'.warmed.alike) hp hb k1 k2 k3 (by rw [e1]; exact hce) hcv hcl T' rfl X'
    exact ⟨t2, st.trans a1, b1⟩
theorem vx_calll {S SX : Type} {post : Int64 → S → Prop} {px : SX → Prop} {B : S → State → Prop} {BX : String → SX → State → Prop} {AX : Nat → Prop} (hr : vx_Run p l e R s m args below meth c H locs cells slots mc ms (F0 m pc ls st0) rest (va_Ql post B A1 a) (vx_X px BX AX) free) (hS : va_S A0 H0 H locs) (hA : ∀ q, q < H.size → A1 q → A0 q) (hf : ∀ q, free q → A0 q) (hAX : ∀ q, q < H.size → AX q → A0 q)
    (kx : ∀ (E : String) (ce : Cell) (q9 : Addr) (u : SX) (t : State) (H1 : Heap) (locs1 : List Loc), t.heap = H1 → s.vm.Alike t.vm → px u → BX E u t → H.size ≤ H1.size → (∀ q : Nat, q < H.size → ¬ AX q → H1[q]? = H[q]?) → va_S A0 H0 H1 locs1 → H1[q9]? = some ce → ce.vm = .none → s.vm.findClass E = some ce.cls → vx_W p l e R s m args below meth c H1 locs1 (cells + mc) (slots + ms) Q (F0 m pc ls rest) q9)
    (kk : ∀ (r : Int64) (u : S) (t : State) (H1 : Heap) (locs1 : List Loc), t.heap = H1 → s.vm.Alike t.vm → post r u → B u t → H.size ≤ H1.size → (∀ q : Nat, q < H.size → ¬ A1 q → H1[q]? = H[q]?) → va_S A0 H0 H1 locs1 → W p l e R s m args below meth c H1 locs1 (cells + mc) (slots + ms) Q (F0 m (pc + 3) ls (.long r :: rest))) : W p l e R s m args below meth c H locs cells slots Q (F0 m pc ls st0) := by
  intro T hT X
  rcases hr T hT X with ⟨v, st₀, t, T', L, h0, X', hL, e1, e2, ⟨⟨r, u, hv, hp, hb⟩, hF⟩, st⟩ | ⟨q, st₀, t, T', L, E, ce, h0, X', hL, e1, e2, ⟨u, hp, hb, hF⟩, hce, hcv, hcl, st⟩
  · cases hv
    obtain ⟨k1, k2, k3⟩ := vx_keep h0 e1 hS hA hf hL hF
    obtain ⟨t2, a1, b1⟩ := kk r u t T'.heap (locs ++ L) e1.symm (by rw [← e2]; exact X'.warmed.alike) hp hb k1 k2 k3 T' rfl X'
    exact ⟨t2, st t2 a1, b1⟩
  · obtain ⟨k1, k2, k3⟩ := vx_keep h0 e1 hS hAX hf hL hF
    obtain ⟨t2, a1, b1⟩ := kx E ce q u t T'.heap (locs ++ L) e1.symm (by rw [← e2]; exact X'.warmed.alike) hp hb k1 k2 k3 (by rw [e1]; exact hce) hcv hcl T' rfl X'
    exact ⟨t2, st.trans a1, b1⟩
theorem vx_callf {S SX : Type} {post : UInt32 → S → Prop} {px : SX → Prop} {B : S → State → Prop} {BX : String → SX → State → Prop} {AX : Nat → Prop} (hr : vx_Run p l e R s m args below meth c H locs cells slots mc ms (F0 m pc ls st0) rest (va_Qf post B A1 a) (vx_X px BX AX) free) (hS : va_S A0 H0 H locs) (hA : ∀ q, q < H.size → A1 q → A0 q) (hf : ∀ q, free q → A0 q) (hAX : ∀ q, q < H.size → AX q → A0 q)
    (kx : ∀ (E : String) (ce : Cell) (q9 : Addr) (u : SX) (t : State) (H1 : Heap) (locs1 : List Loc), t.heap = H1 → s.vm.Alike t.vm → px u → BX E u t → H.size ≤ H1.size → (∀ q : Nat, q < H.size → ¬ AX q → H1[q]? = H[q]?) → va_S A0 H0 H1 locs1 → H1[q9]? = some ce → ce.vm = .none → s.vm.findClass E = some ce.cls → vx_W p l e R s m args below meth c H1 locs1 (cells + mc) (slots + ms) Q (F0 m pc ls rest) q9)
    (kk : ∀ (r : UInt32) (u : S) (t : State) (H1 : Heap) (locs1 : List Loc), t.heap = H1 → s.vm.Alike t.vm → post r u → B u t → H.size ≤ H1.size → (∀ q : Nat, q < H.size → ¬ A1 q → H1[q]? = H[q]?) → va_S A0 H0 H1 locs1 → W p l e R s m args below meth c H1 locs1 (cells + mc) (slots + ms) Q (F0 m (pc + 3) ls (.float r :: rest))) : W p l e R s m args below meth c H locs cells slots Q (F0 m pc ls st0) := by
  intro T hT X
  rcases hr T hT X with ⟨v, st₀, t, T', L, h0, X', hL, e1, e2, ⟨⟨r, u, hv, hp, hb⟩, hF⟩, st⟩ | ⟨q, st₀, t, T', L, E, ce, h0, X', hL, e1, e2, ⟨u, hp, hb, hF⟩, hce, hcv, hcl, st⟩
  · cases hv
    obtain ⟨k1, k2, k3⟩ := vx_keep h0 e1 hS hA hf hL hF
    obtain ⟨t2, a1, b1⟩ := kk r u t T'.heap (locs ++ L) e1.symm (by rw [← e2]; exact X'.warmed.alike) hp hb k1 k2 k3 T' rfl X'
    exact ⟨t2, st t2 a1, b1⟩
  · obtain ⟨k1, k2, k3⟩ := vx_keep h0 e1 hS hAX hf hL hF
    obtain ⟨t2, a1, b1⟩ := kx E ce q u t T'.heap (locs ++ L) e1.symm (by rw [← e2]; exact X'.warmed.alike) hp hb k1 k2 k3 (by rw [e1]; exact hce) hcv hcl T' rfl X'
    exact ⟨t2, st.trans a1, b1⟩
theorem vx_calld {S SX : Type} {post : UInt64 → S → Prop} {px : SX → Prop} {B : S → State → Prop} {BX : String → SX → State → Prop} {AX : Nat → Prop} (hr : vx_Run p l e R s m args below meth c H locs cells slots mc ms (F0 m pc ls st0) rest (va_Qd post B A1 a) (vx_X px BX AX) free) (hS : va_S A0 H0 H locs) (hA : ∀ q, q < H.size → A1 q → A0 q) (hf : ∀ q, free q → A0 q) (hAX : ∀ q, q < H.size → AX q → A0 q)
    (kx : ∀ (E : String) (ce : Cell) (q9 : Addr) (u : SX) (t : State) (H1 : Heap) (locs1 : List Loc), t.heap = H1 → s.vm.Alike t.vm → px u → BX E u t → H.size ≤ H1.size → (∀ q : Nat, q < H.size → ¬ AX q → H1[q]? = H[q]?) → va_S A0 H0 H1 locs1 → H1[q9]? = some ce → ce.vm = .none → s.vm.findClass E = some ce.cls → vx_W p l e R s m args below meth c H1 locs1 (cells + mc) (slots + ms) Q (F0 m pc ls rest) q9)
    (kk : ∀ (r : UInt64) (u : S) (t : State) (H1 : Heap) (locs1 : List Loc), t.heap = H1 → s.vm.Alike t.vm → post r u → B u t → H.size ≤ H1.size → (∀ q : Nat, q < H.size → ¬ A1 q → H1[q]? = H[q]?) → va_S A0 H0 H1 locs1 → W p l e R s m args below meth c H1 locs1 (cells + mc) (slots + ms) Q (F0 m (pc + 3) ls (.double r :: rest))) : W p l e R s m args below meth c H locs cells slots Q (F0 m pc ls st0) := by
  intro T hT X
  rcases hr T hT X with ⟨v, st₀, t, T', L, h0, X', hL, e1, e2, ⟨⟨r, u, hv, hp, hb⟩, hF⟩, st⟩ | ⟨q, st₀, t, T', L, E, ce, h0, X', hL, e1, e2, ⟨u, hp, hb, hF⟩, hce, hcv, hcl, st⟩
  · cases hv
    obtain ⟨k1, k2, k3⟩ := vx_keep h0 e1 hS hA hf hL hF
    obtain ⟨t2, a1, b1⟩ := kk r u t T'.heap (locs ++ L) e1.symm (by rw [← e2]; exact X'.warmed.alike) hp hb k1 k2 k3 T' rfl X'
    exact ⟨t2, st t2 a1, b1⟩
  · obtain ⟨k1, k2, k3⟩ := vx_keep h0 e1 hS hAX hf hL hF
    obtain ⟨t2, a1, b1⟩ := kx E ce q u t T'.heap (locs ++ L) e1.symm (by rw [← e2]; exact X'.warmed.alike) hp hb k1 k2 k3 (by rw [e1]; exact hce) hcv hcl T' rfl X'
    exact ⟨t2, st.trans a1, b1⟩
theorem vx_callv {S SX : Type} {post : S → Prop} {px : SX → Prop} {B : S → State → Prop} {BX : String → SX → State → Prop} {AX : Nat → Prop} (hr : vx_Run p l e R s m args below meth c H locs cells slots mc ms (F0 m pc ls st0) rest (va_Qv post B A1 a) (vx_X px BX AX) free) (hS : va_S A0 H0 H locs) (hA : ∀ q, q < H.size → A1 q → A0 q) (hf : ∀ q, free q → A0 q) (hAX : ∀ q, q < H.size → AX q → A0 q)
    (kx : ∀ (E : String) (ce : Cell) (q9 : Addr) (u : SX) (t : State) (H1 : Heap) (locs1 : List Loc), t.heap = H1 → s.vm.Alike t.vm → px u → BX E u t → H.size ≤ H1.size → (∀ q : Nat, q < H.size → ¬ AX q → H1[q]? = H[q]?) → va_S A0 H0 H1 locs1 → H1[q9]? = some ce → ce.vm = .none → s.vm.findClass E = some ce.cls → vx_W p l e R s m args below meth c H1 locs1 (cells + mc) (slots + ms) Q (F0 m pc ls rest) q9)
    (kk : ∀ (u : S) (t : State) (H1 : Heap) (locs1 : List Loc), t.heap = H1 → s.vm.Alike t.vm → post u → B u t → H.size ≤ H1.size → (∀ q : Nat, q < H.size → ¬ A1 q → H1[q]? = H[q]?) → va_S A0 H0 H1 locs1 → W p l e R s m args below meth c H1 locs1 (cells + mc) (slots + ms) Q (F0 m (pc + 3) ls (rest))) : W p l e R s m args below meth c H locs cells slots Q (F0 m pc ls st0) := by
  intro T hT X
  rcases hr T hT X with ⟨v, st₀, t, T', L, h0, X', hL, e1, e2, ⟨⟨u, hv, hp, hb⟩, hF⟩, st⟩ | ⟨q, st₀, t, T', L, E, ce, h0, X', hL, e1, e2, ⟨u, hp, hb, hF⟩, hce, hcv, hcl, st⟩
  · cases hv
    obtain ⟨k1, k2, k3⟩ := vx_keep h0 e1 hS hA hf hL hF
    obtain ⟨t2, a1, b1⟩ := kk u t T'.heap (locs ++ L) e1.symm (by rw [← e2]; exact X'.warmed.alike) hp hb k1 k2 k3 T' rfl X'
    exact ⟨t2, st t2 a1, b1⟩
  · obtain ⟨k1, k2, k3⟩ := vx_keep h0 e1 hS hAX hf hL hF
    obtain ⟨t2, a1, b1⟩ := kx E ce q u t T'.heap (locs ++ L) e1.symm (by rw [← e2]; exact X'.warmed.alike) hp hb k1 k2 k3 (by rw [e1]; exact hce) hcv hcl T' rfl X'
    exact ⟨t2, st.trans a1, b1⟩
/-- caught by the row x of this method's table; the rows ahead don't take it -/
theorem vx_catch {own name : String} {E : String} {ce : Cell} {q : Addr} (hown : s.vm.findClass own = some m.cls) (pre : List ExceptionTableEntry) (x : ExceptionTableEntry) (suf : List ExceptionTableEntry) (hsplit : c.exceptionTable.toList = pre ++ x :: suf)
    (hpass : ∀ z ∈ pre, covers z pc = false ∨ (z.catchType ≠ 0 ∧ ∃ nm : String, (Cond.classLink own z.catchType nm).before args s = true ∧ va_Nc E nm s)) (hx : covers x pc = true) (h0 : x.catchType ≠ 0)
    (hlink : (Cond.classLink own x.catchType name).before args s = true) (hcast : (Cond.castable E name).before args s = true) (hcell : H[q]? = some ce) (hv : ce.vm = .none) (hcl : s.vm.findClass E = some ce.cls)
    (kk : W p l e R s m args below meth c H locs cells slots Q (F0 m x.handlerPc ls [.ref q])) : vx_W p l e R s m args below meth c H locs cells slots Q (F0 m pc ls rest) q := by
  intro T hT X
  have hpl : e.platform.magicAccessors = ({} : Platform).magicAccessors := by rw [X.admits.platform]
  obtain ⟨c3, c4, hc3, hc4, hasg⟩ := Cond.castable_spec hcast
  cases Option.some.inj (hc3.symm.trans hcl)
  obtain ⟨c5, hc5, hcl5⟩ := Cond.classLink_spec hown hlink e.platform hpl
  cases Option.some.inj (hc4.symm.trans hc5)
  obtain ⟨vm', X', st⟩ := X.thenCaughtThrough q (g := F0 m pc ls rest) rfl (Steps.refl _) (by rw [hT]; exact hcell) (by rw [hv]; rfl) (by obtain ⟨k9, h9, -⟩ := Vm.findClass_spec hcl; exact ⟨k9, h9⟩) pre x suf hsplit
    (fun z hz => by
      rcases hpass z hz with h | ⟨hz0, nm, hl1, hn1⟩
      · exact Or.inl h
      · obtain ⟨c6, hc6, hcl6⟩ := Cond.classLink_spec hown hl1 e.platform hpl
        obtain ⟨a8, b8, h1, h2, h3⟩ := hn1
        cases Option.some.inj (h1.symm.trans hcl)
        cases Option.some.inj (h2.symm.trans hc6)
        exact Or.inr ⟨hz0, _, hcl6, h3⟩) hx (Or.inr ⟨h0, c4, hcl5, hasg⟩)
  obtain ⟨t, a1, b1⟩ := kk (T.setVm vm') hT X'
  exact ⟨t, st.trans a1, b1⟩
end Rows
section Ends
variable {p : Program} {l : Launch} {e : Env} {R : Room} {s : State} {m : MethodId} {args : Array Value} {below : List Frame} {meth : Method} {c : Code} {H : Heap} {locs : List Loc} {cells slots : Nat} {Q : State → Prop}
variable {mc ms : Nat} {free : Addr → Prop} {A0 A1 : Nat → Prop} {H0 : Heap} {a : Array Value} {ls : Array Slot} {st0 rest : List Value}
variable {Qc : Array Value → State → Outcome → State → Prop} {XC : String → State → State → Prop}
/-- what a body that may throw owes at its end -/
def vx_MQ (below : List Frame) (Qc : Array Value → State → Outcome → State → Prop) (XC : String → State → State → Prop) (a : Array Value) (s : State) (mc ms : Nat) (free : Addr → Prop) : State → Prop := fun t =>
  ∃ o, t.status = .running ∧ Ended t below o ∧ vx_Q Qc XC mc ms free a s o t
theorem vx_ret {g : JFrame} {mc ms : Nat} (k : W p l e R s m args below meth c H locs cells slots (MQ below Qc args s mc ms free) g) : W p l e R s m args below meth c H locs cells slots (vx_MQ below Qc XC args s mc ms free) g := by
  intro T hT X
  obtain ⟨t, a1, o, b1, b2, b3, b4⟩ := k T hT X
  exact ⟨t, a1, o, b1, b2, Or.inl ⟨b3, b4⟩⟩
/-- not caught here: it goes on to the caller -/
theorem vx_widen {g : JFrame} {q : Addr} {k n : Nat} (h1 : cells ≤ k) (h2 : slots ≤ n) (kk : vx_W p l e R s m args below meth c H locs k n Q g q) : vx_W p l e R s m args below meth c H locs cells slots Q g q := fun T hT X => kk T hT (stand_widen X h1 h2)
theorem vx_out {pc : Nat} {E : String} {ce : Cell} {q : Addr} {mc ms : Nat} (hout : ∀ x ∈ c.exceptionTable.toList, covers x pc = false) (hlocks : meth.locks = false) (hcell : H[q]? = some ce) (hv : ce.vm = .none) (hcl : s.vm.findClass E = some ce.cls)
    (hx : ∀ t : State, t.heap = H → s.vm.Alike t.vm → XC E s t) (hf : ∀ z ∈ locs, free z.base) (hc : cells ≤ mc) (hs : slots ≤ ms) :
    vx_W p l e R s m args below meth c H locs cells slots (vx_MQ below Qc XC args s mc ms free) (F0 m pc ls rest) q := by
  intro T hT X
  obtain ⟨st1, hrun, hend, hW, hsm⟩ := X.leaveThrown q (g := F0 m pc ls rest) rfl rfl rfl hout hlocks
  have hcell9 : (T.setFrames (.throwing q :: below)).heap[q]? = some ce := by
    show T.heap[q]? = some ce
    rw [hT]; exact hcell
  exact ⟨_, st1, .threw q, hrun, hend, Or.inr ⟨q, rfl, E, ce, locs, hx _ hT hW.alike, hcell9, hv, hcl, hW, hsm.mono hc hs, hf⟩⟩
theorem vx_frame {U : State} {k n : Nat} (h : s.sameButNew ({ U with vm := s.vm } : State) locs k n) : s.heap.size ≤ U.heap.size ∧ ∀ q : Nat, q < s.heap.size → (∀ z ∈ locs, z.base ≠ q) → U.heap[q]? = s.heap[q]? := by
  obtain ⟨-, h2, -, -, -, h6⟩ := h
  refine ⟨h2, fun q hq hz => ?_⟩
  obtain ⟨c9, e1, e2, e3, e4⟩ := h6 q _ (Array.getElem?_eq_getElem hq)
  have hs : c9.slots = (s.heap[q]).slots := Array.ext_getElem? fun i => e4 i fun hm => hz _ hm rfl
  have h9 : c9 = s.heap[q] := by
    rw [hs] at e2
    exact e2
  have e5 : U.heap[q]? = some c9 := e1
  rw [e5, h9, Array.getElem?_eq_getElem hq]
/-- the words of a throw but the four that speak of the heap -/
def vx_no (w : Cond) : Bool := decide (w ≠ .isRef (.static Bundle.tN "UNASSIGNED_STACK" Bundle.steD)) && decide (w ≠ .isRef (.static Bundle.tN "SUPPRESSED_SENTINEL" Bundle.listD)) && decide (w ≠ .laysStatic Bundle.tN "UNASSIGNED_STACK" Bundle.steD) && decide (w ≠ .laysStatic Bundle.tN "SUPPRESSED_SENTINEL" Bundle.listD)
def vx_at0 (own : String) (ic : Nat) (X : String) (names : List String) : List Cond := (Bundle.ownAtoms0 own ic X names).filter vx_no
def vx_atS (own : String) (ic : Nat) (X : String) (names : List String) : List Cond := (Bundle.ownAtoms own ic X names).filter vx_no
/-- a word that the tables alone decide, or a good one -/
def vx_ot (w : Cond) : Bool := w.onTables || goodWord w
theorem vx_ot_at {args a' : Array Value} {s U : State} {w : Cond} (hW : s.WarmedH U.vm) (hvm : s.vm = U.vm) (hg : vx_ot w = true) (h : w.before args s = true) : w.before a' U = true := by
  simp only [vx_ot, Bool.or_eq_true] at hg
  rcases hg with hg | hg
  · exact va_tabs hg hvm h
  · exact word_at hW (good_of_word hg) h
/-- a list's words: the good ones out of the method's own list, the others by premises of their own -/
theorem vx_hat {args : Array Value} {s : State} {L B : List Cond} (h1 : ∀ w ∈ L.filter goodWord, w.before args s = true) (h2 : ∀ w ∈ L.filter (fun w => !goodWord w), w ∈ B) (h3 : ∀ w ∈ B, w.before args s = true) : ∀ w ∈ L, w.before args s = true := by
  intro w hw
  by_cases g : goodWord w = true
  · exact h1 w (List.mem_filter.mpr ⟨hw, g⟩)
  · refine h3 w (h2 w (List.mem_filter.mpr ⟨hw, ?_⟩))
    show (!goodWord w) = true
    cases hgw : goodWord w
    · rfl
    · exact absurd hgw g
theorem vx_c {args : Array Value} {s : State} {w : Cond} {B : List Cond} (h : w.before args s = true) (t : ∀ w ∈ B, w.before args s = true) : ∀ w' ∈ w :: B, w'.before args s = true := fun w' h' => (List.mem_cons.mp h').elim (fun e => by rw [e]; exact h) (t w')
theorem vx_n {args : Array Value} {s : State} : ∀ w ∈ ([] : List Cond), w.before args s = true := fun _ h => nomatch h
theorem vx_own {args : Array Value} {s : State} {L : List Cond} (h1 : ∀ w ∈ L.filter vx_no, w.before args s = true)
    (hU : (Cond.isRef (.static Bundle.tN "UNASSIGNED_STACK" Bundle.steD)).before args s = true) (hN : (Cond.isRef (.static Bundle.tN "SUPPRESSED_SENTINEL" Bundle.listD)).before args s = true)
    (lU : (Cond.laysStatic Bundle.tN "UNASSIGNED_STACK" Bundle.steD).before args s = true) (lN : (Cond.laysStatic Bundle.tN "SUPPRESSED_SENTINEL" Bundle.listD).before args s = true) : ∀ w ∈ L, w.before args s = true := by
  intro w hw
  by_cases e1 : w = .isRef (.static Bundle.tN "UNASSIGNED_STACK" Bundle.steD)
  · rw [e1]; exact hU
  · by_cases e2 : w = .isRef (.static Bundle.tN "SUPPRESSED_SENTINEL" Bundle.listD)
    · rw [e2]; exact hN
    · by_cases e3 : w = .laysStatic Bundle.tN "UNASSIGNED_STACK" Bundle.steD
      · rw [e3]; exact lU
      · by_cases e4 : w = .laysStatic Bundle.tN "SUPPRESSED_SENTINEL" Bundle.listD
        · rw [e4]; exact lN
        · exact h1 w (List.mem_filter.mpr ⟨hw, by unfold vx_no; rw [decide_eq_true e1, decide_eq_true e2, decide_eq_true e3, decide_eq_true e4]; rfl⟩)
/-- where a static field lies, its class's statics cell in H -/
def vx_L (C n d : String) (A : Nat → Prop) (U : State) (H : Heap) : Prop := ∃ (c : ClassId) (k : Class) (i : Nat) (f : Field) (a : Nat) (cell : Cell), U.vm.findClass C = some c ∧ U.fieldFound? C n d = some (c, k, i, f) ∧ f.isStatic = true ∧ k.statics = some a ∧ H[a]? = some cell ∧ cell.vm.isStatics = true ∧ cell.cls = c ∧ f.slot < cell.slots.size ∧ k.staticTypes[f.slot]? = some f.type ∧ ¬ A a
theorem vx_L.moved {C n d : String} {A : Nat → Prop} {u U : State} {H : Heap} (hvm : u.vm.Alike U.vm) (h : vx_L C n d A u H) : vx_L C n d A U H := by
  obtain ⟨c, k, i, f, a, cell, h1, h2, h3, h4, h5, h6, h7, h8, h9, h10⟩ := h
  obtain ⟨k', hi', he⟩ := State.fieldFound?_setVm hvm h2
  exact ⟨c, k', i, f, a, cell, by rw [hvm.findClass]; exact h1, hi', h3, by rw [he]; exact h4, h5, h6, h7, h8, by rw [he]; exact h9, h10⟩
theorem vx_L.kept {C n d : String} {A : Nat → Prop} {U : State} {H H1 : Heap} (h : vx_L C n d A U H) (hq : ∀ a : Nat, a < H.size → ¬ A a → H1[a]? = H[a]?) : vx_L C n d A U H1 := by
  obtain ⟨c, k, i, f, a, cell, h1, h2, h3, h4, h5, h6, h7, h8, h9, h10⟩ := h
  exact ⟨c, k, i, f, a, cell, h1, h2, h3, h4, by rw [hq a (Array.getElem?_eq_some_iff.mp h5).1 h10]; exact h5, h6, h7, h8, h9, h10⟩
theorem vx_L.narrow {C n d : String} {A B : Nat → Prop} {U : State} {H : Heap} (h : vx_L C n d A U H) (hAB : ∀ q, B q → A q) : vx_L C n d B U H := by
  obtain ⟨c, k, i, f, a, cell, h1, h2, h3, h4, h5, h6, h7, h8, h9, h10⟩ := h
  exact ⟨c, k, i, f, a, cell, h1, h2, h3, h4, h5, h6, h7, h8, h9, fun z => h10 (hAB _ z)⟩
theorem vx_L.word {C n d : String} {A : Nat → Prop} {s : State} {args : Array Value} (h : vx_L C n d A s s.heap) : (Cond.laysStatic C n d).before args s = true := by
  obtain ⟨c, k, i, f, a, cell, h1, h2, h3, h4, h5, h6, h7, h8, h9, -⟩ := h
  show (Cond.laysStatic C n d).holds args s none s [] = true
  exact Cond.laysStatic_of h1 h2 h3 h4 h5 h6 h7 h8 h9
/-- .. and what it holds: null or some reference -/
def vx_Zq (C n d : String) (A : Nat → Prop) (U : State) (H : Heap) : Prop := va_Zq C n d A U H ∧ vx_L C n d A U H
theorem vx_Zq.moved {C n d : String} {A : Nat → Prop} {u U : State} {H : Heap} (hvm : u.vm.Alike U.vm) (h : vx_Zq C n d A u H) : vx_Zq C n d A U H := ⟨va_Zq.moved hvm h.1, vx_L.moved hvm h.2⟩
theorem vx_Zq.kept {C n d : String} {A : Nat → Prop} {U : State} {H H1 : Heap} (h : vx_Zq C n d A U H) (hq : ∀ a : Nat, a < H.size → ¬ A a → H1[a]? = H[a]?) : vx_Zq C n d A U H1 := ⟨va_Zq.kept h.1 hq, vx_L.kept h.2 hq⟩
theorem vx_Zq.narrow {C n d : String} {A B : Nat → Prop} {U : State} {H : Heap} (h : vx_Zq C n d A U H) (hAB : ∀ q, B q → A q) : vx_Zq C n d B U H := ⟨va_Zq.narrow h.1 hAB, vx_L.narrow h.2 hAB⟩
theorem vx_Zqof {args : Array Value} {s : State} {C n d : String} {A : Nat → Prop} (hl : (Cond.laysStatic C n d).before args s = true) (hini : (Cond.initialized C).before args s = true) (h : (Cond.isRef (.static C n d)).before args s = true) (hA : ∀ a : Nat, a < s.heap.size → ¬ A a) : vx_Zq C n d A s s.heap := by
  refine ⟨va_Zqof hl hini h hA, ?_⟩
  obtain ⟨c, k, i, f, a, cell, h1, h2, h3, h4, h5, h6, h7, h8, h9⟩ := Cond.laysStatic_spec hl
  exact ⟨c, k, i, f, a, cell, h1, h2, h3, h4, h5, h6, h7, h8, h9, hA a (Array.getElem?_eq_some_iff.mp h5).1⟩
theorem vx_isRef {C n d : String} {v : Value} {A : Nat → Prop} {s : State} {args : Array Value} (h : va_Z C n d v A s s.heap) (hv : v.isRef = true) : (Cond.isRef (.static C n d)).before args s = true := by
  obtain ⟨cf, kf, fi, f, a, cell, h1, h2, h3, h4, h5, h6, h7, -⟩ := h
  have he : (Term.static C n d).eval args s none [] s = some v := by
    simp [Term.eval, State.fieldNamed?, h1, h2, h4, h5, h6, h7]
  simp only [Cond.before, Cond.holds, Cond.value, he]
  cases v <;> simp_all [Value.isRef]
theorem vx_isRefq {C n d : String} {A : Nat → Prop} {s : State} {args : Array Value} (h : va_Zq C n d A s s.heap) : (Cond.isRef (.static C n d)).before args s = true := by
  rcases h with h | ⟨t, h⟩
  · exact vx_isRef h rfl
  · exact vx_isRef h rfl
/-- the same frame, seen from here: as if the method were called anew in this heap -/
theorem vx_rebase {T : State} (X : Stand p l e R s m args below meth c T locs cells slots) {R' : Room} (hf : R'.frames ≤ R.frames) (hl : R'.locals ≤ R.locals) (hc : cells + R'.cells ≤ R.cells) (hs : slots + R'.slots ≤ R.slots) :
    Stand p l e R' ((T.setVm s.vm).setFrames (.invoking m args :: below)) m args below meth c T [] 0 0 := by
  have htop : (T.setVm s.vm).topJava?.isSome := X.here.top
  have hF : ((T.setVm s.vm).setFrames (.invoking m args :: below)).frames = .invoking m args :: below := State.frames_setFrames _ (State.cur_lt_of_top htop)
  obtain ⟨g₀, hg0⟩ := Option.isSome_iff_exists.mp htop
  obtain ⟨r, hr⟩ := State.topJava?_eq_some.mp hg0
  have hl9 : e.platform.stackLimits (T.setVm s.vm).me = e.platform.stackLimits s.me := X.limits
  have hb9 : (T.setVm s.vm).me.stackBytes = s.me.stackBytes := X.bytes
  refine ⟨X.admits, X.cas, X.clock, hF, ?_, X.hears, X.method, X.code, X.here, X.tail, X.warmed, ?_, ?_, ?_⟩
  · have h := X.room
    have hU : ((T.setVm s.vm).setFrames (.invoking m args :: below)).localsInUse = s.localsInUse := by
      rw [State.localsInUse_invoking hF (meth := meth) (c := c) X.method X.code, State.localsInUse_invoking X.frames X.method X.code]
    simp only [State.hasRoom, Bool.and_eq_true, decide_eq_true_eq] at h ⊢
    obtain ⟨⟨⟨⟨h1, h2, h3, h4, h5, h6⟩, h7⟩, h8⟩, h9⟩ := h
    rw [X.frames, List.length_cons] at h2 h3
    have q1 := X.heapSize
    have q2 := X.used
    simp only [hF, hU, List.length_cons, State.stackLimits_setFrames, State.stackBytes_setFrames, hl9, hb9]
    refine ⟨⟨⟨⟨by omega, by omega, by omega, by omega, by omega, h6⟩, ?_⟩, ?_⟩, X.book⟩
    · show T.heap.size + R'.cells ≤ e.platform.maxCells
      omega
    · show T.slotsUsed + R'.slots ≤ e.platform.maxSlots
      omega
  · rw [State.stackLimits_setFrames]; rfl
  · rw [State.stackBytes_setFrames]; rfl
  · refine ⟨?_, Nat.le_refl _, Nat.le_refl _, ?_, ?_, fun a c9 h9 => ⟨c9, h9, rfl, rfl, fun _ _ => rfl⟩⟩
    · obtain ⟨t, ht, -⟩ := State.frames_cons hr
      show T.setVm s.vm = { ((T.setVm s.vm).setFrames (.invoking m args :: below)).setFrames (T.setVm s.vm).frames with heap := T.heap, slotsUsed := T.slotsUsed }
      rw [State.setFrames_setFrames, State.setFrames_self ht]
      rfl
    · show T.slotsUsed = T.slotsUsed + ((T.heap.toList.drop T.heap.size).map (·.slots.size)).sum
      rw [List.drop_eq_nil_of_le (Nat.le_of_eq Array.length_toList)]
      rfl
    · show ((T.heap.toList.drop T.heap.size).map (·.slots.size)).sum ≤ 0
      rw [List.drop_eq_nil_of_le (Nat.le_of_eq Array.length_toList)]
      exact Nat.le_refl _
/-- 'throw new E()': new; dup; invokespecial; athrow -/
theorem vx_throw0 {cc : ByteArray} {pc : Nat} (hexec : p.tables.exec = Jvm.exec) (hb : c.code = cc) (hl : l.stackTraces = false) {own cls : String} {names : List String} {ik ic mc ms : Nat} {A : Nat → Prop}
    (hown : s.vm.findClass own = some m.cls) (hcls : Bundle.fit cls = true) (hnames : ∀ n ∈ names, Bundle.fit n = true)
    (hk : (Cond.classLink own ik cls).before args s = true) (hini : (Cond.initialized cls).before args s = true) (hat : ∀ w ∈ vx_at0 own ic cls names, w.before args s = true)
    (hgood : ∀ w ∈ Cond.classLink own ik cls :: Cond.initialized cls :: vx_at0 own ic cls names, vx_ot w = true)
    (hU : vx_Zq Bundle.tN "UNASSIGNED_STACK" Bundle.steD A s s.heap) (hN : vx_Zq Bundle.tN "SUPPRESSED_SENTINEL" Bundle.listD A s s.heap) (hS : va_S A s.heap H locs) (hsize : ls.size = c.maxLocals)
    (d0 : decode cc pc = .ok (.new ik, 3)) (d3 : decode cc (pc + 3) = .ok (.dup, 1)) (d4 : decode cc (pc + 4) = .ok (.invokespecial ic, 3)) (d7 : decode cc (pc + 7) = .ok (.athrow, 1))
    (hout : ∀ x ∈ c.exceptionTable.toList, covers x (pc + 7) = false)
    (hRframes : names.length + 3 < R.frames) (hRlocals : (rest.map fun v => v.category).sum + (13 * (names.length + 1) + 42) ≤ R.locals) (hRcells : cells + 1 ≤ R.cells) (hRslots : slots + 6 ≤ R.slots) (hlocks : meth.locks = false)
    (hx : ∀ t : State, s.vm.Alike t.vm → H.size ≤ t.heap.size → (∀ q : Nat, q < H.size → t.heap[q]? = H[q]?) → XC cls s t)
    (hf : ∀ z ∈ locs, free z.base) (hc : cells + 1 ≤ mc) (hs : slots + 6 ≤ ms) :
    W p l e R s m args below meth c H locs cells slots (vx_MQ below Qc XC args s mc ms free) (F0 m pc ls rest) := by
  intro T hT X
  have htr : e.platform.stackTraces = false := (show e.platform.stackTraces = l.stackTraces by rw [X.admits.platform]).trans hl
  have Y := vx_rebase X (R' := { frames := R.frames, locals := R.locals, cells := 1, slots := 6 }) (Nat.le_refl _) (Nat.le_refl _) hRcells hRslots
  obtain ⟨s', hA⟩ : ∃ z, z = (T.setVm s.vm).setFrames (.invoking m args :: below) := ⟨_, rfl⟩
  rw [← hA] at Y
  have hvm : s'.vm = s.vm := by rw [hA]; rfl
  have hhp : s'.heap = H := by rw [hA]; exact hT
  have hW0 : s.WarmedH s'.vm := by rw [hvm]; exact State.WarmedH.refl s
  have hat' : ∀ w ∈ vx_at0 own ic cls names, w.before args s' = true := fun w hw => vx_ot_at hW0 hvm.symm (hgood w (List.mem_cons_of_mem _ (List.mem_cons_of_mem _ hw))) (hat w hw)
  have hk' : (Cond.classLink own ik cls).before args s' = true := vx_ot_at hW0 hvm.symm (hgood _ List.mem_cons_self) hk
  have hini' : (Cond.initialized cls).before args s' = true := vx_ot_at hW0 hvm.symm (hgood _ (List.mem_cons_of_mem _ List.mem_cons_self)) hini
  have hU' : vx_Zq Bundle.tN "UNASSIGNED_STACK" Bundle.steD A s' s'.heap := by rw [hhp]; exact vx_Zq.moved hW0.alike (hU.kept hS.2.1)
  have hN' : vx_Zq Bundle.tN "SUPPRESSED_SENTINEL" Bundle.listD A s' s'.heap := by rw [hhp]; exact vx_Zq.moved hW0.alike (hN.kept hS.2.1)
  have h : ∀ w ∈ Bundle.ownAtoms0 own ic cls names, w.before args s' = true := vx_own hat' (vx_isRefq hU'.1) (vx_isRefq hN'.1) hU'.2.word hN'.2.word
  have hown' : s'.vm.findClass own = some m.cls := by rw [hvm]; exact hown
  have hins : (Cond.instantiable cls 6).before args s' = true := h _ (by simp [Bundle.ownAtoms0])
  obtain ⟨vm₁, cX, kX, hfX, hkX, -, -, X₁, st1⟩ := Y.newCold hexec (own := own) (C := cls) (index := ik) (n := 6) hown' hk' hins hini'
    (g := F0 m pc ls rest) rfl (by rw [hb]; exact d0) (Nat.le_refl _) (Nat.le_refl _)
  generalize hT1 : (T.setVm vm₁).pushCell { cls := cX, slots := kX.instanceTypes.map defaultValue, vm := .none } = T1 at X₁ st1
  have hcat : (Value.ref T.heap.size).category = 1 := rfl
  have hcellA : T1.heap[T.heap.size]? = some (freshCell cX kX) := by rw [← hT1]; exact State.heap_pushCell_size _ _
  have d3' : decode c.code (pc + 3) = .ok (.dup, 1) := by rw [hb]; exact d3
  obtain ⟨U, hsteps, hrun, hend, hW, hsame, ce, hce, hO⟩ := X₁.ctorThrow0 hexec htr (own := own) (cls := cls) (names := names) (ic := ic) hown' hcls hnames h (fun x hx => nomatch hx) hfX hkX hcellA (by rw [hhp, hT]; exact Nat.le_refl _)
    (g := { method := m, pc := pc + 4, locals := ls, stack := .ref T.heap.size :: .ref T.heap.size :: rest, locked := none }) rfl hsize rfl rfl (rest := rest) rfl
    (by rw [hb]; exact d4) (by rw [hb]; exact d7) hout hRframes (by simp only [List.map_cons, List.sum_cons, hcat]; omega) hlocks
  obtain ⟨f1, f2⟩ := vx_frame hsame
  rw [hhp] at f1 f2
  have hWs : s.WarmedH U.vm := State.WarmedH.trans hW0 hW
  have hcl : s.vm.findClass cls = some ce.cls := by
    have h9 := hO.cls
    rw [hvm] at h9
    exact h9
  have hall : s.sameButNew ({ U with vm := s.vm } : State) locs mc ms := by
    subst hA
    obtain ⟨e1, e2⟩ := hsame
    rw [State.setFrames_setFrames] at e1
    have h2 : (T.setVm s.vm).sameButNew ({ U with vm := s.vm } : State) [] (0 + 1) (0 + 6) := ⟨e1, e2⟩
    have h3 := X.same.trans h2
    rw [List.append_nil] at h3
    exact h3.mono hc hs
  refine ⟨U, ?_, .threw T.heap.size, hrun, hend, Or.inr ⟨T.heap.size, rfl, cls, ce, locs, hx U hWs.alike f1 (fun q hq => f2 q hq (fun z hz => nomatch hz)), hce, hO.vm, hcl, hWs, hall, hf⟩⟩
  refine st1 _ ?_
  show Steps p.tables e below (T1.setTop { method := m, pc := pc + 3, locals := ls, stack := .ref T.heap.size :: rest, locked := none }) _
  jvm_step X₁.here [X₁.here.top, hexec, d3', Value.category]
  exact hsteps
/-- 'throw new E("text")': new; dup; ldc; invokespecial; athrow -/
theorem vx_throwS {cc : ByteArray} {pc : Nat} (hexec : p.tables.exec = Jvm.exec) (hb : c.code = cc) (hl : l.stackTraces = false) {own cls text : String} {names : List String} {ik is ic mc ms sa : Nat} {A : Nat → Prop}
    (hown : s.vm.findClass own = some m.cls) (hcls : Bundle.fit cls = true) (hnames : ∀ n ∈ names, Bundle.fit n = true)
    (hk : (Cond.classLink own ik cls).before args s = true) (hini : (Cond.initialized cls).before args s = true) (hstr : vk_R own is text sa s) (hat : ∀ w ∈ vx_atS own ic cls names, w.before args s = true)
    (hgood : ∀ w ∈ Cond.classLink own ik cls :: Cond.initialized cls :: vx_atS own ic cls names, vx_ot w = true)
    (hU : vx_Zq Bundle.tN "UNASSIGNED_STACK" Bundle.steD A s s.heap) (hN : vx_Zq Bundle.tN "SUPPRESSED_SENTINEL" Bundle.listD A s s.heap) (hS : va_S A s.heap H locs) (hsize : ls.size = c.maxLocals)
    (d0 : decode cc pc = .ok (.new ik, 3)) (d3 : decode cc (pc + 3) = .ok (.dup, 1)) (d4 : decode cc (pc + 4) = .ok (.ldc is, 2)) (d6 : decode cc (pc + 6) = .ok (.invokespecial ic, 3)) (d9 : decode cc (pc + 9) = .ok (.athrow, 1))
    (hout : ∀ x ∈ c.exceptionTable.toList, covers x (pc + 9) = false)
    (hRframes : names.length + 3 < R.frames) (hRlocals : (rest.map fun v => v.category).sum + (13 * (names.length + 1) + 43) ≤ R.locals) (hRcells : cells + 1 ≤ R.cells) (hRslots : slots + 6 ≤ R.slots) (hlocks : meth.locks = false)
    (hx : ∀ t : State, s.vm.Alike t.vm → H.size ≤ t.heap.size → (∀ q : Nat, q < H.size → t.heap[q]? = H[q]?) → XC cls s t)
    (hf : ∀ z ∈ locs, free z.base) (hc : cells + 1 ≤ mc) (hs : slots + 6 ≤ ms) :
    W p l e R s m args below meth c H locs cells slots (vx_MQ below Qc XC args s mc ms free) (F0 m pc ls rest) := by
  intro T hT X
  have htr : e.platform.stackTraces = false := (show e.platform.stackTraces = l.stackTraces by rw [X.admits.platform]).trans hl
  have Y := vx_rebase X (R' := { frames := R.frames, locals := R.locals, cells := 1, slots := 6 }) (Nat.le_refl _) (Nat.le_refl _) hRcells hRslots
  obtain ⟨s', hA⟩ : ∃ z, z = (T.setVm s.vm).setFrames (.invoking m args :: below) := ⟨_, rfl⟩
  rw [← hA] at Y
  have hvm : s'.vm = s.vm := by rw [hA]; rfl
  have hhp : s'.heap = H := by rw [hA]; exact hT
  have hW0 : s.WarmedH s'.vm := by rw [hvm]; exact State.WarmedH.refl s
  have hat' : ∀ w ∈ vx_atS own ic cls names, w.before args s' = true := fun w hw => vx_ot_at hW0 hvm.symm (hgood w (List.mem_cons_of_mem _ (List.mem_cons_of_mem _ hw))) (hat w hw)
  have hk' : (Cond.classLink own ik cls).before args s' = true := vx_ot_at hW0 hvm.symm (hgood _ List.mem_cons_self) hk
  have hini' : (Cond.initialized cls).before args s' = true := vx_ot_at hW0 hvm.symm (hgood _ (List.mem_cons_of_mem _ List.mem_cons_self)) hini
  have hU' : vx_Zq Bundle.tN "UNASSIGNED_STACK" Bundle.steD A s' s'.heap := by rw [hhp]; exact vx_Zq.moved hW0.alike (hU.kept hS.2.1)
  have hN' : vx_Zq Bundle.tN "SUPPRESSED_SENTINEL" Bundle.listD A s' s'.heap := by rw [hhp]; exact vx_Zq.moved hW0.alike (hN.kept hS.2.1)
  have h : ∀ w ∈ Bundle.ownAtoms own ic cls names, w.before args s' = true := vx_own hat' (vx_isRefq hU'.1) (vx_isRefq hN'.1) hU'.2.word hN'.2.word
  have hown' : s'.vm.findClass own = some m.cls := by rw [hvm]; exact hown
  have hins : (Cond.instantiable cls 6).before args s' = true := h _ (by simp [Bundle.ownAtoms])
  obtain ⟨vm₁, cX, kX, hfX, hkX, -, -, X₁, st1⟩ := Y.newCold hexec (own := own) (C := cls) (index := ik) (n := 6) hown' hk' hins hini'
    (g := F0 m pc ls rest) rfl (by rw [hb]; exact d0) (Nat.le_refl _) (Nat.le_refl _)
  generalize hT1 : (T.setVm vm₁).pushCell { cls := cX, slots := kX.instanceTypes.map defaultValue, vm := .none } = T1 at X₁ st1
  have hcat : (Value.ref T.heap.size).category = 1 := rfl
  have hcellA : T1.heap[T.heap.size]? = some (freshCell cX kX) := by rw [← hT1]; exact State.heap_pushCell_size _ _
  have d3' : decode c.code (pc + 3) = .ok (.dup, 1) := by rw [hb]; exact d3
  have d4' : decode c.code (pc + 4) = .ok (.ldc is, 2) := by rw [hb]; exact d4
  have hstr' : vk_R own is text sa s' := vk_R.warm hW0 hstr
  obtain ⟨U, hsteps, hrun, hend, hW, hsame, ce, hce, hO⟩ := X₁.ctorThrowS hexec htr (own := own) (cls := cls) (names := names) (ic := ic) hown' hcls hnames h (fun x hx => nomatch hx) hfX hkX hcellA (by rw [hhp, hT]; exact Nat.le_refl _) (msg := .ref sa) rfl
    (g := { method := m, pc := pc + 6, locals := ls, stack := .ref sa :: .ref T.heap.size :: .ref T.heap.size :: rest, locked := none }) rfl hsize rfl rfl (rest := rest) rfl
    (by rw [hb]; exact d6) (by rw [hb]; exact d9) hout hRframes (by simp only [List.map_cons, List.sum_cons, hcat]; omega) hlocks
  obtain ⟨f1, f2⟩ := vx_frame hsame
  rw [hhp] at f1 f2
  have hWs : s.WarmedH U.vm := State.WarmedH.trans hW0 hW
  have hcl : s.vm.findClass cls = some ce.cls := by
    have h9 := hO.cls
    rw [hvm] at h9
    exact h9
  have hall : s.sameButNew ({ U with vm := s.vm } : State) locs mc ms := by
    subst hA
    obtain ⟨e1, e2⟩ := hsame
    rw [State.setFrames_setFrames] at e1
    have h2 : (T.setVm s.vm).sameButNew ({ U with vm := s.vm } : State) [] (0 + 1) (0 + 6) := ⟨e1, e2⟩
    have h3 := X.same.trans h2
    rw [List.append_nil] at h3
    exact h3.mono hc hs
  refine ⟨U, ?_, .threw T.heap.size, hrun, hend, Or.inr ⟨T.heap.size, rfl, cls, ce, locs, hx U hWs.alike f1 (fun q hq => f2 q hq (fun z hz => nomatch hz)), hce, hO.vm, hcl, hWs, hall, hf⟩⟩
  refine st1 _ ?_
  show Steps p.tables e below (T1.setTop { method := m, pc := pc + 3, locals := ls, stack := .ref T.heap.size :: rest, locked := none }) _
  jvm_step X₁.here [X₁.here.top, hexec, d3', Value.category]
  exact X₁.ldcString hexec (own := own) (text := text) (index := is) (a := sa) hown' hstr'.1 hstr'.2
    (g := { method := m, pc := pc + 4, locals := ls, stack := .ref T.heap.size :: .ref T.heap.size :: rest, locked := none }) rfl d4' _ hsteps
/-- 'throw new E("text")', the text by a wide index -/
theorem vx_throwSW {cc : ByteArray} {pc : Nat} (hexec : p.tables.exec = Jvm.exec) (hb : c.code = cc) (hl : l.stackTraces = false) {own cls text : String} {names : List String} {ik is ic mc ms sa : Nat} {A : Nat → Prop}
    (hown : s.vm.findClass own = some m.cls) (hcls : Bundle.fit cls = true) (hnames : ∀ n ∈ names, Bundle.fit n = true)
    (hk : (Cond.classLink own ik cls).before args s = true) (hini : (Cond.initialized cls).before args s = true) (hstr : vk_R own is text sa s) (hat : ∀ w ∈ vx_atS own ic cls names, w.before args s = true)
    (hgood : ∀ w ∈ Cond.classLink own ik cls :: Cond.initialized cls :: vx_atS own ic cls names, vx_ot w = true)
    (hU : vx_Zq Bundle.tN "UNASSIGNED_STACK" Bundle.steD A s s.heap) (hN : vx_Zq Bundle.tN "SUPPRESSED_SENTINEL" Bundle.listD A s s.heap) (hS : va_S A s.heap H locs) (hsize : ls.size = c.maxLocals)
    (d0 : decode cc pc = .ok (.new ik, 3)) (d3 : decode cc (pc + 3) = .ok (.dup, 1)) (d4 : decode cc (pc + 4) = .ok (.ldc_w is, 3)) (d7 : decode cc (pc + 7) = .ok (.invokespecial ic, 3)) (d10 : decode cc (pc + 10) = .ok (.athrow, 1))
    (hout : ∀ x ∈ c.exceptionTable.toList, covers x (pc + 10) = false)
    (hRframes : names.length + 3 < R.frames) (hRlocals : (rest.map fun v => v.category).sum + (13 * (names.length + 1) + 43) ≤ R.locals) (hRcells : cells + 1 ≤ R.cells) (hRslots : slots + 6 ≤ R.slots) (hlocks : meth.locks = false)
    (hx : ∀ t : State, s.vm.Alike t.vm → H.size ≤ t.heap.size → (∀ q : Nat, q < H.size → t.heap[q]? = H[q]?) → XC cls s t)
    (hf : ∀ z ∈ locs, free z.base) (hc : cells + 1 ≤ mc) (hs : slots + 6 ≤ ms) :
    W p l e R s m args below meth c H locs cells slots (vx_MQ below Qc XC args s mc ms free) (F0 m pc ls rest) := by
  intro T hT X
  have htr : e.platform.stackTraces = false := (show e.platform.stackTraces = l.stackTraces by rw [X.admits.platform]).trans hl
  have Y := vx_rebase X (R' := { frames := R.frames, locals := R.locals, cells := 1, slots := 6 }) (Nat.le_refl _) (Nat.le_refl _) hRcells hRslots
  obtain ⟨s', hA⟩ : ∃ z, z = (T.setVm s.vm).setFrames (.invoking m args :: below) := ⟨_, rfl⟩
  rw [← hA] at Y
  have hvm : s'.vm = s.vm := by rw [hA]; rfl
  have hhp : s'.heap = H := by rw [hA]; exact hT
  have hW0 : s.WarmedH s'.vm := by rw [hvm]; exact State.WarmedH.refl s
  have hat' : ∀ w ∈ vx_atS own ic cls names, w.before args s' = true := fun w hw => vx_ot_at hW0 hvm.symm (hgood w (List.mem_cons_of_mem _ (List.mem_cons_of_mem _ hw))) (hat w hw)
  have hk' : (Cond.classLink own ik cls).before args s' = true := vx_ot_at hW0 hvm.symm (hgood _ List.mem_cons_self) hk
  have hini' : (Cond.initialized cls).before args s' = true := vx_ot_at hW0 hvm.symm (hgood _ (List.mem_cons_of_mem _ List.mem_cons_self)) hini
  have hU' : vx_Zq Bundle.tN "UNASSIGNED_STACK" Bundle.steD A s' s'.heap := by rw [hhp]; exact vx_Zq.moved hW0.alike (hU.kept hS.2.1)
  have hN' : vx_Zq Bundle.tN "SUPPRESSED_SENTINEL" Bundle.listD A s' s'.heap := by rw [hhp]; exact vx_Zq.moved hW0.alike (hN.kept hS.2.1)
  have h : ∀ w ∈ Bundle.ownAtoms own ic cls names, w.before args s' = true := vx_own hat' (vx_isRefq hU'.1) (vx_isRefq hN'.1) hU'.2.word hN'.2.word
  have hown' : s'.vm.findClass own = some m.cls := by rw [hvm]; exact hown
  have hins : (Cond.instantiable cls 6).before args s' = true := h _ (by simp [Bundle.ownAtoms])
  obtain ⟨vm₁, cX, kX, hfX, hkX, -, -, X₁, st1⟩ := Y.newCold hexec (own := own) (C := cls) (index := ik) (n := 6) hown' hk' hins hini'
    (g := F0 m pc ls rest) rfl (by rw [hb]; exact d0) (Nat.le_refl _) (Nat.le_refl _)
  generalize hT1 : (T.setVm vm₁).pushCell { cls := cX, slots := kX.instanceTypes.map defaultValue, vm := .none } = T1 at X₁ st1
  have hcat : (Value.ref T.heap.size).category = 1 := rfl
  have hcellA : T1.heap[T.heap.size]? = some (freshCell cX kX) := by rw [← hT1]; exact State.heap_pushCell_size _ _
  have d3' : decode c.code (pc + 3) = .ok (.dup, 1) := by rw [hb]; exact d3
  have d4' : decode c.code (pc + 4) = .ok (.ldc_w is, 3) := by rw [hb]; exact d4
  have hstr' : vk_R own is text sa s' := vk_R.warm hW0 hstr
  obtain ⟨U, hsteps, hrun, hend, hW, hsame, ce, hce, hO⟩ := X₁.ctorThrowS hexec htr (own := own) (cls := cls) (names := names) (ic := ic) hown' hcls hnames h (fun x hx => nomatch hx) hfX hkX hcellA (by rw [hhp, hT]; exact Nat.le_refl _) (msg := .ref sa) rfl
    (g := { method := m, pc := pc + 7, locals := ls, stack := .ref sa :: .ref T.heap.size :: .ref T.heap.size :: rest, locked := none }) rfl hsize rfl rfl (rest := rest) rfl
    (by rw [hb]; exact d7) (by rw [hb]; exact d10) hout hRframes (by simp only [List.map_cons, List.sum_cons, hcat]; omega) hlocks
  obtain ⟨f1, f2⟩ := vx_frame hsame
  rw [hhp] at f1 f2
  have hWs : s.WarmedH U.vm := State.WarmedH.trans hW0 hW
  have hcl : s.vm.findClass cls = some ce.cls := by
    have h9 := hO.cls
    rw [hvm] at h9
    exact h9
  have hall : s.sameButNew ({ U with vm := s.vm } : State) locs mc ms := by
    subst hA
    obtain ⟨e1, e2⟩ := hsame
    rw [State.setFrames_setFrames] at e1
    have h2 : (T.setVm s.vm).sameButNew ({ U with vm := s.vm } : State) [] (0 + 1) (0 + 6) := ⟨e1, e2⟩
    have h3 := X.same.trans h2
    rw [List.append_nil] at h3
    exact h3.mono hc hs
  refine ⟨U, ?_, .threw T.heap.size, hrun, hend, Or.inr ⟨T.heap.size, rfl, cls, ce, locs, hx U hWs.alike f1 (fun q hq => f2 q hq (fun z hz => nomatch hz)), hce, hO.vm, hcl, hWs, hall, hf⟩⟩
  refine st1 _ ?_
  show Steps p.tables e below (T1.setTop { method := m, pc := pc + 3, locals := ls, stack := .ref T.heap.size :: rest, locked := none }) _
  jvm_step X₁.here [X₁.here.top, hexec, d3', Value.category]
  exact X₁.ldcStringW hexec (own := own) (text := text) (index := is) (a := sa) hown' hstr'.1 hstr'.2
    (g := { method := m, pc := pc + 4, locals := ls, stack := .ref T.heap.size :: .ref T.heap.size :: rest, locked := none }) rfl d4' _ hsteps
end Ends
section Bodies
variable {l : Launch}
theorem vx_ofW {y : MethodName} {ws ws' : List Cond} {rm : Room} {Pc : Array Value → State → Prop} {Qc : Array Value → State → Outcome → State → Prop} {XC : String → State → State → Prop} {mc ms : Nat} {free : Addr → Prop} {cc : ByteArray} {maxL : Nat} {ret : Option FieldType}
    (hy : plainName y.cls = true) (hw : ws = Cond.code y cc maxL ret :: ws')
    (body : ∀ p e s m args below meth c s₁, BodyLoose p l y (headSpec ws rm) cc maxL ret e s m args below meth c s₁ → c.maxLocals = maxL → (∀ x ∈ c.exceptionTable.toList, False) → Pc args s →
      W p l e (headSpec ws rm).room s m args below meth c s.heap [] 0 0 (vx_MQ below Qc XC args s mc ms free) (entryFrame m args maxL)) : vx_Met l y ws rm Pc Qc XC mc ms free := by
  refine MetFree.of_bodyS (code := cc) (maxLocals := maxL) (ret := ret) hy ?_ ?_
  · intro args s m h hn
    obtain ⟨meth, c, h1, h2, h3, h4, h5, h6, -, -⟩ := Cond.code_spec hn (atoms_spec (ws := ws) h _ (by rw [hw]; exact List.mem_cons_self))
    exact ⟨meth, c, h1, h2, h3, h4, h5, h6⟩
  · intro p e s m args below meth c s₁ B hml hP _
    have hh0 : s₁.heap = s.heap := by rw [B.state]; rfl
    have ht : ∀ x ∈ c.exceptionTable.toList, False := by
      obtain ⟨meth9, c9, h1, h2, -, -, -, -, h7, -⟩ := Cond.code_spec B.named (atoms_spec (ws := ws) B.pre _ (by rw [hw]; exact List.mem_cons_self))
      cases Option.some.inj (h1.symm.trans B.method)
      cases Option.some.inj (h2.symm.trans (Stand.of_body B).code)
      intro x hx
      rw [Array.isEmpty_iff.mp h7] at hx
      cases hx
    obtain ⟨t, a1, o, b1, b2, b3⟩ := body p e s m args below meth c s₁ B hml ht hP s₁ hh0 (Stand.of_body B)
    exact ⟨t, o, a1, b1, b2, b3⟩
/-- the table of a body with handlers -/
theorem vx_table {p : Program} {x y : MethodName} {S : Spec} {cc bytes : ByteArray} {maxL maxL' : Nat} {ret ret' : Option FieldType} {e : Env} {s s₁ : State} {m : MethodId} {args : Array Value} {below : List Frame} {meth : Method} {c : Code} {hh : List (Nat × Nat × Nat × Nat)}
    (B : BodyLoose p l y S cc maxL ret e s m args below meth c s₁) (h : (Cond.codeWith y bytes maxL' ret' hh).before args s = true) : c.exceptionTable.toList = tableOf hh := by
  obtain ⟨m9, meth9, c9, hn9, h1, h2, -, -, h6, -⟩ := Cond.codeWith_spec h
  cases Option.some.inj (hn9.symm.trans B.named)
  cases Option.some.inj (h1.symm.trans B.method)
  cases Option.some.inj (h2.symm.trans (Stand.of_body B).code)
  rw [← h6, table_eq]
end Bodies
end VXA
/-! ===== END ===== -/
/-! ===== BEGIN a static call of a method with an exception table ===== -/
section VXS
variable {p : Program} {l : Launch} {e : Env} {R : Room} {s : State} {m : MethodId} {args : Array Value} {below : List Frame} {meth : Method} {c : Code} {T : State} {H : Heap} {locs : List Loc} {cells slots : Nat}
abbrev vx_CSW (R : Room) (s : State) (args : Array Value) (own : String) (index : Nat) (y : MethodName) (bytes : ByteArray) (maxL : Nat) (ret : Option FieldType) (hh : List (Nat × Nat × Nat × Nat)) (ws : List Cond) (rm : Room) (mc ms n : Nat) : Prop :=
  (rm.cells = mc ∧ rm.slots = ms ∧ rm.frames + 1 ≤ R.frames ∧ 8 + (maxL + 11) + rm.locals ≤ R.locals ∧ (∀ w ∈ ws, ∀ (a' : Array Value) (U : State), s.WarmedH U.vm → w.before a' U = true) ∧ Cond.codeWith y bytes maxL ret hh ∈ ws) ∧
  (Cond.codeWith y bytes maxL ret hh).before args s = true ∧ (Cond.initialized y.cls).before args s = true ∧ (y.cls ≠ "java/lang/invoke/MethodHandle" ∧ y.cls ≠ "java/lang/invoke/VarHandle") ∧
  (∀ sig, parseMethodDescriptor y.desc = some sig → n = sig.parameters.length) ∧ (Cond.methodLink own index y).before args s = true ∧ (Cond.static y).before args s = true
theorem vx_cwSW {own : String} {index maxL mc ms : Nat} {y : MethodName} {bytes : ByteArray} {ret : Option FieldType} {hh : List (Nat × Nat × Nat × Nat)} {Ts ws ws' : List Cond} {rm : Room} (n : Nat) (ht : ∀ w ∈ Ts, w.before args s = true) (hT : GoodIn Ts (va_wsS own index y ws)) (hw : ws = Cond.codeWith y bytes maxL ret hh :: ws') (hrc : rm.cells = mc) (hrs : rm.slots = ms)
    (hd : y.cls ≠ "java/lang/invoke/MethodHandle" ∧ y.cls ≠ "java/lang/invoke/VarHandle" ∧ (parseMethodDescriptor y.desc).map (fun d => d.parameters.length) = some n) (hR : rm.frames + 1 ≤ R.frames ∧ 8 + (maxL + 11) + rm.locals ≤ R.locals) :
    vx_CSW R s args own index y bytes maxL ret hh ws rm mc ms n := by
  have ok : ∀ w ∈ va_wsS own index y ws, w.before args s = true := fun w h => ht w (hT w h).1
  have hG : GoodIn Ts ws := fun w h => hT w (by unfold va_wsS; exact List.mem_append_right _ h)
  have hc : Cond.codeWith y bytes maxL ret hh ∈ ws := by rw [hw]; exact List.mem_cons_self
  refine ⟨⟨hrc, hrs, hR.1, hR.2, pay_in ht hG, hc⟩, ht _ (hG _ hc).1, ok _ (by simp [va_wsS]), ⟨hd.1, hd.2.1⟩, fun sig h => ?_, ok _ (by simp [va_wsS]), ok _ (by simp [va_wsS])⟩
  have h2 := hd.2.2
  rw [h] at h2
  exact (Option.some.inj h2).symm
theorem vx_callSW (X : Stand p l e R s m args below meth c T locs cells slots) (hexec : p.tables.exec = Jvm.exec) {own : String} {index : Nat} {y : MethodName} {bytes : ByteArray} {maxL : Nat} {ret : Option FieldType} {hh : List (Nat × Nat × Nat × Nat)}
    (hown : s.vm.findClass own = some m.cls) (hlink : (Cond.methodLink own index y).before args s = true) (hstat : (Cond.static y).before args s = true) (hinit : (Cond.initialized y.cls).before args s = true)
    (hcode : (Cond.codeWith y bytes maxL ret hh).before args s = true) (hy : y.cls ≠ "java/lang/invoke/MethodHandle" ∧ y.cls ≠ "java/lang/invoke/VarHandle")
    {W9 : Nat} {Pre : Pt → Array Value → Prop} {Post : Pt → Array Value → Option Value → Pt → Prop} (hK : Back l R p e below s args y 3 W9 Pre Post)
    {g : JFrame} (hg : g.method = m) (hsize : g.locals.size = c.maxLocals) {argsL rest : List Value} (hlen : ∀ sig, parseMethodDescriptor y.desc = some sig → argsL.length = sig.parameters.length)
    (hstack : g.stack = argsL.reverse ++ rest) (hW : 2 * g.monitorRoom + (rest.map fun v => v.category).sum ≤ W9) (hdg : decode c.code g.pc = .ok (.invokestatic index, 3))
    (hpre : ∀ vm₁, s.WarmedH vm₁ → Pre ⟨T.setVm vm₁, locs, cells, slots⟩ argsL.toArray) :
    ∃ (v : Option Value) (vm₁ : Vm) (B : Pt), s.WarmedH vm₁ ∧ Stand p l e R s m args below meth c B.U B.locs B.cells B.slots ∧ Post ⟨T.setVm vm₁, locs, cells, slots⟩ argsL.toArray v B ∧
      ∀ target, Steps p.tables e below (B.U.setTop { g with pc := g.pc + 3, stack := v.toList ++ rest }) target → Steps p.tables e below (T.setTop g) target := by
  obtain ⟨mk, methM, cM, hnamed, hmethM, -, -, -, -, -, -, hsigM⟩ := Cond.codeWith_spec hcode
  have hstatic : methM.isStatic = true := Cond.static_spec hnamed hmethM hstat
  obtain ⟨kP, hkP, -⟩ := className_of_methodNamed hnamed
  have hinitP : kP.init = .initialized := Cond.initialized_spec (findClass_of_methodNamed hnamed) hkP hinit
  obtain ⟨vm₁, X₁, hstep₁⟩ := X.invokestatic hexec hown hlink hnamed hmethM hstatic hkP hinitP hy (g := g) hg (argsL := argsL) (rest := rest) (hlen _ hsigM) hstack hdg
  obtain ⟨v, B, X', hpost, hsteps⟩ := hK m meth c ⟨T.setVm vm₁, locs, cells, slots⟩ { g with stack := rest } (.invokestatic index) mk argsL.toArray X₁ hg hsize hdg hW (X₁.named hnamed) (hpre vm₁ X₁.warmed)
  exact ⟨v, vm₁, B, X₁.warmed, X', hpost, fun target h => hstep₁ _ fun acts => by rw [doInvoke_state]; exact hsteps.trans h⟩
theorem vx_runSW {y : MethodName} {bytes cc : ByteArray} {maxL nL mc ms n index : Nat} {ret : Option FieldType} {hh : List (Nat × Nat × Nat × Nat)} {ws : List Cond} {rm : Room} {Pc : Array Value → State → Prop} {Qc : Array Value → State → Outcome → State → Prop} {free : Addr → Prop} {Ts : List Cond} {own : String} {As rest : List Value} {g : JFrame}
    (S : CallFix p m c cc nL s args Ts own) (hM : Met l y ws rm Pc Qc mc ms free) (cw : vx_CSW R s args own index y bytes maxL ret hh ws rm mc ms n) (hp : PreS s H Pc As)
    (hg : g.method = m) (hn : As.length = n) (hsize : g.locals.size = nL) (hstack : g.stack = As.reverse ++ rest) (hW : 2 * g.monitorRoom + (rest.map fun v => v.category).sum ≤ 8) (hdg : decode cc g.pc = .ok (.invokestatic index, 3)) (hf : cells + mc ≤ R.cells ∧ slots + ms ≤ R.slots) :
    va_Run p l e R s m args below meth c H locs cells slots mc ms g rest (Qc As.toArray) (free) := by
  obtain ⟨⟨hrc, hrs, hfr, hlo, hws, hcw⟩, hcode, hini, hy, hlen, hl, hstt⟩ := cw
  have hK : Back l R p e below s args y 3 8 (PreOf R mc ms Pc) (PostOf Qc mc ms free) := va_backW (hh := hh) (bytes := bytes) (maxL := maxL) (ret := ret) hM hp.1 hrc hrs hfr hlo hws hcw (fun a' U hW => word_at hW (Or.inl (by first | rfl | simp [Cond.onTables, Cond.keeps, Cond.steady])) hini)
  obtain ⟨hx, hb, hml, ho, -⟩ := S
  intro T hT X
  obtain ⟨v, vm₁, ⟨U', l2, c2, s2⟩, hW₁, X', ⟨g', mk, t, L, e1, e2, hq, h1, hL, h2, h3⟩, st⟩ := vx_callSW X hx (hh := hh) (bytes := bytes) (maxL := maxL) (ret := ret) ho hl hstt hini hcode hy hK hg (hsize.trans hml.symm) (argsL := As) (rest := rest) (fun sig h => hn.trans (hlen sig h)) hstack hW (by rw [hb]; exact hdg)
    (fun vm₁ hW₁ => ⟨hf.1, hf.2, hp.2 (T.setVm vm₁) hT hW₁⟩)
  dsimp only [Pt.U, Pt.locs, Pt.cells, Pt.slots] at X' e1 e2 h1 h2 h3 st
  subst h1; subst h2; subst h3
  exact ⟨v, (T.setVm vm₁).calling g' mk As.toArray, t, U', L, hT, X', hL, e1, e2, hq, st⟩
/-- not caught here, past rows that name other classes: it goes on to the caller -/
theorem vx_outP {p : Program} {l : Launch} {e : Env} {R : Room} {s : State} {m : MethodId} {args : Array Value} {below : List Frame} {meth : Method} {c : Code} {H : Heap} {locs : List Loc} {cells slots : Nat} {free : Addr → Prop} {ls : Array Slot} {rest : List Value} {Qc : Array Value → State → Outcome → State → Prop} {XC : String → State → State → Prop}
    {pc : Nat} {own E : String} {ce : Cell} {q : Addr} {mc ms : Nat} (hown : s.vm.findClass own = some m.cls) (hlocks : meth.locks = false)
    (hpass : ∀ z ∈ c.exceptionTable.toList, covers z pc = false ∨ (z.catchType ≠ 0 ∧ ∃ nm : String, (Cond.classLink own z.catchType nm).before args s = true ∧ va_Nc E nm s)) (hcell : H[q]? = some ce) (hv : ce.vm = .none) (hcl : s.vm.findClass E = some ce.cls)
    (hx : ∀ t : State, t.heap = H → s.vm.Alike t.vm → XC E s t) (hf : ∀ z ∈ locs, free z.base) (hc : cells ≤ mc) (hs : slots ≤ ms) :
    vx_W p l e R s m args below meth c H locs cells slots (vx_MQ below Qc XC args s mc ms free) (F0 m pc ls rest) q := by
  intro T hT X
  have hpl : e.platform.magicAccessors = ({} : Platform).magicAccessors := by rw [X.admits.platform]
  obtain ⟨vm', hW', X', st⟩ := X.outThrough hlocks q (g := F0 m pc ls rest) rfl rfl rfl (cell := ce) (by rw [hT]; exact hcell) (by rw [hv]; rfl)
    (by obtain ⟨k9, h9, -⟩ := Vm.findClass_spec hcl; exact ⟨k9, h9⟩) (fun z hz => by
      rcases hpass z hz with h | ⟨hz0, nm, hl1, hn1⟩
      · exact Or.inl h
      · obtain ⟨c6, hc6, hcl6⟩ := Cond.classLink_spec hown hl1 e.platform hpl
        obtain ⟨a8, b8, h1, h2, h3⟩ := hn1
        cases Option.some.inj (h1.symm.trans hcl)
        cases Option.some.inj (h2.symm.trans hc6)
        exact Or.inr ⟨hz0, _, hcl6, h3⟩)
  obtain ⟨g₀, hfr⟩ := X'.frames_eq
  have hcell9 : ((T.setVm vm').setFrames (.throwing q :: below)).heap[q]? = some ce := by
    show T.heap[q]? = some ce
    rw [hT]; exact hcell
  have hend : Ended ((T.setVm vm').setFrames (.throwing q :: below)) below (.threw q) := State.frames_setFrames _ (State.cur_lt_of_frames hfr)
  refine ⟨(T.setVm vm').setFrames (.throwing q :: below), ?_, .threw q, X'.here.running, hend, Or.inr ⟨q, rfl, E, ce, locs, hx _ hT (X'.ends _).1.alike, hcell9, hv, hcl, (X'.ends _).1, (X'.ends _).2.mono hc hs, hf⟩⟩
  rw [X.pushThrowing_eq]
  exact st
/-- a thing of a world lies in the heap -/
theorem vx_lt {D : va_G} {cl : List vw_C} {ws : va_W} {H1 : Heap} (h : va_P D cl ws H1) {k : Nat} {q : Nat × va_E} (hk : ws[k]? = some q) : q.1 < H1.size := (h k q hk).lt
end VXS
/-! ===== END ===== -/
/-! ===== BEGIN methods with a table of their own: called by a name, returning or throwing ===== -/
section VXH
/-! vx_backW, vx_callVX, vx_callSX, vx_callVW, vx_runVW, vx_runVX, vx_runSX, vx_ofWH follow the same proofs as their sisters above (Free/Laws.lean, Shelf42/LK1.lean); vx_outP calls Shelf42/NT130.lean (outThrough). -/
section
variable {l : Launch} {R : Room} {p : Program} {e : Env} {below : List Frame} {s : State} {sargs : Array Value} {y : MethodName} {len W9 : Nat}
theorem vx_backW {ws : List Cond} {rm : Room} {Pc : Array Value → State → Prop} {Qc : Array Value → State → Outcome → State → Prop} {XC : String → State → State → Prop} {mc ms : Nat} {free : Addr → Prop} {bytes : ByteArray} {maxL : Nat} {ret : Option FieldType} {hh : List (Nat × Nat × Nat × Nat)}
    (hM : vx_Met l y ws rm Pc Qc XC mc ms free) (hblind : FrameBlind Pc) (hrc : rm.cells = mc) (hrs : rm.slots = ms)
    (hframes : rm.frames + 1 ≤ R.frames) (hlocals : W9 + (maxL + 11) + rm.locals ≤ R.locals)
    (hws : ∀ w ∈ ws, ∀ a' U, s.WarmedH U.vm → w.before a' U = true) (hcode : Cond.codeWith y bytes maxL ret hh ∈ ws) (hinit : ∀ a' U, s.WarmedH U.vm → (Cond.initialized y.cls).before a' U = true) :
    vx_Back l R p e below s sargs y len W9 (PreOf R mc ms Pc) (PostOf Qc mc ms free) (vx_Post XC mc ms free) := by
  intro m meth c A g ig mk a X hg hsize hdg hW hn hp
  have h1 : (headSpec ws rm).pre.before a A.U = true := atoms_intro fun w hw => hws w hw _ _ X.warmed
  have h2 : (Cond.codeWith y bytes maxL ret hh).before a A.U = true := hws _ hcode _ _ X.warmed
  have h3 : (Cond.initialized y.cls).before a A.U = true := hinit _ _ X.warmed
  have h4 : A.cells + (headSpec ws rm).room.cells ≤ R.cells := by rw [show (headSpec ws rm).room.cells = mc from hrc]; exact hp.1
  have h5 : A.slots + (headSpec ws rm).room.slots ≤ R.slots := by rw [show (headSpec ws rm).room.slots = ms from hrs]; exact hp.2.1
  have hPc : Pc a (A.U.calling g mk a) := hblind _ _ _ _ hp.2.2
  obtain ⟨U, Ls, c0, s0⟩ := A
  dsimp only [Pt.U, Pt.locs, Pt.cells, Pt.slots] at h1 h2 h3 h4 h5 X hn hPc ⊢
  obtain ⟨m9, methY, cY, hn9, hmY, hcY, -, hlY, -⟩ := Cond.codeWith_spec h2
  cases Option.some.inj (hn9.symm.trans hn)
  obtain ⟨kY, hkY, -⟩ := className_of_methodNamed hn
  have hinitY : kY.init = .initialized := Cond.initialized_spec (findClass_of_methodNamed hn) hkY h3
  have h : At U g.method c below := by rw [hg]; exact X.here
  have hlocals9 : W9 + (maxL + 11) + (headSpec ws rm).room.locals ≤ R.locals := hlocals
  have happ : (headSpec ws rm).appliesLoose y e.platform (U.calling g mk a) = true :=
    Spec.appliesLoose_calling (g := g) h hdg hn hkY hinitY
      (X.room_calling (g := g) (R' := (headSpec ws rm).room) hsize hmY hcY hframes (by rw [hlY]; omega) h4 h5) h1
  obtain ⟨mid, hmid⟩ := h.above
  have hfr : (U.setTop g).frames = (.java g :: mid) ++ below := by rw [State.frames_setTop' g h.top, hmid]; rfl
  obtain ⟨o, s₂, hsteps, -, hend, hq⟩ := Steps.callFree hM p X.admits X.cas X.clock (acts := []) hfr happ hPc trivial
  have hq' : vx_Q Qc XC mc ms free a (U.calling g mk a) o s₂ := hq
  rw [State.frames_setTop' g h.top] at hend
  obtain ⟨g₀, hg0⟩ := Option.isSome_iff_exists.mp h.top
  obtain ⟨r, hr⟩ := State.topJava?_eq_some.mp hg0
  have hr' : (({ U with heap := s₂.heap, slotsUsed := s₂.slotsUsed } : State).setVm s₂.vm).frames = .java g₀ :: r := hr
  rcases hq' with ⟨hqc, L, hfe, hL⟩ | ⟨q, rfl, E, ce, L, hx, hce, hcv, hcl, hW₂, hsm, hL⟩
  · obtain ⟨⟨v, rfl⟩, hW₂, e2, q2, q3, q4, q5, q6⟩ := id hfe
    have e3 : s₂ = ({ (U.calling g mk a).setFrames s₂.frames with heap := s₂.heap, slotsUsed := s₂.slotsUsed } : State).setVm s₂.vm := by
      have : s₂ = ({ s₂ with vm := (U.calling g mk a).vm } : State).setVm s₂.vm := rfl
      rw [e2] at this
      exact this
    obtain ⟨c₂, i₂, len₂, hc₂, hd₂, hf₂⟩ := hend
    have hW' : U.WarmedH s₂.vm := hW₂
    have hcc : c₂ = c := by
      have h1 : s₂.code? g.method = U.code? g.method := by
        rw [State.code?_eq, State.code?_eq, hW'.alike.method?]
      exact Option.some.inj (hc₂.symm.trans (h1.trans h.code))
    subst hcc
    have hlen : len₂ = len := by rw [hdg] at hd₂; cases hd₂; rfl
    subst hlen
    have hs₂ : s₂ = (({ U with heap := s₂.heap, slotsUsed := s₂.slotsUsed } : State).setVm s₂.vm).setTop { g with pc := g.pc + len₂, stack := v.toList ++ g.stack } := by
      refine e3.trans ?_
      rw [hf₂, State.calling_eq h.top, State.setFrames_setFrames, State.setTop_of_frames _ hr', hr]
      rfl
    have hsame : U.sameButNew ({ U with heap := s₂.heap, slotsUsed := s₂.slotsUsed } : State) L mc ms := by
      refine ⟨?_, q2, q3, q4, q5, q6⟩
      obtain ⟨t, ht, -⟩ := State.frames_cons hr
      show ({ U with heap := s₂.heap, slotsUsed := s₂.slotsUsed } : State) = { U.setFrames U.frames with heap := s₂.heap, slotsUsed := s₂.slotsUsed }
      rw [State.setFrames_self ht]
    subst hg
    refine Or.inl ⟨v, ⟨(({ U with heap := s₂.heap, slotsUsed := s₂.slotsUsed } : State).setVm s₂.vm), Ls ++ L, c0 + mc, s0 + ms⟩,
      ⟨X.admits, X.cas, X.clock, X.frames, X.room, X.hears, X.method, X.code, (X.here.setHeapUsed s₂.heap s₂.slotsUsed).setVm hW'.alike, X.tail, State.WarmedH.trans X.warmed hW', X.limits, X.bytes, X.same.trans (hsame.setVm s.vm)⟩,
      ⟨g, mk, s₂, L, rfl, rfl, hqc, rfl, hL, rfl, rfl⟩, ?_⟩
    show Steps p.tables e below _ ((({ U with heap := s₂.heap, slotsUsed := s₂.slotsUsed } : State).setVm s₂.vm).setTop { g with pc := g.pc + len₂, stack := v.toList ++ g.stack })
    rw [← hs₂]
    exact hsteps
  · obtain ⟨e2, q2, q3, q4, q5, q6⟩ := id hsm
    have e3 : s₂ = ({ (U.calling g mk a).setFrames s₂.frames with heap := s₂.heap, slotsUsed := s₂.slotsUsed } : State).setVm s₂.vm := by
      have : s₂ = ({ s₂ with vm := (U.calling g mk a).vm } : State).setVm s₂.vm := rfl
      rw [e2] at this
      exact this
    have hf₂ : s₂.frames = .throwing q :: .java g :: U.frames.tail := hend
    have hW' : U.WarmedH s₂.vm := hW₂
    have hs₂ : s₂ = ((({ U with heap := s₂.heap, slotsUsed := s₂.slotsUsed } : State).setVm s₂.vm).setTop g).pushFrame (.throwing q) := by
      refine e3.trans ?_
      rw [hf₂, State.calling_eq h.top, State.setFrames_setFrames, State.pushFrame, State.frames_setTop _ hr', State.setTop_of_frames _ hr', State.setFrames_setFrames, hr]
      rfl
    have hsame : U.sameButNew ({ U with heap := s₂.heap, slotsUsed := s₂.slotsUsed } : State) L mc ms := by
      refine ⟨?_, q2, q3, q4, q5, q6⟩
      obtain ⟨t, ht, -⟩ := State.frames_cons hr
      show ({ U with heap := s₂.heap, slotsUsed := s₂.slotsUsed } : State) = { U.setFrames U.frames with heap := s₂.heap, slotsUsed := s₂.slotsUsed }
      rw [State.setFrames_self ht]
    subst hg
    refine Or.inr ⟨q, ⟨(({ U with heap := s₂.heap, slotsUsed := s₂.slotsUsed } : State).setVm s₂.vm), Ls ++ L, c0 + mc, s0 + ms⟩,
      ⟨X.admits, X.cas, X.clock, X.frames, X.room, X.hears, X.method, X.code, (X.here.setHeapUsed s₂.heap s₂.slotsUsed).setVm hW'.alike, X.tail, State.WarmedH.trans X.warmed hW', X.limits, X.bytes, X.same.trans (hsame.setVm s.vm)⟩,
      ⟨g, mk, s₂, L, E, ce, rfl, rfl, hx, hce, hcv, hcl, rfl, hL, rfl, rfl⟩, ?_⟩
    show Steps p.tables e below _ (((({ U with heap := s₂.heap, slotsUsed := s₂.slotsUsed } : State).setVm s₂.vm).setTop g).pushFrame (.throwing q))
    rw [← hs₂]
    exact hsteps
end
variable {p : Program} {l : Launch} {e : Env} {R : Room} {s : State} {m : MethodId} {args : Array Value} {below : List Frame} {meth : Method} {c : Code} {T : State} {H : Heap} {locs : List Loc} {cells slots : Nat}
theorem vx_callVX (X : Stand p l e R s m args below meth c T locs cells slots) (hexec : p.tables.exec = Jvm.exec) {own C : String} {index : Nat} {y : MethodName} {bytes : ByteArray} {maxL : Nat} {ret : Option FieldType} {hh : List (Nat × Nat × Nat × Nat)}
    (hown : s.vm.findClass own = some m.cls) (hlink : (Cond.methodLink own index y).before args s = true) (hinst : (Cond.instanceMethod y).before args s = true) (hsel : (Cond.selects C y y).before args s = true)
    (hcode : (Cond.codeWith y bytes maxL ret hh).before args s = true) (hy : y.cls ≠ "java/lang/invoke/MethodHandle" ∧ y.cls ≠ "java/lang/invoke/VarHandle")
    {W9 : Nat} {Pre : Pt → Array Value → Prop} {Post : Pt → Array Value → Option Value → Pt → Prop} {PostX : Pt → Array Value → Addr → Pt → Prop} (hK : vx_Back l R p e below s args y 3 W9 Pre Post PostX)
    {b : Addr} {cellB : Cell} (hcell : T.heap[b]? = some cellB) (hobj : cellB.vm.isStatics = false) (hcls : s.vm.findClass C = some cellB.cls)
    {g : JFrame} (hg : g.method = m) (hsize : g.locals.size = c.maxLocals) {argsL rest : List Value} (hlen : ∀ sig, parseMethodDescriptor y.desc = some sig → argsL.length = sig.parameters.length)
    (hstack : g.stack = argsL.reverse ++ .ref b :: rest) (hW : 2 * g.monitorRoom + (rest.map fun v => v.category).sum ≤ W9) (hdg : decode c.code g.pc = .ok (.invokevirtual index, 3))
    (hpre : ∀ vm₁, s.WarmedH vm₁ → Pre ⟨T.setVm vm₁, locs, cells, slots⟩ (Value.ref b :: argsL).toArray) :
    (∃ (v : Option Value) (vm₁ : Vm) (B : Pt), s.WarmedH vm₁ ∧ Stand p l e R s m args below meth c B.U B.locs B.cells B.slots ∧ Post ⟨T.setVm vm₁, locs, cells, slots⟩ (Value.ref b :: argsL).toArray v B ∧
      ∀ target, Steps p.tables e below (B.U.setTop { g with pc := g.pc + 3, stack := v.toList ++ rest }) target → Steps p.tables e below (T.setTop g) target) ∨
    (∃ (q : Addr) (vm₁ : Vm) (B : Pt), s.WarmedH vm₁ ∧ Stand p l e R s m args below meth c B.U B.locs B.cells B.slots ∧ PostX ⟨T.setVm vm₁, locs, cells, slots⟩ (Value.ref b :: argsL).toArray q B ∧
      Steps p.tables e below (T.setTop g) ((B.U.setTop { g with stack := rest }).pushFrame (.throwing q))) := by
  obtain ⟨mk, methM, hnamed, hmethM, hstM, habM⟩ := Cond.instanceMethod_spec hinst
  obtain ⟨m8, methM', cM, hn8, hmethM', -, -, -, -, -, -, hsigM⟩ := Cond.codeWith_spec hcode
  cases Option.some.inj (hn8.symm.trans hnamed)
  cases hmethM.symm.trans hmethM'
  obtain ⟨c2, r2, m2, q1, q2, q3, q4, kP, hkP, hkPi⟩ := Cond.selects_spec hsel
  cases hcls.symm.trans q1
  cases (State.methodFound?_of_named hnamed hy).symm.trans q2
  cases hnamed.symm.trans q3
  have hselP : selectMethod e.platform s.vm cellB.cls mk = .method mk := by rw [Launch.admits_selectMethod X.admits]; exact q4
  obtain ⟨vm₁, X₁, hstep₁⟩ := X.invokevirtual hexec hown hlink hnamed hmethM hstM hkP hkPi hy (a := b) (cell := cellB) hcell
    (fun z h => by rw [h] at hobj; cases hobj) hselP hmethM habM hkP hkPi (g := g) hg (argsL := argsL) (rest := rest) (hlen _ hsigM) hstack hdg
  rcases hK m meth c ⟨T.setVm vm₁, locs, cells, slots⟩ { g with stack := rest } (.invokevirtual index) mk (Value.ref b :: argsL).toArray X₁ hg hsize hdg hW (X₁.named hnamed) (hpre vm₁ X₁.warmed) with ⟨v, B, X', hpost, hsteps⟩ | ⟨q, B, X', hpost, hsteps⟩
  · exact Or.inl ⟨v, vm₁, B, X₁.warmed, X', hpost, fun target h => hstep₁ _ fun acts => by rw [doInvoke_state]; exact hsteps.trans h⟩
  · exact Or.inr ⟨q, vm₁, B, X₁.warmed, X', hpost, hstep₁ _ fun acts => by rw [doInvoke_state]; exact hsteps⟩
theorem vx_callSX (X : Stand p l e R s m args below meth c T locs cells slots) (hexec : p.tables.exec = Jvm.exec) {own : String} {index : Nat} {y : MethodName} {bytes : ByteArray} {maxL : Nat} {ret : Option FieldType} {hh : List (Nat × Nat × Nat × Nat)}
    (hown : s.vm.findClass own = some m.cls) (hlink : (Cond.methodLink own index y).before args s = true) (hstat : (Cond.static y).before args s = true) (hinit : (Cond.initialized y.cls).before args s = true)
    (hcode : (Cond.codeWith y bytes maxL ret hh).before args s = true) (hy : y.cls ≠ "java/lang/invoke/MethodHandle" ∧ y.cls ≠ "java/lang/invoke/VarHandle")
    {W9 : Nat} {Pre : Pt → Array Value → Prop} {Post : Pt → Array Value → Option Value → Pt → Prop} {PostX : Pt → Array Value → Addr → Pt → Prop} (hK : vx_Back l R p e below s args y 3 W9 Pre Post PostX)
    {g : JFrame} (hg : g.method = m) (hsize : g.locals.size = c.maxLocals) {argsL rest : List Value} (hlen : ∀ sig, parseMethodDescriptor y.desc = some sig → argsL.length = sig.parameters.length)
    (hstack : g.stack = argsL.reverse ++ rest) (hW : 2 * g.monitorRoom + (rest.map fun v => v.category).sum ≤ W9) (hdg : decode c.code g.pc = .ok (.invokestatic index, 3))
    (hpre : ∀ vm₁, s.WarmedH vm₁ → Pre ⟨T.setVm vm₁, locs, cells, slots⟩ argsL.toArray) :
    (∃ (v : Option Value) (vm₁ : Vm) (B : Pt), s.WarmedH vm₁ ∧ Stand p l e R s m args below meth c B.U B.locs B.cells B.slots ∧ Post ⟨T.setVm vm₁, locs, cells, slots⟩ argsL.toArray v B ∧
      ∀ target, Steps p.tables e below (B.U.setTop { g with pc := g.pc + 3, stack := v.toList ++ rest }) target → Steps p.tables e below (T.setTop g) target) ∨
    (∃ (q : Addr) (vm₁ : Vm) (B : Pt), s.WarmedH vm₁ ∧ Stand p l e R s m args below meth c B.U B.locs B.cells B.slots ∧ PostX ⟨T.setVm vm₁, locs, cells, slots⟩ argsL.toArray q B ∧
      Steps p.tables e below (T.setTop g) ((B.U.setTop { g with stack := rest }).pushFrame (.throwing q))) := by
  obtain ⟨mk, methM, cM, hnamed, hmethM, -, -, -, -, -, -, hsigM⟩ := Cond.codeWith_spec hcode
  have hstatic : methM.isStatic = true := Cond.static_spec hnamed hmethM hstat
  obtain ⟨kP, hkP, -⟩ := className_of_methodNamed hnamed
  have hinitP : kP.init = .initialized := Cond.initialized_spec (findClass_of_methodNamed hnamed) hkP hinit
  obtain ⟨vm₁, X₁, hstep₁⟩ := X.invokestatic hexec hown hlink hnamed hmethM hstatic hkP hinitP hy (g := g) hg (argsL := argsL) (rest := rest) (hlen _ hsigM) hstack hdg
  rcases hK m meth c ⟨T.setVm vm₁, locs, cells, slots⟩ { g with stack := rest } (.invokestatic index) mk argsL.toArray X₁ hg hsize hdg hW (X₁.named hnamed) (hpre vm₁ X₁.warmed) with ⟨v, B, X', hpost, hsteps⟩ | ⟨q, B, X', hpost, hsteps⟩
  · exact Or.inl ⟨v, vm₁, B, X₁.warmed, X', hpost, fun target h => hstep₁ _ fun acts => by rw [doInvoke_state]; exact hsteps.trans h⟩
  · exact Or.inr ⟨q, vm₁, B, X₁.warmed, X', hpost, hstep₁ _ fun acts => by rw [doInvoke_state]; exact hsteps⟩
theorem vx_callVW (X : Stand p l e R s m args below meth c T locs cells slots) (hexec : p.tables.exec = Jvm.exec) {own C : String} {index : Nat} {y : MethodName} {bytes : ByteArray} {maxL : Nat} {ret : Option FieldType} {hh : List (Nat × Nat × Nat × Nat)}
    (hown : s.vm.findClass own = some m.cls) (hlink : (Cond.methodLink own index y).before args s = true) (hinst : (Cond.instanceMethod y).before args s = true) (hsel : (Cond.selects C y y).before args s = true)
    (hcode : (Cond.codeWith y bytes maxL ret hh).before args s = true) (hy : y.cls ≠ "java/lang/invoke/MethodHandle" ∧ y.cls ≠ "java/lang/invoke/VarHandle")
    {W9 : Nat} {Pre : Pt → Array Value → Prop} {Post : Pt → Array Value → Option Value → Pt → Prop} (hK : Back l R p e below s args y 3 W9 Pre Post)
    {b : Addr} {cellB : Cell} (hcell : T.heap[b]? = some cellB) (hobj : cellB.vm.isStatics = false) (hcls : s.vm.findClass C = some cellB.cls)
    {g : JFrame} (hg : g.method = m) (hsize : g.locals.size = c.maxLocals) {argsL rest : List Value} (hlen : ∀ sig, parseMethodDescriptor y.desc = some sig → argsL.length = sig.parameters.length)
    (hstack : g.stack = argsL.reverse ++ .ref b :: rest) (hW : 2 * g.monitorRoom + (rest.map fun v => v.category).sum ≤ W9) (hdg : decode c.code g.pc = .ok (.invokevirtual index, 3))
    (hpre : ∀ vm₁, s.WarmedH vm₁ → Pre ⟨T.setVm vm₁, locs, cells, slots⟩ (Value.ref b :: argsL).toArray) :
    ∃ (v : Option Value) (vm₁ : Vm) (B : Pt), s.WarmedH vm₁ ∧ Stand p l e R s m args below meth c B.U B.locs B.cells B.slots ∧ Post ⟨T.setVm vm₁, locs, cells, slots⟩ (Value.ref b :: argsL).toArray v B ∧
      ∀ target, Steps p.tables e below (B.U.setTop { g with pc := g.pc + 3, stack := v.toList ++ rest }) target → Steps p.tables e below (T.setTop g) target := by
  obtain ⟨mk, methM, hnamed, hmethM, hstM, habM⟩ := Cond.instanceMethod_spec hinst
  obtain ⟨m8, methM', cM, hn8, hmethM', -, -, -, -, -, -, hsigM⟩ := Cond.codeWith_spec hcode
  cases Option.some.inj (hn8.symm.trans hnamed)
  cases hmethM.symm.trans hmethM'
  obtain ⟨c2, r2, m2, q1, q2, q3, q4, kP, hkP, hkPi⟩ := Cond.selects_spec hsel
  cases hcls.symm.trans q1
  cases (State.methodFound?_of_named hnamed hy).symm.trans q2
  cases hnamed.symm.trans q3
  have hselP : selectMethod e.platform s.vm cellB.cls mk = .method mk := by rw [Launch.admits_selectMethod X.admits]; exact q4
  obtain ⟨vm₁, X₁, hstep₁⟩ := X.invokevirtual hexec hown hlink hnamed hmethM hstM hkP hkPi hy (a := b) (cell := cellB) hcell
    (fun z h => by rw [h] at hobj; cases hobj) hselP hmethM habM hkP hkPi (g := g) hg (argsL := argsL) (rest := rest) (hlen _ hsigM) hstack hdg
  obtain ⟨v, B, X', hpost, hsteps⟩ := hK m meth c ⟨T.setVm vm₁, locs, cells, slots⟩ { g with stack := rest } (.invokevirtual index) mk (Value.ref b :: argsL).toArray X₁ hg hsize hdg hW (X₁.named hnamed) (hpre vm₁ X₁.warmed)
  exact ⟨v, vm₁, B, X₁.warmed, X', hpost, fun target h => hstep₁ _ fun acts => by rw [doInvoke_state]; exact hsteps.trans h⟩
abbrev vx_CVW (R : Room) (s : State) (args : Array Value) (own C : String) (index : Nat) (y : MethodName) (bytes : ByteArray) (maxL : Nat) (ret : Option FieldType) (hh : List (Nat × Nat × Nat × Nat)) (ws : List Cond) (rm : Room) (mc ms n : Nat) : Prop :=
  (rm.cells = mc ∧ rm.slots = ms ∧ rm.frames + 1 ≤ R.frames ∧ 8 + (maxL + 11) + rm.locals ≤ R.locals ∧ (∀ w ∈ ws, ∀ (a' : Array Value) (U : State), s.WarmedH U.vm → w.before a' U = true) ∧ Cond.codeWith y bytes maxL ret hh ∈ ws) ∧
  (Cond.codeWith y bytes maxL ret hh).before args s = true ∧ (Cond.initialized y.cls).before args s = true ∧ (y.cls ≠ "java/lang/invoke/MethodHandle" ∧ y.cls ≠ "java/lang/invoke/VarHandle") ∧
  (∀ sig, parseMethodDescriptor y.desc = some sig → n = sig.parameters.length) ∧ (Cond.methodLink own index y).before args s = true ∧ (Cond.instanceMethod y).before args s = true ∧ (Cond.selects C y y).before args s = true
theorem vx_cwVW {own C : String} {index maxL mc ms : Nat} {y : MethodName} {bytes : ByteArray} {ret : Option FieldType} {hh : List (Nat × Nat × Nat × Nat)} {Ts ws ws' : List Cond} {rm : Room} (n : Nat) (ht : ∀ w ∈ Ts, w.before args s = true) (hT : GoodIn Ts (wsV own index C y ws)) (hw : ws = Cond.codeWith y bytes maxL ret hh :: ws') (hrc : rm.cells = mc) (hrs : rm.slots = ms)
    (hd : y.cls = C ∧ y.cls ≠ "java/lang/invoke/MethodHandle" ∧ y.cls ≠ "java/lang/invoke/VarHandle" ∧ (parseMethodDescriptor y.desc).map (fun d => d.parameters.length) = some n) (hR : rm.frames + 1 ≤ R.frames ∧ 8 + (maxL + 11) + rm.locals ≤ R.locals) :
    vx_CVW R s args own C index y bytes maxL ret hh ws rm mc ms n := by
  obtain ⟨hC, hd⟩ := hd
  subst hC
  have ok : ∀ w ∈ wsV own index y.cls y ws, w.before args s = true := fun w h => ht w (hT w h).1
  have hG : GoodIn Ts ws := fun w h => hT w (by unfold wsV; exact List.mem_append_right _ h)
  have hc : Cond.codeWith y bytes maxL ret hh ∈ ws := by rw [hw]; exact List.mem_cons_self
  refine ⟨⟨hrc, hrs, hR.1, hR.2, pay_in ht hG, hc⟩, ht _ (hG _ hc).1, ok _ (by simp [wsV]), ⟨hd.1, hd.2.1⟩, fun sig h => ?_, ok _ (by simp [wsV]), ok _ (by simp [wsV]), ok _ (by simp [wsV])⟩
  have h2 := hd.2.2
  rw [h] at h2
  exact (Option.some.inj h2).symm
theorem vx_runVW {y : MethodName} {bytes cc : ByteArray} {maxL nL mc ms n index : Nat} {ret : Option FieldType} {hh : List (Nat × Nat × Nat × Nat)} {ws : List Cond} {rm : Room} {Pc : Array Value → State → Prop} {Qc : Array Value → State → Outcome → State → Prop} {free : Addr → Prop} {Ts : List Cond} {own C : String} {b : Addr} {As rest : List Value} {g : JFrame}
    (S : CallFix p m c cc nL s args Ts own) (hM : Met l y ws rm Pc Qc mc ms free) (cw : vx_CVW R s args own C index y bytes maxL ret hh ws rm mc ms n) (hp : PreV s H C b Pc As)
    (hg : g.method = m) (hn : As.length = n) (hsize : g.locals.size = nL) (hstack : g.stack = As.reverse ++ .ref b :: rest) (hW : 2 * g.monitorRoom + (rest.map fun v => v.category).sum ≤ 8) (hdg : decode cc g.pc = .ok (.invokevirtual index, 3)) (hf : cells + mc ≤ R.cells ∧ slots + ms ≤ R.slots) :
    va_Run p l e R s m args below meth c H locs cells slots mc ms g rest (Qc (Value.ref b :: As).toArray) free := by
  obtain ⟨⟨hrc, hrs, hfr, hlo, hws, hcw⟩, hcode, hini, hy, hlen, hl, hin, hse⟩ := cw
  have hK : Back l R p e below s args y 3 8 (PreOf R mc ms Pc) (PostOf Qc mc ms free) := va_backW (hh := hh) (bytes := bytes) (maxL := maxL) (ret := ret) hM hp.1 hrc hrs hfr hlo hws hcw (fun a' U hW => word_at hW (Or.inl (by first | rfl | simp [Cond.onTables, Cond.keeps, Cond.steady])) hini)
  obtain ⟨hx, hb, hml, ho, -⟩ := S
  obtain ⟨-, ⟨cellB, hcB, hoB, hclB⟩, hPc⟩ := hp
  intro T hT X
  obtain ⟨v, vm₁, ⟨U', l2, c2, s2⟩, hW₁, X', ⟨g', mk, t, L, e1, e2, hq, h1, hL, h2, h3⟩, st⟩ := vx_callVW X hx (C := C) (hh := hh) (bytes := bytes) (maxL := maxL) (ret := ret) ho hl hin hse hcode hy hK (by rw [hT]; exact hcB) hoB hclB hg (hsize.trans hml.symm) (argsL := As) (rest := rest) (fun sig h => hn.trans (hlen sig h)) hstack hW (by rw [hb]; exact hdg)
    (fun vm₁ hW₁ => ⟨hf.1, hf.2, hPc (T.setVm vm₁) hT hW₁⟩)
  dsimp only [Pt.U, Pt.locs, Pt.cells, Pt.slots] at X' e1 e2 h1 h2 h3 st
  subst h1; subst h2; subst h3
  exact ⟨v, (T.setVm vm₁).calling g' mk (Value.ref b :: As).toArray, t, U', L, hT, X', hL, e1, e2, hq, st⟩
section
variable {y : MethodName} {bytes cc : ByteArray} {maxL nL mc ms n index : Nat} {ret : Option FieldType} {ws : List Cond} {rm : Room} {Pc : Array Value → State → Prop} {Qc : Array Value → State → Outcome → State → Prop} {XC : String → State → State → Prop} {free : Addr → Prop} {Ts : List Cond} {own C : String} {b : Addr} {As rest : List Value} {g : JFrame}
theorem vx_runVX {hh : List (Nat × Nat × Nat × Nat)} (S : CallFix p m c cc nL s args Ts own) (hM : vx_Met l y ws rm Pc Qc XC mc ms free) (cw : vx_CVW R s args own C index y bytes maxL ret hh ws rm mc ms n) (hp : PreV s H C b Pc As)
    (hg : g.method = m) (hn : As.length = n) (hsize : g.locals.size = nL) (hstack : g.stack = As.reverse ++ .ref b :: rest) (hW : 2 * g.monitorRoom + (rest.map fun v => v.category).sum ≤ 8) (hdg : decode cc g.pc = .ok (.invokevirtual index, 3)) (hf : cells + mc ≤ R.cells ∧ slots + ms ≤ R.slots) :
    vx_Run p l e R s m args below meth c H locs cells slots mc ms g rest (Qc (Value.ref b :: As).toArray) XC free := by
  obtain ⟨⟨hrc, hrs, hfr, hlo, hws, hcw⟩, hcode, hini, hy, hlen, hl, hin, hse⟩ := cw
  have hK : vx_Back l R p e below s args y 3 8 (PreOf R mc ms Pc) (PostOf Qc mc ms free) (vx_Post XC mc ms free) := vx_backW (hh := hh) (bytes := bytes) (maxL := maxL) (ret := ret) hM hp.1 hrc hrs hfr hlo hws hcw (fun a' U hW => word_at hW (Or.inl (by first | rfl | simp [Cond.onTables, Cond.keeps, Cond.steady])) hini)
  obtain ⟨hx, hb, hml, ho, -⟩ := S
  obtain ⟨-, ⟨cellB, hcB, hoB, hclB⟩, hPc⟩ := hp
  intro T hT X
  rcases vx_callVX X hx (C := C) (hh := hh) (bytes := bytes) (maxL := maxL) (ret := ret) ho hl hin hse hcode hy hK (by rw [hT]; exact hcB) hoB hclB hg (hsize.trans hml.symm) (argsL := As) (rest := rest) (fun sig h => hn.trans (hlen sig h)) hstack hW (by rw [hb]; exact hdg)
    (fun vm₁ hW₁ => ⟨hf.1, hf.2, hPc (T.setVm vm₁) hT hW₁⟩) with ⟨v, vm₁, ⟨U', l2, c2, s2⟩, hW₁, X', ⟨g', mk, t, L, e1, e2, hq, h1, hL, h2, h3⟩, st⟩ | ⟨q, vm₁, ⟨U', l2, c2, s2⟩, hW₁, X', ⟨g', mk, t, L, E, ce, e1, e2, hq, hce, hcv, hcl, h1, hL, h2, h3⟩, st⟩
  · dsimp only [Pt.U, Pt.locs, Pt.cells, Pt.slots] at X' e1 e2 h1 h2 h3 st
    subst h1; subst h2; subst h3
    exact Or.inl ⟨v, (T.setVm vm₁).calling g' mk (Value.ref b :: As).toArray, t, U', L, hT, X', hL, e1, e2, hq, st⟩
  · dsimp only [Pt.U, Pt.locs, Pt.cells, Pt.slots] at X' e1 e2 h1 h2 h3 st hcl
    subst h1; subst h2; subst h3
    exact Or.inr ⟨q, (T.setVm vm₁).calling g' mk (Value.ref b :: As).toArray, t, U', L, E, ce, hT, X', hL, e1, e2, hq, hce, hcv, vx_cls hW₁ hcl, st⟩
theorem vx_runSX {hh : List (Nat × Nat × Nat × Nat)} (S : CallFix p m c cc nL s args Ts own) (hM : vx_Met l y ws rm Pc Qc XC mc ms free) (cw : vx_CSW R s args own index y bytes maxL ret hh ws rm mc ms n) (hp : PreS s H Pc As)
    (hg : g.method = m) (hn : As.length = n) (hsize : g.locals.size = nL) (hstack : g.stack = As.reverse ++ rest) (hW : 2 * g.monitorRoom + (rest.map fun v => v.category).sum ≤ 8) (hdg : decode cc g.pc = .ok (.invokestatic index, 3)) (hf : cells + mc ≤ R.cells ∧ slots + ms ≤ R.slots) :
    vx_Run p l e R s m args below meth c H locs cells slots mc ms g rest (Qc As.toArray) XC free := by
  obtain ⟨⟨hrc, hrs, hfr, hlo, hws, hcw⟩, hcode, hini, hy, hlen, hl, hstt⟩ := cw
  have hK : vx_Back l R p e below s args y 3 8 (PreOf R mc ms Pc) (PostOf Qc mc ms free) (vx_Post XC mc ms free) := vx_backW (hh := hh) (bytes := bytes) (maxL := maxL) (ret := ret) hM hp.1 hrc hrs hfr hlo hws hcw (fun a' U hW => word_at hW (Or.inl (by first | rfl | simp [Cond.onTables, Cond.keeps, Cond.steady])) hini)
  obtain ⟨hx, hb, hml, ho, -⟩ := S
  intro T hT X
  rcases vx_callSX X hx (hh := hh) (bytes := bytes) (maxL := maxL) (ret := ret) ho hl hstt hini hcode hy hK hg (hsize.trans hml.symm) (argsL := As) (rest := rest) (fun sig h => hn.trans (hlen sig h)) hstack hW (by rw [hb]; exact hdg)
    (fun vm₁ hW₁ => ⟨hf.1, hf.2, hp.2 (T.setVm vm₁) hT hW₁⟩) with ⟨v, vm₁, ⟨U', l2, c2, s2⟩, hW₁, X', ⟨g', mk, t, L, e1, e2, hq, h1, hL, h2, h3⟩, st⟩ | ⟨q, vm₁, ⟨U', l2, c2, s2⟩, hW₁, X', ⟨g', mk, t, L, E, ce, e1, e2, hq, hce, hcv, hcl, h1, hL, h2, h3⟩, st⟩
  · dsimp only [Pt.U, Pt.locs, Pt.cells, Pt.slots] at X' e1 e2 h1 h2 h3 st
    subst h1; subst h2; subst h3
    exact Or.inl ⟨v, (T.setVm vm₁).calling g' mk As.toArray, t, U', L, hT, X', hL, e1, e2, hq, st⟩
  · dsimp only [Pt.U, Pt.locs, Pt.cells, Pt.slots] at X' e1 e2 h1 h2 h3 st hcl
    subst h1; subst h2; subst h3
    exact Or.inr ⟨q, (T.setVm vm₁).calling g' mk As.toArray, t, U', L, E, ce, hT, X', hL, e1, e2, hq, hce, hcv, vx_cls hW₁ hcl, st⟩
end
end VXH
theorem vx_ofWH {l : Launch} {y : MethodName} {ws ws' : List Cond} {rm : Room} {Pc : Array Value → State → Prop} {Qc : Array Value → State → Outcome → State → Prop} {XC : String → State → State → Prop} {mc ms : Nat} {free : Addr → Prop} {cc : ByteArray} {maxL : Nat} {ret : Option FieldType} {hh : List (Nat × Nat × Nat × Nat)}
    (hy : plainName y.cls = true) (hw : ws = Cond.codeWith y cc maxL ret hh :: ws')
    (body : ∀ p e s m args below meth c s₁, BodyLoose p l y (headSpec ws rm) cc maxL ret e s m args below meth c s₁ → c.maxLocals = maxL → Pc args s →
      W p l e (headSpec ws rm).room s m args below meth c s.heap [] 0 0 (vx_MQ below Qc XC args s mc ms free) (entryFrame m args maxL)) : vx_Met l y ws rm Pc Qc XC mc ms free := by
  refine MetFree.of_bodyS (code := cc) (maxLocals := maxL) (ret := ret) hy ?_ ?_
  · intro args s m h hn
    obtain ⟨m9, meth, c, hn9, h1, h2, h3, h4, -, h5, h6, -⟩ := Cond.codeWith_spec (atoms_spec (ws := ws) h _ (by rw [hw]; exact List.mem_cons_self))
    cases hn.symm.trans hn9
    exact ⟨meth, c, h1, h2, h3, h4, h5, h6⟩
  · intro p e s m args below meth c s₁ B hml hP _
    have hh0 : s₁.heap = s.heap := by rw [B.state]; rfl
    obtain ⟨t, a1, o, b1, b2, b3⟩ := body p e s m args below meth c s₁ B hml hP s₁ hh0 (Stand.of_body B)
    exact ⟨t, o, a1, b1, b2, b3⟩
/-! ===== END ===== -/

/-! ===== BEGIN printed: names, fields, word lists, decode rows ===== -/
def RX0 : String := "DistinctDale$Basket"
def TX0 : u_T := fun k => match k with
  | 0 => ("DistinctDale$Basket", "items", "[I", false)
  | 1 => ("DistinctDale$Basket", "dates", "[I", false)
  | _ => ("DistinctDale$Basket", "size", "I", false)
def tyX0 : Nat → FieldType := fun k => match k with
  | 0 => .array .int
  | 1 => .array .int
  | _ => .int
abbrev wsX00 : List Cond := u_ws RX0 TX0 3
theorem nmX0 : ∀ a, a < 3 → ∀ b, b < 3 → a ≠ b → (TX0 a).2.1 ≠ (TX0 b).2.1 := by decide +kernel
theorem tyX0_ok : ∀ k, k < 3 → parseFieldDescriptor (TX0 k).2.2.1 = some (tyX0 k) := by decide +kernel
abbrev cX0_init : ByteArray := prog_2_method_1_code
def yX0_init : MethodName := ⟨RX0, "<init>", "()V"⟩
abbrev cX0_drain : ByteArray := prog_2_method_2_code
def yX0_drain : MethodName := ⟨RX0, "drain", "()I"⟩
abbrev cX0_take : ByteArray := prog_2_method_3_code
def yX0_take : MethodName := ⟨RX0, "take", "([I[II)I"⟩
abbrev cX0_countShared : ByteArray := prog_2_method_4_code
def yX0_countShared : MethodName := ⟨RX0, "countShared", "([II)I"⟩
abbrev cX0_dateFor : ByteArray := prog_2_method_5_code
def yX0_dateFor : MethodName := ⟨RX0, "dateFor", "(I)I"⟩
abbrev cX0_makeRoomFor : ByteArray := prog_2_method_6_code
def yX0_makeRoomFor : MethodName := ⟨RX0, "makeRoomFor", "(I)V"⟩
def RX1 : String := "DistinctDale$LeastHashes"
def TX1 : u_T := fun k => match k with
  | 0 => ("DistinctDale$LeastHashes", "hashes", "[I", true)
  | 1 => ("DistinctDale$LeastHashes", "limit", "I", true)
  | _ => ("DistinctDale$LeastHashes", "size", "I", false)
def tyX1 : Nat → FieldType := fun k => match k with
  | 0 => .array .int
  | 1 => .int
  | _ => .int
abbrev wsX10 : List Cond := u_ws RX1 TX1 3
theorem nmX1 : ∀ a, a < 3 → ∀ b, b < 3 → a ≠ b → (TX1 a).2.1 ≠ (TX1 b).2.1 := by decide +kernel
theorem tyX1_ok : ∀ k, k < 3 → parseFieldDescriptor (TX1 k).2.2.1 = some (tyX1 k) := by decide +kernel
abbrev cX1_init : ByteArray := prog_3_method_1_code
def yX1_init : MethodName := ⟨RX1, "<init>", "(I)V"⟩
abbrev cX1_forget : ByteArray := prog_3_method_2_code
def yX1_forget : MethodName := ⟨RX1, "forget", "()V"⟩
abbrev cX1_keepThoseOf : ByteArray := prog_3_method_3_code
def yX1_keepThoseOf : MethodName := ⟨RX1, "keepThoseOf", "(LDistinctDale$Basket;)V"⟩
abbrev cX1_offerAllOf : ByteArray := prog_3_method_4_code
def yX1_offerAllOf : MethodName := ⟨RX1, "offerAllOf", "(LDistinctDale$LeastHashes;)V"⟩
abbrev cX1_has : ByteArray := prog_3_method_5_code
def yX1_has : MethodName := ⟨RX1, "has", "(I)Z"⟩
abbrev cX1_estimate : ByteArray := prog_3_method_6_code
def yX1_estimate : MethodName := ⟨RX1, "estimate", "()I"⟩
abbrev cX1_estimateOfPart : ByteArray := prog_3_method_7_code
def yX1_estimateOfPart : MethodName := ⟨RX1, "estimateOfPart", "(I)I"⟩
abbrev cX1_offer : ByteArray := prog_3_method_8_code
def yX1_offer : MethodName := ⟨RX1, "offer", "(I)V"⟩
def RX2 : String := "DistinctDale$Registers"
def TX2 : u_T := fun k => match k with
  | _ => ("DistinctDale$Registers", "ranks", "[I", true)
def tyX2 : Nat → FieldType := fun k => match k with
  | _ => .array .int
abbrev wsX20 : List Cond := u_ws RX2 TX2 1
theorem nmX2 : ∀ a, a < 1 → ∀ b, b < 1 → a ≠ b → (TX2 a).2.1 ≠ (TX2 b).2.1 := by decide +kernel
theorem tyX2_ok : ∀ k, k < 1 → parseFieldDescriptor (TX2 k).2.2.1 = some (tyX2 k) := by decide +kernel
abbrev cX2_init : ByteArray := prog_4_method_1_code
def yX2_init : MethodName := ⟨RX2, "<init>", "()V"⟩
abbrev cX2_rankAllOf : ByteArray := prog_4_method_2_code
def yX2_rankAllOf : MethodName := ⟨RX2, "rankAllOf", "(LDistinctDale$Basket;)V"⟩
abbrev cX2_rankThoseAbove : ByteArray := prog_4_method_3_code
def yX2_rankThoseAbove : MethodName := ⟨RX2, "rankThoseAbove", "(ILDistinctDale$Basket;)V"⟩
abbrev cX2_estimate : ByteArray := prog_4_method_4_code
def yX2_estimate : MethodName := ⟨RX2, "estimate", "()J"⟩
abbrev cX2_rank : ByteArray := prog_4_method_5_code
def yX2_rank : MethodName := ⟨RX2, "rank", "(I)V"⟩
def RX3 : String := "DistinctDale$Thinning"
def TX3 : u_T := fun k => match k with
  | 0 => ("DistinctDale$Thinning", "itemsByLowZeros", "[I", true)
  | 1 => ("DistinctDale$Thinning", "levelFound", "I", false)
  | _ => ("DistinctDale$Thinning", "size", "I", false)
def tyX3 : Nat → FieldType := fun k => match k with
  | 0 => .array .int
  | 1 => .int
  | _ => .int
abbrev wsX30 : List Cond := u_ws RX3 TX3 3
theorem nmX3 : ∀ a, a < 3 → ∀ b, b < 3 → a ≠ b → (TX3 a).2.1 ≠ (TX3 b).2.1 := by decide +kernel
theorem tyX3_ok : ∀ k, k < 3 → parseFieldDescriptor (TX3 k).2.2.1 = some (tyX3 k) := by decide +kernel
abbrev cX3_init : ByteArray := prog_5_method_1_code
def yX3_init : MethodName := ⟨RX3, "<init>", "()V"⟩
abbrev cX3_thin : ByteArray := prog_5_method_2_code
def yX3_thin : MethodName := ⟨RX3, "thin", "(LDistinctDale$Basket;)V"⟩
abbrev cX3_itemAt : ByteArray := prog_5_method_3_code
def yX3_itemAt : MethodName := ⟨RX3, "itemAt", "(LDistinctDale$Basket;I)I"⟩
abbrev cX3_lowZerosOf : ByteArray := prog_5_method_4_code
def yX3_lowZerosOf : MethodName := ⟨RX3, "lowZerosOf", "(I)I"⟩
def RX4 : String := "DistinctDale"
def TX4 : u_T := fun k => match k with
  | 0 => ("DistinctDale", "baskets", "[LDistinctDale$Basket;", true)
  | 1 => ("DistinctDale", "registers", "LDistinctDale$Registers;", true)
  | 2 => ("DistinctDale", "thinning", "LDistinctDale$Thinning;", true)
  | 3 => ("DistinctDale", "leastOfOne", "LDistinctDale$LeastHashes;", true)
  | 4 => ("DistinctDale", "leastOfOther", "LDistinctDale$LeastHashes;", true)
  | 5 => ("DistinctDale", "leastOfBoth", "LDistinctDale$LeastHashes;", true)
  | 6 => ("DistinctDale", "lineItems", "[I", true)
  | 7 => ("DistinctDale", "lineDates", "[I", true)
  | 8 => ("DistinctDale", "keptAtMost", "I", true)
  | _ => ("DistinctDale", "now", "I", false)
def tyX4 : Nat → FieldType := fun k => match k with
  | 0 => .array (.object "DistinctDale$Basket")
  | 1 => .object "DistinctDale$Registers"
  | 2 => .object "DistinctDale$Thinning"
  | 3 => .object "DistinctDale$LeastHashes"
  | 4 => .object "DistinctDale$LeastHashes"
  | 5 => .object "DistinctDale$LeastHashes"
  | 6 => .array .int
  | 7 => .array .int
  | 8 => .int
  | _ => .int
abbrev wsX40 : List Cond := u_ws RX4 TX4 10
theorem nmX4 : ∀ a, a < 10 → ∀ b, b < 10 → a ≠ b → (TX4 a).2.1 ≠ (TX4 b).2.1 := by decide +kernel
theorem tyX4_ok : ∀ k, k < 10 → parseFieldDescriptor (TX4 k).2.2.1 = some (tyX4 k) := by decide +kernel
abbrev cX4_init : ByteArray := prog_1_method_1_code
def yX4_init : MethodName := ⟨RX4, "<init>", "(I)V"⟩
abbrev cX4_add : ByteArray := prog_1_method_2_code
def yX4_add : MethodName := ⟨RX4, "add", "(II)Z"⟩
abbrev cX4_addLine : ByteArray := prog_1_method_3_code
def yX4_addLine : MethodName := ⟨RX4, "addLine", "(IIII)I"⟩
abbrev cX4_empty : ByteArray := prog_1_method_4_code
def yX4_empty : MethodName := ⟨RX4, "empty", "(I)I"⟩
abbrev cX4_merge : ByteArray := prog_1_method_5_code
def yX4_merge : MethodName := ⟨RX4, "merge", "(II)I"⟩
abbrev cX4_pass : ByteArray := prog_1_method_6_code
def yX4_pass : MethodName := ⟨RX4, "pass", "(I)I"⟩
abbrev cX4_clock : ByteArray := prog_1_method_7_code
def yX4_clock : MethodName := ⟨RX4, "clock", "()I"⟩
abbrev cX4_plain : ByteArray := prog_1_method_8_code
def yX4_plain : MethodName := ⟨RX4, "plain", "(I)I"⟩
abbrev cX4_plainCommon : ByteArray := prog_1_method_9_code
def yX4_plainCommon : MethodName := ⟨RX4, "plainCommon", "(II)I"⟩
abbrev cX4_dateOf : ByteArray := prog_1_method_10_code
def yX4_dateOf : MethodName := ⟨RX4, "dateOf", "(II)I"⟩
abbrev cX4_hash : ByteArray := prog_1_method_11_code
def yX4_hash : MethodName := ⟨RX4, "hash", "(I)I"⟩
abbrev cX4_most : ByteArray := prog_1_method_12_code
def yX4_most : MethodName := ⟨RX4, "most", "()I"⟩
abbrev cX4_kept : ByteArray := prog_1_method_13_code
def yX4_kept : MethodName := ⟨RX4, "kept", "(I)I"⟩
abbrev cX4_keptAt : ByteArray := prog_1_method_14_code
def yX4_keptAt : MethodName := ⟨RX4, "keptAt", "(II)I"⟩
abbrev cX4_byLeast : ByteArray := prog_1_method_15_code
def yX4_byLeast : MethodName := ⟨RX4, "byLeast", "(I)I"⟩
abbrev cX4_together : ByteArray := prog_1_method_16_code
def yX4_together : MethodName := ⟨RX4, "together", "(II)I"⟩
abbrev cX4_common : ByteArray := prog_1_method_17_code
def yX4_common : MethodName := ⟨RX4, "common", "(II)I"⟩
abbrev cX4_without : ByteArray := prog_1_method_18_code
def yX4_without : MethodName := ⟨RX4, "without", "(II)I"⟩
abbrev cX4_register : ByteArray := prog_1_method_19_code
def yX4_register : MethodName := ⟨RX4, "register", "(II)I"⟩
abbrev cX4_byRegisters : ByteArray := prog_1_method_20_code
def yX4_byRegisters : MethodName := ⟨RX4, "byRegisters", "(I)J"⟩
abbrev cX4_recent : ByteArray := prog_1_method_21_code
def yX4_recent : MethodName := ⟨RX4, "recent", "(II)J"⟩
abbrev cX4_level : ByteArray := prog_1_method_22_code
def yX4_level : MethodName := ⟨RX4, "level", "(I)I"⟩
abbrev cX4_sampled : ByteArray := prog_1_method_23_code
def yX4_sampled : MethodName := ⟨RX4, "sampled", "(I)I"⟩
abbrev cX4_sampledAt : ByteArray := prog_1_method_24_code
def yX4_sampledAt : MethodName := ⟨RX4, "sampledAt", "(II)I"⟩
abbrev cX4_bySample : ByteArray := prog_1_method_25_code
def yX4_bySample : MethodName := ⟨RX4, "bySample", "(I)I"⟩
abbrev cX4_need : ByteArray := prog_1_method_26_code
def yX4_need : MethodName := ⟨RX4, "need", "(I)LDistinctDale$Basket;"⟩
abbrev cX4_refuseUnless : ByteArray := prog_1_method_27_code
def yX4_refuseUnless : MethodName := ⟨RX4, "refuseUnless", "(Z)V"⟩
abbrev cX4_isItem : ByteArray := prog_1_method_28_code
def yX4_isItem : MethodName := ⟨RX4, "isItem", "(I)Z"⟩
abbrev cX4_takeLine : ByteArray := prog_1_method_29_code
def yX4_takeLine : MethodName := ⟨RX4, "takeLine", "(LDistinctDale$Basket;III)I"⟩
abbrev cX4_keepLeastOf : ByteArray := prog_1_method_30_code
def yX4_keepLeastOf : MethodName := ⟨RX4, "keepLeastOf", "(LDistinctDale$Basket;LDistinctDale$Basket;)V"⟩
abbrev cX4_hashFor : ByteArray := prog_1_method_31_code
def yX4_hashFor : MethodName := ⟨RX4, "hashFor", "(I)I"⟩
abbrev cX4_lowZeros : ByteArray := prog_1_method_32_code
def yX4_lowZeros : MethodName := ⟨RX4, "lowZeros", "(II)I"⟩
abbrev cX4_at : ByteArray := prog_1_method_33_code
def yX4_at : MethodName := ⟨RX4, "at", "([II)I"⟩
abbrev cX4_put : ByteArray := prog_1_method_34_code
def yX4_put : MethodName := ⟨RX4, "put", "([III)V"⟩
def RX5 : String := "DistinctDaleModel"
def TX5 : u_T := fun k => match k with
  | 0 => ("DistinctDaleModel", "thrown", "I", false)
  | 1 => ("DistinctDaleModel", "k", "I", true)
  | 2 => ("DistinctDaleModel", "now", "I", false)
  | 3 => ("DistinctDaleModel", "dates", "[I", true)
  | 4 => ("DistinctDaleModel", "items", "[I", true)
  | 5 => ("DistinctDaleModel", "isListed", "[Z", true)
  | 6 => ("DistinctDaleModel", "listed", "I", false)
  | 7 => ("DistinctDaleModel", "kept", "[I", true)
  | 8 => ("DistinctDaleModel", "other", "[I", true)
  | 9 => ("DistinctDaleModel", "both", "[I", true)
  | 10 => ("DistinctDaleModel", "registers", "[I", true)
  | 11 => ("DistinctDaleModel", "few", "[I", true)
  | 12 => ("DistinctDaleModel", "keptMany", "I", false)
  | _ => ("DistinctDaleModel", "otherMany", "I", false)
def tyX5 : Nat → FieldType := fun k => match k with
  | 0 => .int
  | 1 => .int
  | 2 => .int
  | 3 => .array .int
  | 4 => .array .int
  | 5 => .array .boolean
  | 6 => .int
  | 7 => .array .int
  | 8 => .array .int
  | 9 => .array .int
  | 10 => .array .int
  | 11 => .array .int
  | 12 => .int
  | _ => .int
abbrev wsX50 : List Cond := u_ws RX5 TX5 14
theorem nmX5 : ∀ a, a < 14 → ∀ b, b < 14 → a ≠ b → (TX5 a).2.1 ≠ (TX5 b).2.1 := by decide +kernel
theorem tyX5_ok : ∀ k, k < 14 → parseFieldDescriptor (TX5 k).2.2.1 = some (tyX5 k) := by decide +kernel
abbrev cX5_init : ByteArray := prog_7_method_1_code
def yX5_init : MethodName := ⟨RX5, "<init>", "(I)V"⟩
abbrev cX5_thrown : ByteArray := prog_7_method_2_code
def yX5_thrown : MethodName := ⟨RX5, "thrown", "()I"⟩
abbrev cX5_goesWell : ByteArray := prog_7_method_3_code
def yX5_goesWell : MethodName := ⟨RX5, "goesWell", "(I)Z"⟩
abbrev cX5_isBasket : ByteArray := prog_7_method_4_code
def yX5_isBasket : MethodName := ⟨RX5, "isBasket", "(I)Z"⟩
abbrev cX5_isItem : ByteArray := prog_7_method_5_code
def yX5_isItem : MethodName := ⟨RX5, "isItem", "(I)Z"⟩
abbrev cX5_hashOf : ByteArray := prog_7_method_6_code
def yX5_hashOf : MethodName := ⟨RX5, "hashOf", "(I)I"⟩
abbrev cX5_has : ByteArray := prog_7_method_7_code
def yX5_has : MethodName := ⟨RX5, "has", "(II)Z"⟩
abbrev cX5_put : ByteArray := prog_7_method_8_code
def yX5_put : MethodName := ⟨RX5, "put", "(III)Z"⟩
abbrev cX5_add : ByteArray := prog_7_method_9_code
def yX5_add : MethodName := ⟨RX5, "add", "(II)Z"⟩
abbrev cX5_addLine : ByteArray := prog_7_method_10_code
def yX5_addLine : MethodName := ⟨RX5, "addLine", "(IIII)I"⟩
abbrev cX5_count : ByteArray := prog_7_method_11_code
def yX5_count : MethodName := ⟨RX5, "count", "(I)I"⟩
abbrev cX5_empty : ByteArray := prog_7_method_12_code
def yX5_empty : MethodName := ⟨RX5, "empty", "(I)I"⟩
abbrev cX5_merge : ByteArray := prog_7_method_13_code
def yX5_merge : MethodName := ⟨RX5, "merge", "(II)I"⟩
abbrev cX5_pass : ByteArray := prog_7_method_14_code
def yX5_pass : MethodName := ⟨RX5, "pass", "(I)I"⟩
abbrev cX5_clock : ByteArray := prog_7_method_15_code
def yX5_clock : MethodName := ⟨RX5, "clock", "()I"⟩
abbrev cX5_plain : ByteArray := prog_7_method_16_code
def yX5_plain : MethodName := ⟨RX5, "plain", "(I)I"⟩
abbrev cX5_plainCommon : ByteArray := prog_7_method_17_code
def yX5_plainCommon : MethodName := ⟨RX5, "plainCommon", "(II)I"⟩
abbrev cX5_dateOf : ByteArray := prog_7_method_18_code
def yX5_dateOf : MethodName := ⟨RX5, "dateOf", "(II)I"⟩
abbrev cX5_hash : ByteArray := prog_7_method_19_code
def yX5_hash : MethodName := ⟨RX5, "hash", "(I)I"⟩
abbrev cX5_most : ByteArray := prog_7_method_20_code
def yX5_most : MethodName := ⟨RX5, "most", "()I"⟩
abbrev cX5_above : ByteArray := prog_7_method_21_code
def yX5_above : MethodName := ⟨RX5, "above", "(II)I"⟩
abbrev cX5_layKept : ByteArray := prog_7_method_22_code
def yX5_layKept : MethodName := ⟨RX5, "layKept", "(I)I"⟩
abbrev cX5_estimate : ByteArray := prog_7_method_23_code
def yX5_estimate : MethodName := ⟨RX5, "estimate", "(II)J"⟩
abbrev cX5_kept : ByteArray := prog_7_method_24_code
def yX5_kept : MethodName := ⟨RX5, "kept", "(I)I"⟩
abbrev cX5_keptAt : ByteArray := prog_7_method_25_code
def yX5_keptAt : MethodName := ⟨RX5, "keptAt", "(II)I"⟩
abbrev cX5_byLeast : ByteArray := prog_7_method_26_code
def yX5_byLeast : MethodName := ⟨RX5, "byLeast", "(I)I"⟩
abbrev cX5_layBoth : ByteArray := prog_7_method_27_code
def yX5_layBoth : MethodName := ⟨RX5, "layBoth", "(II)I"⟩
abbrev cX5_isKept : ByteArray := prog_7_method_28_code
def yX5_isKept : MethodName := ⟨RX5, "isKept", "(I)Z"⟩
abbrev cX5_isOther : ByteArray := prog_7_method_29_code
def yX5_isOther : MethodName := ⟨RX5, "isOther", "(I)Z"⟩
abbrev cX5_share : ByteArray := prog_7_method_30_code
def yX5_share : MethodName := ⟨RX5, "share", "(III)I"⟩
abbrev cX5_together : ByteArray := prog_7_method_31_code
def yX5_together : MethodName := ⟨RX5, "together", "(II)I"⟩
abbrev cX5_common : ByteArray := prog_7_method_32_code
def yX5_common : MethodName := ⟨RX5, "common", "(II)I"⟩
abbrev cX5_without : ByteArray := prog_7_method_33_code
def yX5_without : MethodName := ⟨RX5, "without", "(II)I"⟩
abbrev cX5_rankOf : ByteArray := prog_7_method_34_code
def yX5_rankOf : MethodName := ⟨RX5, "rankOf", "(I)I"⟩
abbrev cX5_layRegisters : ByteArray := prog_7_method_35_code
def yX5_layRegisters : MethodName := ⟨RX5, "layRegisters", "(II)V"⟩
abbrev cX5_ofRegisters : ByteArray := prog_7_method_36_code
def yX5_ofRegisters : MethodName := ⟨RX5, "ofRegisters", "()J"⟩
abbrev cX5_register : ByteArray := prog_7_method_37_code
def yX5_register : MethodName := ⟨RX5, "register", "(II)I"⟩
abbrev cX5_byRegisters : ByteArray := prog_7_method_38_code
def yX5_byRegisters : MethodName := ⟨RX5, "byRegisters", "(I)J"⟩
abbrev cX5_recent : ByteArray := prog_7_method_39_code
def yX5_recent : MethodName := ⟨RX5, "recent", "(II)J"⟩
abbrev cX5_countAt : ByteArray := prog_7_method_40_code
def yX5_countAt : MethodName := ⟨RX5, "countAt", "(II)I"⟩
abbrev cX5_levelOf : ByteArray := prog_7_method_41_code
def yX5_levelOf : MethodName := ⟨RX5, "levelOf", "(I)I"⟩
abbrev cX5_level : ByteArray := prog_7_method_42_code
def yX5_level : MethodName := ⟨RX5, "level", "(I)I"⟩
abbrev cX5_sampled : ByteArray := prog_7_method_43_code
def yX5_sampled : MethodName := ⟨RX5, "sampled", "(I)I"⟩
abbrev cX5_sampledAt : ByteArray := prog_7_method_44_code
def yX5_sampledAt : MethodName := ⟨RX5, "sampledAt", "(II)I"⟩
abbrev cX5_bySample : ByteArray := prog_7_method_45_code
def yX5_bySample : MethodName := ⟨RX5, "bySample", "(I)I"⟩
def RJx145de : String := "java/io/Serializable"
def TJx145de : u_T := fun k => match k with
  | _ => ("", "", "", false)
def tyJx145de : Nat → FieldType := fun k => match k with
  | _ => .int
abbrev wsJx145de0 : List Cond := u_ws RJx145de TJx145de 0
theorem nmJx145de : ∀ a, a < 0 → ∀ b, b < 0 → a ≠ b → (TJx145de a).2.1 ≠ (TJx145de b).2.1 := by decide +kernel
theorem tyJx145de_ok : ∀ k, k < 0 → parseFieldDescriptor (TJx145de k).2.2.1 = some (tyJx145de k) := by decide +kernel
def RJx8e188 : String := "java/lang/Cloneable"
def TJx8e188 : u_T := fun k => match k with
  | _ => ("", "", "", false)
def tyJx8e188 : Nat → FieldType := fun k => match k with
  | _ => .int
abbrev wsJx8e1880 : List Cond := u_ws RJx8e188 TJx8e188 0
theorem nmJx8e188 : ∀ a, a < 0 → ∀ b, b < 0 → a ≠ b → (TJx8e188 a).2.1 ≠ (TJx8e188 b).2.1 := by decide +kernel
theorem tyJx8e188_ok : ∀ k, k < 0 → parseFieldDescriptor (TJx8e188 k).2.2.1 = some (tyJx8e188 k) := by decide +kernel
def RJ9 : String := "java/lang/Math"
def TJ9 : u_T := fun k => match k with
  | _ => ("", "", "", false)
def tyJ9 : Nat → FieldType := fun k => match k with
  | _ => .int
abbrev wsJ90 : List Cond := u_ws RJ9 TJ9 0
theorem nmJ9 : ∀ a, a < 0 → ∀ b, b < 0 → a ≠ b → (TJ9 a).2.1 ≠ (TJ9 b).2.1 := by decide +kernel
theorem tyJ9_ok : ∀ k, k < 0 → parseFieldDescriptor (TJ9 k).2.2.1 = some (tyJ9 k) := by decide +kernel
abbrev cJ9_max_7cf53 : ByteArray := prog_12_method_65_code
def yJ9_max_7cf53 : MethodName := ⟨RJ9, "max", "(II)I"⟩
abbrev cJ9_min_7cf53 : ByteArray := prog_12_method_69_code
def yJ9_min_7cf53 : MethodName := ⟨RJ9, "min", "(II)I"⟩
def RJ0 : String := "java/lang/String"
def TJ0 : u_T := fun k => match k with
  | _ => ("", "", "", false)
def tyJ0 : Nat → FieldType := fun k => match k with
  | _ => .int
abbrev wsJ00 : List Cond := u_ws RJ0 TJ0 0
theorem nmJ0 : ∀ a, a < 0 → ∀ b, b < 0 → a ≠ b → (TJ0 a).2.1 ≠ (TJ0 b).2.1 := by decide +kernel
theorem tyJ0_ok : ∀ k, k < 0 → parseFieldDescriptor (TJ0 k).2.2.1 = some (tyJ0 k) := by decide +kernel
def RJ10 : String := "java/lang/System"
def TJ10 : u_T := fun k => match k with
  | _ => ("", "", "", false)
def tyJ10 : Nat → FieldType := fun k => match k with
  | _ => .int
abbrev wsJ100 : List Cond := u_ws RJ10 TJ10 0
theorem nmJ10 : ∀ a, a < 0 → ∀ b, b < 0 → a ≠ b → (TJ10 a).2.1 ≠ (TJ10 b).2.1 := by decide +kernel
theorem tyJ10_ok : ∀ k, k < 0 → parseFieldDescriptor (TJ10 k).2.2.1 = some (tyJ10 k) := by decide +kernel
def RJ7 : String := "java/util/Arrays"
def TJ7 : u_T := fun k => match k with
  | _ => ("", "", "", false)
def tyJ7 : Nat → FieldType := fun k => match k with
  | _ => .int
abbrev wsJ70 : List Cond := u_ws RJ7 TJ7 0
theorem nmJ7 : ∀ a, a < 0 → ∀ b, b < 0 → a ≠ b → (TJ7 a).2.1 ≠ (TJ7 b).2.1 := by decide +kernel
theorem tyJ7_ok : ∀ k, k < 0 → parseFieldDescriptor (TJ7 k).2.2.1 = some (tyJ7 k) := by decide +kernel
abbrev cJ7_copyOf_59c91 : ByteArray := prog_17_method_123_code
def yJ7_copyOf_59c91 : MethodName := ⟨RJ7, "copyOf", "([II)[I"⟩
def RL : String := "DistinctDaleLaw"
abbrev cL_cell : ByteArray := method_2_code
def yL_cell : MethodName := ⟨RL, "cell", "([II)I"⟩
abbrev cL_add : ByteArray := method_3_code
def yL_add : MethodName := ⟨RL, "add", "(LDistinctDale;II[J)I"⟩
abbrev cL_addLine : ByteArray := method_4_code
def yL_addLine : MethodName := ⟨RL, "addLine", "(LDistinctDale;IIII[J)I"⟩
abbrev cL_empty : ByteArray := method_5_code
def yL_empty : MethodName := ⟨RL, "empty", "(LDistinctDale;I[J)I"⟩
abbrev cL_merge : ByteArray := method_6_code
def yL_merge : MethodName := ⟨RL, "merge", "(LDistinctDale;II[J)I"⟩
abbrev cL_pass : ByteArray := method_7_code
def yL_pass : MethodName := ⟨RL, "pass", "(LDistinctDale;I[J)I"⟩
abbrev cL_plain : ByteArray := method_8_code
def yL_plain : MethodName := ⟨RL, "plain", "(LDistinctDale;I[J)I"⟩
abbrev cL_plainCommon : ByteArray := method_9_code
def yL_plainCommon : MethodName := ⟨RL, "plainCommon", "(LDistinctDale;II[J)I"⟩
abbrev cL_dateOf : ByteArray := method_10_code
def yL_dateOf : MethodName := ⟨RL, "dateOf", "(LDistinctDale;II[J)I"⟩
abbrev cL_hash : ByteArray := method_11_code
def yL_hash : MethodName := ⟨RL, "hash", "(LDistinctDale;I[J)I"⟩
abbrev cL_kept : ByteArray := method_12_code
def yL_kept : MethodName := ⟨RL, "kept", "(LDistinctDale;I[J)I"⟩
abbrev cL_keptAt : ByteArray := method_13_code
def yL_keptAt : MethodName := ⟨RL, "keptAt", "(LDistinctDale;II[J)I"⟩
abbrev cL_byLeast : ByteArray := method_14_code
def yL_byLeast : MethodName := ⟨RL, "byLeast", "(LDistinctDale;I[J)I"⟩
abbrev cL_together : ByteArray := method_15_code
def yL_together : MethodName := ⟨RL, "together", "(LDistinctDale;II[J)I"⟩
abbrev cL_common : ByteArray := method_16_code
def yL_common : MethodName := ⟨RL, "common", "(LDistinctDale;II[J)I"⟩
abbrev cL_without : ByteArray := method_17_code
def yL_without : MethodName := ⟨RL, "without", "(LDistinctDale;II[J)I"⟩
abbrev cL_register : ByteArray := method_18_code
def yL_register : MethodName := ⟨RL, "register", "(LDistinctDale;II[J)I"⟩
abbrev cL_byRegisters : ByteArray := method_19_code
def yL_byRegisters : MethodName := ⟨RL, "byRegisters", "(LDistinctDale;I[J)I"⟩
abbrev cL_recent : ByteArray := method_20_code
def yL_recent : MethodName := ⟨RL, "recent", "(LDistinctDale;II[J)I"⟩
abbrev cL_level : ByteArray := method_21_code
def yL_level : MethodName := ⟨RL, "level", "(LDistinctDale;I[J)I"⟩
abbrev cL_sampled : ByteArray := method_22_code
def yL_sampled : MethodName := ⟨RL, "sampled", "(LDistinctDale;I[J)I"⟩
abbrev cL_sampledAt : ByteArray := method_23_code
def yL_sampledAt : MethodName := ⟨RL, "sampledAt", "(LDistinctDale;II[J)I"⟩
abbrev cL_bySample : ByteArray := method_24_code
def yL_bySample : MethodName := ⟨RL, "bySample", "(LDistinctDale;I[J)I"⟩
abbrev cL_law : ByteArray := code
def yL_law : MethodName := ⟨RL, "law", "([I)Z"⟩
def wsX0_init : List Cond := .code yX0_init cX0_init 1 none :: ([.methodLink RX0 3 objectInit, .instanceMethod objectInit, .code objectInit ⟨#[0xb1]⟩ 1 none, .arrayClass .int, .fieldLink RX0 11 "DistinctDale$Basket" "items" "[I", .fieldLink RX0 15 "DistinctDale$Basket" "dates" "[I", .fieldLink RX0 18 "DistinctDale$Basket" "size" "I"] ++ wsX00)
def wsX0_drain : List Cond := .code yX0_drain cX0_drain 2 (some .int) :: ([.fieldLink RX0 18 "DistinctDale$Basket" "size" "I"] ++ wsX00)
def wsX4_at : List Cond := .code yX4_at cX4_at 2 (some .int) :: ([])
def wsX0_countShared : List Cond := .code yX0_countShared cX0_countShared 7 (some .int) :: ([.fieldLink RX0 18 "DistinctDale$Basket" "size" "I", .fieldLink RX0 11 "DistinctDale$Basket" "items" "[I", .static yX4_at, .initialized RX4, .code yX4_at cX4_at 2 (some .int)] ++ wsX00)
def wsJ7_copyOf_59c91 : List Cond := .code yJ7_copyOf_59c91 cJ7_copyOf_59c91 3 (some (.array .int)) :: ([.methodLink RJ7 316 ⟨"[I", "clone", "()Ljava/lang/Object;"⟩, .sameMethod "[I" "java/lang/Object" "clone" "()Ljava/lang/Object;", .native ⟨"java/lang/Object", "clone", "()Ljava/lang/Object;"⟩, .instanceMethod ⟨"java/lang/Object", "clone", "()Ljava/lang/Object;"⟩, .selects "[I" ⟨"[I", "clone", "()Ljava/lang/Object;"⟩ ⟨"java/lang/Object", "clone", "()Ljava/lang/Object;"⟩, .classLink RJ7 317 "[I", .arrayClass .int, .methodLink RJ7 304 Lib.Math.min.name, .static Lib.Math.min.name, .initialized "java/lang/Math", .code Lib.Math.min.name Lib.Math.min.code 2 (some .int), .methodLink RJ7 150 arraycopyName, .native arraycopyName, .static arraycopyName, .initialized "java/lang/System"])
def wsX0_makeRoomFor_r1 : List Cond := [Cond.constant RX0 44 (100000), Cond.fieldLink RX0 11 "DistinctDale$Basket" "items" "[I", Cond.methodLink RX0 33 Lib.Math.max.name, Cond.static Lib.Math.max.name, Cond.initialized "java/lang/Math", Cond.code Lib.Math.max.name Lib.Math.max.code 2 (some .int), Cond.methodLink RX0 45 Lib.Math.min.name, Cond.static Lib.Math.min.name, Cond.code Lib.Math.min.name Lib.Math.min.code 2 (some .int), Cond.fieldLink RX0 15 "DistinctDale$Basket" "dates" "[I", Cond.methodLink RX0 48 yJ7_copyOf_59c91, Cond.static yJ7_copyOf_59c91, Cond.initialized RJ7, Cond.code yJ7_copyOf_59c91 cJ7_copyOf_59c91 3 (some (.array .int)), Cond.methodLink RJ7 316 ⟨"[I", "clone", "()Ljava/lang/Object;"⟩, Cond.sameMethod "[I" "java/lang/Object" "clone" "()Ljava/lang/Object;", Cond.native ⟨"java/lang/Object", "clone", "()Ljava/lang/Object;"⟩, Cond.instanceMethod ⟨"java/lang/Object", "clone", "()Ljava/lang/Object;"⟩, Cond.selects "[I" ⟨"[I", "clone", "()Ljava/lang/Object;"⟩ ⟨"java/lang/Object", "clone", "()Ljava/lang/Object;"⟩, Cond.classLink RJ7 317 "[I", Cond.arrayClass .int, Cond.methodLink RJ7 304 Lib.Math.min.name, Cond.methodLink RJ7 150 arraycopyName, Cond.native arraycopyName]
def wsX0_makeRoomFor_r2 : List Cond := [Cond.static arraycopyName, Cond.initialized "java/lang/System"]
def wsX0_makeRoomFor : List Cond := .code yX0_makeRoomFor cX0_makeRoomFor 3 none :: ((wsX0_makeRoomFor_r1 ++ wsX0_makeRoomFor_r2) ++ wsX00)
def wsX4_put : List Cond := .code yX4_put cX4_put 3 none :: ([])
def wsX0_take_r1 : List Cond := [Cond.fieldLink RX0 18 "DistinctDale$Basket" "size" "I", Cond.fieldLink RX0 11 "DistinctDale$Basket" "items" "[I", Cond.fieldLink RX0 15 "DistinctDale$Basket" "dates" "[I", Cond.methodLink RX0 33 Lib.Math.max.name, Cond.static Lib.Math.max.name, Cond.initialized "java/lang/Math", Cond.code Lib.Math.max.name Lib.Math.max.code 2 (some .int), Cond.methodLink RX0 22 yX0_countShared, Cond.instanceMethod yX0_countShared, Cond.selects RX0 yX0_countShared yX0_countShared, Cond.initialized RX0, Cond.code yX0_countShared cX0_countShared 7 (some .int), Cond.static yX4_at, Cond.initialized RX4, Cond.code yX4_at cX4_at 2 (some .int), Cond.methodLink RX0 26 yX0_makeRoomFor, Cond.instanceMethod yX0_makeRoomFor, Cond.selects RX0 yX0_makeRoomFor yX0_makeRoomFor, Cond.code yX0_makeRoomFor cX0_makeRoomFor 3 none, Cond.constant RX0 44 (100000), Cond.methodLink RX0 45 Lib.Math.min.name, Cond.static Lib.Math.min.name, Cond.code Lib.Math.min.name Lib.Math.min.code 2 (some .int), Cond.methodLink RX0 48 yJ7_copyOf_59c91]
def wsX0_take_r2 : List Cond := [Cond.static yJ7_copyOf_59c91, Cond.initialized RJ7, Cond.code yJ7_copyOf_59c91 cJ7_copyOf_59c91 3 (some (.array .int)), Cond.methodLink RJ7 316 ⟨"[I", "clone", "()Ljava/lang/Object;"⟩, Cond.sameMethod "[I" "java/lang/Object" "clone" "()Ljava/lang/Object;", Cond.native ⟨"java/lang/Object", "clone", "()Ljava/lang/Object;"⟩, Cond.instanceMethod ⟨"java/lang/Object", "clone", "()Ljava/lang/Object;"⟩, Cond.selects "[I" ⟨"[I", "clone", "()Ljava/lang/Object;"⟩ ⟨"java/lang/Object", "clone", "()Ljava/lang/Object;"⟩, Cond.classLink RJ7 317 "[I", Cond.arrayClass .int, Cond.methodLink RJ7 304 Lib.Math.min.name, Cond.methodLink RJ7 150 arraycopyName, Cond.native arraycopyName, Cond.static arraycopyName, Cond.initialized "java/lang/System", Cond.static yX4_put, Cond.code yX4_put cX4_put 3 none]
def wsX0_take : List Cond := .code yX0_take cX0_take 12 (some .int) :: ((wsX0_take_r1 ++ wsX0_take_r2) ++ wsX00)
def wsX0_dateFor : List Cond := .code yX0_dateFor cX0_dateFor 4 (some .int) :: ([.constant RX0 43 (65536), .fieldLink RX0 18 "DistinctDale$Basket" "size" "I", .fieldLink RX0 11 "DistinctDale$Basket" "items" "[I", .fieldLink RX0 15 "DistinctDale$Basket" "dates" "[I", .static yX4_at, .initialized RX4, .code yX4_at cX4_at 2 (some .int)] ++ wsX00)
def wsX1_init : List Cond := .code yX1_init cX1_init 2 none :: ([.methodLink RX1 3 objectInit, .instanceMethod objectInit, .code objectInit ⟨#[0xb1]⟩ 1 none, .arrayClass .int, .fieldLink RX1 9 "DistinctDale$LeastHashes" "hashes" "[I", .fieldLink RX1 15 "DistinctDale$LeastHashes" "size" "I", .fieldLink RX1 19 "DistinctDale$LeastHashes" "limit" "I"] ++ wsX10)
def wsX1_forget : List Cond := .code yX1_forget cX1_forget 1 none :: ([.fieldLink RX1 15 "DistinctDale$LeastHashes" "size" "I"] ++ wsX10)
def wsX4_hashFor : List Cond := .code yX4_hashFor cX4_hashFor 3 (some .int) :: ([.constantLong RX4 190 (69), .constantLong RX4 192 (48271), .constantLong RX4 194 (101), .constantLong RX4 196 (16777213)])
def wsX1_offer : List Cond := .code yX1_offer cX1_offer 5 none :: ([.fieldLink RX1 15 "DistinctDale$LeastHashes" "size" "I", .fieldLink RX1 19 "DistinctDale$LeastHashes" "limit" "I", .fieldLink RX1 9 "DistinctDale$LeastHashes" "hashes" "[I", .static yX4_at, .initialized RX4, .code yX4_at cX4_at 2 (some .int), .static yX4_put, .code yX4_put cX4_put 3 none] ++ wsX10)
def wsX1_keepThoseOf_r1 : List Cond := [Cond.fieldLink RX1 25 "DistinctDale$Basket" "size" "I", Cond.fieldLink RX1 28 "DistinctDale$Basket" "items" "[I", Cond.methodLink RX1 22 yX1_forget, Cond.instanceMethod yX1_forget, Cond.selects RX1 yX1_forget yX1_forget, Cond.initialized RX1, Cond.code yX1_forget cX1_forget 1 none, Cond.fieldLink RX1 15 "DistinctDale$LeastHashes" "size" "I", Cond.static yX4_at, Cond.initialized RX4, Cond.code yX4_at cX4_at 2 (some .int), Cond.static yX4_hashFor, Cond.code yX4_hashFor cX4_hashFor 3 (some .int), Cond.constantLong RX4 190 (69), Cond.constantLong RX4 192 (48271), Cond.constantLong RX4 194 (101), Cond.constantLong RX4 196 (16777213), Cond.methodLink RX1 39 yX1_offer, Cond.instanceMethod yX1_offer, Cond.selects RX1 yX1_offer yX1_offer, Cond.code yX1_offer cX1_offer 5 none, Cond.fieldLink RX1 19 "DistinctDale$LeastHashes" "limit" "I", Cond.fieldLink RX1 9 "DistinctDale$LeastHashes" "hashes" "[I", Cond.static yX4_put]
def wsX1_keepThoseOf_r2 : List Cond := [Cond.code yX4_put cX4_put 3 none]
def wsX1_keepThoseOf : List Cond := .code yX1_keepThoseOf cX1_keepThoseOf 3 none :: ((wsX1_keepThoseOf_r1 ++ wsX1_keepThoseOf_r2) ++ wsX00 ++ wsX10)
def wsX1_offerAllOf : List Cond := .code yX1_offerAllOf cX1_offerAllOf 3 none :: ([.fieldLink RX1 15 "DistinctDale$LeastHashes" "size" "I", .fieldLink RX1 9 "DistinctDale$LeastHashes" "hashes" "[I", .static yX4_at, .initialized RX4, .code yX4_at cX4_at 2 (some .int), .methodLink RX1 39 yX1_offer, .instanceMethod yX1_offer, .selects RX1 yX1_offer yX1_offer, .initialized RX1, .code yX1_offer cX1_offer 5 none, .fieldLink RX1 19 "DistinctDale$LeastHashes" "limit" "I", .static yX4_put, .code yX4_put cX4_put 3 none] ++ wsX10)
def wsX1_has : List Cond := .code yX1_has cX1_has 3 (some .boolean) :: ([.fieldLink RX1 15 "DistinctDale$LeastHashes" "size" "I", .fieldLink RX1 9 "DistinctDale$LeastHashes" "hashes" "[I", .static yX4_at, .initialized RX4, .code yX4_at cX4_at 2 (some .int)] ++ wsX10)
def wsX1_estimate : List Cond := .code yX1_estimate cX1_estimate 2 (some .int) :: ([.fieldLink RX1 9 "DistinctDale$LeastHashes" "hashes" "[I", .fieldLink RX1 15 "DistinctDale$LeastHashes" "size" "I", .fieldLink RX1 19 "DistinctDale$LeastHashes" "limit" "I", .constant RX1 43 (16777213), .static yX4_at, .initialized RX4, .code yX4_at cX4_at 2 (some .int)] ++ wsX10)
def wsX1_estimateOfPart : List Cond := .code yX1_estimateOfPart cX1_estimateOfPart 2 (some .int) :: ([.fieldLink RX1 15 "DistinctDale$LeastHashes" "size" "I", .methodLink RX1 44 yX1_estimate, .instanceMethod yX1_estimate, .selects RX1 yX1_estimate yX1_estimate, .initialized RX1, .code yX1_estimate cX1_estimate 2 (some .int), .fieldLink RX1 9 "DistinctDale$LeastHashes" "hashes" "[I", .fieldLink RX1 19 "DistinctDale$LeastHashes" "limit" "I", .constant RX1 43 (16777213), .static yX4_at, .initialized RX4, .code yX4_at cX4_at 2 (some .int)] ++ wsX10)
def wsX2_init : List Cond := .code yX2_init cX2_init 1 none :: ([.methodLink RX2 5 objectInit, .instanceMethod objectInit, .code objectInit ⟨#[0xb1]⟩ 1 none, .arrayClass .int, .fieldLink RX2 11 "DistinctDale$Registers" "ranks" "[I"] ++ wsX20)
def wsX4_lowZeros : List Cond := .code yX4_lowZeros cX4_lowZeros 3 (some .int) :: ([])
def wsX2_rank : List Cond := .code yX2_rank cX2_rank 4 none :: ([.fieldLink RX2 11 "DistinctDale$Registers" "ranks" "[I", .static yX4_lowZeros, .initialized RX4, .code yX4_lowZeros cX4_lowZeros 3 (some .int), .static yX4_at, .code yX4_at cX4_at 2 (some .int), .static yX4_put, .code yX4_put cX4_put 3 none] ++ wsX20)
def wsX2_rankThoseAbove : List Cond := .code yX2_rankThoseAbove cX2_rankThoseAbove 4 none :: ([.fieldLink RX2 11 "DistinctDale$Registers" "ranks" "[I", .fieldLink RX2 23 "DistinctDale$Basket" "size" "I", .fieldLink RX2 29 "DistinctDale$Basket" "dates" "[I", .fieldLink RX2 36 "DistinctDale$Basket" "items" "[I", .static yX4_put, .initialized RX4, .code yX4_put cX4_put 3 none, .static yX4_at, .code yX4_at cX4_at 2 (some .int), .static yX4_hashFor, .code yX4_hashFor cX4_hashFor 3 (some .int), .constantLong RX4 190 (69), .constantLong RX4 192 (48271), .constantLong RX4 194 (101), .constantLong RX4 196 (16777213), .methodLink RX2 43 yX2_rank, .instanceMethod yX2_rank, .selects RX2 yX2_rank yX2_rank, .initialized RX2, .code yX2_rank cX2_rank 4 none, .static yX4_lowZeros, .code yX4_lowZeros cX4_lowZeros 3 (some .int)] ++ wsX20 ++ wsX00)
def wsX2_rankAllOf_r1 : List Cond := [Cond.methodLink RX2 15 yX2_rankThoseAbove, Cond.instanceMethod yX2_rankThoseAbove, Cond.selects RX2 yX2_rankThoseAbove yX2_rankThoseAbove, Cond.initialized RX2, Cond.code yX2_rankThoseAbove cX2_rankThoseAbove 4 none, Cond.fieldLink RX2 11 "DistinctDale$Registers" "ranks" "[I", Cond.fieldLink RX2 23 "DistinctDale$Basket" "size" "I", Cond.fieldLink RX2 29 "DistinctDale$Basket" "dates" "[I", Cond.fieldLink RX2 36 "DistinctDale$Basket" "items" "[I", Cond.static yX4_put, Cond.initialized RX4, Cond.code yX4_put cX4_put 3 none, Cond.static yX4_at, Cond.code yX4_at cX4_at 2 (some .int), Cond.static yX4_hashFor, Cond.code yX4_hashFor cX4_hashFor 3 (some .int), Cond.constantLong RX4 190 (69), Cond.constantLong RX4 192 (48271), Cond.constantLong RX4 194 (101), Cond.constantLong RX4 196 (16777213), Cond.methodLink RX2 43 yX2_rank, Cond.instanceMethod yX2_rank, Cond.selects RX2 yX2_rank yX2_rank, Cond.code yX2_rank cX2_rank 4 none]
def wsX2_rankAllOf_r2 : List Cond := [Cond.static yX4_lowZeros, Cond.code yX4_lowZeros cX4_lowZeros 3 (some .int)]
def wsX2_rankAllOf : List Cond := .code yX2_rankAllOf cX2_rankAllOf 2 none :: ((wsX2_rankAllOf_r1 ++ wsX2_rankAllOf_r2) ++ wsX20 ++ wsX00)
def wsX2_estimate : List Cond := .code yX2_estimate cX2_estimate 6 (some .long) :: ([.fieldLink RX2 11 "DistinctDale$Registers" "ranks" "[I", .constant RX2 47 (16777216), .constantLong RX2 48 (2890512990208), .constantLong RX2 50 (40000), .fieldLink RX2 52 "DistinctDale$Registers" "ESTIMATE_BY_ZEROS" "[I", .static yX4_at, .initialized RX4, .code yX4_at cX4_at 2 (some .int)] ++ wsX20)
def wsX3_init : List Cond := .code yX3_init cX3_init 1 none :: ([.methodLink RX3 3 objectInit, .instanceMethod objectInit, .code objectInit ⟨#[0xb1]⟩ 1 none, .arrayClass .int, .fieldLink RX3 11 "DistinctDale$Thinning" "itemsByLowZeros" "[I", .fieldLink RX3 15 "DistinctDale$Thinning" "levelFound" "I", .fieldLink RX3 19 "DistinctDale$Thinning" "size" "I"] ++ wsX30)
def wsX3_lowZerosOf : List Cond := .code yX3_lowZerosOf cX3_lowZerosOf 1 (some .int) :: ([.static yX4_hashFor, .initialized RX4, .code yX4_hashFor cX4_hashFor 3 (some .int), .constantLong RX4 190 (69), .constantLong RX4 192 (48271), .constantLong RX4 194 (101), .constantLong RX4 196 (16777213), .static yX4_lowZeros, .code yX4_lowZeros cX4_lowZeros 3 (some .int)])
def wsX3_thin : List Cond := .code yX3_thin cX3_thin 4 none :: ([.fieldLink RX3 11 "DistinctDale$Thinning" "itemsByLowZeros" "[I", .fieldLink RX3 26 "DistinctDale$Basket" "size" "I", .fieldLink RX3 29 "DistinctDale$Basket" "items" "[I", .fieldLink RX3 15 "DistinctDale$Thinning" "levelFound" "I", .fieldLink RX3 19 "DistinctDale$Thinning" "size" "I", .static yX4_put, .initialized RX4, .code yX4_put cX4_put 3 none, .static yX4_at, .code yX4_at cX4_at 2 (some .int), .methodLink RX3 36 yX3_lowZerosOf, .static yX3_lowZerosOf, .initialized RX3, .code yX3_lowZerosOf cX3_lowZerosOf 1 (some .int), .static yX4_hashFor, .code yX4_hashFor cX4_hashFor 3 (some .int), .constantLong RX4 190 (69), .constantLong RX4 192 (48271), .constantLong RX4 194 (101), .constantLong RX4 196 (16777213), .static yX4_lowZeros, .code yX4_lowZeros cX4_lowZeros 3 (some .int)] ++ wsX30 ++ wsX00)
def wsX3_itemAt : List Cond := .code yX3_itemAt cX3_itemAt 6 (some .int) :: ([.fieldLink RX3 26 "DistinctDale$Basket" "size" "I", .fieldLink RX3 29 "DistinctDale$Basket" "items" "[I", .fieldLink RX3 15 "DistinctDale$Thinning" "levelFound" "I", .static yX4_at, .initialized RX4, .code yX4_at cX4_at 2 (some .int), .methodLink RX3 36 yX3_lowZerosOf, .static yX3_lowZerosOf, .initialized RX3, .code yX3_lowZerosOf cX3_lowZerosOf 1 (some .int), .static yX4_hashFor, .code yX4_hashFor cX4_hashFor 3 (some .int), .constantLong RX4 190 (69), .constantLong RX4 192 (48271), .constantLong RX4 194 (101), .constantLong RX4 196 (16777213), .static yX4_lowZeros, .code yX4_lowZeros cX4_lowZeros 3 (some .int)] ++ wsX00 ++ wsX30)
def wsX4_init_r1 : List Cond := [Cond.methodLink RX4 1 objectInit, Cond.instanceMethod objectInit, Cond.code objectInit ⟨#[0xb1]⟩ 1 none, Cond.methodLink RX4 9 Lib.Math.min.name, Cond.static Lib.Math.min.name, Cond.initialized "java/lang/Math", Cond.code Lib.Math.min.name Lib.Math.min.code 2 (some .int), Cond.methodLink RX4 15 Lib.Math.max.name, Cond.static Lib.Math.max.name, Cond.code Lib.Math.max.name Lib.Math.max.code 2 (some .int), Cond.fieldLink RX4 18 "DistinctDale" "keptAtMost" "I", Cond.classLink RX4 22 RX0, Cond.fieldLink RX4 24 "DistinctDale" "baskets" "[LDistinctDale$Basket;", Cond.instantiable RX0 3, Cond.initialized RX0, Cond.classLink RX4 29 RX2, Cond.instantiable RX2 1, Cond.initialized RX2, Cond.fieldLink RX4 32 "DistinctDale" "registers" "LDistinctDale$Registers;", Cond.classLink RX4 36 RX3, Cond.instantiable RX3 3, Cond.initialized RX3, Cond.fieldLink RX4 39 "DistinctDale" "thinning" "LDistinctDale$Thinning;", Cond.classLink RX4 43 RX1]
def wsX4_init_r2 : List Cond := [Cond.instantiable RX1 3, Cond.initialized RX1, Cond.fieldLink RX4 48 "DistinctDale" "leastOfOne" "LDistinctDale$LeastHashes;", Cond.fieldLink RX4 52 "DistinctDale" "leastOfOther" "LDistinctDale$LeastHashes;", Cond.fieldLink RX4 55 "DistinctDale" "leastOfBoth" "LDistinctDale$LeastHashes;", Cond.arrayClass .int, Cond.fieldLink RX4 58 "DistinctDale" "lineItems" "[I", Cond.fieldLink RX4 62 "DistinctDale" "lineDates" "[I", Cond.fieldLink RX4 65 "DistinctDale" "now" "I", Cond.instanceMethod yX0_init, Cond.code yX0_init cX0_init 1 none, Cond.methodLink RX0 3 objectInit, Cond.fieldLink RX0 11 "DistinctDale$Basket" "items" "[I", Cond.fieldLink RX0 15 "DistinctDale$Basket" "dates" "[I", Cond.fieldLink RX0 18 "DistinctDale$Basket" "size" "I", Cond.instanceMethod yX2_init, Cond.code yX2_init cX2_init 1 none, Cond.methodLink RX2 5 objectInit, Cond.fieldLink RX2 11 "DistinctDale$Registers" "ranks" "[I", Cond.instanceMethod yX3_init, Cond.code yX3_init cX3_init 1 none, Cond.methodLink RX3 3 objectInit, Cond.fieldLink RX3 11 "DistinctDale$Thinning" "itemsByLowZeros" "[I", Cond.fieldLink RX3 15 "DistinctDale$Thinning" "levelFound" "I"]
def wsX4_init_r3 : List Cond := [Cond.fieldLink RX3 19 "DistinctDale$Thinning" "size" "I", Cond.methodLink RX4 45 yX1_init, Cond.instanceMethod yX1_init, Cond.code yX1_init cX1_init 2 none, Cond.methodLink RX1 3 objectInit, Cond.fieldLink RX1 9 "DistinctDale$LeastHashes" "hashes" "[I", Cond.fieldLink RX1 15 "DistinctDale$LeastHashes" "size" "I", Cond.fieldLink RX1 19 "DistinctDale$LeastHashes" "limit" "I"]
def wsX4_init : List Cond := .code yX4_init cX4_init 3 none :: ((wsX4_init_r1 ++ (wsX4_init_r2 ++ wsX4_init_r3)) ++ wsX40 ++ wsX00 ++ wsX20 ++ wsX30 ++ wsX10)
def wsX4_need : List Cond := .code yX4_need cX4_need 3 (some (.object "DistinctDale$Basket")) :: ([.classLink RX4 117 "java/lang/IndexOutOfBoundsException", .initialized "java/lang/IndexOutOfBoundsException", .fieldLink RX4 24 "DistinctDale" "baskets" "[LDistinctDale$Basket;"] ++ wsX40 ++ (vx_atS RX4 121 "java/lang/IndexOutOfBoundsException" ["java/lang/RuntimeException", "java/lang/Exception"]).filter goodWord)
def wsX4_isItem : List Cond := .code yX4_isItem cX4_isItem 1 (some .boolean) :: ([.constant RX4 154 (100000)])
def wsX4_refuseUnless : List Cond := .code yX4_refuseUnless cX4_refuseUnless 1 none :: ([.classLink RX4 174 "java/lang/IllegalArgumentException", .initialized "java/lang/IllegalArgumentException"] ++ (vx_atS RX4 178 "java/lang/IllegalArgumentException" ["java/lang/RuntimeException", "java/lang/Exception"]).filter goodWord)
def wsX4_takeLine_r1 : List Cond := [Cond.fieldLink RX4 58 "DistinctDale" "lineItems" "[I", Cond.fieldLink RX4 62 "DistinctDale" "lineDates" "[I", Cond.fieldLink RX4 65 "DistinctDale" "now" "I", Cond.methodLink RX4 179 yX4_put, Cond.static yX4_put, Cond.initialized RX4, Cond.code yX4_put cX4_put 3 none, Cond.methodLink RX4 97 yX0_take, Cond.instanceMethod yX0_take, Cond.selects RX0 yX0_take yX0_take, Cond.initialized RX0, Cond.code yX0_take cX0_take 12 (some .int), Cond.fieldLink RX0 18 "DistinctDale$Basket" "size" "I", Cond.fieldLink RX0 11 "DistinctDale$Basket" "items" "[I", Cond.fieldLink RX0 15 "DistinctDale$Basket" "dates" "[I", Cond.methodLink RX0 33 Lib.Math.max.name, Cond.static Lib.Math.max.name, Cond.initialized "java/lang/Math", Cond.code Lib.Math.max.name Lib.Math.max.code 2 (some .int), Cond.methodLink RX0 22 yX0_countShared, Cond.instanceMethod yX0_countShared, Cond.selects RX0 yX0_countShared yX0_countShared, Cond.code yX0_countShared cX0_countShared 7 (some .int), Cond.static yX4_at]
def wsX4_takeLine_r2 : List Cond := [Cond.code yX4_at cX4_at 2 (some .int), Cond.methodLink RX0 26 yX0_makeRoomFor, Cond.instanceMethod yX0_makeRoomFor, Cond.selects RX0 yX0_makeRoomFor yX0_makeRoomFor, Cond.code yX0_makeRoomFor cX0_makeRoomFor 3 none, Cond.constant RX0 44 (100000), Cond.methodLink RX0 45 Lib.Math.min.name, Cond.static Lib.Math.min.name, Cond.code Lib.Math.min.name Lib.Math.min.code 2 (some .int), Cond.methodLink RX0 48 yJ7_copyOf_59c91, Cond.static yJ7_copyOf_59c91, Cond.initialized RJ7, Cond.code yJ7_copyOf_59c91 cJ7_copyOf_59c91 3 (some (.array .int)), Cond.methodLink RJ7 316 ⟨"[I", "clone", "()Ljava/lang/Object;"⟩, Cond.sameMethod "[I" "java/lang/Object" "clone" "()Ljava/lang/Object;", Cond.native ⟨"java/lang/Object", "clone", "()Ljava/lang/Object;"⟩, Cond.instanceMethod ⟨"java/lang/Object", "clone", "()Ljava/lang/Object;"⟩, Cond.selects "[I" ⟨"[I", "clone", "()Ljava/lang/Object;"⟩ ⟨"java/lang/Object", "clone", "()Ljava/lang/Object;"⟩, Cond.classLink RJ7 317 "[I", Cond.arrayClass .int, Cond.methodLink RJ7 304 Lib.Math.min.name, Cond.methodLink RJ7 150 arraycopyName, Cond.native arraycopyName, Cond.static arraycopyName]
def wsX4_takeLine_r3 : List Cond := [Cond.initialized "java/lang/System"]
def wsX4_takeLine : List Cond := .code yX4_takeLine cX4_takeLine 6 (some .int) :: ((wsX4_takeLine_r1 ++ (wsX4_takeLine_r2 ++ wsX4_takeLine_r3)) ++ wsX40 ++ wsX00)
def wsX4_add_r1 : List Cond := [Cond.methodLink RX4 68 yX4_need, Cond.instanceMethod yX4_need, Cond.selects RX4 yX4_need yX4_need, Cond.initialized RX4, Cond.code yX4_need cX4_need 3 (some (.object "DistinctDale$Basket")), Cond.classLink RX4 117 "java/lang/IndexOutOfBoundsException", Cond.initialized "java/lang/IndexOutOfBoundsException", Cond.fieldLink RX4 24 "DistinctDale" "baskets" "[LDistinctDale$Basket;", Cond.methodLink RX4 72 yX4_isItem, Cond.static yX4_isItem, Cond.code yX4_isItem cX4_isItem 1 (some .boolean), Cond.constant RX4 154 (100000), Cond.methodLink RX4 76 yX4_refuseUnless, Cond.static yX4_refuseUnless, Cond.code yX4_refuseUnless cX4_refuseUnless 1 none, Cond.classLink RX4 174 "java/lang/IllegalArgumentException", Cond.initialized "java/lang/IllegalArgumentException", Cond.methodLink RX4 80 yX4_takeLine, Cond.instanceMethod yX4_takeLine, Cond.selects RX4 yX4_takeLine yX4_takeLine, Cond.code yX4_takeLine cX4_takeLine 6 (some .int), Cond.fieldLink RX4 58 "DistinctDale" "lineItems" "[I", Cond.fieldLink RX4 62 "DistinctDale" "lineDates" "[I", Cond.fieldLink RX4 65 "DistinctDale" "now" "I"]
def wsX4_add_r2 : List Cond := [Cond.methodLink RX4 179 yX4_put, Cond.static yX4_put, Cond.code yX4_put cX4_put 3 none, Cond.methodLink RX4 97 yX0_take, Cond.instanceMethod yX0_take, Cond.selects RX0 yX0_take yX0_take, Cond.initialized RX0, Cond.code yX0_take cX0_take 12 (some .int), Cond.fieldLink RX0 18 "DistinctDale$Basket" "size" "I", Cond.fieldLink RX0 11 "DistinctDale$Basket" "items" "[I", Cond.fieldLink RX0 15 "DistinctDale$Basket" "dates" "[I", Cond.methodLink RX0 33 Lib.Math.max.name, Cond.static Lib.Math.max.name, Cond.initialized "java/lang/Math", Cond.code Lib.Math.max.name Lib.Math.max.code 2 (some .int), Cond.methodLink RX0 22 yX0_countShared, Cond.instanceMethod yX0_countShared, Cond.selects RX0 yX0_countShared yX0_countShared, Cond.code yX0_countShared cX0_countShared 7 (some .int), Cond.static yX4_at, Cond.code yX4_at cX4_at 2 (some .int), Cond.methodLink RX0 26 yX0_makeRoomFor, Cond.instanceMethod yX0_makeRoomFor, Cond.selects RX0 yX0_makeRoomFor yX0_makeRoomFor]
def wsX4_add_r3 : List Cond := [Cond.code yX0_makeRoomFor cX0_makeRoomFor 3 none, Cond.constant RX0 44 (100000), Cond.methodLink RX0 45 Lib.Math.min.name, Cond.static Lib.Math.min.name, Cond.code Lib.Math.min.name Lib.Math.min.code 2 (some .int), Cond.methodLink RX0 48 yJ7_copyOf_59c91, Cond.static yJ7_copyOf_59c91, Cond.initialized RJ7, Cond.code yJ7_copyOf_59c91 cJ7_copyOf_59c91 3 (some (.array .int)), Cond.methodLink RJ7 316 ⟨"[I", "clone", "()Ljava/lang/Object;"⟩, Cond.sameMethod "[I" "java/lang/Object" "clone" "()Ljava/lang/Object;", Cond.native ⟨"java/lang/Object", "clone", "()Ljava/lang/Object;"⟩, Cond.instanceMethod ⟨"java/lang/Object", "clone", "()Ljava/lang/Object;"⟩, Cond.selects "[I" ⟨"[I", "clone", "()Ljava/lang/Object;"⟩ ⟨"java/lang/Object", "clone", "()Ljava/lang/Object;"⟩, Cond.classLink RJ7 317 "[I", Cond.arrayClass .int, Cond.methodLink RJ7 304 Lib.Math.min.name, Cond.methodLink RJ7 150 arraycopyName, Cond.native arraycopyName, Cond.static arraycopyName, Cond.initialized "java/lang/System"]
def wsX4_add : List Cond := .code yX4_add cX4_add 4 (some .boolean) :: ((wsX4_add_r1 ++ (wsX4_add_r2 ++ wsX4_add_r3)) ++ wsX40 ++ wsX00 ++ (vx_atS RX4 121 "java/lang/IndexOutOfBoundsException" ["java/lang/RuntimeException", "java/lang/Exception"]).filter goodWord ++ (vx_atS RX4 178 "java/lang/IllegalArgumentException" ["java/lang/RuntimeException", "java/lang/Exception"]).filter goodWord)
def wsX4_addLine_r1 : List Cond := [Cond.methodLink RX4 68 yX4_need, Cond.instanceMethod yX4_need, Cond.selects RX4 yX4_need yX4_need, Cond.initialized RX4, Cond.code yX4_need cX4_need 3 (some (.object "DistinctDale$Basket")), Cond.classLink RX4 117 "java/lang/IndexOutOfBoundsException", Cond.initialized "java/lang/IndexOutOfBoundsException", Cond.fieldLink RX4 24 "DistinctDale" "baskets" "[LDistinctDale$Basket;", Cond.methodLink RX4 72 yX4_isItem, Cond.static yX4_isItem, Cond.code yX4_isItem cX4_isItem 1 (some .boolean), Cond.constant RX4 154 (100000), Cond.methodLink RX4 76 yX4_refuseUnless, Cond.static yX4_refuseUnless, Cond.code yX4_refuseUnless cX4_refuseUnless 1 none, Cond.classLink RX4 174 "java/lang/IllegalArgumentException", Cond.initialized "java/lang/IllegalArgumentException", Cond.methodLink RX4 80 yX4_takeLine, Cond.instanceMethod yX4_takeLine, Cond.selects RX4 yX4_takeLine yX4_takeLine, Cond.code yX4_takeLine cX4_takeLine 6 (some .int), Cond.fieldLink RX4 58 "DistinctDale" "lineItems" "[I", Cond.fieldLink RX4 62 "DistinctDale" "lineDates" "[I", Cond.fieldLink RX4 65 "DistinctDale" "now" "I"]
def wsX4_addLine_r2 : List Cond := [Cond.methodLink RX4 179 yX4_put, Cond.static yX4_put, Cond.code yX4_put cX4_put 3 none, Cond.methodLink RX4 97 yX0_take, Cond.instanceMethod yX0_take, Cond.selects RX0 yX0_take yX0_take, Cond.initialized RX0, Cond.code yX0_take cX0_take 12 (some .int), Cond.fieldLink RX0 18 "DistinctDale$Basket" "size" "I", Cond.fieldLink RX0 11 "DistinctDale$Basket" "items" "[I", Cond.fieldLink RX0 15 "DistinctDale$Basket" "dates" "[I", Cond.methodLink RX0 33 Lib.Math.max.name, Cond.static Lib.Math.max.name, Cond.initialized "java/lang/Math", Cond.code Lib.Math.max.name Lib.Math.max.code 2 (some .int), Cond.methodLink RX0 22 yX0_countShared, Cond.instanceMethod yX0_countShared, Cond.selects RX0 yX0_countShared yX0_countShared, Cond.code yX0_countShared cX0_countShared 7 (some .int), Cond.static yX4_at, Cond.code yX4_at cX4_at 2 (some .int), Cond.methodLink RX0 26 yX0_makeRoomFor, Cond.instanceMethod yX0_makeRoomFor, Cond.selects RX0 yX0_makeRoomFor yX0_makeRoomFor]
def wsX4_addLine_r3 : List Cond := [Cond.code yX0_makeRoomFor cX0_makeRoomFor 3 none, Cond.constant RX0 44 (100000), Cond.methodLink RX0 45 Lib.Math.min.name, Cond.static Lib.Math.min.name, Cond.code Lib.Math.min.name Lib.Math.min.code 2 (some .int), Cond.methodLink RX0 48 yJ7_copyOf_59c91, Cond.static yJ7_copyOf_59c91, Cond.initialized RJ7, Cond.code yJ7_copyOf_59c91 cJ7_copyOf_59c91 3 (some (.array .int)), Cond.methodLink RJ7 316 ⟨"[I", "clone", "()Ljava/lang/Object;"⟩, Cond.sameMethod "[I" "java/lang/Object" "clone" "()Ljava/lang/Object;", Cond.native ⟨"java/lang/Object", "clone", "()Ljava/lang/Object;"⟩, Cond.instanceMethod ⟨"java/lang/Object", "clone", "()Ljava/lang/Object;"⟩, Cond.selects "[I" ⟨"[I", "clone", "()Ljava/lang/Object;"⟩ ⟨"java/lang/Object", "clone", "()Ljava/lang/Object;"⟩, Cond.classLink RJ7 317 "[I", Cond.arrayClass .int, Cond.methodLink RJ7 304 Lib.Math.min.name, Cond.methodLink RJ7 150 arraycopyName, Cond.native arraycopyName, Cond.static arraycopyName, Cond.initialized "java/lang/System"]
def wsX4_addLine : List Cond := .code yX4_addLine cX4_addLine 6 (some .int) :: ((wsX4_addLine_r1 ++ (wsX4_addLine_r2 ++ wsX4_addLine_r3)) ++ wsX40 ++ wsX00 ++ (vx_atS RX4 121 "java/lang/IndexOutOfBoundsException" ["java/lang/RuntimeException", "java/lang/Exception"]).filter goodWord ++ (vx_atS RX4 178 "java/lang/IllegalArgumentException" ["java/lang/RuntimeException", "java/lang/Exception"]).filter goodWord)
def wsX4_empty : List Cond := .code yX4_empty cX4_empty 2 (some .int) :: ([.methodLink RX4 68 yX4_need, .instanceMethod yX4_need, .selects RX4 yX4_need yX4_need, .initialized RX4, .code yX4_need cX4_need 3 (some (.object "DistinctDale$Basket")), .classLink RX4 117 "java/lang/IndexOutOfBoundsException", .initialized "java/lang/IndexOutOfBoundsException", .fieldLink RX4 24 "DistinctDale" "baskets" "[LDistinctDale$Basket;", .methodLink RX4 84 yX0_drain, .instanceMethod yX0_drain, .selects RX0 yX0_drain yX0_drain, .initialized RX0, .code yX0_drain cX0_drain 2 (some .int), .fieldLink RX0 18 "DistinctDale$Basket" "size" "I"] ++ wsX40 ++ wsX00 ++ (vx_atS RX4 121 "java/lang/IndexOutOfBoundsException" ["java/lang/RuntimeException", "java/lang/Exception"]).filter goodWord)
def wsX4_merge_r1 : List Cond := [Cond.fieldLink RX4 88 "DistinctDale$Basket" "items" "[I", Cond.fieldLink RX4 91 "DistinctDale$Basket" "dates" "[I", Cond.fieldLink RX4 94 "DistinctDale$Basket" "size" "I", Cond.methodLink RX4 68 yX4_need, Cond.instanceMethod yX4_need, Cond.selects RX4 yX4_need yX4_need, Cond.initialized RX4, Cond.code yX4_need cX4_need 3 (some (.object "DistinctDale$Basket")), Cond.classLink RX4 117 "java/lang/IndexOutOfBoundsException", Cond.initialized "java/lang/IndexOutOfBoundsException", Cond.fieldLink RX4 24 "DistinctDale" "baskets" "[LDistinctDale$Basket;", Cond.methodLink RX4 97 yX0_take, Cond.instanceMethod yX0_take, Cond.selects RX0 yX0_take yX0_take, Cond.initialized RX0, Cond.code yX0_take cX0_take 12 (some .int), Cond.fieldLink RX0 18 "DistinctDale$Basket" "size" "I", Cond.fieldLink RX0 11 "DistinctDale$Basket" "items" "[I", Cond.fieldLink RX0 15 "DistinctDale$Basket" "dates" "[I", Cond.methodLink RX0 33 Lib.Math.max.name, Cond.static Lib.Math.max.name, Cond.initialized "java/lang/Math", Cond.code Lib.Math.max.name Lib.Math.max.code 2 (some .int), Cond.methodLink RX0 22 yX0_countShared]
def wsX4_merge_r2 : List Cond := [Cond.instanceMethod yX0_countShared, Cond.selects RX0 yX0_countShared yX0_countShared, Cond.code yX0_countShared cX0_countShared 7 (some .int), Cond.static yX4_at, Cond.code yX4_at cX4_at 2 (some .int), Cond.methodLink RX0 26 yX0_makeRoomFor, Cond.instanceMethod yX0_makeRoomFor, Cond.selects RX0 yX0_makeRoomFor yX0_makeRoomFor, Cond.code yX0_makeRoomFor cX0_makeRoomFor 3 none, Cond.constant RX0 44 (100000), Cond.methodLink RX0 45 Lib.Math.min.name, Cond.static Lib.Math.min.name, Cond.code Lib.Math.min.name Lib.Math.min.code 2 (some .int), Cond.methodLink RX0 48 yJ7_copyOf_59c91, Cond.static yJ7_copyOf_59c91, Cond.initialized RJ7, Cond.code yJ7_copyOf_59c91 cJ7_copyOf_59c91 3 (some (.array .int)), Cond.methodLink RJ7 316 ⟨"[I", "clone", "()Ljava/lang/Object;"⟩, Cond.sameMethod "[I" "java/lang/Object" "clone" "()Ljava/lang/Object;", Cond.native ⟨"java/lang/Object", "clone", "()Ljava/lang/Object;"⟩, Cond.instanceMethod ⟨"java/lang/Object", "clone", "()Ljava/lang/Object;"⟩, Cond.selects "[I" ⟨"[I", "clone", "()Ljava/lang/Object;"⟩ ⟨"java/lang/Object", "clone", "()Ljava/lang/Object;"⟩, Cond.classLink RJ7 317 "[I", Cond.arrayClass .int]
def wsX4_merge_r3 : List Cond := [Cond.methodLink RJ7 304 Lib.Math.min.name, Cond.methodLink RJ7 150 arraycopyName, Cond.native arraycopyName, Cond.static arraycopyName, Cond.initialized "java/lang/System", Cond.static yX4_put, Cond.code yX4_put cX4_put 3 none]
def wsX4_merge : List Cond := .code yX4_merge cX4_merge 5 (some .int) :: ((wsX4_merge_r1 ++ (wsX4_merge_r2 ++ wsX4_merge_r3)) ++ wsX00 ++ wsX40 ++ (vx_atS RX4 121 "java/lang/IndexOutOfBoundsException" ["java/lang/RuntimeException", "java/lang/Exception"]).filter goodWord)
def wsX4_pass : List Cond := .code yX4_pass cX4_pass 2 (some .int) :: ([.fieldLink RX4 65 "DistinctDale" "now" "I", .methodLink RX4 76 yX4_refuseUnless, .static yX4_refuseUnless, .initialized RX4, .code yX4_refuseUnless cX4_refuseUnless 1 none, .classLink RX4 174 "java/lang/IllegalArgumentException", .initialized "java/lang/IllegalArgumentException"] ++ wsX40 ++ (vx_atS RX4 178 "java/lang/IllegalArgumentException" ["java/lang/RuntimeException", "java/lang/Exception"]).filter goodWord)
def wsX4_clock : List Cond := .code yX4_clock cX4_clock 1 (some .int) :: ([.fieldLink RX4 65 "DistinctDale" "now" "I"] ++ wsX40)
def wsX4_plain : List Cond := .code yX4_plain cX4_plain 2 (some .int) :: ([.fieldLink RX4 94 "DistinctDale$Basket" "size" "I", .methodLink RX4 68 yX4_need, .instanceMethod yX4_need, .selects RX4 yX4_need yX4_need, .initialized RX4, .code yX4_need cX4_need 3 (some (.object "DistinctDale$Basket")), .classLink RX4 117 "java/lang/IndexOutOfBoundsException", .initialized "java/lang/IndexOutOfBoundsException", .fieldLink RX4 24 "DistinctDale" "baskets" "[LDistinctDale$Basket;"] ++ wsX00 ++ wsX40 ++ (vx_atS RX4 121 "java/lang/IndexOutOfBoundsException" ["java/lang/RuntimeException", "java/lang/Exception"]).filter goodWord)
def wsX4_plainCommon : List Cond := .code yX4_plainCommon cX4_plainCommon 5 (some .int) :: ([.fieldLink RX4 88 "DistinctDale$Basket" "items" "[I", .fieldLink RX4 94 "DistinctDale$Basket" "size" "I", .methodLink RX4 68 yX4_need, .instanceMethod yX4_need, .selects RX4 yX4_need yX4_need, .initialized RX4, .code yX4_need cX4_need 3 (some (.object "DistinctDale$Basket")), .classLink RX4 117 "java/lang/IndexOutOfBoundsException", .initialized "java/lang/IndexOutOfBoundsException", .fieldLink RX4 24 "DistinctDale" "baskets" "[LDistinctDale$Basket;", .methodLink RX4 101 yX0_countShared, .instanceMethod yX0_countShared, .selects RX0 yX0_countShared yX0_countShared, .initialized RX0, .code yX0_countShared cX0_countShared 7 (some .int), .fieldLink RX0 18 "DistinctDale$Basket" "size" "I", .fieldLink RX0 11 "DistinctDale$Basket" "items" "[I", .static yX4_at, .code yX4_at cX4_at 2 (some .int)] ++ wsX00 ++ wsX40 ++ (vx_atS RX4 121 "java/lang/IndexOutOfBoundsException" ["java/lang/RuntimeException", "java/lang/Exception"]).filter goodWord)
def wsX4_dateOf_r1 : List Cond := [Cond.methodLink RX4 68 yX4_need, Cond.instanceMethod yX4_need, Cond.selects RX4 yX4_need yX4_need, Cond.initialized RX4, Cond.code yX4_need cX4_need 3 (some (.object "DistinctDale$Basket")), Cond.classLink RX4 117 "java/lang/IndexOutOfBoundsException", Cond.initialized "java/lang/IndexOutOfBoundsException", Cond.fieldLink RX4 24 "DistinctDale" "baskets" "[LDistinctDale$Basket;", Cond.methodLink RX4 72 yX4_isItem, Cond.static yX4_isItem, Cond.code yX4_isItem cX4_isItem 1 (some .boolean), Cond.constant RX4 154 (100000), Cond.methodLink RX4 76 yX4_refuseUnless, Cond.static yX4_refuseUnless, Cond.code yX4_refuseUnless cX4_refuseUnless 1 none, Cond.classLink RX4 174 "java/lang/IllegalArgumentException", Cond.initialized "java/lang/IllegalArgumentException", Cond.methodLink RX4 105 yX0_dateFor, Cond.instanceMethod yX0_dateFor, Cond.selects RX0 yX0_dateFor yX0_dateFor, Cond.initialized RX0, Cond.code yX0_dateFor cX0_dateFor 4 (some .int), Cond.constant RX0 43 (65536), Cond.fieldLink RX0 18 "DistinctDale$Basket" "size" "I"]
def wsX4_dateOf_r2 : List Cond := [Cond.fieldLink RX0 11 "DistinctDale$Basket" "items" "[I", Cond.fieldLink RX0 15 "DistinctDale$Basket" "dates" "[I", Cond.static yX4_at, Cond.code yX4_at cX4_at 2 (some .int)]
def wsX4_dateOf : List Cond := .code yX4_dateOf cX4_dateOf 4 (some .int) :: ((wsX4_dateOf_r1 ++ wsX4_dateOf_r2) ++ wsX40 ++ wsX00 ++ (vx_atS RX4 121 "java/lang/IndexOutOfBoundsException" ["java/lang/RuntimeException", "java/lang/Exception"]).filter goodWord ++ (vx_atS RX4 178 "java/lang/IllegalArgumentException" ["java/lang/RuntimeException", "java/lang/Exception"]).filter goodWord)
def wsX4_hash : List Cond := .code yX4_hash cX4_hash 2 (some .int) :: ([.methodLink RX4 72 yX4_isItem, .static yX4_isItem, .initialized RX4, .code yX4_isItem cX4_isItem 1 (some .boolean), .constant RX4 154 (100000), .methodLink RX4 76 yX4_refuseUnless, .static yX4_refuseUnless, .code yX4_refuseUnless cX4_refuseUnless 1 none, .classLink RX4 174 "java/lang/IllegalArgumentException", .initialized "java/lang/IllegalArgumentException", .methodLink RX4 109 yX4_hashFor, .static yX4_hashFor, .code yX4_hashFor cX4_hashFor 3 (some .int), .constantLong RX4 190 (69), .constantLong RX4 192 (48271), .constantLong RX4 194 (101), .constantLong RX4 196 (16777213)] ++ (vx_atS RX4 178 "java/lang/IllegalArgumentException" ["java/lang/RuntimeException", "java/lang/Exception"]).filter goodWord)
def wsX4_most : List Cond := .code yX4_most cX4_most 1 (some .int) :: ([.fieldLink RX4 18 "DistinctDale" "keptAtMost" "I"] ++ wsX40)
def wsX4_kept_r1 : List Cond := [Cond.fieldLink RX4 48 "DistinctDale" "leastOfOne" "LDistinctDale$LeastHashes;", Cond.fieldLink RX4 116 "DistinctDale$LeastHashes" "size" "I", Cond.methodLink RX4 68 yX4_need, Cond.instanceMethod yX4_need, Cond.selects RX4 yX4_need yX4_need, Cond.initialized RX4, Cond.code yX4_need cX4_need 3 (some (.object "DistinctDale$Basket")), Cond.classLink RX4 117 "java/lang/IndexOutOfBoundsException", Cond.initialized "java/lang/IndexOutOfBoundsException", Cond.fieldLink RX4 24 "DistinctDale" "baskets" "[LDistinctDale$Basket;", Cond.methodLink RX4 112 yX1_keepThoseOf, Cond.instanceMethod yX1_keepThoseOf, Cond.selects RX1 yX1_keepThoseOf yX1_keepThoseOf, Cond.initialized RX1, Cond.code yX1_keepThoseOf cX1_keepThoseOf 3 none, Cond.fieldLink RX1 25 "DistinctDale$Basket" "size" "I", Cond.fieldLink RX1 28 "DistinctDale$Basket" "items" "[I", Cond.methodLink RX1 22 yX1_forget, Cond.instanceMethod yX1_forget, Cond.selects RX1 yX1_forget yX1_forget, Cond.code yX1_forget cX1_forget 1 none, Cond.fieldLink RX1 15 "DistinctDale$LeastHashes" "size" "I", Cond.static yX4_at, Cond.code yX4_at cX4_at 2 (some .int)]
def wsX4_kept_r2 : List Cond := [Cond.static yX4_hashFor, Cond.code yX4_hashFor cX4_hashFor 3 (some .int), Cond.constantLong RX4 190 (69), Cond.constantLong RX4 192 (48271), Cond.constantLong RX4 194 (101), Cond.constantLong RX4 196 (16777213), Cond.methodLink RX1 39 yX1_offer, Cond.instanceMethod yX1_offer, Cond.selects RX1 yX1_offer yX1_offer, Cond.code yX1_offer cX1_offer 5 none, Cond.fieldLink RX1 19 "DistinctDale$LeastHashes" "limit" "I", Cond.fieldLink RX1 9 "DistinctDale$LeastHashes" "hashes" "[I", Cond.static yX4_put, Cond.code yX4_put cX4_put 3 none]
def wsX4_kept : List Cond := .code yX4_kept cX4_kept 2 (some .int) :: ((wsX4_kept_r1 ++ wsX4_kept_r2) ++ wsX40 ++ wsX10 ++ wsX00 ++ (vx_atS RX4 121 "java/lang/IndexOutOfBoundsException" ["java/lang/RuntimeException", "java/lang/Exception"]).filter goodWord)
def wsX4_keptAt_r1 : List Cond := [Cond.classLink RX4 117 "java/lang/IndexOutOfBoundsException", Cond.initialized "java/lang/IndexOutOfBoundsException", Cond.fieldLink RX4 48 "DistinctDale" "leastOfOne" "LDistinctDale$LeastHashes;", Cond.fieldLink RX4 116 "DistinctDale$LeastHashes" "size" "I", Cond.fieldLink RX4 124 "DistinctDale$LeastHashes" "hashes" "[I", Cond.methodLink RX4 68 yX4_need, Cond.instanceMethod yX4_need, Cond.selects RX4 yX4_need yX4_need, Cond.initialized RX4, Cond.code yX4_need cX4_need 3 (some (.object "DistinctDale$Basket")), Cond.fieldLink RX4 24 "DistinctDale" "baskets" "[LDistinctDale$Basket;", Cond.methodLink RX4 112 yX1_keepThoseOf, Cond.instanceMethod yX1_keepThoseOf, Cond.selects RX1 yX1_keepThoseOf yX1_keepThoseOf, Cond.initialized RX1, Cond.code yX1_keepThoseOf cX1_keepThoseOf 3 none, Cond.fieldLink RX1 25 "DistinctDale$Basket" "size" "I", Cond.fieldLink RX1 28 "DistinctDale$Basket" "items" "[I", Cond.methodLink RX1 22 yX1_forget, Cond.instanceMethod yX1_forget, Cond.selects RX1 yX1_forget yX1_forget, Cond.code yX1_forget cX1_forget 1 none, Cond.fieldLink RX1 15 "DistinctDale$LeastHashes" "size" "I", Cond.static yX4_at]
def wsX4_keptAt_r2 : List Cond := [Cond.code yX4_at cX4_at 2 (some .int), Cond.static yX4_hashFor, Cond.code yX4_hashFor cX4_hashFor 3 (some .int), Cond.constantLong RX4 190 (69), Cond.constantLong RX4 192 (48271), Cond.constantLong RX4 194 (101), Cond.constantLong RX4 196 (16777213), Cond.methodLink RX1 39 yX1_offer, Cond.instanceMethod yX1_offer, Cond.selects RX1 yX1_offer yX1_offer, Cond.code yX1_offer cX1_offer 5 none, Cond.fieldLink RX1 19 "DistinctDale$LeastHashes" "limit" "I", Cond.fieldLink RX1 9 "DistinctDale$LeastHashes" "hashes" "[I", Cond.static yX4_put, Cond.code yX4_put cX4_put 3 none, Cond.methodLink RX4 127 yX4_at]
def wsX4_keptAt : List Cond := .code yX4_keptAt cX4_keptAt 3 (some .int) :: ((wsX4_keptAt_r1 ++ wsX4_keptAt_r2) ++ wsX40 ++ wsX10 ++ wsX00 ++ (vx_atS RX4 121 "java/lang/IndexOutOfBoundsException" ["java/lang/RuntimeException", "java/lang/Exception"]).filter goodWord)
def wsX4_byLeast_r1 : List Cond := [Cond.fieldLink RX4 48 "DistinctDale" "leastOfOne" "LDistinctDale$LeastHashes;", Cond.methodLink RX4 68 yX4_need, Cond.instanceMethod yX4_need, Cond.selects RX4 yX4_need yX4_need, Cond.initialized RX4, Cond.code yX4_need cX4_need 3 (some (.object "DistinctDale$Basket")), Cond.classLink RX4 117 "java/lang/IndexOutOfBoundsException", Cond.initialized "java/lang/IndexOutOfBoundsException", Cond.fieldLink RX4 24 "DistinctDale" "baskets" "[LDistinctDale$Basket;", Cond.methodLink RX4 112 yX1_keepThoseOf, Cond.instanceMethod yX1_keepThoseOf, Cond.selects RX1 yX1_keepThoseOf yX1_keepThoseOf, Cond.initialized RX1, Cond.code yX1_keepThoseOf cX1_keepThoseOf 3 none, Cond.fieldLink RX1 25 "DistinctDale$Basket" "size" "I", Cond.fieldLink RX1 28 "DistinctDale$Basket" "items" "[I", Cond.methodLink RX1 22 yX1_forget, Cond.instanceMethod yX1_forget, Cond.selects RX1 yX1_forget yX1_forget, Cond.code yX1_forget cX1_forget 1 none, Cond.fieldLink RX1 15 "DistinctDale$LeastHashes" "size" "I", Cond.static yX4_at, Cond.code yX4_at cX4_at 2 (some .int), Cond.static yX4_hashFor]
def wsX4_byLeast_r2 : List Cond := [Cond.code yX4_hashFor cX4_hashFor 3 (some .int), Cond.constantLong RX4 190 (69), Cond.constantLong RX4 192 (48271), Cond.constantLong RX4 194 (101), Cond.constantLong RX4 196 (16777213), Cond.methodLink RX1 39 yX1_offer, Cond.instanceMethod yX1_offer, Cond.selects RX1 yX1_offer yX1_offer, Cond.code yX1_offer cX1_offer 5 none, Cond.fieldLink RX1 19 "DistinctDale$LeastHashes" "limit" "I", Cond.fieldLink RX1 9 "DistinctDale$LeastHashes" "hashes" "[I", Cond.static yX4_put, Cond.code yX4_put cX4_put 3 none, Cond.methodLink RX4 130 yX1_estimate, Cond.instanceMethod yX1_estimate, Cond.selects RX1 yX1_estimate yX1_estimate, Cond.code yX1_estimate cX1_estimate 2 (some .int), Cond.constant RX1 43 (16777213)]
def wsX4_byLeast : List Cond := .code yX4_byLeast cX4_byLeast 2 (some .int) :: ((wsX4_byLeast_r1 ++ wsX4_byLeast_r2) ++ wsX40 ++ wsX00 ++ wsX10 ++ (vx_atS RX4 121 "java/lang/IndexOutOfBoundsException" ["java/lang/RuntimeException", "java/lang/Exception"]).filter goodWord)
def wsX4_keepLeastOf_r1 : List Cond := [Cond.fieldLink RX4 48 "DistinctDale" "leastOfOne" "LDistinctDale$LeastHashes;", Cond.fieldLink RX4 52 "DistinctDale" "leastOfOther" "LDistinctDale$LeastHashes;", Cond.fieldLink RX4 55 "DistinctDale" "leastOfBoth" "LDistinctDale$LeastHashes;", Cond.methodLink RX4 112 yX1_keepThoseOf, Cond.instanceMethod yX1_keepThoseOf, Cond.selects RX1 yX1_keepThoseOf yX1_keepThoseOf, Cond.initialized RX1, Cond.code yX1_keepThoseOf cX1_keepThoseOf 3 none, Cond.fieldLink RX1 25 "DistinctDale$Basket" "size" "I", Cond.fieldLink RX1 28 "DistinctDale$Basket" "items" "[I", Cond.methodLink RX1 22 yX1_forget, Cond.instanceMethod yX1_forget, Cond.selects RX1 yX1_forget yX1_forget, Cond.code yX1_forget cX1_forget 1 none, Cond.fieldLink RX1 15 "DistinctDale$LeastHashes" "size" "I", Cond.static yX4_at, Cond.initialized RX4, Cond.code yX4_at cX4_at 2 (some .int), Cond.static yX4_hashFor, Cond.code yX4_hashFor cX4_hashFor 3 (some .int), Cond.constantLong RX4 190 (69), Cond.constantLong RX4 192 (48271), Cond.constantLong RX4 194 (101), Cond.constantLong RX4 196 (16777213)]
def wsX4_keepLeastOf_r2 : List Cond := [Cond.methodLink RX1 39 yX1_offer, Cond.instanceMethod yX1_offer, Cond.selects RX1 yX1_offer yX1_offer, Cond.code yX1_offer cX1_offer 5 none, Cond.fieldLink RX1 19 "DistinctDale$LeastHashes" "limit" "I", Cond.fieldLink RX1 9 "DistinctDale$LeastHashes" "hashes" "[I", Cond.static yX4_put, Cond.code yX4_put cX4_put 3 none, Cond.methodLink RX4 183 yX1_forget, Cond.methodLink RX4 186 yX1_offerAllOf, Cond.instanceMethod yX1_offerAllOf, Cond.selects RX1 yX1_offerAllOf yX1_offerAllOf, Cond.code yX1_offerAllOf cX1_offerAllOf 3 none]
def wsX4_keepLeastOf : List Cond := .code yX4_keepLeastOf cX4_keepLeastOf 3 none :: ((wsX4_keepLeastOf_r1 ++ wsX4_keepLeastOf_r2) ++ wsX40 ++ wsX00 ++ wsX10)
def wsX4_together_r1 : List Cond := [Cond.fieldLink RX4 55 "DistinctDale" "leastOfBoth" "LDistinctDale$LeastHashes;", Cond.methodLink RX4 68 yX4_need, Cond.instanceMethod yX4_need, Cond.selects RX4 yX4_need yX4_need, Cond.initialized RX4, Cond.code yX4_need cX4_need 3 (some (.object "DistinctDale$Basket")), Cond.classLink RX4 117 "java/lang/IndexOutOfBoundsException", Cond.initialized "java/lang/IndexOutOfBoundsException", Cond.fieldLink RX4 24 "DistinctDale" "baskets" "[LDistinctDale$Basket;", Cond.methodLink RX4 133 yX4_keepLeastOf, Cond.instanceMethod yX4_keepLeastOf, Cond.selects RX4 yX4_keepLeastOf yX4_keepLeastOf, Cond.code yX4_keepLeastOf cX4_keepLeastOf 3 none, Cond.fieldLink RX4 48 "DistinctDale" "leastOfOne" "LDistinctDale$LeastHashes;", Cond.fieldLink RX4 52 "DistinctDale" "leastOfOther" "LDistinctDale$LeastHashes;", Cond.methodLink RX4 112 yX1_keepThoseOf, Cond.instanceMethod yX1_keepThoseOf, Cond.selects RX1 yX1_keepThoseOf yX1_keepThoseOf, Cond.initialized RX1, Cond.code yX1_keepThoseOf cX1_keepThoseOf 3 none, Cond.fieldLink RX1 25 "DistinctDale$Basket" "size" "I", Cond.fieldLink RX1 28 "DistinctDale$Basket" "items" "[I", Cond.methodLink RX1 22 yX1_forget, Cond.instanceMethod yX1_forget]
def wsX4_together_r2 : List Cond := [Cond.selects RX1 yX1_forget yX1_forget, Cond.code yX1_forget cX1_forget 1 none, Cond.fieldLink RX1 15 "DistinctDale$LeastHashes" "size" "I", Cond.static yX4_at, Cond.code yX4_at cX4_at 2 (some .int), Cond.static yX4_hashFor, Cond.code yX4_hashFor cX4_hashFor 3 (some .int), Cond.constantLong RX4 190 (69), Cond.constantLong RX4 192 (48271), Cond.constantLong RX4 194 (101), Cond.constantLong RX4 196 (16777213), Cond.methodLink RX1 39 yX1_offer, Cond.instanceMethod yX1_offer, Cond.selects RX1 yX1_offer yX1_offer, Cond.code yX1_offer cX1_offer 5 none, Cond.fieldLink RX1 19 "DistinctDale$LeastHashes" "limit" "I", Cond.fieldLink RX1 9 "DistinctDale$LeastHashes" "hashes" "[I", Cond.static yX4_put, Cond.code yX4_put cX4_put 3 none, Cond.methodLink RX4 183 yX1_forget, Cond.methodLink RX4 186 yX1_offerAllOf, Cond.instanceMethod yX1_offerAllOf, Cond.selects RX1 yX1_offerAllOf yX1_offerAllOf, Cond.code yX1_offerAllOf cX1_offerAllOf 3 none]
def wsX4_together_r3 : List Cond := [Cond.methodLink RX4 130 yX1_estimate, Cond.instanceMethod yX1_estimate, Cond.selects RX1 yX1_estimate yX1_estimate, Cond.code yX1_estimate cX1_estimate 2 (some .int), Cond.constant RX1 43 (16777213)]
def wsX4_together : List Cond := .code yX4_together cX4_together 3 (some .int) :: ((wsX4_together_r1 ++ (wsX4_together_r2 ++ wsX4_together_r3)) ++ wsX40 ++ wsX00 ++ wsX10 ++ (vx_atS RX4 121 "java/lang/IndexOutOfBoundsException" ["java/lang/RuntimeException", "java/lang/Exception"]).filter goodWord)
def wsX4_common_r1 : List Cond := [Cond.fieldLink RX4 55 "DistinctDale" "leastOfBoth" "LDistinctDale$LeastHashes;", Cond.fieldLink RX4 116 "DistinctDale$LeastHashes" "size" "I", Cond.fieldLink RX4 124 "DistinctDale$LeastHashes" "hashes" "[I", Cond.fieldLink RX4 48 "DistinctDale" "leastOfOne" "LDistinctDale$LeastHashes;", Cond.fieldLink RX4 52 "DistinctDale" "leastOfOther" "LDistinctDale$LeastHashes;", Cond.methodLink RX4 68 yX4_need, Cond.instanceMethod yX4_need, Cond.selects RX4 yX4_need yX4_need, Cond.initialized RX4, Cond.code yX4_need cX4_need 3 (some (.object "DistinctDale$Basket")), Cond.classLink RX4 117 "java/lang/IndexOutOfBoundsException", Cond.initialized "java/lang/IndexOutOfBoundsException", Cond.fieldLink RX4 24 "DistinctDale" "baskets" "[LDistinctDale$Basket;", Cond.methodLink RX4 133 yX4_keepLeastOf, Cond.instanceMethod yX4_keepLeastOf, Cond.selects RX4 yX4_keepLeastOf yX4_keepLeastOf, Cond.code yX4_keepLeastOf cX4_keepLeastOf 3 none, Cond.methodLink RX4 112 yX1_keepThoseOf, Cond.instanceMethod yX1_keepThoseOf, Cond.selects RX1 yX1_keepThoseOf yX1_keepThoseOf, Cond.initialized RX1, Cond.code yX1_keepThoseOf cX1_keepThoseOf 3 none, Cond.fieldLink RX1 25 "DistinctDale$Basket" "size" "I", Cond.fieldLink RX1 28 "DistinctDale$Basket" "items" "[I"]
def wsX4_common_r2 : List Cond := [Cond.methodLink RX1 22 yX1_forget, Cond.instanceMethod yX1_forget, Cond.selects RX1 yX1_forget yX1_forget, Cond.code yX1_forget cX1_forget 1 none, Cond.fieldLink RX1 15 "DistinctDale$LeastHashes" "size" "I", Cond.static yX4_at, Cond.code yX4_at cX4_at 2 (some .int), Cond.static yX4_hashFor, Cond.code yX4_hashFor cX4_hashFor 3 (some .int), Cond.constantLong RX4 190 (69), Cond.constantLong RX4 192 (48271), Cond.constantLong RX4 194 (101), Cond.constantLong RX4 196 (16777213), Cond.methodLink RX1 39 yX1_offer, Cond.instanceMethod yX1_offer, Cond.selects RX1 yX1_offer yX1_offer, Cond.code yX1_offer cX1_offer 5 none, Cond.fieldLink RX1 19 "DistinctDale$LeastHashes" "limit" "I", Cond.fieldLink RX1 9 "DistinctDale$LeastHashes" "hashes" "[I", Cond.static yX4_put, Cond.code yX4_put cX4_put 3 none, Cond.methodLink RX4 183 yX1_forget, Cond.methodLink RX4 186 yX1_offerAllOf, Cond.instanceMethod yX1_offerAllOf]
def wsX4_common_r3 : List Cond := [Cond.selects RX1 yX1_offerAllOf yX1_offerAllOf, Cond.code yX1_offerAllOf cX1_offerAllOf 3 none, Cond.methodLink RX4 127 yX4_at, Cond.methodLink RX4 137 yX1_has, Cond.instanceMethod yX1_has, Cond.selects RX1 yX1_has yX1_has, Cond.code yX1_has cX1_has 3 (some .boolean), Cond.methodLink RX4 140 yX1_estimateOfPart, Cond.instanceMethod yX1_estimateOfPart, Cond.selects RX1 yX1_estimateOfPart yX1_estimateOfPart, Cond.code yX1_estimateOfPart cX1_estimateOfPart 2 (some .int), Cond.methodLink RX1 44 yX1_estimate, Cond.instanceMethod yX1_estimate, Cond.selects RX1 yX1_estimate yX1_estimate, Cond.code yX1_estimate cX1_estimate 2 (some .int), Cond.constant RX1 43 (16777213)]
def wsX4_common : List Cond := .code yX4_common cX4_common 6 (some .int) :: ((wsX4_common_r1 ++ (wsX4_common_r2 ++ wsX4_common_r3)) ++ wsX40 ++ wsX10 ++ wsX00 ++ (vx_atS RX4 121 "java/lang/IndexOutOfBoundsException" ["java/lang/RuntimeException", "java/lang/Exception"]).filter goodWord)
def wsX4_without_r1 : List Cond := [Cond.fieldLink RX4 55 "DistinctDale" "leastOfBoth" "LDistinctDale$LeastHashes;", Cond.fieldLink RX4 116 "DistinctDale$LeastHashes" "size" "I", Cond.fieldLink RX4 52 "DistinctDale" "leastOfOther" "LDistinctDale$LeastHashes;", Cond.fieldLink RX4 124 "DistinctDale$LeastHashes" "hashes" "[I", Cond.methodLink RX4 68 yX4_need, Cond.instanceMethod yX4_need, Cond.selects RX4 yX4_need yX4_need, Cond.initialized RX4, Cond.code yX4_need cX4_need 3 (some (.object "DistinctDale$Basket")), Cond.classLink RX4 117 "java/lang/IndexOutOfBoundsException", Cond.initialized "java/lang/IndexOutOfBoundsException", Cond.fieldLink RX4 24 "DistinctDale" "baskets" "[LDistinctDale$Basket;", Cond.methodLink RX4 133 yX4_keepLeastOf, Cond.instanceMethod yX4_keepLeastOf, Cond.selects RX4 yX4_keepLeastOf yX4_keepLeastOf, Cond.code yX4_keepLeastOf cX4_keepLeastOf 3 none, Cond.fieldLink RX4 48 "DistinctDale" "leastOfOne" "LDistinctDale$LeastHashes;", Cond.methodLink RX4 112 yX1_keepThoseOf, Cond.instanceMethod yX1_keepThoseOf, Cond.selects RX1 yX1_keepThoseOf yX1_keepThoseOf, Cond.initialized RX1, Cond.code yX1_keepThoseOf cX1_keepThoseOf 3 none, Cond.fieldLink RX1 25 "DistinctDale$Basket" "size" "I", Cond.fieldLink RX1 28 "DistinctDale$Basket" "items" "[I"]
def wsX4_without_r2 : List Cond := [Cond.methodLink RX1 22 yX1_forget, Cond.instanceMethod yX1_forget, Cond.selects RX1 yX1_forget yX1_forget, Cond.code yX1_forget cX1_forget 1 none, Cond.fieldLink RX1 15 "DistinctDale$LeastHashes" "size" "I", Cond.static yX4_at, Cond.code yX4_at cX4_at 2 (some .int), Cond.static yX4_hashFor, Cond.code yX4_hashFor cX4_hashFor 3 (some .int), Cond.constantLong RX4 190 (69), Cond.constantLong RX4 192 (48271), Cond.constantLong RX4 194 (101), Cond.constantLong RX4 196 (16777213), Cond.methodLink RX1 39 yX1_offer, Cond.instanceMethod yX1_offer, Cond.selects RX1 yX1_offer yX1_offer, Cond.code yX1_offer cX1_offer 5 none, Cond.fieldLink RX1 19 "DistinctDale$LeastHashes" "limit" "I", Cond.fieldLink RX1 9 "DistinctDale$LeastHashes" "hashes" "[I", Cond.static yX4_put, Cond.code yX4_put cX4_put 3 none, Cond.methodLink RX4 183 yX1_forget, Cond.methodLink RX4 186 yX1_offerAllOf, Cond.instanceMethod yX1_offerAllOf]
def wsX4_without_r3 : List Cond := [Cond.selects RX1 yX1_offerAllOf yX1_offerAllOf, Cond.code yX1_offerAllOf cX1_offerAllOf 3 none, Cond.methodLink RX4 127 yX4_at, Cond.methodLink RX4 137 yX1_has, Cond.instanceMethod yX1_has, Cond.selects RX1 yX1_has yX1_has, Cond.code yX1_has cX1_has 3 (some .boolean), Cond.methodLink RX4 140 yX1_estimateOfPart, Cond.instanceMethod yX1_estimateOfPart, Cond.selects RX1 yX1_estimateOfPart yX1_estimateOfPart, Cond.code yX1_estimateOfPart cX1_estimateOfPart 2 (some .int), Cond.methodLink RX1 44 yX1_estimate, Cond.instanceMethod yX1_estimate, Cond.selects RX1 yX1_estimate yX1_estimate, Cond.code yX1_estimate cX1_estimate 2 (some .int), Cond.constant RX1 43 (16777213)]
def wsX4_without : List Cond := .code yX4_without cX4_without 5 (some .int) :: ((wsX4_without_r1 ++ (wsX4_without_r2 ++ wsX4_without_r3)) ++ wsX40 ++ wsX10 ++ wsX00 ++ (vx_atS RX4 121 "java/lang/IndexOutOfBoundsException" ["java/lang/RuntimeException", "java/lang/Exception"]).filter goodWord)
def wsX4_register_r1 : List Cond := [Cond.classLink RX4 117 "java/lang/IndexOutOfBoundsException", Cond.initialized "java/lang/IndexOutOfBoundsException", Cond.fieldLink RX4 32 "DistinctDale" "registers" "LDistinctDale$Registers;", Cond.fieldLink RX4 148 "DistinctDale$Registers" "ranks" "[I", Cond.methodLink RX4 68 yX4_need, Cond.instanceMethod yX4_need, Cond.selects RX4 yX4_need yX4_need, Cond.initialized RX4, Cond.code yX4_need cX4_need 3 (some (.object "DistinctDale$Basket")), Cond.fieldLink RX4 24 "DistinctDale" "baskets" "[LDistinctDale$Basket;", Cond.methodLink RX4 145 yX2_rankAllOf, Cond.instanceMethod yX2_rankAllOf, Cond.selects RX2 yX2_rankAllOf yX2_rankAllOf, Cond.initialized RX2, Cond.code yX2_rankAllOf cX2_rankAllOf 2 none, Cond.methodLink RX2 15 yX2_rankThoseAbove, Cond.instanceMethod yX2_rankThoseAbove, Cond.selects RX2 yX2_rankThoseAbove yX2_rankThoseAbove, Cond.code yX2_rankThoseAbove cX2_rankThoseAbove 4 none, Cond.fieldLink RX2 11 "DistinctDale$Registers" "ranks" "[I", Cond.fieldLink RX2 23 "DistinctDale$Basket" "size" "I", Cond.fieldLink RX2 29 "DistinctDale$Basket" "dates" "[I", Cond.fieldLink RX2 36 "DistinctDale$Basket" "items" "[I", Cond.static yX4_put]
def wsX4_register_r2 : List Cond := [Cond.code yX4_put cX4_put 3 none, Cond.static yX4_at, Cond.code yX4_at cX4_at 2 (some .int), Cond.static yX4_hashFor, Cond.code yX4_hashFor cX4_hashFor 3 (some .int), Cond.constantLong RX4 190 (69), Cond.constantLong RX4 192 (48271), Cond.constantLong RX4 194 (101), Cond.constantLong RX4 196 (16777213), Cond.methodLink RX2 43 yX2_rank, Cond.instanceMethod yX2_rank, Cond.selects RX2 yX2_rank yX2_rank, Cond.code yX2_rank cX2_rank 4 none, Cond.static yX4_lowZeros, Cond.code yX4_lowZeros cX4_lowZeros 3 (some .int), Cond.methodLink RX4 127 yX4_at]
def wsX4_register : List Cond := .code yX4_register cX4_register 4 (some .int) :: ((wsX4_register_r1 ++ wsX4_register_r2) ++ wsX40 ++ wsX20 ++ wsX00 ++ (vx_atS RX4 121 "java/lang/IndexOutOfBoundsException" ["java/lang/RuntimeException", "java/lang/Exception"]).filter goodWord)
def wsX4_byRegisters_r1 : List Cond := [Cond.fieldLink RX4 32 "DistinctDale" "registers" "LDistinctDale$Registers;", Cond.methodLink RX4 68 yX4_need, Cond.instanceMethod yX4_need, Cond.selects RX4 yX4_need yX4_need, Cond.initialized RX4, Cond.code yX4_need cX4_need 3 (some (.object "DistinctDale$Basket")), Cond.classLink RX4 117 "java/lang/IndexOutOfBoundsException", Cond.initialized "java/lang/IndexOutOfBoundsException", Cond.fieldLink RX4 24 "DistinctDale" "baskets" "[LDistinctDale$Basket;", Cond.methodLink RX4 145 yX2_rankAllOf, Cond.instanceMethod yX2_rankAllOf, Cond.selects RX2 yX2_rankAllOf yX2_rankAllOf, Cond.initialized RX2, Cond.code yX2_rankAllOf cX2_rankAllOf 2 none, Cond.methodLink RX2 15 yX2_rankThoseAbove, Cond.instanceMethod yX2_rankThoseAbove, Cond.selects RX2 yX2_rankThoseAbove yX2_rankThoseAbove, Cond.code yX2_rankThoseAbove cX2_rankThoseAbove 4 none, Cond.fieldLink RX2 11 "DistinctDale$Registers" "ranks" "[I", Cond.fieldLink RX2 23 "DistinctDale$Basket" "size" "I", Cond.fieldLink RX2 29 "DistinctDale$Basket" "dates" "[I", Cond.fieldLink RX2 36 "DistinctDale$Basket" "items" "[I", Cond.static yX4_put, Cond.code yX4_put cX4_put 3 none]
def wsX4_byRegisters_r2 : List Cond := [Cond.static yX4_at, Cond.code yX4_at cX4_at 2 (some .int), Cond.static yX4_hashFor, Cond.code yX4_hashFor cX4_hashFor 3 (some .int), Cond.constantLong RX4 190 (69), Cond.constantLong RX4 192 (48271), Cond.constantLong RX4 194 (101), Cond.constantLong RX4 196 (16777213), Cond.methodLink RX2 43 yX2_rank, Cond.instanceMethod yX2_rank, Cond.selects RX2 yX2_rank yX2_rank, Cond.code yX2_rank cX2_rank 4 none, Cond.static yX4_lowZeros, Cond.code yX4_lowZeros cX4_lowZeros 3 (some .int), Cond.methodLink RX4 151 yX2_estimate, Cond.instanceMethod yX2_estimate, Cond.selects RX2 yX2_estimate yX2_estimate, Cond.code yX2_estimate cX2_estimate 6 (some .long), Cond.constant RX2 47 (16777216), Cond.constantLong RX2 48 (2890512990208), Cond.constantLong RX2 50 (40000), Cond.fieldLink RX2 52 "DistinctDale$Registers" "ESTIMATE_BY_ZEROS" "[I"]
def wsX4_byRegisters : List Cond := .code yX4_byRegisters cX4_byRegisters 2 (some .long) :: ((wsX4_byRegisters_r1 ++ wsX4_byRegisters_r2) ++ wsX40 ++ wsX20 ++ wsX00 ++ (vx_atS RX4 121 "java/lang/IndexOutOfBoundsException" ["java/lang/RuntimeException", "java/lang/Exception"]).filter goodWord)
def wsX4_recent_r1 : List Cond := [Cond.constant RX4 154 (100000), Cond.fieldLink RX4 32 "DistinctDale" "registers" "LDistinctDale$Registers;", Cond.fieldLink RX4 65 "DistinctDale" "now" "I", Cond.methodLink RX4 68 yX4_need, Cond.instanceMethod yX4_need, Cond.selects RX4 yX4_need yX4_need, Cond.initialized RX4, Cond.code yX4_need cX4_need 3 (some (.object "DistinctDale$Basket")), Cond.classLink RX4 117 "java/lang/IndexOutOfBoundsException", Cond.initialized "java/lang/IndexOutOfBoundsException", Cond.fieldLink RX4 24 "DistinctDale" "baskets" "[LDistinctDale$Basket;", Cond.methodLink RX4 76 yX4_refuseUnless, Cond.static yX4_refuseUnless, Cond.code yX4_refuseUnless cX4_refuseUnless 1 none, Cond.classLink RX4 174 "java/lang/IllegalArgumentException", Cond.initialized "java/lang/IllegalArgumentException", Cond.methodLink RX4 155 yX2_rankThoseAbove, Cond.instanceMethod yX2_rankThoseAbove, Cond.selects RX2 yX2_rankThoseAbove yX2_rankThoseAbove, Cond.initialized RX2, Cond.code yX2_rankThoseAbove cX2_rankThoseAbove 4 none, Cond.fieldLink RX2 11 "DistinctDale$Registers" "ranks" "[I", Cond.fieldLink RX2 23 "DistinctDale$Basket" "size" "I", Cond.fieldLink RX2 29 "DistinctDale$Basket" "dates" "[I"]
def wsX4_recent_r2 : List Cond := [Cond.fieldLink RX2 36 "DistinctDale$Basket" "items" "[I", Cond.static yX4_put, Cond.code yX4_put cX4_put 3 none, Cond.static yX4_at, Cond.code yX4_at cX4_at 2 (some .int), Cond.static yX4_hashFor, Cond.code yX4_hashFor cX4_hashFor 3 (some .int), Cond.constantLong RX4 190 (69), Cond.constantLong RX4 192 (48271), Cond.constantLong RX4 194 (101), Cond.constantLong RX4 196 (16777213), Cond.methodLink RX2 43 yX2_rank, Cond.instanceMethod yX2_rank, Cond.selects RX2 yX2_rank yX2_rank, Cond.code yX2_rank cX2_rank 4 none, Cond.static yX4_lowZeros, Cond.code yX4_lowZeros cX4_lowZeros 3 (some .int), Cond.methodLink RX4 151 yX2_estimate, Cond.instanceMethod yX2_estimate, Cond.selects RX2 yX2_estimate yX2_estimate, Cond.code yX2_estimate cX2_estimate 6 (some .long), Cond.constant RX2 47 (16777216), Cond.constantLong RX2 48 (2890512990208), Cond.constantLong RX2 50 (40000)]
def wsX4_recent_r3 : List Cond := [Cond.fieldLink RX2 52 "DistinctDale$Registers" "ESTIMATE_BY_ZEROS" "[I"]
def wsX4_recent : List Cond := .code yX4_recent cX4_recent 4 (some .long) :: ((wsX4_recent_r1 ++ (wsX4_recent_r2 ++ wsX4_recent_r3)) ++ wsX40 ++ wsX20 ++ wsX00 ++ (vx_atS RX4 121 "java/lang/IndexOutOfBoundsException" ["java/lang/RuntimeException", "java/lang/Exception"]).filter goodWord ++ (vx_atS RX4 178 "java/lang/IllegalArgumentException" ["java/lang/RuntimeException", "java/lang/Exception"]).filter goodWord)
def wsX4_level_r1 : List Cond := [Cond.fieldLink RX4 39 "DistinctDale" "thinning" "LDistinctDale$Thinning;", Cond.fieldLink RX4 162 "DistinctDale$Thinning" "levelFound" "I", Cond.methodLink RX4 68 yX4_need, Cond.instanceMethod yX4_need, Cond.selects RX4 yX4_need yX4_need, Cond.initialized RX4, Cond.code yX4_need cX4_need 3 (some (.object "DistinctDale$Basket")), Cond.classLink RX4 117 "java/lang/IndexOutOfBoundsException", Cond.initialized "java/lang/IndexOutOfBoundsException", Cond.fieldLink RX4 24 "DistinctDale" "baskets" "[LDistinctDale$Basket;", Cond.methodLink RX4 159 yX3_thin, Cond.instanceMethod yX3_thin, Cond.selects RX3 yX3_thin yX3_thin, Cond.initialized RX3, Cond.code yX3_thin cX3_thin 4 none, Cond.fieldLink RX3 11 "DistinctDale$Thinning" "itemsByLowZeros" "[I", Cond.fieldLink RX3 26 "DistinctDale$Basket" "size" "I", Cond.fieldLink RX3 29 "DistinctDale$Basket" "items" "[I", Cond.fieldLink RX3 15 "DistinctDale$Thinning" "levelFound" "I", Cond.fieldLink RX3 19 "DistinctDale$Thinning" "size" "I", Cond.static yX4_put, Cond.code yX4_put cX4_put 3 none, Cond.static yX4_at, Cond.code yX4_at cX4_at 2 (some .int)]
def wsX4_level_r2 : List Cond := [Cond.methodLink RX3 36 yX3_lowZerosOf, Cond.static yX3_lowZerosOf, Cond.code yX3_lowZerosOf cX3_lowZerosOf 1 (some .int), Cond.static yX4_hashFor, Cond.code yX4_hashFor cX4_hashFor 3 (some .int), Cond.constantLong RX4 190 (69), Cond.constantLong RX4 192 (48271), Cond.constantLong RX4 194 (101), Cond.constantLong RX4 196 (16777213), Cond.static yX4_lowZeros, Cond.code yX4_lowZeros cX4_lowZeros 3 (some .int)]
def wsX4_level : List Cond := .code yX4_level cX4_level 2 (some .int) :: ((wsX4_level_r1 ++ wsX4_level_r2) ++ wsX40 ++ wsX30 ++ wsX00 ++ (vx_atS RX4 121 "java/lang/IndexOutOfBoundsException" ["java/lang/RuntimeException", "java/lang/Exception"]).filter goodWord)
def wsX4_sampled_r1 : List Cond := [Cond.fieldLink RX4 39 "DistinctDale" "thinning" "LDistinctDale$Thinning;", Cond.fieldLink RX4 165 "DistinctDale$Thinning" "size" "I", Cond.methodLink RX4 68 yX4_need, Cond.instanceMethod yX4_need, Cond.selects RX4 yX4_need yX4_need, Cond.initialized RX4, Cond.code yX4_need cX4_need 3 (some (.object "DistinctDale$Basket")), Cond.classLink RX4 117 "java/lang/IndexOutOfBoundsException", Cond.initialized "java/lang/IndexOutOfBoundsException", Cond.fieldLink RX4 24 "DistinctDale" "baskets" "[LDistinctDale$Basket;", Cond.methodLink RX4 159 yX3_thin, Cond.instanceMethod yX3_thin, Cond.selects RX3 yX3_thin yX3_thin, Cond.initialized RX3, Cond.code yX3_thin cX3_thin 4 none, Cond.fieldLink RX3 11 "DistinctDale$Thinning" "itemsByLowZeros" "[I", Cond.fieldLink RX3 26 "DistinctDale$Basket" "size" "I", Cond.fieldLink RX3 29 "DistinctDale$Basket" "items" "[I", Cond.fieldLink RX3 15 "DistinctDale$Thinning" "levelFound" "I", Cond.fieldLink RX3 19 "DistinctDale$Thinning" "size" "I", Cond.static yX4_put, Cond.code yX4_put cX4_put 3 none, Cond.static yX4_at, Cond.code yX4_at cX4_at 2 (some .int)]
def wsX4_sampled_r2 : List Cond := [Cond.methodLink RX3 36 yX3_lowZerosOf, Cond.static yX3_lowZerosOf, Cond.code yX3_lowZerosOf cX3_lowZerosOf 1 (some .int), Cond.static yX4_hashFor, Cond.code yX4_hashFor cX4_hashFor 3 (some .int), Cond.constantLong RX4 190 (69), Cond.constantLong RX4 192 (48271), Cond.constantLong RX4 194 (101), Cond.constantLong RX4 196 (16777213), Cond.static yX4_lowZeros, Cond.code yX4_lowZeros cX4_lowZeros 3 (some .int)]
def wsX4_sampled : List Cond := .code yX4_sampled cX4_sampled 2 (some .int) :: ((wsX4_sampled_r1 ++ wsX4_sampled_r2) ++ wsX40 ++ wsX30 ++ wsX00 ++ (vx_atS RX4 121 "java/lang/IndexOutOfBoundsException" ["java/lang/RuntimeException", "java/lang/Exception"]).filter goodWord)
def wsX4_sampledAt_r1 : List Cond := [Cond.classLink RX4 117 "java/lang/IndexOutOfBoundsException", Cond.initialized "java/lang/IndexOutOfBoundsException", Cond.fieldLink RX4 39 "DistinctDale" "thinning" "LDistinctDale$Thinning;", Cond.fieldLink RX4 165 "DistinctDale$Thinning" "size" "I", Cond.methodLink RX4 68 yX4_need, Cond.instanceMethod yX4_need, Cond.selects RX4 yX4_need yX4_need, Cond.initialized RX4, Cond.code yX4_need cX4_need 3 (some (.object "DistinctDale$Basket")), Cond.fieldLink RX4 24 "DistinctDale" "baskets" "[LDistinctDale$Basket;", Cond.methodLink RX4 159 yX3_thin, Cond.instanceMethod yX3_thin, Cond.selects RX3 yX3_thin yX3_thin, Cond.initialized RX3, Cond.code yX3_thin cX3_thin 4 none, Cond.fieldLink RX3 11 "DistinctDale$Thinning" "itemsByLowZeros" "[I", Cond.fieldLink RX3 26 "DistinctDale$Basket" "size" "I", Cond.fieldLink RX3 29 "DistinctDale$Basket" "items" "[I", Cond.fieldLink RX3 15 "DistinctDale$Thinning" "levelFound" "I", Cond.fieldLink RX3 19 "DistinctDale$Thinning" "size" "I", Cond.static yX4_put, Cond.code yX4_put cX4_put 3 none, Cond.static yX4_at, Cond.code yX4_at cX4_at 2 (some .int)]
def wsX4_sampledAt_r2 : List Cond := [Cond.methodLink RX3 36 yX3_lowZerosOf, Cond.static yX3_lowZerosOf, Cond.code yX3_lowZerosOf cX3_lowZerosOf 1 (some .int), Cond.static yX4_hashFor, Cond.code yX4_hashFor cX4_hashFor 3 (some .int), Cond.constantLong RX4 190 (69), Cond.constantLong RX4 192 (48271), Cond.constantLong RX4 194 (101), Cond.constantLong RX4 196 (16777213), Cond.static yX4_lowZeros, Cond.code yX4_lowZeros cX4_lowZeros 3 (some .int), Cond.methodLink RX4 168 yX3_itemAt, Cond.instanceMethod yX3_itemAt, Cond.selects RX3 yX3_itemAt yX3_itemAt, Cond.code yX3_itemAt cX3_itemAt 6 (some .int)]
def wsX4_sampledAt : List Cond := .code yX4_sampledAt cX4_sampledAt 4 (some .int) :: ((wsX4_sampledAt_r1 ++ wsX4_sampledAt_r2) ++ wsX40 ++ wsX30 ++ wsX00 ++ (vx_atS RX4 121 "java/lang/IndexOutOfBoundsException" ["java/lang/RuntimeException", "java/lang/Exception"]).filter goodWord)
def wsX4_bySample_r1 : List Cond := [Cond.fieldLink RX4 39 "DistinctDale" "thinning" "LDistinctDale$Thinning;", Cond.fieldLink RX4 165 "DistinctDale$Thinning" "size" "I", Cond.fieldLink RX4 162 "DistinctDale$Thinning" "levelFound" "I", Cond.methodLink RX4 68 yX4_need, Cond.instanceMethod yX4_need, Cond.selects RX4 yX4_need yX4_need, Cond.initialized RX4, Cond.code yX4_need cX4_need 3 (some (.object "DistinctDale$Basket")), Cond.classLink RX4 117 "java/lang/IndexOutOfBoundsException", Cond.initialized "java/lang/IndexOutOfBoundsException", Cond.fieldLink RX4 24 "DistinctDale" "baskets" "[LDistinctDale$Basket;", Cond.methodLink RX4 159 yX3_thin, Cond.instanceMethod yX3_thin, Cond.selects RX3 yX3_thin yX3_thin, Cond.initialized RX3, Cond.code yX3_thin cX3_thin 4 none, Cond.fieldLink RX3 11 "DistinctDale$Thinning" "itemsByLowZeros" "[I", Cond.fieldLink RX3 26 "DistinctDale$Basket" "size" "I", Cond.fieldLink RX3 29 "DistinctDale$Basket" "items" "[I", Cond.fieldLink RX3 15 "DistinctDale$Thinning" "levelFound" "I", Cond.fieldLink RX3 19 "DistinctDale$Thinning" "size" "I", Cond.static yX4_put, Cond.code yX4_put cX4_put 3 none, Cond.static yX4_at]
def wsX4_bySample_r2 : List Cond := [Cond.code yX4_at cX4_at 2 (some .int), Cond.methodLink RX3 36 yX3_lowZerosOf, Cond.static yX3_lowZerosOf, Cond.code yX3_lowZerosOf cX3_lowZerosOf 1 (some .int), Cond.static yX4_hashFor, Cond.code yX4_hashFor cX4_hashFor 3 (some .int), Cond.constantLong RX4 190 (69), Cond.constantLong RX4 192 (48271), Cond.constantLong RX4 194 (101), Cond.constantLong RX4 196 (16777213), Cond.static yX4_lowZeros, Cond.code yX4_lowZeros cX4_lowZeros 3 (some .int)]
def wsX4_bySample : List Cond := .code yX4_bySample cX4_bySample 2 (some .int) :: ((wsX4_bySample_r1 ++ wsX4_bySample_r2) ++ wsX40 ++ wsX30 ++ wsX00 ++ (vx_atS RX4 121 "java/lang/IndexOutOfBoundsException" ["java/lang/RuntimeException", "java/lang/Exception"]).filter goodWord)
def wsX5_init : List Cond := .code yX5_init cX5_init 3 none :: ([.methodLink RX5 1 objectInit, .instanceMethod objectInit, .code objectInit ⟨#[0xb1]⟩ 1 none, .constant RX5 7 (600000), .arrayClass .int, .fieldLink RX5 8 "DistinctDaleModel" "dates" "[I", .constant RX5 14 (100000), .fieldLink RX5 15 "DistinctDaleModel" "items" "[I", .arrayClass .boolean, .fieldLink RX5 18 "DistinctDaleModel" "isListed" "[Z", .fieldLink RX5 22 "DistinctDaleModel" "kept" "[I", .fieldLink RX5 25 "DistinctDaleModel" "other" "[I", .fieldLink RX5 28 "DistinctDaleModel" "both" "[I", .fieldLink RX5 31 "DistinctDaleModel" "registers" "[I", .constant RX5 34 (44361), .constant RX5 35 (33271), .fieldLink RX5 36 "DistinctDaleModel" "few" "[I", .fieldLink RX5 39 "DistinctDaleModel" "k" "I"] ++ wsX50)
def wsX5_thrown : List Cond := .code yX5_thrown cX5_thrown 1 (some .int) :: ([.fieldLink RX5 43 "DistinctDaleModel" "thrown" "I"] ++ wsX50)
def wsX5_goesWell : List Cond := .code yX5_goesWell cX5_goesWell 2 (some .boolean) :: ([.fieldLink RX5 43 "DistinctDaleModel" "thrown" "I"] ++ wsX50)
def wsX5_isBasket : List Cond := .code yX5_isBasket cX5_isBasket 1 (some .boolean) :: ([])
def wsX5_isItem : List Cond := .code yX5_isItem cX5_isItem 1 (some .boolean) :: ([.constant RX5 14 (100000)])
def wsX5_hashOf : List Cond := .code yX5_hashOf cX5_hashOf 1 (some .int) :: ([.constantLong RX5 46 (69), .constantLong RX5 48 (48271), .constantLong RX5 50 (101), .constantLong RX5 52 (16777213)])
def wsX5_has : List Cond := .code yX5_has cX5_has 3 (some .boolean) :: ([.fieldLink RX5 8 "DistinctDaleModel" "dates" "[I", .constant RX5 14 (100000)] ++ wsX50)
def wsX5_put : List Cond := .code yX5_put cX5_put 5 (some .boolean) :: ([.fieldLink RX5 8 "DistinctDaleModel" "dates" "[I", .constant RX5 14 (100000), .fieldLink RX5 18 "DistinctDaleModel" "isListed" "[Z", .fieldLink RX5 15 "DistinctDaleModel" "items" "[I", .fieldLink RX5 58 "DistinctDaleModel" "listed" "I", .methodLink RX5 54 yX5_has, .instanceMethod yX5_has, .selects RX5 yX5_has yX5_has, .initialized RX5, .code yX5_has cX5_has 3 (some .boolean)] ++ wsX50)
def wsX5_add_r1 : List Cond := [Cond.fieldLink RX5 71 "DistinctDaleModel" "now" "I", Cond.methodLink RX5 61 yX5_isBasket, Cond.static yX5_isBasket, Cond.initialized RX5, Cond.code yX5_isBasket cX5_isBasket 1 (some .boolean), Cond.methodLink RX5 65 yX5_isItem, Cond.static yX5_isItem, Cond.code yX5_isItem cX5_isItem 1 (some .boolean), Cond.constant RX5 14 (100000), Cond.methodLink RX5 68 yX5_goesWell, Cond.instanceMethod yX5_goesWell, Cond.selects RX5 yX5_goesWell yX5_goesWell, Cond.code yX5_goesWell cX5_goesWell 2 (some .boolean), Cond.fieldLink RX5 43 "DistinctDaleModel" "thrown" "I", Cond.methodLink RX5 74 yX5_put, Cond.instanceMethod yX5_put, Cond.selects RX5 yX5_put yX5_put, Cond.code yX5_put cX5_put 5 (some .boolean), Cond.fieldLink RX5 8 "DistinctDaleModel" "dates" "[I", Cond.fieldLink RX5 18 "DistinctDaleModel" "isListed" "[Z", Cond.fieldLink RX5 15 "DistinctDaleModel" "items" "[I", Cond.fieldLink RX5 58 "DistinctDaleModel" "listed" "I", Cond.methodLink RX5 54 yX5_has, Cond.instanceMethod yX5_has]
def wsX5_add_r2 : List Cond := [Cond.selects RX5 yX5_has yX5_has, Cond.code yX5_has cX5_has 3 (some .boolean)]
def wsX5_add : List Cond := .code yX5_add cX5_add 3 (some .boolean) :: ((wsX5_add_r1 ++ wsX5_add_r2) ++ wsX50)
def wsX5_addLine_r1 : List Cond := [Cond.fieldLink RX5 71 "DistinctDaleModel" "now" "I", Cond.methodLink RX5 65 yX5_isItem, Cond.static yX5_isItem, Cond.initialized RX5, Cond.code yX5_isItem cX5_isItem 1 (some .boolean), Cond.constant RX5 14 (100000), Cond.methodLink RX5 61 yX5_isBasket, Cond.static yX5_isBasket, Cond.code yX5_isBasket cX5_isBasket 1 (some .boolean), Cond.methodLink RX5 68 yX5_goesWell, Cond.instanceMethod yX5_goesWell, Cond.selects RX5 yX5_goesWell yX5_goesWell, Cond.code yX5_goesWell cX5_goesWell 2 (some .boolean), Cond.fieldLink RX5 43 "DistinctDaleModel" "thrown" "I", Cond.methodLink RX5 74 yX5_put, Cond.instanceMethod yX5_put, Cond.selects RX5 yX5_put yX5_put, Cond.code yX5_put cX5_put 5 (some .boolean), Cond.fieldLink RX5 8 "DistinctDaleModel" "dates" "[I", Cond.fieldLink RX5 18 "DistinctDaleModel" "isListed" "[Z", Cond.fieldLink RX5 15 "DistinctDaleModel" "items" "[I", Cond.fieldLink RX5 58 "DistinctDaleModel" "listed" "I", Cond.methodLink RX5 54 yX5_has, Cond.instanceMethod yX5_has]
def wsX5_addLine_r2 : List Cond := [Cond.selects RX5 yX5_has yX5_has, Cond.code yX5_has cX5_has 3 (some .boolean)]
def wsX5_addLine : List Cond := .code yX5_addLine cX5_addLine 8 (some .int) :: ((wsX5_addLine_r1 ++ wsX5_addLine_r2) ++ wsX50)
def wsX5_count : List Cond := .code yX5_count cX5_count 4 (some .int) :: ([.fieldLink RX5 58 "DistinctDaleModel" "listed" "I", .fieldLink RX5 15 "DistinctDaleModel" "items" "[I", .methodLink RX5 54 yX5_has, .instanceMethod yX5_has, .selects RX5 yX5_has yX5_has, .initialized RX5, .code yX5_has cX5_has 3 (some .boolean), .fieldLink RX5 8 "DistinctDaleModel" "dates" "[I", .constant RX5 14 (100000)] ++ wsX50)
def wsX5_empty : List Cond := .code yX5_empty cX5_empty 4 (some .int) :: ([.fieldLink RX5 58 "DistinctDaleModel" "listed" "I", .fieldLink RX5 8 "DistinctDaleModel" "dates" "[I", .constant RX5 14 (100000), .fieldLink RX5 15 "DistinctDaleModel" "items" "[I", .methodLink RX5 61 yX5_isBasket, .static yX5_isBasket, .initialized RX5, .code yX5_isBasket cX5_isBasket 1 (some .boolean), .methodLink RX5 68 yX5_goesWell, .instanceMethod yX5_goesWell, .selects RX5 yX5_goesWell yX5_goesWell, .code yX5_goesWell cX5_goesWell 2 (some .boolean), .fieldLink RX5 43 "DistinctDaleModel" "thrown" "I", .methodLink RX5 78 yX5_count, .instanceMethod yX5_count, .selects RX5 yX5_count yX5_count, .code yX5_count cX5_count 4 (some .int), .methodLink RX5 54 yX5_has, .instanceMethod yX5_has, .selects RX5 yX5_has yX5_has, .code yX5_has cX5_has 3 (some .boolean)] ++ wsX50)
def wsX5_merge : List Cond := .code yX5_merge cX5_merge 6 (some .int) :: ([.fieldLink RX5 58 "DistinctDaleModel" "listed" "I", .fieldLink RX5 15 "DistinctDaleModel" "items" "[I", .fieldLink RX5 8 "DistinctDaleModel" "dates" "[I", .constant RX5 14 (100000), .methodLink RX5 61 yX5_isBasket, .static yX5_isBasket, .initialized RX5, .code yX5_isBasket cX5_isBasket 1 (some .boolean), .methodLink RX5 68 yX5_goesWell, .instanceMethod yX5_goesWell, .selects RX5 yX5_goesWell yX5_goesWell, .code yX5_goesWell cX5_goesWell 2 (some .boolean), .fieldLink RX5 43 "DistinctDaleModel" "thrown" "I", .methodLink RX5 54 yX5_has, .instanceMethod yX5_has, .selects RX5 yX5_has yX5_has, .code yX5_has cX5_has 3 (some .boolean), .methodLink RX5 74 yX5_put, .instanceMethod yX5_put, .selects RX5 yX5_put yX5_put, .code yX5_put cX5_put 5 (some .boolean), .fieldLink RX5 18 "DistinctDaleModel" "isListed" "[Z"] ++ wsX50)
def wsX5_pass : List Cond := .code yX5_pass cX5_pass 2 (some .int) :: ([.fieldLink RX5 71 "DistinctDaleModel" "now" "I", .methodLink RX5 68 yX5_goesWell, .instanceMethod yX5_goesWell, .selects RX5 yX5_goesWell yX5_goesWell, .initialized RX5, .code yX5_goesWell cX5_goesWell 2 (some .boolean), .fieldLink RX5 43 "DistinctDaleModel" "thrown" "I"] ++ wsX50)
def wsX5_clock : List Cond := .code yX5_clock cX5_clock 1 (some .int) :: ([.fieldLink RX5 43 "DistinctDaleModel" "thrown" "I", .fieldLink RX5 71 "DistinctDaleModel" "now" "I"] ++ wsX50)
def wsX5_plain : List Cond := .code yX5_plain cX5_plain 2 (some .int) :: ([.methodLink RX5 61 yX5_isBasket, .static yX5_isBasket, .initialized RX5, .code yX5_isBasket cX5_isBasket 1 (some .boolean), .methodLink RX5 68 yX5_goesWell, .instanceMethod yX5_goesWell, .selects RX5 yX5_goesWell yX5_goesWell, .code yX5_goesWell cX5_goesWell 2 (some .boolean), .fieldLink RX5 43 "DistinctDaleModel" "thrown" "I", .methodLink RX5 78 yX5_count, .instanceMethod yX5_count, .selects RX5 yX5_count yX5_count, .code yX5_count cX5_count 4 (some .int), .fieldLink RX5 58 "DistinctDaleModel" "listed" "I", .fieldLink RX5 15 "DistinctDaleModel" "items" "[I", .methodLink RX5 54 yX5_has, .instanceMethod yX5_has, .selects RX5 yX5_has yX5_has, .code yX5_has cX5_has 3 (some .boolean), .fieldLink RX5 8 "DistinctDaleModel" "dates" "[I", .constant RX5 14 (100000)] ++ wsX50)
def wsX5_plainCommon : List Cond := .code yX5_plainCommon cX5_plainCommon 5 (some .int) :: ([.fieldLink RX5 58 "DistinctDaleModel" "listed" "I", .fieldLink RX5 15 "DistinctDaleModel" "items" "[I", .methodLink RX5 61 yX5_isBasket, .static yX5_isBasket, .initialized RX5, .code yX5_isBasket cX5_isBasket 1 (some .boolean), .methodLink RX5 68 yX5_goesWell, .instanceMethod yX5_goesWell, .selects RX5 yX5_goesWell yX5_goesWell, .code yX5_goesWell cX5_goesWell 2 (some .boolean), .fieldLink RX5 43 "DistinctDaleModel" "thrown" "I", .methodLink RX5 54 yX5_has, .instanceMethod yX5_has, .selects RX5 yX5_has yX5_has, .code yX5_has cX5_has 3 (some .boolean), .fieldLink RX5 8 "DistinctDaleModel" "dates" "[I", .constant RX5 14 (100000)] ++ wsX50)
def wsX5_dateOf : List Cond := .code yX5_dateOf cX5_dateOf 3 (some .int) :: ([.fieldLink RX5 8 "DistinctDaleModel" "dates" "[I", .constant RX5 14 (100000), .methodLink RX5 61 yX5_isBasket, .static yX5_isBasket, .initialized RX5, .code yX5_isBasket cX5_isBasket 1 (some .boolean), .methodLink RX5 65 yX5_isItem, .static yX5_isItem, .code yX5_isItem cX5_isItem 1 (some .boolean), .methodLink RX5 68 yX5_goesWell, .instanceMethod yX5_goesWell, .selects RX5 yX5_goesWell yX5_goesWell, .code yX5_goesWell cX5_goesWell 2 (some .boolean), .fieldLink RX5 43 "DistinctDaleModel" "thrown" "I"] ++ wsX50)
def wsX5_hash : List Cond := .code yX5_hash cX5_hash 2 (some .int) :: ([.methodLink RX5 65 yX5_isItem, .static yX5_isItem, .initialized RX5, .code yX5_isItem cX5_isItem 1 (some .boolean), .constant RX5 14 (100000), .methodLink RX5 68 yX5_goesWell, .instanceMethod yX5_goesWell, .selects RX5 yX5_goesWell yX5_goesWell, .code yX5_goesWell cX5_goesWell 2 (some .boolean), .fieldLink RX5 43 "DistinctDaleModel" "thrown" "I", .methodLink RX5 82 yX5_hashOf, .static yX5_hashOf, .code yX5_hashOf cX5_hashOf 1 (some .int), .constantLong RX5 46 (69), .constantLong RX5 48 (48271), .constantLong RX5 50 (101), .constantLong RX5 52 (16777213)] ++ wsX50)
def wsX5_most : List Cond := .code yX5_most cX5_most 1 (some .int) :: ([.fieldLink RX5 43 "DistinctDaleModel" "thrown" "I", .fieldLink RX5 39 "DistinctDaleModel" "k" "I"] ++ wsX50)
def wsX5_above : List Cond := .code yX5_above cX5_above 7 (some .int) :: ([.fieldLink RX5 58 "DistinctDaleModel" "listed" "I", .fieldLink RX5 15 "DistinctDaleModel" "items" "[I", .methodLink RX5 82 yX5_hashOf, .static yX5_hashOf, .initialized RX5, .code yX5_hashOf cX5_hashOf 1 (some .int), .constantLong RX5 46 (69), .constantLong RX5 48 (48271), .constantLong RX5 50 (101), .constantLong RX5 52 (16777213), .methodLink RX5 54 yX5_has, .instanceMethod yX5_has, .selects RX5 yX5_has yX5_has, .code yX5_has cX5_has 3 (some .boolean), .fieldLink RX5 8 "DistinctDaleModel" "dates" "[I", .constant RX5 14 (100000)] ++ wsX50)
def wsX5_layKept : List Cond := .code yX5_layKept cX5_layKept 4 (some .int) :: ([.fieldLink RX5 39 "DistinctDaleModel" "k" "I", .fieldLink RX5 22 "DistinctDaleModel" "kept" "[I", .methodLink RX5 85 yX5_above, .instanceMethod yX5_above, .selects RX5 yX5_above yX5_above, .initialized RX5, .code yX5_above cX5_above 7 (some .int), .fieldLink RX5 58 "DistinctDaleModel" "listed" "I", .fieldLink RX5 15 "DistinctDaleModel" "items" "[I", .methodLink RX5 82 yX5_hashOf, .static yX5_hashOf, .code yX5_hashOf cX5_hashOf 1 (some .int), .constantLong RX5 46 (69), .constantLong RX5 48 (48271), .constantLong RX5 50 (101), .constantLong RX5 52 (16777213), .methodLink RX5 54 yX5_has, .instanceMethod yX5_has, .selects RX5 yX5_has yX5_has, .code yX5_has cX5_has 3 (some .boolean), .fieldLink RX5 8 "DistinctDaleModel" "dates" "[I", .constant RX5 14 (100000)] ++ wsX50)
def wsX5_estimate : List Cond := .code yX5_estimate cX5_estimate 3 (some .long) :: ([.fieldLink RX5 39 "DistinctDaleModel" "k" "I", .constantLong RX5 52 (16777213)] ++ wsX50)
def wsX5_kept_r1 : List Cond := [Cond.methodLink RX5 61 yX5_isBasket, Cond.static yX5_isBasket, Cond.initialized RX5, Cond.code yX5_isBasket cX5_isBasket 1 (some .boolean), Cond.methodLink RX5 68 yX5_goesWell, Cond.instanceMethod yX5_goesWell, Cond.selects RX5 yX5_goesWell yX5_goesWell, Cond.code yX5_goesWell cX5_goesWell 2 (some .boolean), Cond.fieldLink RX5 43 "DistinctDaleModel" "thrown" "I", Cond.methodLink RX5 89 yX5_layKept, Cond.instanceMethod yX5_layKept, Cond.selects RX5 yX5_layKept yX5_layKept, Cond.code yX5_layKept cX5_layKept 4 (some .int), Cond.fieldLink RX5 39 "DistinctDaleModel" "k" "I", Cond.fieldLink RX5 22 "DistinctDaleModel" "kept" "[I", Cond.methodLink RX5 85 yX5_above, Cond.instanceMethod yX5_above, Cond.selects RX5 yX5_above yX5_above, Cond.code yX5_above cX5_above 7 (some .int), Cond.fieldLink RX5 58 "DistinctDaleModel" "listed" "I", Cond.fieldLink RX5 15 "DistinctDaleModel" "items" "[I", Cond.methodLink RX5 82 yX5_hashOf, Cond.static yX5_hashOf, Cond.code yX5_hashOf cX5_hashOf 1 (some .int)]
def wsX5_kept_r2 : List Cond := [Cond.constantLong RX5 46 (69), Cond.constantLong RX5 48 (48271), Cond.constantLong RX5 50 (101), Cond.constantLong RX5 52 (16777213), Cond.methodLink RX5 54 yX5_has, Cond.instanceMethod yX5_has, Cond.selects RX5 yX5_has yX5_has, Cond.code yX5_has cX5_has 3 (some .boolean), Cond.fieldLink RX5 8 "DistinctDaleModel" "dates" "[I", Cond.constant RX5 14 (100000)]
def wsX5_kept : List Cond := .code yX5_kept cX5_kept 2 (some .int) :: ((wsX5_kept_r1 ++ wsX5_kept_r2) ++ wsX50)
def wsX5_keptAt_r1 : List Cond := [Cond.fieldLink RX5 22 "DistinctDaleModel" "kept" "[I", Cond.methodLink RX5 61 yX5_isBasket, Cond.static yX5_isBasket, Cond.initialized RX5, Cond.code yX5_isBasket cX5_isBasket 1 (some .boolean), Cond.methodLink RX5 89 yX5_layKept, Cond.instanceMethod yX5_layKept, Cond.selects RX5 yX5_layKept yX5_layKept, Cond.code yX5_layKept cX5_layKept 4 (some .int), Cond.fieldLink RX5 39 "DistinctDaleModel" "k" "I", Cond.methodLink RX5 85 yX5_above, Cond.instanceMethod yX5_above, Cond.selects RX5 yX5_above yX5_above, Cond.code yX5_above cX5_above 7 (some .int), Cond.fieldLink RX5 58 "DistinctDaleModel" "listed" "I", Cond.fieldLink RX5 15 "DistinctDaleModel" "items" "[I", Cond.methodLink RX5 82 yX5_hashOf, Cond.static yX5_hashOf, Cond.code yX5_hashOf cX5_hashOf 1 (some .int), Cond.constantLong RX5 46 (69), Cond.constantLong RX5 48 (48271), Cond.constantLong RX5 50 (101), Cond.constantLong RX5 52 (16777213), Cond.methodLink RX5 54 yX5_has]
def wsX5_keptAt_r2 : List Cond := [Cond.instanceMethod yX5_has, Cond.selects RX5 yX5_has yX5_has, Cond.code yX5_has cX5_has 3 (some .boolean), Cond.fieldLink RX5 8 "DistinctDaleModel" "dates" "[I", Cond.constant RX5 14 (100000), Cond.methodLink RX5 68 yX5_goesWell, Cond.instanceMethod yX5_goesWell, Cond.selects RX5 yX5_goesWell yX5_goesWell, Cond.code yX5_goesWell cX5_goesWell 2 (some .boolean), Cond.fieldLink RX5 43 "DistinctDaleModel" "thrown" "I"]
def wsX5_keptAt : List Cond := .code yX5_keptAt cX5_keptAt 4 (some .int) :: ((wsX5_keptAt_r1 ++ wsX5_keptAt_r2) ++ wsX50)
def wsX5_byLeast_r1 : List Cond := [Cond.fieldLink RX5 22 "DistinctDaleModel" "kept" "[I", Cond.methodLink RX5 61 yX5_isBasket, Cond.static yX5_isBasket, Cond.initialized RX5, Cond.code yX5_isBasket cX5_isBasket 1 (some .boolean), Cond.methodLink RX5 68 yX5_goesWell, Cond.instanceMethod yX5_goesWell, Cond.selects RX5 yX5_goesWell yX5_goesWell, Cond.code yX5_goesWell cX5_goesWell 2 (some .boolean), Cond.fieldLink RX5 43 "DistinctDaleModel" "thrown" "I", Cond.methodLink RX5 89 yX5_layKept, Cond.instanceMethod yX5_layKept, Cond.selects RX5 yX5_layKept yX5_layKept, Cond.code yX5_layKept cX5_layKept 4 (some .int), Cond.fieldLink RX5 39 "DistinctDaleModel" "k" "I", Cond.methodLink RX5 85 yX5_above, Cond.instanceMethod yX5_above, Cond.selects RX5 yX5_above yX5_above, Cond.code yX5_above cX5_above 7 (some .int), Cond.fieldLink RX5 58 "DistinctDaleModel" "listed" "I", Cond.fieldLink RX5 15 "DistinctDaleModel" "items" "[I", Cond.methodLink RX5 82 yX5_hashOf, Cond.static yX5_hashOf, Cond.code yX5_hashOf cX5_hashOf 1 (some .int)]
def wsX5_byLeast_r2 : List Cond := [Cond.constantLong RX5 46 (69), Cond.constantLong RX5 48 (48271), Cond.constantLong RX5 50 (101), Cond.constantLong RX5 52 (16777213), Cond.methodLink RX5 54 yX5_has, Cond.instanceMethod yX5_has, Cond.selects RX5 yX5_has yX5_has, Cond.code yX5_has cX5_has 3 (some .boolean), Cond.fieldLink RX5 8 "DistinctDaleModel" "dates" "[I", Cond.constant RX5 14 (100000), Cond.methodLink RX5 92 yX5_estimate, Cond.instanceMethod yX5_estimate, Cond.selects RX5 yX5_estimate yX5_estimate, Cond.code yX5_estimate cX5_estimate 3 (some .long)]
def wsX5_byLeast : List Cond := .code yX5_byLeast cX5_byLeast 3 (some .int) :: ((wsX5_byLeast_r1 ++ wsX5_byLeast_r2) ++ wsX50)
def wsX5_layBoth_r1 : List Cond := [Cond.fieldLink RX5 96 "DistinctDaleModel" "otherMany" "I", Cond.fieldLink RX5 25 "DistinctDaleModel" "other" "[I", Cond.fieldLink RX5 22 "DistinctDaleModel" "kept" "[I", Cond.fieldLink RX5 99 "DistinctDaleModel" "keptMany" "I", Cond.fieldLink RX5 39 "DistinctDaleModel" "k" "I", Cond.constant RX5 102 (16777213), Cond.fieldLink RX5 28 "DistinctDaleModel" "both" "[I", Cond.methodLink RX5 89 yX5_layKept, Cond.instanceMethod yX5_layKept, Cond.selects RX5 yX5_layKept yX5_layKept, Cond.initialized RX5, Cond.code yX5_layKept cX5_layKept 4 (some .int), Cond.methodLink RX5 85 yX5_above, Cond.instanceMethod yX5_above, Cond.selects RX5 yX5_above yX5_above, Cond.code yX5_above cX5_above 7 (some .int), Cond.fieldLink RX5 58 "DistinctDaleModel" "listed" "I", Cond.fieldLink RX5 15 "DistinctDaleModel" "items" "[I", Cond.methodLink RX5 82 yX5_hashOf, Cond.static yX5_hashOf, Cond.code yX5_hashOf cX5_hashOf 1 (some .int), Cond.constantLong RX5 46 (69), Cond.constantLong RX5 48 (48271), Cond.constantLong RX5 50 (101)]
def wsX5_layBoth_r2 : List Cond := [Cond.constantLong RX5 52 (16777213), Cond.methodLink RX5 54 yX5_has, Cond.instanceMethod yX5_has, Cond.selects RX5 yX5_has yX5_has, Cond.code yX5_has cX5_has 3 (some .boolean), Cond.fieldLink RX5 8 "DistinctDaleModel" "dates" "[I", Cond.constant RX5 14 (100000)]
def wsX5_layBoth : List Cond := .code yX5_layBoth cX5_layBoth 8 (some .int) :: ((wsX5_layBoth_r1 ++ wsX5_layBoth_r2) ++ wsX50)
def wsX5_isKept : List Cond := .code yX5_isKept cX5_isKept 4 (some .boolean) :: ([.fieldLink RX5 99 "DistinctDaleModel" "keptMany" "I", .fieldLink RX5 22 "DistinctDaleModel" "kept" "[I"] ++ wsX50)
def wsX5_isOther : List Cond := .code yX5_isOther cX5_isOther 4 (some .boolean) :: ([.fieldLink RX5 96 "DistinctDaleModel" "otherMany" "I", .fieldLink RX5 25 "DistinctDaleModel" "other" "[I"] ++ wsX50)
def wsX5_share_r1 : List Cond := [Cond.fieldLink RX5 28 "DistinctDaleModel" "both" "[I", Cond.methodLink RX5 103 yX5_layBoth, Cond.instanceMethod yX5_layBoth, Cond.selects RX5 yX5_layBoth yX5_layBoth, Cond.initialized RX5, Cond.code yX5_layBoth cX5_layBoth 8 (some .int), Cond.fieldLink RX5 96 "DistinctDaleModel" "otherMany" "I", Cond.fieldLink RX5 25 "DistinctDaleModel" "other" "[I", Cond.fieldLink RX5 22 "DistinctDaleModel" "kept" "[I", Cond.fieldLink RX5 99 "DistinctDaleModel" "keptMany" "I", Cond.fieldLink RX5 39 "DistinctDaleModel" "k" "I", Cond.constant RX5 102 (16777213), Cond.methodLink RX5 89 yX5_layKept, Cond.instanceMethod yX5_layKept, Cond.selects RX5 yX5_layKept yX5_layKept, Cond.code yX5_layKept cX5_layKept 4 (some .int), Cond.methodLink RX5 85 yX5_above, Cond.instanceMethod yX5_above, Cond.selects RX5 yX5_above yX5_above, Cond.code yX5_above cX5_above 7 (some .int), Cond.fieldLink RX5 58 "DistinctDaleModel" "listed" "I", Cond.fieldLink RX5 15 "DistinctDaleModel" "items" "[I", Cond.methodLink RX5 82 yX5_hashOf, Cond.static yX5_hashOf]
def wsX5_share_r2 : List Cond := [Cond.code yX5_hashOf cX5_hashOf 1 (some .int), Cond.constantLong RX5 46 (69), Cond.constantLong RX5 48 (48271), Cond.constantLong RX5 50 (101), Cond.constantLong RX5 52 (16777213), Cond.methodLink RX5 54 yX5_has, Cond.instanceMethod yX5_has, Cond.selects RX5 yX5_has yX5_has, Cond.code yX5_has cX5_has 3 (some .boolean), Cond.fieldLink RX5 8 "DistinctDaleModel" "dates" "[I", Cond.constant RX5 14 (100000), Cond.methodLink RX5 92 yX5_estimate, Cond.instanceMethod yX5_estimate, Cond.selects RX5 yX5_estimate yX5_estimate, Cond.code yX5_estimate cX5_estimate 3 (some .long), Cond.methodLink RX5 106 yX5_isKept, Cond.instanceMethod yX5_isKept, Cond.selects RX5 yX5_isKept yX5_isKept, Cond.code yX5_isKept cX5_isKept 4 (some .boolean), Cond.methodLink RX5 109 yX5_isOther, Cond.instanceMethod yX5_isOther, Cond.selects RX5 yX5_isOther yX5_isOther, Cond.code yX5_isOther cX5_isOther 4 (some .boolean)]
def wsX5_share : List Cond := .code yX5_share cX5_share 10 (some .int) :: ((wsX5_share_r1 ++ wsX5_share_r2) ++ wsX50)
def wsX5_together_r1 : List Cond := [Cond.methodLink RX5 61 yX5_isBasket, Cond.static yX5_isBasket, Cond.initialized RX5, Cond.code yX5_isBasket cX5_isBasket 1 (some .boolean), Cond.methodLink RX5 68 yX5_goesWell, Cond.instanceMethod yX5_goesWell, Cond.selects RX5 yX5_goesWell yX5_goesWell, Cond.code yX5_goesWell cX5_goesWell 2 (some .boolean), Cond.fieldLink RX5 43 "DistinctDaleModel" "thrown" "I", Cond.methodLink RX5 112 yX5_share, Cond.instanceMethod yX5_share, Cond.selects RX5 yX5_share yX5_share, Cond.code yX5_share cX5_share 10 (some .int), Cond.fieldLink RX5 28 "DistinctDaleModel" "both" "[I", Cond.methodLink RX5 103 yX5_layBoth, Cond.instanceMethod yX5_layBoth, Cond.selects RX5 yX5_layBoth yX5_layBoth, Cond.code yX5_layBoth cX5_layBoth 8 (some .int), Cond.fieldLink RX5 96 "DistinctDaleModel" "otherMany" "I", Cond.fieldLink RX5 25 "DistinctDaleModel" "other" "[I", Cond.fieldLink RX5 22 "DistinctDaleModel" "kept" "[I", Cond.fieldLink RX5 99 "DistinctDaleModel" "keptMany" "I", Cond.fieldLink RX5 39 "DistinctDaleModel" "k" "I", Cond.constant RX5 102 (16777213)]
def wsX5_together_r2 : List Cond := [Cond.methodLink RX5 89 yX5_layKept, Cond.instanceMethod yX5_layKept, Cond.selects RX5 yX5_layKept yX5_layKept, Cond.code yX5_layKept cX5_layKept 4 (some .int), Cond.methodLink RX5 85 yX5_above, Cond.instanceMethod yX5_above, Cond.selects RX5 yX5_above yX5_above, Cond.code yX5_above cX5_above 7 (some .int), Cond.fieldLink RX5 58 "DistinctDaleModel" "listed" "I", Cond.fieldLink RX5 15 "DistinctDaleModel" "items" "[I", Cond.methodLink RX5 82 yX5_hashOf, Cond.static yX5_hashOf, Cond.code yX5_hashOf cX5_hashOf 1 (some .int), Cond.constantLong RX5 46 (69), Cond.constantLong RX5 48 (48271), Cond.constantLong RX5 50 (101), Cond.constantLong RX5 52 (16777213), Cond.methodLink RX5 54 yX5_has, Cond.instanceMethod yX5_has, Cond.selects RX5 yX5_has yX5_has, Cond.code yX5_has cX5_has 3 (some .boolean), Cond.fieldLink RX5 8 "DistinctDaleModel" "dates" "[I", Cond.constant RX5 14 (100000), Cond.methodLink RX5 92 yX5_estimate]
def wsX5_together_r3 : List Cond := [Cond.instanceMethod yX5_estimate, Cond.selects RX5 yX5_estimate yX5_estimate, Cond.code yX5_estimate cX5_estimate 3 (some .long), Cond.methodLink RX5 106 yX5_isKept, Cond.instanceMethod yX5_isKept, Cond.selects RX5 yX5_isKept yX5_isKept, Cond.code yX5_isKept cX5_isKept 4 (some .boolean), Cond.methodLink RX5 109 yX5_isOther, Cond.instanceMethod yX5_isOther, Cond.selects RX5 yX5_isOther yX5_isOther, Cond.code yX5_isOther cX5_isOther 4 (some .boolean)]
def wsX5_together : List Cond := .code yX5_together cX5_together 3 (some .int) :: ((wsX5_together_r1 ++ (wsX5_together_r2 ++ wsX5_together_r3)) ++ wsX50)
def wsX5_common_r1 : List Cond := [Cond.methodLink RX5 61 yX5_isBasket, Cond.static yX5_isBasket, Cond.initialized RX5, Cond.code yX5_isBasket cX5_isBasket 1 (some .boolean), Cond.methodLink RX5 68 yX5_goesWell, Cond.instanceMethod yX5_goesWell, Cond.selects RX5 yX5_goesWell yX5_goesWell, Cond.code yX5_goesWell cX5_goesWell 2 (some .boolean), Cond.fieldLink RX5 43 "DistinctDaleModel" "thrown" "I", Cond.methodLink RX5 112 yX5_share, Cond.instanceMethod yX5_share, Cond.selects RX5 yX5_share yX5_share, Cond.code yX5_share cX5_share 10 (some .int), Cond.fieldLink RX5 28 "DistinctDaleModel" "both" "[I", Cond.methodLink RX5 103 yX5_layBoth, Cond.instanceMethod yX5_layBoth, Cond.selects RX5 yX5_layBoth yX5_layBoth, Cond.code yX5_layBoth cX5_layBoth 8 (some .int), Cond.fieldLink RX5 96 "DistinctDaleModel" "otherMany" "I", Cond.fieldLink RX5 25 "DistinctDaleModel" "other" "[I", Cond.fieldLink RX5 22 "DistinctDaleModel" "kept" "[I", Cond.fieldLink RX5 99 "DistinctDaleModel" "keptMany" "I", Cond.fieldLink RX5 39 "DistinctDaleModel" "k" "I", Cond.constant RX5 102 (16777213)]
def wsX5_common_r2 : List Cond := [Cond.methodLink RX5 89 yX5_layKept, Cond.instanceMethod yX5_layKept, Cond.selects RX5 yX5_layKept yX5_layKept, Cond.code yX5_layKept cX5_layKept 4 (some .int), Cond.methodLink RX5 85 yX5_above, Cond.instanceMethod yX5_above, Cond.selects RX5 yX5_above yX5_above, Cond.code yX5_above cX5_above 7 (some .int), Cond.fieldLink RX5 58 "DistinctDaleModel" "listed" "I", Cond.fieldLink RX5 15 "DistinctDaleModel" "items" "[I", Cond.methodLink RX5 82 yX5_hashOf, Cond.static yX5_hashOf, Cond.code yX5_hashOf cX5_hashOf 1 (some .int), Cond.constantLong RX5 46 (69), Cond.constantLong RX5 48 (48271), Cond.constantLong RX5 50 (101), Cond.constantLong RX5 52 (16777213), Cond.methodLink RX5 54 yX5_has, Cond.instanceMethod yX5_has, Cond.selects RX5 yX5_has yX5_has, Cond.code yX5_has cX5_has 3 (some .boolean), Cond.fieldLink RX5 8 "DistinctDaleModel" "dates" "[I", Cond.constant RX5 14 (100000), Cond.methodLink RX5 92 yX5_estimate]
def wsX5_common_r3 : List Cond := [Cond.instanceMethod yX5_estimate, Cond.selects RX5 yX5_estimate yX5_estimate, Cond.code yX5_estimate cX5_estimate 3 (some .long), Cond.methodLink RX5 106 yX5_isKept, Cond.instanceMethod yX5_isKept, Cond.selects RX5 yX5_isKept yX5_isKept, Cond.code yX5_isKept cX5_isKept 4 (some .boolean), Cond.methodLink RX5 109 yX5_isOther, Cond.instanceMethod yX5_isOther, Cond.selects RX5 yX5_isOther yX5_isOther, Cond.code yX5_isOther cX5_isOther 4 (some .boolean)]
def wsX5_common : List Cond := .code yX5_common cX5_common 3 (some .int) :: ((wsX5_common_r1 ++ (wsX5_common_r2 ++ wsX5_common_r3)) ++ wsX50)
def wsX5_without_r1 : List Cond := [Cond.methodLink RX5 61 yX5_isBasket, Cond.static yX5_isBasket, Cond.initialized RX5, Cond.code yX5_isBasket cX5_isBasket 1 (some .boolean), Cond.methodLink RX5 68 yX5_goesWell, Cond.instanceMethod yX5_goesWell, Cond.selects RX5 yX5_goesWell yX5_goesWell, Cond.code yX5_goesWell cX5_goesWell 2 (some .boolean), Cond.fieldLink RX5 43 "DistinctDaleModel" "thrown" "I", Cond.methodLink RX5 112 yX5_share, Cond.instanceMethod yX5_share, Cond.selects RX5 yX5_share yX5_share, Cond.code yX5_share cX5_share 10 (some .int), Cond.fieldLink RX5 28 "DistinctDaleModel" "both" "[I", Cond.methodLink RX5 103 yX5_layBoth, Cond.instanceMethod yX5_layBoth, Cond.selects RX5 yX5_layBoth yX5_layBoth, Cond.code yX5_layBoth cX5_layBoth 8 (some .int), Cond.fieldLink RX5 96 "DistinctDaleModel" "otherMany" "I", Cond.fieldLink RX5 25 "DistinctDaleModel" "other" "[I", Cond.fieldLink RX5 22 "DistinctDaleModel" "kept" "[I", Cond.fieldLink RX5 99 "DistinctDaleModel" "keptMany" "I", Cond.fieldLink RX5 39 "DistinctDaleModel" "k" "I", Cond.constant RX5 102 (16777213)]
def wsX5_without_r2 : List Cond := [Cond.methodLink RX5 89 yX5_layKept, Cond.instanceMethod yX5_layKept, Cond.selects RX5 yX5_layKept yX5_layKept, Cond.code yX5_layKept cX5_layKept 4 (some .int), Cond.methodLink RX5 85 yX5_above, Cond.instanceMethod yX5_above, Cond.selects RX5 yX5_above yX5_above, Cond.code yX5_above cX5_above 7 (some .int), Cond.fieldLink RX5 58 "DistinctDaleModel" "listed" "I", Cond.fieldLink RX5 15 "DistinctDaleModel" "items" "[I", Cond.methodLink RX5 82 yX5_hashOf, Cond.static yX5_hashOf, Cond.code yX5_hashOf cX5_hashOf 1 (some .int), Cond.constantLong RX5 46 (69), Cond.constantLong RX5 48 (48271), Cond.constantLong RX5 50 (101), Cond.constantLong RX5 52 (16777213), Cond.methodLink RX5 54 yX5_has, Cond.instanceMethod yX5_has, Cond.selects RX5 yX5_has yX5_has, Cond.code yX5_has cX5_has 3 (some .boolean), Cond.fieldLink RX5 8 "DistinctDaleModel" "dates" "[I", Cond.constant RX5 14 (100000), Cond.methodLink RX5 92 yX5_estimate]
def wsX5_without_r3 : List Cond := [Cond.instanceMethod yX5_estimate, Cond.selects RX5 yX5_estimate yX5_estimate, Cond.code yX5_estimate cX5_estimate 3 (some .long), Cond.methodLink RX5 106 yX5_isKept, Cond.instanceMethod yX5_isKept, Cond.selects RX5 yX5_isKept yX5_isKept, Cond.code yX5_isKept cX5_isKept 4 (some .boolean), Cond.methodLink RX5 109 yX5_isOther, Cond.instanceMethod yX5_isOther, Cond.selects RX5 yX5_isOther yX5_isOther, Cond.code yX5_isOther cX5_isOther 4 (some .boolean)]
def wsX5_without : List Cond := .code yX5_without cX5_without 3 (some .int) :: ((wsX5_without_r1 ++ (wsX5_without_r2 ++ wsX5_without_r3)) ++ wsX50)
def wsX5_rankOf : List Cond := .code yX5_rankOf cX5_rankOf 3 (some .int) :: ([])
def wsX5_layRegisters : List Cond := .code yX5_layRegisters cX5_layRegisters 6 none :: ([.fieldLink RX5 31 "DistinctDaleModel" "registers" "[I", .fieldLink RX5 58 "DistinctDaleModel" "listed" "I", .fieldLink RX5 15 "DistinctDaleModel" "items" "[I", .fieldLink RX5 8 "DistinctDaleModel" "dates" "[I", .constant RX5 14 (100000), .methodLink RX5 82 yX5_hashOf, .static yX5_hashOf, .initialized RX5, .code yX5_hashOf cX5_hashOf 1 (some .int), .constantLong RX5 46 (69), .constantLong RX5 48 (48271), .constantLong RX5 50 (101), .constantLong RX5 52 (16777213), .methodLink RX5 116 yX5_rankOf, .static yX5_rankOf, .code yX5_rankOf cX5_rankOf 3 (some .int)] ++ wsX50)
def wsX5_ofRegisters : List Cond := .code yX5_ofRegisters cX5_ofRegisters 6 (some .long) :: ([.constant RX5 119 (16777216), .fieldLink RX5 31 "DistinctDaleModel" "registers" "[I", .constantLong RX5 120 (2890512990208), .constantLong RX5 122 (40000), .fieldLink RX5 36 "DistinctDaleModel" "few" "[I"] ++ wsX50)
def wsX5_register_r1 : List Cond := [Cond.fieldLink RX5 31 "DistinctDaleModel" "registers" "[I", Cond.methodLink RX5 61 yX5_isBasket, Cond.static yX5_isBasket, Cond.initialized RX5, Cond.code yX5_isBasket cX5_isBasket 1 (some .boolean), Cond.methodLink RX5 68 yX5_goesWell, Cond.instanceMethod yX5_goesWell, Cond.selects RX5 yX5_goesWell yX5_goesWell, Cond.code yX5_goesWell cX5_goesWell 2 (some .boolean), Cond.fieldLink RX5 43 "DistinctDaleModel" "thrown" "I", Cond.methodLink RX5 124 yX5_layRegisters, Cond.instanceMethod yX5_layRegisters, Cond.selects RX5 yX5_layRegisters yX5_layRegisters, Cond.code yX5_layRegisters cX5_layRegisters 6 none, Cond.fieldLink RX5 58 "DistinctDaleModel" "listed" "I", Cond.fieldLink RX5 15 "DistinctDaleModel" "items" "[I", Cond.fieldLink RX5 8 "DistinctDaleModel" "dates" "[I", Cond.constant RX5 14 (100000), Cond.methodLink RX5 82 yX5_hashOf, Cond.static yX5_hashOf, Cond.code yX5_hashOf cX5_hashOf 1 (some .int), Cond.constantLong RX5 46 (69), Cond.constantLong RX5 48 (48271), Cond.constantLong RX5 50 (101)]
def wsX5_register_r2 : List Cond := [Cond.constantLong RX5 52 (16777213), Cond.methodLink RX5 116 yX5_rankOf, Cond.static yX5_rankOf, Cond.code yX5_rankOf cX5_rankOf 3 (some .int)]
def wsX5_register : List Cond := .code yX5_register cX5_register 4 (some .int) :: ((wsX5_register_r1 ++ wsX5_register_r2) ++ wsX50)
def wsX5_byRegisters_r1 : List Cond := [Cond.methodLink RX5 61 yX5_isBasket, Cond.static yX5_isBasket, Cond.initialized RX5, Cond.code yX5_isBasket cX5_isBasket 1 (some .boolean), Cond.methodLink RX5 68 yX5_goesWell, Cond.instanceMethod yX5_goesWell, Cond.selects RX5 yX5_goesWell yX5_goesWell, Cond.code yX5_goesWell cX5_goesWell 2 (some .boolean), Cond.fieldLink RX5 43 "DistinctDaleModel" "thrown" "I", Cond.methodLink RX5 124 yX5_layRegisters, Cond.instanceMethod yX5_layRegisters, Cond.selects RX5 yX5_layRegisters yX5_layRegisters, Cond.code yX5_layRegisters cX5_layRegisters 6 none, Cond.fieldLink RX5 31 "DistinctDaleModel" "registers" "[I", Cond.fieldLink RX5 58 "DistinctDaleModel" "listed" "I", Cond.fieldLink RX5 15 "DistinctDaleModel" "items" "[I", Cond.fieldLink RX5 8 "DistinctDaleModel" "dates" "[I", Cond.constant RX5 14 (100000), Cond.methodLink RX5 82 yX5_hashOf, Cond.static yX5_hashOf, Cond.code yX5_hashOf cX5_hashOf 1 (some .int), Cond.constantLong RX5 46 (69), Cond.constantLong RX5 48 (48271), Cond.constantLong RX5 50 (101)]
def wsX5_byRegisters_r2 : List Cond := [Cond.constantLong RX5 52 (16777213), Cond.methodLink RX5 116 yX5_rankOf, Cond.static yX5_rankOf, Cond.code yX5_rankOf cX5_rankOf 3 (some .int), Cond.methodLink RX5 128 yX5_ofRegisters, Cond.instanceMethod yX5_ofRegisters, Cond.selects RX5 yX5_ofRegisters yX5_ofRegisters, Cond.code yX5_ofRegisters cX5_ofRegisters 6 (some .long), Cond.constant RX5 119 (16777216), Cond.constantLong RX5 120 (2890512990208), Cond.constantLong RX5 122 (40000), Cond.fieldLink RX5 36 "DistinctDaleModel" "few" "[I"]
def wsX5_byRegisters : List Cond := .code yX5_byRegisters cX5_byRegisters 2 (some .long) :: ((wsX5_byRegisters_r1 ++ wsX5_byRegisters_r2) ++ wsX50)
def wsX5_recent_r1 : List Cond := [Cond.constant RX5 14 (100000), Cond.fieldLink RX5 71 "DistinctDaleModel" "now" "I", Cond.methodLink RX5 61 yX5_isBasket, Cond.static yX5_isBasket, Cond.initialized RX5, Cond.code yX5_isBasket cX5_isBasket 1 (some .boolean), Cond.methodLink RX5 68 yX5_goesWell, Cond.instanceMethod yX5_goesWell, Cond.selects RX5 yX5_goesWell yX5_goesWell, Cond.code yX5_goesWell cX5_goesWell 2 (some .boolean), Cond.fieldLink RX5 43 "DistinctDaleModel" "thrown" "I", Cond.methodLink RX5 124 yX5_layRegisters, Cond.instanceMethod yX5_layRegisters, Cond.selects RX5 yX5_layRegisters yX5_layRegisters, Cond.code yX5_layRegisters cX5_layRegisters 6 none, Cond.fieldLink RX5 31 "DistinctDaleModel" "registers" "[I", Cond.fieldLink RX5 58 "DistinctDaleModel" "listed" "I", Cond.fieldLink RX5 15 "DistinctDaleModel" "items" "[I", Cond.fieldLink RX5 8 "DistinctDaleModel" "dates" "[I", Cond.methodLink RX5 82 yX5_hashOf, Cond.static yX5_hashOf, Cond.code yX5_hashOf cX5_hashOf 1 (some .int), Cond.constantLong RX5 46 (69), Cond.constantLong RX5 48 (48271)]
def wsX5_recent_r2 : List Cond := [Cond.constantLong RX5 50 (101), Cond.constantLong RX5 52 (16777213), Cond.methodLink RX5 116 yX5_rankOf, Cond.static yX5_rankOf, Cond.code yX5_rankOf cX5_rankOf 3 (some .int), Cond.methodLink RX5 128 yX5_ofRegisters, Cond.instanceMethod yX5_ofRegisters, Cond.selects RX5 yX5_ofRegisters yX5_ofRegisters, Cond.code yX5_ofRegisters cX5_ofRegisters 6 (some .long), Cond.constant RX5 119 (16777216), Cond.constantLong RX5 120 (2890512990208), Cond.constantLong RX5 122 (40000), Cond.fieldLink RX5 36 "DistinctDaleModel" "few" "[I"]
def wsX5_recent : List Cond := .code yX5_recent cX5_recent 4 (some .long) :: ((wsX5_recent_r1 ++ wsX5_recent_r2) ++ wsX50)
def wsX5_countAt : List Cond := .code yX5_countAt cX5_countAt 5 (some .int) :: ([.fieldLink RX5 58 "DistinctDaleModel" "listed" "I", .fieldLink RX5 15 "DistinctDaleModel" "items" "[I", .methodLink RX5 54 yX5_has, .instanceMethod yX5_has, .selects RX5 yX5_has yX5_has, .initialized RX5, .code yX5_has cX5_has 3 (some .boolean), .fieldLink RX5 8 "DistinctDaleModel" "dates" "[I", .constant RX5 14 (100000), .methodLink RX5 82 yX5_hashOf, .static yX5_hashOf, .code yX5_hashOf cX5_hashOf 1 (some .int), .constantLong RX5 46 (69), .constantLong RX5 48 (48271), .constantLong RX5 50 (101), .constantLong RX5 52 (16777213)] ++ wsX50)
def wsX5_levelOf : List Cond := .code yX5_levelOf cX5_levelOf 3 (some .int) :: ([.methodLink RX5 132 yX5_countAt, .instanceMethod yX5_countAt, .selects RX5 yX5_countAt yX5_countAt, .initialized RX5, .code yX5_countAt cX5_countAt 5 (some .int), .fieldLink RX5 58 "DistinctDaleModel" "listed" "I", .fieldLink RX5 15 "DistinctDaleModel" "items" "[I", .methodLink RX5 54 yX5_has, .instanceMethod yX5_has, .selects RX5 yX5_has yX5_has, .code yX5_has cX5_has 3 (some .boolean), .fieldLink RX5 8 "DistinctDaleModel" "dates" "[I", .constant RX5 14 (100000), .methodLink RX5 82 yX5_hashOf, .static yX5_hashOf, .code yX5_hashOf cX5_hashOf 1 (some .int), .constantLong RX5 46 (69), .constantLong RX5 48 (48271), .constantLong RX5 50 (101), .constantLong RX5 52 (16777213)] ++ wsX50)
def wsX5_level_r1 : List Cond := [Cond.methodLink RX5 61 yX5_isBasket, Cond.static yX5_isBasket, Cond.initialized RX5, Cond.code yX5_isBasket cX5_isBasket 1 (some .boolean), Cond.methodLink RX5 68 yX5_goesWell, Cond.instanceMethod yX5_goesWell, Cond.selects RX5 yX5_goesWell yX5_goesWell, Cond.code yX5_goesWell cX5_goesWell 2 (some .boolean), Cond.fieldLink RX5 43 "DistinctDaleModel" "thrown" "I", Cond.methodLink RX5 135 yX5_levelOf, Cond.instanceMethod yX5_levelOf, Cond.selects RX5 yX5_levelOf yX5_levelOf, Cond.code yX5_levelOf cX5_levelOf 3 (some .int), Cond.methodLink RX5 132 yX5_countAt, Cond.instanceMethod yX5_countAt, Cond.selects RX5 yX5_countAt yX5_countAt, Cond.code yX5_countAt cX5_countAt 5 (some .int), Cond.fieldLink RX5 58 "DistinctDaleModel" "listed" "I", Cond.fieldLink RX5 15 "DistinctDaleModel" "items" "[I", Cond.methodLink RX5 54 yX5_has, Cond.instanceMethod yX5_has, Cond.selects RX5 yX5_has yX5_has, Cond.code yX5_has cX5_has 3 (some .boolean), Cond.fieldLink RX5 8 "DistinctDaleModel" "dates" "[I"]
def wsX5_level_r2 : List Cond := [Cond.constant RX5 14 (100000), Cond.methodLink RX5 82 yX5_hashOf, Cond.static yX5_hashOf, Cond.code yX5_hashOf cX5_hashOf 1 (some .int), Cond.constantLong RX5 46 (69), Cond.constantLong RX5 48 (48271), Cond.constantLong RX5 50 (101), Cond.constantLong RX5 52 (16777213)]
def wsX5_level : List Cond := .code yX5_level cX5_level 2 (some .int) :: ((wsX5_level_r1 ++ wsX5_level_r2) ++ wsX50)
def wsX5_sampled_r1 : List Cond := [Cond.methodLink RX5 61 yX5_isBasket, Cond.static yX5_isBasket, Cond.initialized RX5, Cond.code yX5_isBasket cX5_isBasket 1 (some .boolean), Cond.methodLink RX5 68 yX5_goesWell, Cond.instanceMethod yX5_goesWell, Cond.selects RX5 yX5_goesWell yX5_goesWell, Cond.code yX5_goesWell cX5_goesWell 2 (some .boolean), Cond.fieldLink RX5 43 "DistinctDaleModel" "thrown" "I", Cond.methodLink RX5 135 yX5_levelOf, Cond.instanceMethod yX5_levelOf, Cond.selects RX5 yX5_levelOf yX5_levelOf, Cond.code yX5_levelOf cX5_levelOf 3 (some .int), Cond.methodLink RX5 132 yX5_countAt, Cond.instanceMethod yX5_countAt, Cond.selects RX5 yX5_countAt yX5_countAt, Cond.code yX5_countAt cX5_countAt 5 (some .int), Cond.fieldLink RX5 58 "DistinctDaleModel" "listed" "I", Cond.fieldLink RX5 15 "DistinctDaleModel" "items" "[I", Cond.methodLink RX5 54 yX5_has, Cond.instanceMethod yX5_has, Cond.selects RX5 yX5_has yX5_has, Cond.code yX5_has cX5_has 3 (some .boolean), Cond.fieldLink RX5 8 "DistinctDaleModel" "dates" "[I"]
def wsX5_sampled_r2 : List Cond := [Cond.constant RX5 14 (100000), Cond.methodLink RX5 82 yX5_hashOf, Cond.static yX5_hashOf, Cond.code yX5_hashOf cX5_hashOf 1 (some .int), Cond.constantLong RX5 46 (69), Cond.constantLong RX5 48 (48271), Cond.constantLong RX5 50 (101), Cond.constantLong RX5 52 (16777213)]
def wsX5_sampled : List Cond := .code yX5_sampled cX5_sampled 2 (some .int) :: ((wsX5_sampled_r1 ++ wsX5_sampled_r2) ++ wsX50)
def wsX5_sampledAt_r1 : List Cond := [Cond.methodLink RX5 61 yX5_isBasket, Cond.static yX5_isBasket, Cond.initialized RX5, Cond.code yX5_isBasket cX5_isBasket 1 (some .boolean), Cond.methodLink RX5 135 yX5_levelOf, Cond.instanceMethod yX5_levelOf, Cond.selects RX5 yX5_levelOf yX5_levelOf, Cond.code yX5_levelOf cX5_levelOf 3 (some .int), Cond.methodLink RX5 132 yX5_countAt, Cond.instanceMethod yX5_countAt, Cond.selects RX5 yX5_countAt yX5_countAt, Cond.code yX5_countAt cX5_countAt 5 (some .int), Cond.fieldLink RX5 58 "DistinctDaleModel" "listed" "I", Cond.fieldLink RX5 15 "DistinctDaleModel" "items" "[I", Cond.methodLink RX5 54 yX5_has, Cond.instanceMethod yX5_has, Cond.selects RX5 yX5_has yX5_has, Cond.code yX5_has cX5_has 3 (some .boolean), Cond.fieldLink RX5 8 "DistinctDaleModel" "dates" "[I", Cond.constant RX5 14 (100000), Cond.methodLink RX5 82 yX5_hashOf, Cond.static yX5_hashOf, Cond.code yX5_hashOf cX5_hashOf 1 (some .int), Cond.constantLong RX5 46 (69)]
def wsX5_sampledAt_r2 : List Cond := [Cond.constantLong RX5 48 (48271), Cond.constantLong RX5 50 (101), Cond.constantLong RX5 52 (16777213), Cond.methodLink RX5 68 yX5_goesWell, Cond.instanceMethod yX5_goesWell, Cond.selects RX5 yX5_goesWell yX5_goesWell, Cond.code yX5_goesWell cX5_goesWell 2 (some .boolean), Cond.fieldLink RX5 43 "DistinctDaleModel" "thrown" "I"]
def wsX5_sampledAt : List Cond := .code yX5_sampledAt cX5_sampledAt 7 (some .int) :: ((wsX5_sampledAt_r1 ++ wsX5_sampledAt_r2) ++ wsX50)
def wsX5_bySample_r1 : List Cond := [Cond.methodLink RX5 61 yX5_isBasket, Cond.static yX5_isBasket, Cond.initialized RX5, Cond.code yX5_isBasket cX5_isBasket 1 (some .boolean), Cond.methodLink RX5 68 yX5_goesWell, Cond.instanceMethod yX5_goesWell, Cond.selects RX5 yX5_goesWell yX5_goesWell, Cond.code yX5_goesWell cX5_goesWell 2 (some .boolean), Cond.fieldLink RX5 43 "DistinctDaleModel" "thrown" "I", Cond.methodLink RX5 135 yX5_levelOf, Cond.instanceMethod yX5_levelOf, Cond.selects RX5 yX5_levelOf yX5_levelOf, Cond.code yX5_levelOf cX5_levelOf 3 (some .int), Cond.methodLink RX5 132 yX5_countAt, Cond.instanceMethod yX5_countAt, Cond.selects RX5 yX5_countAt yX5_countAt, Cond.code yX5_countAt cX5_countAt 5 (some .int), Cond.fieldLink RX5 58 "DistinctDaleModel" "listed" "I", Cond.fieldLink RX5 15 "DistinctDaleModel" "items" "[I", Cond.methodLink RX5 54 yX5_has, Cond.instanceMethod yX5_has, Cond.selects RX5 yX5_has yX5_has, Cond.code yX5_has cX5_has 3 (some .boolean), Cond.fieldLink RX5 8 "DistinctDaleModel" "dates" "[I"]
def wsX5_bySample_r2 : List Cond := [Cond.constant RX5 14 (100000), Cond.methodLink RX5 82 yX5_hashOf, Cond.static yX5_hashOf, Cond.code yX5_hashOf cX5_hashOf 1 (some .int), Cond.constantLong RX5 46 (69), Cond.constantLong RX5 48 (48271), Cond.constantLong RX5 50 (101), Cond.constantLong RX5 52 (16777213)]
def wsX5_bySample : List Cond := .code yX5_bySample cX5_bySample 3 (some .int) :: ((wsX5_bySample_r1 ++ wsX5_bySample_r2) ++ wsX50)
def wsJ9_max_7cf53 : List Cond := .code yJ9_max_7cf53 cJ9_max_7cf53 2 (some .int) :: ([])
def wsJ9_min_7cf53 : List Cond := .code yJ9_min_7cf53 cJ9_min_7cf53 2 (some .int) :: ([])
def wsL_cell : List Cond := .code yL_cell cL_cell 2 (some .int) :: ([])
def wsL_add_r1 : List Cond := [Cond.classLink RL 13 "java/lang/IndexOutOfBoundsException", Cond.classLink RL 15 "java/lang/IllegalArgumentException", Cond.methodLink RL 7 yX4_add, Cond.instanceMethod yX4_add, Cond.selects RX4 yX4_add yX4_add, Cond.initialized RX4, Cond.code yX4_add cX4_add 4 (some .boolean), Cond.methodLink RX4 68 yX4_need, Cond.instanceMethod yX4_need, Cond.selects RX4 yX4_need yX4_need, Cond.code yX4_need cX4_need 3 (some (.object "DistinctDale$Basket")), Cond.classLink RX4 117 "java/lang/IndexOutOfBoundsException", Cond.initialized "java/lang/IndexOutOfBoundsException", Cond.fieldLink RX4 24 "DistinctDale" "baskets" "[LDistinctDale$Basket;", Cond.methodLink RX4 72 yX4_isItem, Cond.static yX4_isItem, Cond.code yX4_isItem cX4_isItem 1 (some .boolean), Cond.constant RX4 154 (100000), Cond.methodLink RX4 76 yX4_refuseUnless, Cond.static yX4_refuseUnless, Cond.code yX4_refuseUnless cX4_refuseUnless 1 none, Cond.classLink RX4 174 "java/lang/IllegalArgumentException", Cond.initialized "java/lang/IllegalArgumentException", Cond.methodLink RX4 80 yX4_takeLine]
def wsL_add_r2 : List Cond := [Cond.instanceMethod yX4_takeLine, Cond.selects RX4 yX4_takeLine yX4_takeLine, Cond.code yX4_takeLine cX4_takeLine 6 (some .int), Cond.fieldLink RX4 58 "DistinctDale" "lineItems" "[I", Cond.fieldLink RX4 62 "DistinctDale" "lineDates" "[I", Cond.fieldLink RX4 65 "DistinctDale" "now" "I", Cond.methodLink RX4 179 yX4_put, Cond.static yX4_put, Cond.code yX4_put cX4_put 3 none, Cond.methodLink RX4 97 yX0_take, Cond.instanceMethod yX0_take, Cond.selects RX0 yX0_take yX0_take, Cond.initialized RX0, Cond.code yX0_take cX0_take 12 (some .int), Cond.fieldLink RX0 18 "DistinctDale$Basket" "size" "I", Cond.fieldLink RX0 11 "DistinctDale$Basket" "items" "[I", Cond.fieldLink RX0 15 "DistinctDale$Basket" "dates" "[I", Cond.methodLink RX0 33 Lib.Math.max.name, Cond.static Lib.Math.max.name, Cond.initialized "java/lang/Math", Cond.code Lib.Math.max.name Lib.Math.max.code 2 (some .int), Cond.methodLink RX0 22 yX0_countShared, Cond.instanceMethod yX0_countShared, Cond.selects RX0 yX0_countShared yX0_countShared]
def wsL_add_r3 : List Cond := [Cond.code yX0_countShared cX0_countShared 7 (some .int), Cond.static yX4_at, Cond.code yX4_at cX4_at 2 (some .int), Cond.methodLink RX0 26 yX0_makeRoomFor, Cond.instanceMethod yX0_makeRoomFor, Cond.selects RX0 yX0_makeRoomFor yX0_makeRoomFor, Cond.code yX0_makeRoomFor cX0_makeRoomFor 3 none, Cond.constant RX0 44 (100000), Cond.methodLink RX0 45 Lib.Math.min.name, Cond.static Lib.Math.min.name, Cond.code Lib.Math.min.name Lib.Math.min.code 2 (some .int), Cond.methodLink RX0 48 yJ7_copyOf_59c91, Cond.static yJ7_copyOf_59c91, Cond.initialized RJ7, Cond.code yJ7_copyOf_59c91 cJ7_copyOf_59c91 3 (some (.array .int)), Cond.methodLink RJ7 316 ⟨"[I", "clone", "()Ljava/lang/Object;"⟩, Cond.sameMethod "[I" "java/lang/Object" "clone" "()Ljava/lang/Object;", Cond.native ⟨"java/lang/Object", "clone", "()Ljava/lang/Object;"⟩, Cond.instanceMethod ⟨"java/lang/Object", "clone", "()Ljava/lang/Object;"⟩, Cond.selects "[I" ⟨"[I", "clone", "()Ljava/lang/Object;"⟩ ⟨"java/lang/Object", "clone", "()Ljava/lang/Object;"⟩, Cond.classLink RJ7 317 "[I", Cond.arrayClass .int, Cond.methodLink RJ7 304 Lib.Math.min.name, Cond.methodLink RJ7 150 arraycopyName]
def wsL_add_r4 : List Cond := [Cond.native arraycopyName, Cond.static arraycopyName, Cond.initialized "java/lang/System"]
def wsL_add : List Cond := .codeWith yL_add cL_add 5 (some .int) [(0, 17, 20, 13), (0, 17, 24, 15)] :: ((wsL_add_r1 ++ (wsL_add_r2 ++ (wsL_add_r3 ++ wsL_add_r4))) ++ wsX40 ++ wsX00 ++ (vx_atS RX4 121 "java/lang/IndexOutOfBoundsException" ["java/lang/RuntimeException", "java/lang/Exception"]).filter goodWord ++ (vx_atS RX4 178 "java/lang/IllegalArgumentException" ["java/lang/RuntimeException", "java/lang/Exception"]).filter goodWord)
def wsL_addLine_r1 : List Cond := [Cond.classLink RL 13 "java/lang/IndexOutOfBoundsException", Cond.classLink RL 15 "java/lang/IllegalArgumentException", Cond.methodLink RL 17 yX4_addLine, Cond.instanceMethod yX4_addLine, Cond.selects RX4 yX4_addLine yX4_addLine, Cond.initialized RX4, Cond.code yX4_addLine cX4_addLine 6 (some .int), Cond.methodLink RX4 68 yX4_need, Cond.instanceMethod yX4_need, Cond.selects RX4 yX4_need yX4_need, Cond.code yX4_need cX4_need 3 (some (.object "DistinctDale$Basket")), Cond.classLink RX4 117 "java/lang/IndexOutOfBoundsException", Cond.initialized "java/lang/IndexOutOfBoundsException", Cond.fieldLink RX4 24 "DistinctDale" "baskets" "[LDistinctDale$Basket;", Cond.methodLink RX4 72 yX4_isItem, Cond.static yX4_isItem, Cond.code yX4_isItem cX4_isItem 1 (some .boolean), Cond.constant RX4 154 (100000), Cond.methodLink RX4 76 yX4_refuseUnless, Cond.static yX4_refuseUnless, Cond.code yX4_refuseUnless cX4_refuseUnless 1 none, Cond.classLink RX4 174 "java/lang/IllegalArgumentException", Cond.initialized "java/lang/IllegalArgumentException", Cond.methodLink RX4 80 yX4_takeLine]
def wsL_addLine_r2 : List Cond := [Cond.instanceMethod yX4_takeLine, Cond.selects RX4 yX4_takeLine yX4_takeLine, Cond.code yX4_takeLine cX4_takeLine 6 (some .int), Cond.fieldLink RX4 58 "DistinctDale" "lineItems" "[I", Cond.fieldLink RX4 62 "DistinctDale" "lineDates" "[I", Cond.fieldLink RX4 65 "DistinctDale" "now" "I", Cond.methodLink RX4 179 yX4_put, Cond.static yX4_put, Cond.code yX4_put cX4_put 3 none, Cond.methodLink RX4 97 yX0_take, Cond.instanceMethod yX0_take, Cond.selects RX0 yX0_take yX0_take, Cond.initialized RX0, Cond.code yX0_take cX0_take 12 (some .int), Cond.fieldLink RX0 18 "DistinctDale$Basket" "size" "I", Cond.fieldLink RX0 11 "DistinctDale$Basket" "items" "[I", Cond.fieldLink RX0 15 "DistinctDale$Basket" "dates" "[I", Cond.methodLink RX0 33 Lib.Math.max.name, Cond.static Lib.Math.max.name, Cond.initialized "java/lang/Math", Cond.code Lib.Math.max.name Lib.Math.max.code 2 (some .int), Cond.methodLink RX0 22 yX0_countShared, Cond.instanceMethod yX0_countShared, Cond.selects RX0 yX0_countShared yX0_countShared]
def wsL_addLine_r3 : List Cond := [Cond.code yX0_countShared cX0_countShared 7 (some .int), Cond.static yX4_at, Cond.code yX4_at cX4_at 2 (some .int), Cond.methodLink RX0 26 yX0_makeRoomFor, Cond.instanceMethod yX0_makeRoomFor, Cond.selects RX0 yX0_makeRoomFor yX0_makeRoomFor, Cond.code yX0_makeRoomFor cX0_makeRoomFor 3 none, Cond.constant RX0 44 (100000), Cond.methodLink RX0 45 Lib.Math.min.name, Cond.static Lib.Math.min.name, Cond.code Lib.Math.min.name Lib.Math.min.code 2 (some .int), Cond.methodLink RX0 48 yJ7_copyOf_59c91, Cond.static yJ7_copyOf_59c91, Cond.initialized RJ7, Cond.code yJ7_copyOf_59c91 cJ7_copyOf_59c91 3 (some (.array .int)), Cond.methodLink RJ7 316 ⟨"[I", "clone", "()Ljava/lang/Object;"⟩, Cond.sameMethod "[I" "java/lang/Object" "clone" "()Ljava/lang/Object;", Cond.native ⟨"java/lang/Object", "clone", "()Ljava/lang/Object;"⟩, Cond.instanceMethod ⟨"java/lang/Object", "clone", "()Ljava/lang/Object;"⟩, Cond.selects "[I" ⟨"[I", "clone", "()Ljava/lang/Object;"⟩ ⟨"java/lang/Object", "clone", "()Ljava/lang/Object;"⟩, Cond.classLink RJ7 317 "[I", Cond.arrayClass .int, Cond.methodLink RJ7 304 Lib.Math.min.name, Cond.methodLink RJ7 150 arraycopyName]
def wsL_addLine_r4 : List Cond := [Cond.native arraycopyName, Cond.static arraycopyName, Cond.initialized "java/lang/System"]
def wsL_addLine : List Cond := .codeWith yL_addLine cL_addLine 7 (some .int) [(0, 14, 17, 13), (0, 14, 21, 15)] :: ((wsL_addLine_r1 ++ (wsL_addLine_r2 ++ (wsL_addLine_r3 ++ wsL_addLine_r4))) ++ wsX40 ++ wsX00 ++ (vx_atS RX4 121 "java/lang/IndexOutOfBoundsException" ["java/lang/RuntimeException", "java/lang/Exception"]).filter goodWord ++ (vx_atS RX4 178 "java/lang/IllegalArgumentException" ["java/lang/RuntimeException", "java/lang/Exception"]).filter goodWord)
def wsL_empty : List Cond := .codeWith yL_empty cL_empty 4 (some .int) [(0, 9, 12, 13)] :: ([.classLink RL 13 "java/lang/IndexOutOfBoundsException", .methodLink RL 21 yX4_empty, .instanceMethod yX4_empty, .selects RX4 yX4_empty yX4_empty, .initialized RX4, .code yX4_empty cX4_empty 2 (some .int), .methodLink RX4 68 yX4_need, .instanceMethod yX4_need, .selects RX4 yX4_need yX4_need, .code yX4_need cX4_need 3 (some (.object "DistinctDale$Basket")), .classLink RX4 117 "java/lang/IndexOutOfBoundsException", .initialized "java/lang/IndexOutOfBoundsException", .fieldLink RX4 24 "DistinctDale" "baskets" "[LDistinctDale$Basket;", .methodLink RX4 84 yX0_drain, .instanceMethod yX0_drain, .selects RX0 yX0_drain yX0_drain, .initialized RX0, .code yX0_drain cX0_drain 2 (some .int), .fieldLink RX0 18 "DistinctDale$Basket" "size" "I"] ++ wsX40 ++ wsX00 ++ (vx_atS RX4 121 "java/lang/IndexOutOfBoundsException" ["java/lang/RuntimeException", "java/lang/Exception"]).filter goodWord)
def wsL_merge_r1 : List Cond := [Cond.classLink RL 13 "java/lang/IndexOutOfBoundsException", Cond.methodLink RL 25 yX4_merge, Cond.instanceMethod yX4_merge, Cond.selects RX4 yX4_merge yX4_merge, Cond.initialized RX4, Cond.code yX4_merge cX4_merge 5 (some .int), Cond.fieldLink RX4 88 "DistinctDale$Basket" "items" "[I", Cond.fieldLink RX4 91 "DistinctDale$Basket" "dates" "[I", Cond.fieldLink RX4 94 "DistinctDale$Basket" "size" "I", Cond.methodLink RX4 68 yX4_need, Cond.instanceMethod yX4_need, Cond.selects RX4 yX4_need yX4_need, Cond.code yX4_need cX4_need 3 (some (.object "DistinctDale$Basket")), Cond.classLink RX4 117 "java/lang/IndexOutOfBoundsException", Cond.initialized "java/lang/IndexOutOfBoundsException", Cond.fieldLink RX4 24 "DistinctDale" "baskets" "[LDistinctDale$Basket;", Cond.methodLink RX4 97 yX0_take, Cond.instanceMethod yX0_take, Cond.selects RX0 yX0_take yX0_take, Cond.initialized RX0, Cond.code yX0_take cX0_take 12 (some .int), Cond.fieldLink RX0 18 "DistinctDale$Basket" "size" "I", Cond.fieldLink RX0 11 "DistinctDale$Basket" "items" "[I", Cond.fieldLink RX0 15 "DistinctDale$Basket" "dates" "[I"]
def wsL_merge_r2 : List Cond := [Cond.methodLink RX0 33 Lib.Math.max.name, Cond.static Lib.Math.max.name, Cond.initialized "java/lang/Math", Cond.code Lib.Math.max.name Lib.Math.max.code 2 (some .int), Cond.methodLink RX0 22 yX0_countShared, Cond.instanceMethod yX0_countShared, Cond.selects RX0 yX0_countShared yX0_countShared, Cond.code yX0_countShared cX0_countShared 7 (some .int), Cond.static yX4_at, Cond.code yX4_at cX4_at 2 (some .int), Cond.methodLink RX0 26 yX0_makeRoomFor, Cond.instanceMethod yX0_makeRoomFor, Cond.selects RX0 yX0_makeRoomFor yX0_makeRoomFor, Cond.code yX0_makeRoomFor cX0_makeRoomFor 3 none, Cond.constant RX0 44 (100000), Cond.methodLink RX0 45 Lib.Math.min.name, Cond.static Lib.Math.min.name, Cond.code Lib.Math.min.name Lib.Math.min.code 2 (some .int), Cond.methodLink RX0 48 yJ7_copyOf_59c91, Cond.static yJ7_copyOf_59c91, Cond.initialized RJ7, Cond.code yJ7_copyOf_59c91 cJ7_copyOf_59c91 3 (some (.array .int)), Cond.methodLink RJ7 316 ⟨"[I", "clone", "()Ljava/lang/Object;"⟩, Cond.sameMethod "[I" "java/lang/Object" "clone" "()Ljava/lang/Object;"]
def wsL_merge_r3 : List Cond := [Cond.native ⟨"java/lang/Object", "clone", "()Ljava/lang/Object;"⟩, Cond.instanceMethod ⟨"java/lang/Object", "clone", "()Ljava/lang/Object;"⟩, Cond.selects "[I" ⟨"[I", "clone", "()Ljava/lang/Object;"⟩ ⟨"java/lang/Object", "clone", "()Ljava/lang/Object;"⟩, Cond.classLink RJ7 317 "[I", Cond.arrayClass .int, Cond.methodLink RJ7 304 Lib.Math.min.name, Cond.methodLink RJ7 150 arraycopyName, Cond.native arraycopyName, Cond.static arraycopyName, Cond.initialized "java/lang/System", Cond.static yX4_put, Cond.code yX4_put cX4_put 3 none]
def wsL_merge : List Cond := .codeWith yL_merge cL_merge 5 (some .int) [(0, 10, 13, 13)] :: ((wsL_merge_r1 ++ (wsL_merge_r2 ++ wsL_merge_r3)) ++ wsX00 ++ wsX40 ++ (vx_atS RX4 121 "java/lang/IndexOutOfBoundsException" ["java/lang/RuntimeException", "java/lang/Exception"]).filter goodWord)
def wsL_pass : List Cond := .codeWith yL_pass cL_pass 4 (some .int) [(0, 9, 12, 15)] :: ([.classLink RL 15 "java/lang/IllegalArgumentException", .methodLink RL 29 yX4_pass, .instanceMethod yX4_pass, .selects RX4 yX4_pass yX4_pass, .initialized RX4, .code yX4_pass cX4_pass 2 (some .int), .fieldLink RX4 65 "DistinctDale" "now" "I", .methodLink RX4 76 yX4_refuseUnless, .static yX4_refuseUnless, .code yX4_refuseUnless cX4_refuseUnless 1 none, .classLink RX4 174 "java/lang/IllegalArgumentException", .initialized "java/lang/IllegalArgumentException"] ++ wsX40 ++ (vx_atS RX4 178 "java/lang/IllegalArgumentException" ["java/lang/RuntimeException", "java/lang/Exception"]).filter goodWord)
def wsL_plain : List Cond := .codeWith yL_plain cL_plain 4 (some .int) [(0, 9, 12, 13)] :: ([.classLink RL 13 "java/lang/IndexOutOfBoundsException", .methodLink RL 32 yX4_plain, .instanceMethod yX4_plain, .selects RX4 yX4_plain yX4_plain, .initialized RX4, .code yX4_plain cX4_plain 2 (some .int), .fieldLink RX4 94 "DistinctDale$Basket" "size" "I", .methodLink RX4 68 yX4_need, .instanceMethod yX4_need, .selects RX4 yX4_need yX4_need, .code yX4_need cX4_need 3 (some (.object "DistinctDale$Basket")), .classLink RX4 117 "java/lang/IndexOutOfBoundsException", .initialized "java/lang/IndexOutOfBoundsException", .fieldLink RX4 24 "DistinctDale" "baskets" "[LDistinctDale$Basket;"] ++ wsX00 ++ wsX40 ++ (vx_atS RX4 121 "java/lang/IndexOutOfBoundsException" ["java/lang/RuntimeException", "java/lang/Exception"]).filter goodWord)
def wsL_plainCommon : List Cond := .codeWith yL_plainCommon cL_plainCommon 5 (some .int) [(0, 10, 13, 13)] :: ([.classLink RL 13 "java/lang/IndexOutOfBoundsException", .methodLink RL 35 yX4_plainCommon, .instanceMethod yX4_plainCommon, .selects RX4 yX4_plainCommon yX4_plainCommon, .initialized RX4, .code yX4_plainCommon cX4_plainCommon 5 (some .int), .fieldLink RX4 88 "DistinctDale$Basket" "items" "[I", .fieldLink RX4 94 "DistinctDale$Basket" "size" "I", .methodLink RX4 68 yX4_need, .instanceMethod yX4_need, .selects RX4 yX4_need yX4_need, .code yX4_need cX4_need 3 (some (.object "DistinctDale$Basket")), .classLink RX4 117 "java/lang/IndexOutOfBoundsException", .initialized "java/lang/IndexOutOfBoundsException", .fieldLink RX4 24 "DistinctDale" "baskets" "[LDistinctDale$Basket;", .methodLink RX4 101 yX0_countShared, .instanceMethod yX0_countShared, .selects RX0 yX0_countShared yX0_countShared, .initialized RX0, .code yX0_countShared cX0_countShared 7 (some .int), .fieldLink RX0 18 "DistinctDale$Basket" "size" "I", .fieldLink RX0 11 "DistinctDale$Basket" "items" "[I", .static yX4_at, .code yX4_at cX4_at 2 (some .int)] ++ wsX00 ++ wsX40 ++ (vx_atS RX4 121 "java/lang/IndexOutOfBoundsException" ["java/lang/RuntimeException", "java/lang/Exception"]).filter goodWord)
def wsL_dateOf_r1 : List Cond := [Cond.classLink RL 13 "java/lang/IndexOutOfBoundsException", Cond.classLink RL 15 "java/lang/IllegalArgumentException", Cond.methodLink RL 38 yX4_dateOf, Cond.instanceMethod yX4_dateOf, Cond.selects RX4 yX4_dateOf yX4_dateOf, Cond.initialized RX4, Cond.code yX4_dateOf cX4_dateOf 4 (some .int), Cond.methodLink RX4 68 yX4_need, Cond.instanceMethod yX4_need, Cond.selects RX4 yX4_need yX4_need, Cond.code yX4_need cX4_need 3 (some (.object "DistinctDale$Basket")), Cond.classLink RX4 117 "java/lang/IndexOutOfBoundsException", Cond.initialized "java/lang/IndexOutOfBoundsException", Cond.fieldLink RX4 24 "DistinctDale" "baskets" "[LDistinctDale$Basket;", Cond.methodLink RX4 72 yX4_isItem, Cond.static yX4_isItem, Cond.code yX4_isItem cX4_isItem 1 (some .boolean), Cond.constant RX4 154 (100000), Cond.methodLink RX4 76 yX4_refuseUnless, Cond.static yX4_refuseUnless, Cond.code yX4_refuseUnless cX4_refuseUnless 1 none, Cond.classLink RX4 174 "java/lang/IllegalArgumentException", Cond.initialized "java/lang/IllegalArgumentException", Cond.methodLink RX4 105 yX0_dateFor]
def wsL_dateOf_r2 : List Cond := [Cond.instanceMethod yX0_dateFor, Cond.selects RX0 yX0_dateFor yX0_dateFor, Cond.initialized RX0, Cond.code yX0_dateFor cX0_dateFor 4 (some .int), Cond.constant RX0 43 (65536), Cond.fieldLink RX0 18 "DistinctDale$Basket" "size" "I", Cond.fieldLink RX0 11 "DistinctDale$Basket" "items" "[I", Cond.fieldLink RX0 15 "DistinctDale$Basket" "dates" "[I", Cond.static yX4_at, Cond.code yX4_at cX4_at 2 (some .int)]
def wsL_dateOf : List Cond := .codeWith yL_dateOf cL_dateOf 5 (some .int) [(0, 10, 13, 13), (0, 10, 17, 15)] :: ((wsL_dateOf_r1 ++ wsL_dateOf_r2) ++ wsX40 ++ wsX00 ++ (vx_atS RX4 121 "java/lang/IndexOutOfBoundsException" ["java/lang/RuntimeException", "java/lang/Exception"]).filter goodWord ++ (vx_atS RX4 178 "java/lang/IllegalArgumentException" ["java/lang/RuntimeException", "java/lang/Exception"]).filter goodWord)
def wsL_hash : List Cond := .codeWith yL_hash cL_hash 4 (some .int) [(0, 9, 12, 15)] :: ([.classLink RL 15 "java/lang/IllegalArgumentException", .methodLink RL 41 yX4_hash, .instanceMethod yX4_hash, .selects RX4 yX4_hash yX4_hash, .initialized RX4, .code yX4_hash cX4_hash 2 (some .int), .methodLink RX4 72 yX4_isItem, .static yX4_isItem, .code yX4_isItem cX4_isItem 1 (some .boolean), .constant RX4 154 (100000), .methodLink RX4 76 yX4_refuseUnless, .static yX4_refuseUnless, .code yX4_refuseUnless cX4_refuseUnless 1 none, .classLink RX4 174 "java/lang/IllegalArgumentException", .initialized "java/lang/IllegalArgumentException", .methodLink RX4 109 yX4_hashFor, .static yX4_hashFor, .code yX4_hashFor cX4_hashFor 3 (some .int), .constantLong RX4 190 (69), .constantLong RX4 192 (48271), .constantLong RX4 194 (101), .constantLong RX4 196 (16777213)] ++ (vx_atS RX4 178 "java/lang/IllegalArgumentException" ["java/lang/RuntimeException", "java/lang/Exception"]).filter goodWord)
def wsL_kept_r1 : List Cond := [Cond.classLink RL 13 "java/lang/IndexOutOfBoundsException", Cond.methodLink RL 44 yX4_kept, Cond.instanceMethod yX4_kept, Cond.selects RX4 yX4_kept yX4_kept, Cond.initialized RX4, Cond.code yX4_kept cX4_kept 2 (some .int), Cond.fieldLink RX4 48 "DistinctDale" "leastOfOne" "LDistinctDale$LeastHashes;", Cond.fieldLink RX4 116 "DistinctDale$LeastHashes" "size" "I", Cond.methodLink RX4 68 yX4_need, Cond.instanceMethod yX4_need, Cond.selects RX4 yX4_need yX4_need, Cond.code yX4_need cX4_need 3 (some (.object "DistinctDale$Basket")), Cond.classLink RX4 117 "java/lang/IndexOutOfBoundsException", Cond.initialized "java/lang/IndexOutOfBoundsException", Cond.fieldLink RX4 24 "DistinctDale" "baskets" "[LDistinctDale$Basket;", Cond.methodLink RX4 112 yX1_keepThoseOf, Cond.instanceMethod yX1_keepThoseOf, Cond.selects RX1 yX1_keepThoseOf yX1_keepThoseOf, Cond.initialized RX1, Cond.code yX1_keepThoseOf cX1_keepThoseOf 3 none, Cond.fieldLink RX1 25 "DistinctDale$Basket" "size" "I", Cond.fieldLink RX1 28 "DistinctDale$Basket" "items" "[I", Cond.methodLink RX1 22 yX1_forget, Cond.instanceMethod yX1_forget]
def wsL_kept_r2 : List Cond := [Cond.selects RX1 yX1_forget yX1_forget, Cond.code yX1_forget cX1_forget 1 none, Cond.fieldLink RX1 15 "DistinctDale$LeastHashes" "size" "I", Cond.static yX4_at, Cond.code yX4_at cX4_at 2 (some .int), Cond.static yX4_hashFor, Cond.code yX4_hashFor cX4_hashFor 3 (some .int), Cond.constantLong RX4 190 (69), Cond.constantLong RX4 192 (48271), Cond.constantLong RX4 194 (101), Cond.constantLong RX4 196 (16777213), Cond.methodLink RX1 39 yX1_offer, Cond.instanceMethod yX1_offer, Cond.selects RX1 yX1_offer yX1_offer, Cond.code yX1_offer cX1_offer 5 none, Cond.fieldLink RX1 19 "DistinctDale$LeastHashes" "limit" "I", Cond.fieldLink RX1 9 "DistinctDale$LeastHashes" "hashes" "[I", Cond.static yX4_put, Cond.code yX4_put cX4_put 3 none]
def wsL_kept : List Cond := .codeWith yL_kept cL_kept 4 (some .int) [(0, 9, 12, 13)] :: ((wsL_kept_r1 ++ wsL_kept_r2) ++ wsX40 ++ wsX10 ++ wsX00 ++ (vx_atS RX4 121 "java/lang/IndexOutOfBoundsException" ["java/lang/RuntimeException", "java/lang/Exception"]).filter goodWord)
def wsL_keptAt_r1 : List Cond := [Cond.classLink RL 13 "java/lang/IndexOutOfBoundsException", Cond.methodLink RL 47 yX4_keptAt, Cond.instanceMethod yX4_keptAt, Cond.selects RX4 yX4_keptAt yX4_keptAt, Cond.initialized RX4, Cond.code yX4_keptAt cX4_keptAt 3 (some .int), Cond.classLink RX4 117 "java/lang/IndexOutOfBoundsException", Cond.initialized "java/lang/IndexOutOfBoundsException", Cond.fieldLink RX4 48 "DistinctDale" "leastOfOne" "LDistinctDale$LeastHashes;", Cond.fieldLink RX4 116 "DistinctDale$LeastHashes" "size" "I", Cond.fieldLink RX4 124 "DistinctDale$LeastHashes" "hashes" "[I", Cond.methodLink RX4 68 yX4_need, Cond.instanceMethod yX4_need, Cond.selects RX4 yX4_need yX4_need, Cond.code yX4_need cX4_need 3 (some (.object "DistinctDale$Basket")), Cond.fieldLink RX4 24 "DistinctDale" "baskets" "[LDistinctDale$Basket;", Cond.methodLink RX4 112 yX1_keepThoseOf, Cond.instanceMethod yX1_keepThoseOf, Cond.selects RX1 yX1_keepThoseOf yX1_keepThoseOf, Cond.initialized RX1, Cond.code yX1_keepThoseOf cX1_keepThoseOf 3 none, Cond.fieldLink RX1 25 "DistinctDale$Basket" "size" "I", Cond.fieldLink RX1 28 "DistinctDale$Basket" "items" "[I", Cond.methodLink RX1 22 yX1_forget]
def wsL_keptAt_r2 : List Cond := [Cond.instanceMethod yX1_forget, Cond.selects RX1 yX1_forget yX1_forget, Cond.code yX1_forget cX1_forget 1 none, Cond.fieldLink RX1 15 "DistinctDale$LeastHashes" "size" "I", Cond.static yX4_at, Cond.code yX4_at cX4_at 2 (some .int), Cond.static yX4_hashFor, Cond.code yX4_hashFor cX4_hashFor 3 (some .int), Cond.constantLong RX4 190 (69), Cond.constantLong RX4 192 (48271), Cond.constantLong RX4 194 (101), Cond.constantLong RX4 196 (16777213), Cond.methodLink RX1 39 yX1_offer, Cond.instanceMethod yX1_offer, Cond.selects RX1 yX1_offer yX1_offer, Cond.code yX1_offer cX1_offer 5 none, Cond.fieldLink RX1 19 "DistinctDale$LeastHashes" "limit" "I", Cond.fieldLink RX1 9 "DistinctDale$LeastHashes" "hashes" "[I", Cond.static yX4_put, Cond.code yX4_put cX4_put 3 none, Cond.methodLink RX4 127 yX4_at]
def wsL_keptAt : List Cond := .codeWith yL_keptAt cL_keptAt 5 (some .int) [(0, 10, 13, 13)] :: ((wsL_keptAt_r1 ++ wsL_keptAt_r2) ++ wsX40 ++ wsX10 ++ wsX00 ++ (vx_atS RX4 121 "java/lang/IndexOutOfBoundsException" ["java/lang/RuntimeException", "java/lang/Exception"]).filter goodWord)
def wsL_byLeast_r1 : List Cond := [Cond.classLink RL 13 "java/lang/IndexOutOfBoundsException", Cond.methodLink RL 50 yX4_byLeast, Cond.instanceMethod yX4_byLeast, Cond.selects RX4 yX4_byLeast yX4_byLeast, Cond.initialized RX4, Cond.code yX4_byLeast cX4_byLeast 2 (some .int), Cond.fieldLink RX4 48 "DistinctDale" "leastOfOne" "LDistinctDale$LeastHashes;", Cond.methodLink RX4 68 yX4_need, Cond.instanceMethod yX4_need, Cond.selects RX4 yX4_need yX4_need, Cond.code yX4_need cX4_need 3 (some (.object "DistinctDale$Basket")), Cond.classLink RX4 117 "java/lang/IndexOutOfBoundsException", Cond.initialized "java/lang/IndexOutOfBoundsException", Cond.fieldLink RX4 24 "DistinctDale" "baskets" "[LDistinctDale$Basket;", Cond.methodLink RX4 112 yX1_keepThoseOf, Cond.instanceMethod yX1_keepThoseOf, Cond.selects RX1 yX1_keepThoseOf yX1_keepThoseOf, Cond.initialized RX1, Cond.code yX1_keepThoseOf cX1_keepThoseOf 3 none, Cond.fieldLink RX1 25 "DistinctDale$Basket" "size" "I", Cond.fieldLink RX1 28 "DistinctDale$Basket" "items" "[I", Cond.methodLink RX1 22 yX1_forget, Cond.instanceMethod yX1_forget, Cond.selects RX1 yX1_forget yX1_forget]
def wsL_byLeast_r2 : List Cond := [Cond.code yX1_forget cX1_forget 1 none, Cond.fieldLink RX1 15 "DistinctDale$LeastHashes" "size" "I", Cond.static yX4_at, Cond.code yX4_at cX4_at 2 (some .int), Cond.static yX4_hashFor, Cond.code yX4_hashFor cX4_hashFor 3 (some .int), Cond.constantLong RX4 190 (69), Cond.constantLong RX4 192 (48271), Cond.constantLong RX4 194 (101), Cond.constantLong RX4 196 (16777213), Cond.methodLink RX1 39 yX1_offer, Cond.instanceMethod yX1_offer, Cond.selects RX1 yX1_offer yX1_offer, Cond.code yX1_offer cX1_offer 5 none, Cond.fieldLink RX1 19 "DistinctDale$LeastHashes" "limit" "I", Cond.fieldLink RX1 9 "DistinctDale$LeastHashes" "hashes" "[I", Cond.static yX4_put, Cond.code yX4_put cX4_put 3 none, Cond.methodLink RX4 130 yX1_estimate, Cond.instanceMethod yX1_estimate, Cond.selects RX1 yX1_estimate yX1_estimate, Cond.code yX1_estimate cX1_estimate 2 (some .int), Cond.constant RX1 43 (16777213)]
def wsL_byLeast : List Cond := .codeWith yL_byLeast cL_byLeast 4 (some .int) [(0, 9, 12, 13)] :: ((wsL_byLeast_r1 ++ wsL_byLeast_r2) ++ wsX40 ++ wsX00 ++ wsX10 ++ (vx_atS RX4 121 "java/lang/IndexOutOfBoundsException" ["java/lang/RuntimeException", "java/lang/Exception"]).filter goodWord)
def wsL_together_r1 : List Cond := [Cond.classLink RL 13 "java/lang/IndexOutOfBoundsException", Cond.methodLink RL 53 yX4_together, Cond.instanceMethod yX4_together, Cond.selects RX4 yX4_together yX4_together, Cond.initialized RX4, Cond.code yX4_together cX4_together 3 (some .int), Cond.fieldLink RX4 55 "DistinctDale" "leastOfBoth" "LDistinctDale$LeastHashes;", Cond.methodLink RX4 68 yX4_need, Cond.instanceMethod yX4_need, Cond.selects RX4 yX4_need yX4_need, Cond.code yX4_need cX4_need 3 (some (.object "DistinctDale$Basket")), Cond.classLink RX4 117 "java/lang/IndexOutOfBoundsException", Cond.initialized "java/lang/IndexOutOfBoundsException", Cond.fieldLink RX4 24 "DistinctDale" "baskets" "[LDistinctDale$Basket;", Cond.methodLink RX4 133 yX4_keepLeastOf, Cond.instanceMethod yX4_keepLeastOf, Cond.selects RX4 yX4_keepLeastOf yX4_keepLeastOf, Cond.code yX4_keepLeastOf cX4_keepLeastOf 3 none, Cond.fieldLink RX4 48 "DistinctDale" "leastOfOne" "LDistinctDale$LeastHashes;", Cond.fieldLink RX4 52 "DistinctDale" "leastOfOther" "LDistinctDale$LeastHashes;", Cond.methodLink RX4 112 yX1_keepThoseOf, Cond.instanceMethod yX1_keepThoseOf, Cond.selects RX1 yX1_keepThoseOf yX1_keepThoseOf, Cond.initialized RX1]
def wsL_together_r2 : List Cond := [Cond.code yX1_keepThoseOf cX1_keepThoseOf 3 none, Cond.fieldLink RX1 25 "DistinctDale$Basket" "size" "I", Cond.fieldLink RX1 28 "DistinctDale$Basket" "items" "[I", Cond.methodLink RX1 22 yX1_forget, Cond.instanceMethod yX1_forget, Cond.selects RX1 yX1_forget yX1_forget, Cond.code yX1_forget cX1_forget 1 none, Cond.fieldLink RX1 15 "DistinctDale$LeastHashes" "size" "I", Cond.static yX4_at, Cond.code yX4_at cX4_at 2 (some .int), Cond.static yX4_hashFor, Cond.code yX4_hashFor cX4_hashFor 3 (some .int), Cond.constantLong RX4 190 (69), Cond.constantLong RX4 192 (48271), Cond.constantLong RX4 194 (101), Cond.constantLong RX4 196 (16777213), Cond.methodLink RX1 39 yX1_offer, Cond.instanceMethod yX1_offer, Cond.selects RX1 yX1_offer yX1_offer, Cond.code yX1_offer cX1_offer 5 none, Cond.fieldLink RX1 19 "DistinctDale$LeastHashes" "limit" "I", Cond.fieldLink RX1 9 "DistinctDale$LeastHashes" "hashes" "[I", Cond.static yX4_put, Cond.code yX4_put cX4_put 3 none]
def wsL_together_r3 : List Cond := [Cond.methodLink RX4 183 yX1_forget, Cond.methodLink RX4 186 yX1_offerAllOf, Cond.instanceMethod yX1_offerAllOf, Cond.selects RX1 yX1_offerAllOf yX1_offerAllOf, Cond.code yX1_offerAllOf cX1_offerAllOf 3 none, Cond.methodLink RX4 130 yX1_estimate, Cond.instanceMethod yX1_estimate, Cond.selects RX1 yX1_estimate yX1_estimate, Cond.code yX1_estimate cX1_estimate 2 (some .int), Cond.constant RX1 43 (16777213)]
def wsL_together : List Cond := .codeWith yL_together cL_together 5 (some .int) [(0, 10, 13, 13)] :: ((wsL_together_r1 ++ (wsL_together_r2 ++ wsL_together_r3)) ++ wsX40 ++ wsX00 ++ wsX10 ++ (vx_atS RX4 121 "java/lang/IndexOutOfBoundsException" ["java/lang/RuntimeException", "java/lang/Exception"]).filter goodWord)
def wsL_common_r1 : List Cond := [Cond.classLink RL 13 "java/lang/IndexOutOfBoundsException", Cond.methodLink RL 56 yX4_common, Cond.instanceMethod yX4_common, Cond.selects RX4 yX4_common yX4_common, Cond.initialized RX4, Cond.code yX4_common cX4_common 6 (some .int), Cond.fieldLink RX4 55 "DistinctDale" "leastOfBoth" "LDistinctDale$LeastHashes;", Cond.fieldLink RX4 116 "DistinctDale$LeastHashes" "size" "I", Cond.fieldLink RX4 124 "DistinctDale$LeastHashes" "hashes" "[I", Cond.fieldLink RX4 48 "DistinctDale" "leastOfOne" "LDistinctDale$LeastHashes;", Cond.fieldLink RX4 52 "DistinctDale" "leastOfOther" "LDistinctDale$LeastHashes;", Cond.methodLink RX4 68 yX4_need, Cond.instanceMethod yX4_need, Cond.selects RX4 yX4_need yX4_need, Cond.code yX4_need cX4_need 3 (some (.object "DistinctDale$Basket")), Cond.classLink RX4 117 "java/lang/IndexOutOfBoundsException", Cond.initialized "java/lang/IndexOutOfBoundsException", Cond.fieldLink RX4 24 "DistinctDale" "baskets" "[LDistinctDale$Basket;", Cond.methodLink RX4 133 yX4_keepLeastOf, Cond.instanceMethod yX4_keepLeastOf, Cond.selects RX4 yX4_keepLeastOf yX4_keepLeastOf, Cond.code yX4_keepLeastOf cX4_keepLeastOf 3 none, Cond.methodLink RX4 112 yX1_keepThoseOf, Cond.instanceMethod yX1_keepThoseOf]
def wsL_common_r2 : List Cond := [Cond.selects RX1 yX1_keepThoseOf yX1_keepThoseOf, Cond.initialized RX1, Cond.code yX1_keepThoseOf cX1_keepThoseOf 3 none, Cond.fieldLink RX1 25 "DistinctDale$Basket" "size" "I", Cond.fieldLink RX1 28 "DistinctDale$Basket" "items" "[I", Cond.methodLink RX1 22 yX1_forget, Cond.instanceMethod yX1_forget, Cond.selects RX1 yX1_forget yX1_forget, Cond.code yX1_forget cX1_forget 1 none, Cond.fieldLink RX1 15 "DistinctDale$LeastHashes" "size" "I", Cond.static yX4_at, Cond.code yX4_at cX4_at 2 (some .int), Cond.static yX4_hashFor, Cond.code yX4_hashFor cX4_hashFor 3 (some .int), Cond.constantLong RX4 190 (69), Cond.constantLong RX4 192 (48271), Cond.constantLong RX4 194 (101), Cond.constantLong RX4 196 (16777213), Cond.methodLink RX1 39 yX1_offer, Cond.instanceMethod yX1_offer, Cond.selects RX1 yX1_offer yX1_offer, Cond.code yX1_offer cX1_offer 5 none, Cond.fieldLink RX1 19 "DistinctDale$LeastHashes" "limit" "I", Cond.fieldLink RX1 9 "DistinctDale$LeastHashes" "hashes" "[I"]
def wsL_common_r3 : List Cond := [Cond.static yX4_put, Cond.code yX4_put cX4_put 3 none, Cond.methodLink RX4 183 yX1_forget, Cond.methodLink RX4 186 yX1_offerAllOf, Cond.instanceMethod yX1_offerAllOf, Cond.selects RX1 yX1_offerAllOf yX1_offerAllOf, Cond.code yX1_offerAllOf cX1_offerAllOf 3 none, Cond.methodLink RX4 127 yX4_at, Cond.methodLink RX4 137 yX1_has, Cond.instanceMethod yX1_has, Cond.selects RX1 yX1_has yX1_has, Cond.code yX1_has cX1_has 3 (some .boolean), Cond.methodLink RX4 140 yX1_estimateOfPart, Cond.instanceMethod yX1_estimateOfPart, Cond.selects RX1 yX1_estimateOfPart yX1_estimateOfPart, Cond.code yX1_estimateOfPart cX1_estimateOfPart 2 (some .int), Cond.methodLink RX1 44 yX1_estimate, Cond.instanceMethod yX1_estimate, Cond.selects RX1 yX1_estimate yX1_estimate, Cond.code yX1_estimate cX1_estimate 2 (some .int), Cond.constant RX1 43 (16777213)]
def wsL_common : List Cond := .codeWith yL_common cL_common 5 (some .int) [(0, 10, 13, 13)] :: ((wsL_common_r1 ++ (wsL_common_r2 ++ wsL_common_r3)) ++ wsX40 ++ wsX10 ++ wsX00 ++ (vx_atS RX4 121 "java/lang/IndexOutOfBoundsException" ["java/lang/RuntimeException", "java/lang/Exception"]).filter goodWord)
def wsL_without_r1 : List Cond := [Cond.classLink RL 13 "java/lang/IndexOutOfBoundsException", Cond.methodLink RL 59 yX4_without, Cond.instanceMethod yX4_without, Cond.selects RX4 yX4_without yX4_without, Cond.initialized RX4, Cond.code yX4_without cX4_without 5 (some .int), Cond.fieldLink RX4 55 "DistinctDale" "leastOfBoth" "LDistinctDale$LeastHashes;", Cond.fieldLink RX4 116 "DistinctDale$LeastHashes" "size" "I", Cond.fieldLink RX4 52 "DistinctDale" "leastOfOther" "LDistinctDale$LeastHashes;", Cond.fieldLink RX4 124 "DistinctDale$LeastHashes" "hashes" "[I", Cond.methodLink RX4 68 yX4_need, Cond.instanceMethod yX4_need, Cond.selects RX4 yX4_need yX4_need, Cond.code yX4_need cX4_need 3 (some (.object "DistinctDale$Basket")), Cond.classLink RX4 117 "java/lang/IndexOutOfBoundsException", Cond.initialized "java/lang/IndexOutOfBoundsException", Cond.fieldLink RX4 24 "DistinctDale" "baskets" "[LDistinctDale$Basket;", Cond.methodLink RX4 133 yX4_keepLeastOf, Cond.instanceMethod yX4_keepLeastOf, Cond.selects RX4 yX4_keepLeastOf yX4_keepLeastOf, Cond.code yX4_keepLeastOf cX4_keepLeastOf 3 none, Cond.fieldLink RX4 48 "DistinctDale" "leastOfOne" "LDistinctDale$LeastHashes;", Cond.methodLink RX4 112 yX1_keepThoseOf, Cond.instanceMethod yX1_keepThoseOf]
def wsL_without_r2 : List Cond := [Cond.selects RX1 yX1_keepThoseOf yX1_keepThoseOf, Cond.initialized RX1, Cond.code yX1_keepThoseOf cX1_keepThoseOf 3 none, Cond.fieldLink RX1 25 "DistinctDale$Basket" "size" "I", Cond.fieldLink RX1 28 "DistinctDale$Basket" "items" "[I", Cond.methodLink RX1 22 yX1_forget, Cond.instanceMethod yX1_forget, Cond.selects RX1 yX1_forget yX1_forget, Cond.code yX1_forget cX1_forget 1 none, Cond.fieldLink RX1 15 "DistinctDale$LeastHashes" "size" "I", Cond.static yX4_at, Cond.code yX4_at cX4_at 2 (some .int), Cond.static yX4_hashFor, Cond.code yX4_hashFor cX4_hashFor 3 (some .int), Cond.constantLong RX4 190 (69), Cond.constantLong RX4 192 (48271), Cond.constantLong RX4 194 (101), Cond.constantLong RX4 196 (16777213), Cond.methodLink RX1 39 yX1_offer, Cond.instanceMethod yX1_offer, Cond.selects RX1 yX1_offer yX1_offer, Cond.code yX1_offer cX1_offer 5 none, Cond.fieldLink RX1 19 "DistinctDale$LeastHashes" "limit" "I", Cond.fieldLink RX1 9 "DistinctDale$LeastHashes" "hashes" "[I"]
def wsL_without_r3 : List Cond := [Cond.static yX4_put, Cond.code yX4_put cX4_put 3 none, Cond.methodLink RX4 183 yX1_forget, Cond.methodLink RX4 186 yX1_offerAllOf, Cond.instanceMethod yX1_offerAllOf, Cond.selects RX1 yX1_offerAllOf yX1_offerAllOf, Cond.code yX1_offerAllOf cX1_offerAllOf 3 none, Cond.methodLink RX4 127 yX4_at, Cond.methodLink RX4 137 yX1_has, Cond.instanceMethod yX1_has, Cond.selects RX1 yX1_has yX1_has, Cond.code yX1_has cX1_has 3 (some .boolean), Cond.methodLink RX4 140 yX1_estimateOfPart, Cond.instanceMethod yX1_estimateOfPart, Cond.selects RX1 yX1_estimateOfPart yX1_estimateOfPart, Cond.code yX1_estimateOfPart cX1_estimateOfPart 2 (some .int), Cond.methodLink RX1 44 yX1_estimate, Cond.instanceMethod yX1_estimate, Cond.selects RX1 yX1_estimate yX1_estimate, Cond.code yX1_estimate cX1_estimate 2 (some .int), Cond.constant RX1 43 (16777213)]
def wsL_without : List Cond := .codeWith yL_without cL_without 5 (some .int) [(0, 10, 13, 13)] :: ((wsL_without_r1 ++ (wsL_without_r2 ++ wsL_without_r3)) ++ wsX40 ++ wsX10 ++ wsX00 ++ (vx_atS RX4 121 "java/lang/IndexOutOfBoundsException" ["java/lang/RuntimeException", "java/lang/Exception"]).filter goodWord)
def wsL_register_r1 : List Cond := [Cond.classLink RL 13 "java/lang/IndexOutOfBoundsException", Cond.methodLink RL 62 yX4_register, Cond.instanceMethod yX4_register, Cond.selects RX4 yX4_register yX4_register, Cond.initialized RX4, Cond.code yX4_register cX4_register 4 (some .int), Cond.classLink RX4 117 "java/lang/IndexOutOfBoundsException", Cond.initialized "java/lang/IndexOutOfBoundsException", Cond.fieldLink RX4 32 "DistinctDale" "registers" "LDistinctDale$Registers;", Cond.fieldLink RX4 148 "DistinctDale$Registers" "ranks" "[I", Cond.methodLink RX4 68 yX4_need, Cond.instanceMethod yX4_need, Cond.selects RX4 yX4_need yX4_need, Cond.code yX4_need cX4_need 3 (some (.object "DistinctDale$Basket")), Cond.fieldLink RX4 24 "DistinctDale" "baskets" "[LDistinctDale$Basket;", Cond.methodLink RX4 145 yX2_rankAllOf, Cond.instanceMethod yX2_rankAllOf, Cond.selects RX2 yX2_rankAllOf yX2_rankAllOf, Cond.initialized RX2, Cond.code yX2_rankAllOf cX2_rankAllOf 2 none, Cond.methodLink RX2 15 yX2_rankThoseAbove, Cond.instanceMethod yX2_rankThoseAbove, Cond.selects RX2 yX2_rankThoseAbove yX2_rankThoseAbove, Cond.code yX2_rankThoseAbove cX2_rankThoseAbove 4 none]
def wsL_register_r2 : List Cond := [Cond.fieldLink RX2 11 "DistinctDale$Registers" "ranks" "[I", Cond.fieldLink RX2 23 "DistinctDale$Basket" "size" "I", Cond.fieldLink RX2 29 "DistinctDale$Basket" "dates" "[I", Cond.fieldLink RX2 36 "DistinctDale$Basket" "items" "[I", Cond.static yX4_put, Cond.code yX4_put cX4_put 3 none, Cond.static yX4_at, Cond.code yX4_at cX4_at 2 (some .int), Cond.static yX4_hashFor, Cond.code yX4_hashFor cX4_hashFor 3 (some .int), Cond.constantLong RX4 190 (69), Cond.constantLong RX4 192 (48271), Cond.constantLong RX4 194 (101), Cond.constantLong RX4 196 (16777213), Cond.methodLink RX2 43 yX2_rank, Cond.instanceMethod yX2_rank, Cond.selects RX2 yX2_rank yX2_rank, Cond.code yX2_rank cX2_rank 4 none, Cond.static yX4_lowZeros, Cond.code yX4_lowZeros cX4_lowZeros 3 (some .int), Cond.methodLink RX4 127 yX4_at]
def wsL_register : List Cond := .codeWith yL_register cL_register 5 (some .int) [(0, 10, 13, 13)] :: ((wsL_register_r1 ++ wsL_register_r2) ++ wsX40 ++ wsX20 ++ wsX00 ++ (vx_atS RX4 121 "java/lang/IndexOutOfBoundsException" ["java/lang/RuntimeException", "java/lang/Exception"]).filter goodWord)
def wsL_byRegisters_r1 : List Cond := [Cond.classLink RL 13 "java/lang/IndexOutOfBoundsException", Cond.methodLink RL 65 yX4_byRegisters, Cond.instanceMethod yX4_byRegisters, Cond.selects RX4 yX4_byRegisters yX4_byRegisters, Cond.initialized RX4, Cond.code yX4_byRegisters cX4_byRegisters 2 (some .long), Cond.fieldLink RX4 32 "DistinctDale" "registers" "LDistinctDale$Registers;", Cond.methodLink RX4 68 yX4_need, Cond.instanceMethod yX4_need, Cond.selects RX4 yX4_need yX4_need, Cond.code yX4_need cX4_need 3 (some (.object "DistinctDale$Basket")), Cond.classLink RX4 117 "java/lang/IndexOutOfBoundsException", Cond.initialized "java/lang/IndexOutOfBoundsException", Cond.fieldLink RX4 24 "DistinctDale" "baskets" "[LDistinctDale$Basket;", Cond.methodLink RX4 145 yX2_rankAllOf, Cond.instanceMethod yX2_rankAllOf, Cond.selects RX2 yX2_rankAllOf yX2_rankAllOf, Cond.initialized RX2, Cond.code yX2_rankAllOf cX2_rankAllOf 2 none, Cond.methodLink RX2 15 yX2_rankThoseAbove, Cond.instanceMethod yX2_rankThoseAbove, Cond.selects RX2 yX2_rankThoseAbove yX2_rankThoseAbove, Cond.code yX2_rankThoseAbove cX2_rankThoseAbove 4 none, Cond.fieldLink RX2 11 "DistinctDale$Registers" "ranks" "[I"]
def wsL_byRegisters_r2 : List Cond := [Cond.fieldLink RX2 23 "DistinctDale$Basket" "size" "I", Cond.fieldLink RX2 29 "DistinctDale$Basket" "dates" "[I", Cond.fieldLink RX2 36 "DistinctDale$Basket" "items" "[I", Cond.static yX4_put, Cond.code yX4_put cX4_put 3 none, Cond.static yX4_at, Cond.code yX4_at cX4_at 2 (some .int), Cond.static yX4_hashFor, Cond.code yX4_hashFor cX4_hashFor 3 (some .int), Cond.constantLong RX4 190 (69), Cond.constantLong RX4 192 (48271), Cond.constantLong RX4 194 (101), Cond.constantLong RX4 196 (16777213), Cond.methodLink RX2 43 yX2_rank, Cond.instanceMethod yX2_rank, Cond.selects RX2 yX2_rank yX2_rank, Cond.code yX2_rank cX2_rank 4 none, Cond.static yX4_lowZeros, Cond.code yX4_lowZeros cX4_lowZeros 3 (some .int), Cond.methodLink RX4 151 yX2_estimate, Cond.instanceMethod yX2_estimate, Cond.selects RX2 yX2_estimate yX2_estimate, Cond.code yX2_estimate cX2_estimate 6 (some .long), Cond.constant RX2 47 (16777216)]
def wsL_byRegisters_r3 : List Cond := [Cond.constantLong RX2 48 (2890512990208), Cond.constantLong RX2 50 (40000), Cond.fieldLink RX2 52 "DistinctDale$Registers" "ESTIMATE_BY_ZEROS" "[I"]
def wsL_byRegisters : List Cond := .codeWith yL_byRegisters cL_byRegisters 4 (some .int) [(0, 8, 11, 13)] :: ((wsL_byRegisters_r1 ++ (wsL_byRegisters_r2 ++ wsL_byRegisters_r3)) ++ wsX40 ++ wsX20 ++ wsX00 ++ (vx_atS RX4 121 "java/lang/IndexOutOfBoundsException" ["java/lang/RuntimeException", "java/lang/Exception"]).filter goodWord)
def wsL_recent_r1 : List Cond := [Cond.classLink RL 13 "java/lang/IndexOutOfBoundsException", Cond.classLink RL 15 "java/lang/IllegalArgumentException", Cond.methodLink RL 69 yX4_recent, Cond.instanceMethod yX4_recent, Cond.selects RX4 yX4_recent yX4_recent, Cond.initialized RX4, Cond.code yX4_recent cX4_recent 4 (some .long), Cond.constant RX4 154 (100000), Cond.fieldLink RX4 32 "DistinctDale" "registers" "LDistinctDale$Registers;", Cond.fieldLink RX4 65 "DistinctDale" "now" "I", Cond.methodLink RX4 68 yX4_need, Cond.instanceMethod yX4_need, Cond.selects RX4 yX4_need yX4_need, Cond.code yX4_need cX4_need 3 (some (.object "DistinctDale$Basket")), Cond.classLink RX4 117 "java/lang/IndexOutOfBoundsException", Cond.initialized "java/lang/IndexOutOfBoundsException", Cond.fieldLink RX4 24 "DistinctDale" "baskets" "[LDistinctDale$Basket;", Cond.methodLink RX4 76 yX4_refuseUnless, Cond.static yX4_refuseUnless, Cond.code yX4_refuseUnless cX4_refuseUnless 1 none, Cond.classLink RX4 174 "java/lang/IllegalArgumentException", Cond.initialized "java/lang/IllegalArgumentException", Cond.methodLink RX4 155 yX2_rankThoseAbove, Cond.instanceMethod yX2_rankThoseAbove]
def wsL_recent_r2 : List Cond := [Cond.selects RX2 yX2_rankThoseAbove yX2_rankThoseAbove, Cond.initialized RX2, Cond.code yX2_rankThoseAbove cX2_rankThoseAbove 4 none, Cond.fieldLink RX2 11 "DistinctDale$Registers" "ranks" "[I", Cond.fieldLink RX2 23 "DistinctDale$Basket" "size" "I", Cond.fieldLink RX2 29 "DistinctDale$Basket" "dates" "[I", Cond.fieldLink RX2 36 "DistinctDale$Basket" "items" "[I", Cond.static yX4_put, Cond.code yX4_put cX4_put 3 none, Cond.static yX4_at, Cond.code yX4_at cX4_at 2 (some .int), Cond.static yX4_hashFor, Cond.code yX4_hashFor cX4_hashFor 3 (some .int), Cond.constantLong RX4 190 (69), Cond.constantLong RX4 192 (48271), Cond.constantLong RX4 194 (101), Cond.constantLong RX4 196 (16777213), Cond.methodLink RX2 43 yX2_rank, Cond.instanceMethod yX2_rank, Cond.selects RX2 yX2_rank yX2_rank, Cond.code yX2_rank cX2_rank 4 none, Cond.static yX4_lowZeros, Cond.code yX4_lowZeros cX4_lowZeros 3 (some .int), Cond.methodLink RX4 151 yX2_estimate]
def wsL_recent_r3 : List Cond := [Cond.instanceMethod yX2_estimate, Cond.selects RX2 yX2_estimate yX2_estimate, Cond.code yX2_estimate cX2_estimate 6 (some .long), Cond.constant RX2 47 (16777216), Cond.constantLong RX2 48 (2890512990208), Cond.constantLong RX2 50 (40000), Cond.fieldLink RX2 52 "DistinctDale$Registers" "ESTIMATE_BY_ZEROS" "[I"]
def wsL_recent : List Cond := .codeWith yL_recent cL_recent 5 (some .int) [(0, 9, 12, 13), (0, 9, 16, 15)] :: ((wsL_recent_r1 ++ (wsL_recent_r2 ++ wsL_recent_r3)) ++ wsX40 ++ wsX20 ++ wsX00 ++ (vx_atS RX4 121 "java/lang/IndexOutOfBoundsException" ["java/lang/RuntimeException", "java/lang/Exception"]).filter goodWord ++ (vx_atS RX4 178 "java/lang/IllegalArgumentException" ["java/lang/RuntimeException", "java/lang/Exception"]).filter goodWord)
def wsL_level_r1 : List Cond := [Cond.classLink RL 13 "java/lang/IndexOutOfBoundsException", Cond.methodLink RL 73 yX4_level, Cond.instanceMethod yX4_level, Cond.selects RX4 yX4_level yX4_level, Cond.initialized RX4, Cond.code yX4_level cX4_level 2 (some .int), Cond.fieldLink RX4 39 "DistinctDale" "thinning" "LDistinctDale$Thinning;", Cond.fieldLink RX4 162 "DistinctDale$Thinning" "levelFound" "I", Cond.methodLink RX4 68 yX4_need, Cond.instanceMethod yX4_need, Cond.selects RX4 yX4_need yX4_need, Cond.code yX4_need cX4_need 3 (some (.object "DistinctDale$Basket")), Cond.classLink RX4 117 "java/lang/IndexOutOfBoundsException", Cond.initialized "java/lang/IndexOutOfBoundsException", Cond.fieldLink RX4 24 "DistinctDale" "baskets" "[LDistinctDale$Basket;", Cond.methodLink RX4 159 yX3_thin, Cond.instanceMethod yX3_thin, Cond.selects RX3 yX3_thin yX3_thin, Cond.initialized RX3, Cond.code yX3_thin cX3_thin 4 none, Cond.fieldLink RX3 11 "DistinctDale$Thinning" "itemsByLowZeros" "[I", Cond.fieldLink RX3 26 "DistinctDale$Basket" "size" "I", Cond.fieldLink RX3 29 "DistinctDale$Basket" "items" "[I", Cond.fieldLink RX3 15 "DistinctDale$Thinning" "levelFound" "I"]
def wsL_level_r2 : List Cond := [Cond.fieldLink RX3 19 "DistinctDale$Thinning" "size" "I", Cond.static yX4_put, Cond.code yX4_put cX4_put 3 none, Cond.static yX4_at, Cond.code yX4_at cX4_at 2 (some .int), Cond.methodLink RX3 36 yX3_lowZerosOf, Cond.static yX3_lowZerosOf, Cond.code yX3_lowZerosOf cX3_lowZerosOf 1 (some .int), Cond.static yX4_hashFor, Cond.code yX4_hashFor cX4_hashFor 3 (some .int), Cond.constantLong RX4 190 (69), Cond.constantLong RX4 192 (48271), Cond.constantLong RX4 194 (101), Cond.constantLong RX4 196 (16777213), Cond.static yX4_lowZeros, Cond.code yX4_lowZeros cX4_lowZeros 3 (some .int)]
def wsL_level : List Cond := .codeWith yL_level cL_level 4 (some .int) [(0, 9, 12, 13)] :: ((wsL_level_r1 ++ wsL_level_r2) ++ wsX40 ++ wsX30 ++ wsX00 ++ (vx_atS RX4 121 "java/lang/IndexOutOfBoundsException" ["java/lang/RuntimeException", "java/lang/Exception"]).filter goodWord)
def wsL_sampled_r1 : List Cond := [Cond.classLink RL 13 "java/lang/IndexOutOfBoundsException", Cond.methodLink RL 76 yX4_sampled, Cond.instanceMethod yX4_sampled, Cond.selects RX4 yX4_sampled yX4_sampled, Cond.initialized RX4, Cond.code yX4_sampled cX4_sampled 2 (some .int), Cond.fieldLink RX4 39 "DistinctDale" "thinning" "LDistinctDale$Thinning;", Cond.fieldLink RX4 165 "DistinctDale$Thinning" "size" "I", Cond.methodLink RX4 68 yX4_need, Cond.instanceMethod yX4_need, Cond.selects RX4 yX4_need yX4_need, Cond.code yX4_need cX4_need 3 (some (.object "DistinctDale$Basket")), Cond.classLink RX4 117 "java/lang/IndexOutOfBoundsException", Cond.initialized "java/lang/IndexOutOfBoundsException", Cond.fieldLink RX4 24 "DistinctDale" "baskets" "[LDistinctDale$Basket;", Cond.methodLink RX4 159 yX3_thin, Cond.instanceMethod yX3_thin, Cond.selects RX3 yX3_thin yX3_thin, Cond.initialized RX3, Cond.code yX3_thin cX3_thin 4 none, Cond.fieldLink RX3 11 "DistinctDale$Thinning" "itemsByLowZeros" "[I", Cond.fieldLink RX3 26 "DistinctDale$Basket" "size" "I", Cond.fieldLink RX3 29 "DistinctDale$Basket" "items" "[I", Cond.fieldLink RX3 15 "DistinctDale$Thinning" "levelFound" "I"]
def wsL_sampled_r2 : List Cond := [Cond.fieldLink RX3 19 "DistinctDale$Thinning" "size" "I", Cond.static yX4_put, Cond.code yX4_put cX4_put 3 none, Cond.static yX4_at, Cond.code yX4_at cX4_at 2 (some .int), Cond.methodLink RX3 36 yX3_lowZerosOf, Cond.static yX3_lowZerosOf, Cond.code yX3_lowZerosOf cX3_lowZerosOf 1 (some .int), Cond.static yX4_hashFor, Cond.code yX4_hashFor cX4_hashFor 3 (some .int), Cond.constantLong RX4 190 (69), Cond.constantLong RX4 192 (48271), Cond.constantLong RX4 194 (101), Cond.constantLong RX4 196 (16777213), Cond.static yX4_lowZeros, Cond.code yX4_lowZeros cX4_lowZeros 3 (some .int)]
def wsL_sampled : List Cond := .codeWith yL_sampled cL_sampled 4 (some .int) [(0, 9, 12, 13)] :: ((wsL_sampled_r1 ++ wsL_sampled_r2) ++ wsX40 ++ wsX30 ++ wsX00 ++ (vx_atS RX4 121 "java/lang/IndexOutOfBoundsException" ["java/lang/RuntimeException", "java/lang/Exception"]).filter goodWord)
def wsL_sampledAt_r1 : List Cond := [Cond.classLink RL 13 "java/lang/IndexOutOfBoundsException", Cond.methodLink RL 79 yX4_sampledAt, Cond.instanceMethod yX4_sampledAt, Cond.selects RX4 yX4_sampledAt yX4_sampledAt, Cond.initialized RX4, Cond.code yX4_sampledAt cX4_sampledAt 4 (some .int), Cond.classLink RX4 117 "java/lang/IndexOutOfBoundsException", Cond.initialized "java/lang/IndexOutOfBoundsException", Cond.fieldLink RX4 39 "DistinctDale" "thinning" "LDistinctDale$Thinning;", Cond.fieldLink RX4 165 "DistinctDale$Thinning" "size" "I", Cond.methodLink RX4 68 yX4_need, Cond.instanceMethod yX4_need, Cond.selects RX4 yX4_need yX4_need, Cond.code yX4_need cX4_need 3 (some (.object "DistinctDale$Basket")), Cond.fieldLink RX4 24 "DistinctDale" "baskets" "[LDistinctDale$Basket;", Cond.methodLink RX4 159 yX3_thin, Cond.instanceMethod yX3_thin, Cond.selects RX3 yX3_thin yX3_thin, Cond.initialized RX3, Cond.code yX3_thin cX3_thin 4 none, Cond.fieldLink RX3 11 "DistinctDale$Thinning" "itemsByLowZeros" "[I", Cond.fieldLink RX3 26 "DistinctDale$Basket" "size" "I", Cond.fieldLink RX3 29 "DistinctDale$Basket" "items" "[I", Cond.fieldLink RX3 15 "DistinctDale$Thinning" "levelFound" "I"]
def wsL_sampledAt_r2 : List Cond := [Cond.fieldLink RX3 19 "DistinctDale$Thinning" "size" "I", Cond.static yX4_put, Cond.code yX4_put cX4_put 3 none, Cond.static yX4_at, Cond.code yX4_at cX4_at 2 (some .int), Cond.methodLink RX3 36 yX3_lowZerosOf, Cond.static yX3_lowZerosOf, Cond.code yX3_lowZerosOf cX3_lowZerosOf 1 (some .int), Cond.static yX4_hashFor, Cond.code yX4_hashFor cX4_hashFor 3 (some .int), Cond.constantLong RX4 190 (69), Cond.constantLong RX4 192 (48271), Cond.constantLong RX4 194 (101), Cond.constantLong RX4 196 (16777213), Cond.static yX4_lowZeros, Cond.code yX4_lowZeros cX4_lowZeros 3 (some .int), Cond.methodLink RX4 168 yX3_itemAt, Cond.instanceMethod yX3_itemAt, Cond.selects RX3 yX3_itemAt yX3_itemAt, Cond.code yX3_itemAt cX3_itemAt 6 (some .int)]
def wsL_sampledAt : List Cond := .codeWith yL_sampledAt cL_sampledAt 5 (some .int) [(0, 10, 13, 13)] :: ((wsL_sampledAt_r1 ++ wsL_sampledAt_r2) ++ wsX40 ++ wsX30 ++ wsX00 ++ (vx_atS RX4 121 "java/lang/IndexOutOfBoundsException" ["java/lang/RuntimeException", "java/lang/Exception"]).filter goodWord)
def wsL_bySample_r1 : List Cond := [Cond.classLink RL 13 "java/lang/IndexOutOfBoundsException", Cond.methodLink RL 82 yX4_bySample, Cond.instanceMethod yX4_bySample, Cond.selects RX4 yX4_bySample yX4_bySample, Cond.initialized RX4, Cond.code yX4_bySample cX4_bySample 2 (some .int), Cond.fieldLink RX4 39 "DistinctDale" "thinning" "LDistinctDale$Thinning;", Cond.fieldLink RX4 165 "DistinctDale$Thinning" "size" "I", Cond.fieldLink RX4 162 "DistinctDale$Thinning" "levelFound" "I", Cond.methodLink RX4 68 yX4_need, Cond.instanceMethod yX4_need, Cond.selects RX4 yX4_need yX4_need, Cond.code yX4_need cX4_need 3 (some (.object "DistinctDale$Basket")), Cond.classLink RX4 117 "java/lang/IndexOutOfBoundsException", Cond.initialized "java/lang/IndexOutOfBoundsException", Cond.fieldLink RX4 24 "DistinctDale" "baskets" "[LDistinctDale$Basket;", Cond.methodLink RX4 159 yX3_thin, Cond.instanceMethod yX3_thin, Cond.selects RX3 yX3_thin yX3_thin, Cond.initialized RX3, Cond.code yX3_thin cX3_thin 4 none, Cond.fieldLink RX3 11 "DistinctDale$Thinning" "itemsByLowZeros" "[I", Cond.fieldLink RX3 26 "DistinctDale$Basket" "size" "I", Cond.fieldLink RX3 29 "DistinctDale$Basket" "items" "[I"]
def wsL_bySample_r2 : List Cond := [Cond.fieldLink RX3 15 "DistinctDale$Thinning" "levelFound" "I", Cond.fieldLink RX3 19 "DistinctDale$Thinning" "size" "I", Cond.static yX4_put, Cond.code yX4_put cX4_put 3 none, Cond.static yX4_at, Cond.code yX4_at cX4_at 2 (some .int), Cond.methodLink RX3 36 yX3_lowZerosOf, Cond.static yX3_lowZerosOf, Cond.code yX3_lowZerosOf cX3_lowZerosOf 1 (some .int), Cond.static yX4_hashFor, Cond.code yX4_hashFor cX4_hashFor 3 (some .int), Cond.constantLong RX4 190 (69), Cond.constantLong RX4 192 (48271), Cond.constantLong RX4 194 (101), Cond.constantLong RX4 196 (16777213), Cond.static yX4_lowZeros, Cond.code yX4_lowZeros cX4_lowZeros 3 (some .int)]
def wsL_bySample : List Cond := .codeWith yL_bySample cL_bySample 4 (some .int) [(0, 9, 12, 13)] :: ((wsL_bySample_r1 ++ wsL_bySample_r2) ++ wsX40 ++ wsX30 ++ wsX00 ++ (vx_atS RX4 121 "java/lang/IndexOutOfBoundsException" ["java/lang/RuntimeException", "java/lang/Exception"]).filter goodWord)
def wsL_law0_r1 : List Cond := [Cond.classLink RL 8 RX4, Cond.instantiable RX4 10, Cond.initialized RX4, Cond.classLink RL 94 RX5, Cond.instantiable RX5 14, Cond.initialized RX5, Cond.arrayClass .long, Cond.methodLink RL 85 yL_cell, Cond.static yL_cell, Cond.initialized RL, Cond.code yL_cell cL_cell 2 (some .int), Cond.methodLink RL 91 yX4_init, Cond.instanceMethod yX4_init, Cond.code yX4_init cX4_init 3 none, Cond.methodLink RX4 1 objectInit, Cond.instanceMethod objectInit, Cond.code objectInit ⟨#[0xb1]⟩ 1 none, Cond.methodLink RX4 9 Lib.Math.min.name, Cond.static Lib.Math.min.name, Cond.initialized "java/lang/Math", Cond.code Lib.Math.min.name Lib.Math.min.code 2 (some .int), Cond.methodLink RX4 15 Lib.Math.max.name, Cond.static Lib.Math.max.name, Cond.code Lib.Math.max.name Lib.Math.max.code 2 (some .int)]
def wsL_law0_r2 : List Cond := [Cond.fieldLink RX4 18 "DistinctDale" "keptAtMost" "I", Cond.classLink RX4 22 RX0, Cond.fieldLink RX4 24 "DistinctDale" "baskets" "[LDistinctDale$Basket;", Cond.instantiable RX0 3, Cond.initialized RX0, Cond.classLink RX4 29 RX2, Cond.instantiable RX2 1, Cond.initialized RX2, Cond.fieldLink RX4 32 "DistinctDale" "registers" "LDistinctDale$Registers;", Cond.classLink RX4 36 RX3, Cond.instantiable RX3 3, Cond.initialized RX3, Cond.fieldLink RX4 39 "DistinctDale" "thinning" "LDistinctDale$Thinning;", Cond.classLink RX4 43 RX1, Cond.instantiable RX1 3, Cond.initialized RX1, Cond.fieldLink RX4 48 "DistinctDale" "leastOfOne" "LDistinctDale$LeastHashes;", Cond.fieldLink RX4 52 "DistinctDale" "leastOfOther" "LDistinctDale$LeastHashes;", Cond.fieldLink RX4 55 "DistinctDale" "leastOfBoth" "LDistinctDale$LeastHashes;", Cond.arrayClass .int, Cond.fieldLink RX4 58 "DistinctDale" "lineItems" "[I", Cond.fieldLink RX4 62 "DistinctDale" "lineDates" "[I", Cond.fieldLink RX4 65 "DistinctDale" "now" "I", Cond.instanceMethod yX0_init]
def wsL_law0_r3 : List Cond := [Cond.code yX0_init cX0_init 1 none, Cond.methodLink RX0 3 objectInit, Cond.fieldLink RX0 11 "DistinctDale$Basket" "items" "[I", Cond.fieldLink RX0 15 "DistinctDale$Basket" "dates" "[I", Cond.fieldLink RX0 18 "DistinctDale$Basket" "size" "I", Cond.instanceMethod yX2_init, Cond.code yX2_init cX2_init 1 none, Cond.methodLink RX2 5 objectInit, Cond.fieldLink RX2 11 "DistinctDale$Registers" "ranks" "[I", Cond.instanceMethod yX3_init, Cond.code yX3_init cX3_init 1 none, Cond.methodLink RX3 3 objectInit, Cond.fieldLink RX3 11 "DistinctDale$Thinning" "itemsByLowZeros" "[I", Cond.fieldLink RX3 15 "DistinctDale$Thinning" "levelFound" "I", Cond.fieldLink RX3 19 "DistinctDale$Thinning" "size" "I", Cond.methodLink RX4 45 yX1_init, Cond.instanceMethod yX1_init, Cond.code yX1_init cX1_init 2 none, Cond.methodLink RX1 3 objectInit, Cond.fieldLink RX1 9 "DistinctDale$LeastHashes" "hashes" "[I", Cond.fieldLink RX1 15 "DistinctDale$LeastHashes" "size" "I", Cond.fieldLink RX1 19 "DistinctDale$LeastHashes" "limit" "I", Cond.methodLink RL 96 yX5_init, Cond.instanceMethod yX5_init]
def wsL_law0_r4 : List Cond := [Cond.code yX5_init cX5_init 3 none, Cond.methodLink RX5 1 objectInit, Cond.constant RX5 7 (600000), Cond.fieldLink RX5 8 "DistinctDaleModel" "dates" "[I", Cond.constant RX5 14 (100000), Cond.fieldLink RX5 15 "DistinctDaleModel" "items" "[I", Cond.arrayClass .boolean, Cond.fieldLink RX5 18 "DistinctDaleModel" "isListed" "[Z", Cond.fieldLink RX5 22 "DistinctDaleModel" "kept" "[I", Cond.fieldLink RX5 25 "DistinctDaleModel" "other" "[I", Cond.fieldLink RX5 28 "DistinctDaleModel" "both" "[I", Cond.fieldLink RX5 31 "DistinctDaleModel" "registers" "[I", Cond.constant RX5 34 (44361), Cond.constant RX5 35 (33271), Cond.fieldLink RX5 36 "DistinctDaleModel" "few" "[I", Cond.fieldLink RX5 39 "DistinctDaleModel" "k" "I", Cond.methodLink RL 97 yL_add, Cond.static yL_add, Cond.codeWith yL_add cL_add 5 (some .int) [(0, 17, 20, 13), (0, 17, 24, 15)], Cond.classLink RL 13 "java/lang/IndexOutOfBoundsException", Cond.classLink RL 15 "java/lang/IllegalArgumentException", Cond.methodLink RL 7 yX4_add, Cond.instanceMethod yX4_add, Cond.selects RX4 yX4_add yX4_add]
def wsL_law0_r5 : List Cond := [Cond.code yX4_add cX4_add 4 (some .boolean), Cond.methodLink RX4 68 yX4_need, Cond.instanceMethod yX4_need, Cond.selects RX4 yX4_need yX4_need, Cond.code yX4_need cX4_need 3 (some (.object "DistinctDale$Basket")), Cond.classLink RX4 117 "java/lang/IndexOutOfBoundsException", Cond.initialized "java/lang/IndexOutOfBoundsException", Cond.methodLink RX4 72 yX4_isItem, Cond.static yX4_isItem, Cond.code yX4_isItem cX4_isItem 1 (some .boolean), Cond.constant RX4 154 (100000), Cond.methodLink RX4 76 yX4_refuseUnless, Cond.static yX4_refuseUnless, Cond.code yX4_refuseUnless cX4_refuseUnless 1 none, Cond.classLink RX4 174 "java/lang/IllegalArgumentException", Cond.initialized "java/lang/IllegalArgumentException", Cond.methodLink RX4 80 yX4_takeLine, Cond.instanceMethod yX4_takeLine, Cond.selects RX4 yX4_takeLine yX4_takeLine, Cond.code yX4_takeLine cX4_takeLine 6 (some .int), Cond.methodLink RX4 179 yX4_put, Cond.static yX4_put, Cond.code yX4_put cX4_put 3 none, Cond.methodLink RX4 97 yX0_take]
def wsL_law0_r6 : List Cond := [Cond.instanceMethod yX0_take, Cond.selects RX0 yX0_take yX0_take, Cond.code yX0_take cX0_take 12 (some .int), Cond.methodLink RX0 33 Lib.Math.max.name, Cond.methodLink RX0 22 yX0_countShared, Cond.instanceMethod yX0_countShared, Cond.selects RX0 yX0_countShared yX0_countShared, Cond.code yX0_countShared cX0_countShared 7 (some .int), Cond.static yX4_at, Cond.code yX4_at cX4_at 2 (some .int), Cond.methodLink RX0 26 yX0_makeRoomFor, Cond.instanceMethod yX0_makeRoomFor, Cond.selects RX0 yX0_makeRoomFor yX0_makeRoomFor, Cond.code yX0_makeRoomFor cX0_makeRoomFor 3 none, Cond.constant RX0 44 (100000), Cond.methodLink RX0 45 Lib.Math.min.name, Cond.methodLink RX0 48 yJ7_copyOf_59c91, Cond.static yJ7_copyOf_59c91, Cond.initialized RJ7, Cond.code yJ7_copyOf_59c91 cJ7_copyOf_59c91 3 (some (.array .int)), Cond.methodLink RJ7 316 ⟨"[I", "clone", "()Ljava/lang/Object;"⟩, Cond.sameMethod "[I" "java/lang/Object" "clone" "()Ljava/lang/Object;", Cond.native ⟨"java/lang/Object", "clone", "()Ljava/lang/Object;"⟩, Cond.instanceMethod ⟨"java/lang/Object", "clone", "()Ljava/lang/Object;"⟩]
def wsL_law0_r7 : List Cond := [Cond.selects "[I" ⟨"[I", "clone", "()Ljava/lang/Object;"⟩ ⟨"java/lang/Object", "clone", "()Ljava/lang/Object;"⟩, Cond.classLink RJ7 317 "[I", Cond.methodLink RJ7 304 Lib.Math.min.name, Cond.methodLink RJ7 150 arraycopyName, Cond.native arraycopyName, Cond.static arraycopyName, Cond.initialized "java/lang/System", Cond.methodLink RL 100 yX5_add, Cond.instanceMethod yX5_add, Cond.selects RX5 yX5_add yX5_add, Cond.code yX5_add cX5_add 3 (some .boolean), Cond.fieldLink RX5 71 "DistinctDaleModel" "now" "I", Cond.methodLink RX5 61 yX5_isBasket, Cond.static yX5_isBasket, Cond.code yX5_isBasket cX5_isBasket 1 (some .boolean), Cond.methodLink RX5 65 yX5_isItem, Cond.static yX5_isItem, Cond.code yX5_isItem cX5_isItem 1 (some .boolean), Cond.methodLink RX5 68 yX5_goesWell, Cond.instanceMethod yX5_goesWell, Cond.selects RX5 yX5_goesWell yX5_goesWell, Cond.code yX5_goesWell cX5_goesWell 2 (some .boolean), Cond.fieldLink RX5 43 "DistinctDaleModel" "thrown" "I", Cond.methodLink RX5 74 yX5_put]
def wsL_law0_r8 : List Cond := [Cond.instanceMethod yX5_put, Cond.selects RX5 yX5_put yX5_put, Cond.code yX5_put cX5_put 5 (some .boolean), Cond.fieldLink RX5 58 "DistinctDaleModel" "listed" "I", Cond.methodLink RX5 54 yX5_has, Cond.instanceMethod yX5_has, Cond.selects RX5 yX5_has yX5_has, Cond.code yX5_has cX5_has 3 (some .boolean), Cond.methodLink RL 101 yX5_thrown, Cond.instanceMethod yX5_thrown, Cond.selects RX5 yX5_thrown yX5_thrown, Cond.code yX5_thrown cX5_thrown 1 (some .int), Cond.methodLink RL 105 yL_addLine, Cond.static yL_addLine, Cond.codeWith yL_addLine cL_addLine 7 (some .int) [(0, 14, 17, 13), (0, 14, 21, 15)], Cond.methodLink RL 17 yX4_addLine, Cond.instanceMethod yX4_addLine, Cond.selects RX4 yX4_addLine yX4_addLine, Cond.code yX4_addLine cX4_addLine 6 (some .int), Cond.methodLink RL 108 yX5_addLine, Cond.instanceMethod yX5_addLine, Cond.selects RX5 yX5_addLine yX5_addLine, Cond.code yX5_addLine cX5_addLine 8 (some .int), Cond.methodLink RL 109 yL_empty]
def wsL_law0_r9 : List Cond := [Cond.static yL_empty, Cond.codeWith yL_empty cL_empty 4 (some .int) [(0, 9, 12, 13)], Cond.methodLink RL 21 yX4_empty, Cond.instanceMethod yX4_empty, Cond.selects RX4 yX4_empty yX4_empty, Cond.code yX4_empty cX4_empty 2 (some .int), Cond.methodLink RX4 84 yX0_drain, Cond.instanceMethod yX0_drain, Cond.selects RX0 yX0_drain yX0_drain, Cond.code yX0_drain cX0_drain 2 (some .int), Cond.methodLink RL 112 yX5_empty, Cond.instanceMethod yX5_empty, Cond.selects RX5 yX5_empty yX5_empty, Cond.code yX5_empty cX5_empty 4 (some .int), Cond.methodLink RX5 78 yX5_count, Cond.instanceMethod yX5_count, Cond.selects RX5 yX5_count yX5_count, Cond.code yX5_count cX5_count 4 (some .int), Cond.methodLink RL 113 yL_merge, Cond.static yL_merge, Cond.codeWith yL_merge cL_merge 5 (some .int) [(0, 10, 13, 13)], Cond.methodLink RL 25 yX4_merge, Cond.instanceMethod yX4_merge, Cond.selects RX4 yX4_merge yX4_merge]
def wsL_law0_r10 : List Cond := [Cond.code yX4_merge cX4_merge 5 (some .int), Cond.fieldLink RX4 88 "DistinctDale$Basket" "items" "[I", Cond.fieldLink RX4 91 "DistinctDale$Basket" "dates" "[I", Cond.fieldLink RX4 94 "DistinctDale$Basket" "size" "I", Cond.methodLink RL 115 yX5_merge, Cond.instanceMethod yX5_merge, Cond.selects RX5 yX5_merge yX5_merge, Cond.code yX5_merge cX5_merge 6 (some .int), Cond.methodLink RL 116 yL_pass, Cond.static yL_pass, Cond.codeWith yL_pass cL_pass 4 (some .int) [(0, 9, 12, 15)], Cond.methodLink RL 29 yX4_pass, Cond.instanceMethod yX4_pass, Cond.selects RX4 yX4_pass yX4_pass, Cond.code yX4_pass cX4_pass 2 (some .int), Cond.methodLink RL 118 yX5_pass, Cond.instanceMethod yX5_pass, Cond.selects RX5 yX5_pass yX5_pass, Cond.code yX5_pass cX5_pass 2 (some .int), Cond.methodLink RL 119 yX4_clock, Cond.instanceMethod yX4_clock, Cond.selects RX4 yX4_clock yX4_clock, Cond.code yX4_clock cX4_clock 1 (some .int), Cond.methodLink RL 122 yX5_clock]
def wsL_law0_r11 : List Cond := [Cond.instanceMethod yX5_clock, Cond.selects RX5 yX5_clock yX5_clock, Cond.code yX5_clock cX5_clock 1 (some .int), Cond.methodLink RL 123 yL_plain, Cond.static yL_plain, Cond.codeWith yL_plain cL_plain 4 (some .int) [(0, 9, 12, 13)], Cond.methodLink RL 32 yX4_plain, Cond.instanceMethod yX4_plain, Cond.selects RX4 yX4_plain yX4_plain, Cond.code yX4_plain cX4_plain 2 (some .int), Cond.methodLink RL 125 yX5_plain, Cond.instanceMethod yX5_plain, Cond.selects RX5 yX5_plain yX5_plain, Cond.code yX5_plain cX5_plain 2 (some .int), Cond.methodLink RL 126 yL_plainCommon, Cond.static yL_plainCommon, Cond.codeWith yL_plainCommon cL_plainCommon 5 (some .int) [(0, 10, 13, 13)], Cond.methodLink RL 35 yX4_plainCommon, Cond.instanceMethod yX4_plainCommon, Cond.selects RX4 yX4_plainCommon yX4_plainCommon, Cond.code yX4_plainCommon cX4_plainCommon 5 (some .int), Cond.methodLink RX4 101 yX0_countShared, Cond.methodLink RL 128 yX5_plainCommon, Cond.instanceMethod yX5_plainCommon]
def wsL_law0_r12 : List Cond := [Cond.selects RX5 yX5_plainCommon yX5_plainCommon, Cond.code yX5_plainCommon cX5_plainCommon 5 (some .int), Cond.methodLink RL 129 yL_dateOf, Cond.static yL_dateOf, Cond.codeWith yL_dateOf cL_dateOf 5 (some .int) [(0, 10, 13, 13), (0, 10, 17, 15)], Cond.methodLink RL 38 yX4_dateOf, Cond.instanceMethod yX4_dateOf, Cond.selects RX4 yX4_dateOf yX4_dateOf, Cond.code yX4_dateOf cX4_dateOf 4 (some .int), Cond.methodLink RX4 105 yX0_dateFor, Cond.instanceMethod yX0_dateFor, Cond.selects RX0 yX0_dateFor yX0_dateFor, Cond.code yX0_dateFor cX0_dateFor 4 (some .int), Cond.constant RX0 43 (65536), Cond.methodLink RL 131 yX5_dateOf, Cond.instanceMethod yX5_dateOf, Cond.selects RX5 yX5_dateOf yX5_dateOf, Cond.code yX5_dateOf cX5_dateOf 3 (some .int), Cond.methodLink RL 132 yL_hash, Cond.static yL_hash, Cond.codeWith yL_hash cL_hash 4 (some .int) [(0, 9, 12, 15)], Cond.methodLink RL 41 yX4_hash, Cond.instanceMethod yX4_hash, Cond.selects RX4 yX4_hash yX4_hash]
def wsL_law0_r13 : List Cond := [Cond.code yX4_hash cX4_hash 2 (some .int), Cond.methodLink RX4 109 yX4_hashFor, Cond.static yX4_hashFor, Cond.code yX4_hashFor cX4_hashFor 3 (some .int), Cond.constantLong RX4 190 (69), Cond.constantLong RX4 192 (48271), Cond.constantLong RX4 194 (101), Cond.constantLong RX4 196 (16777213), Cond.methodLink RL 134 yX5_hash, Cond.instanceMethod yX5_hash, Cond.selects RX5 yX5_hash yX5_hash, Cond.code yX5_hash cX5_hash 2 (some .int), Cond.methodLink RX5 82 yX5_hashOf, Cond.static yX5_hashOf, Cond.code yX5_hashOf cX5_hashOf 1 (some .int), Cond.constantLong RX5 46 (69), Cond.constantLong RX5 48 (48271), Cond.constantLong RX5 50 (101), Cond.constantLong RX5 52 (16777213), Cond.methodLink RL 135 yX4_most, Cond.instanceMethod yX4_most, Cond.selects RX4 yX4_most yX4_most, Cond.code yX4_most cX4_most 1 (some .int), Cond.methodLink RL 138 yX5_most]
def wsL_law0_r14 : List Cond := [Cond.instanceMethod yX5_most, Cond.selects RX5 yX5_most yX5_most, Cond.code yX5_most cX5_most 1 (some .int), Cond.methodLink RL 139 yL_kept, Cond.static yL_kept, Cond.codeWith yL_kept cL_kept 4 (some .int) [(0, 9, 12, 13)], Cond.methodLink RL 44 yX4_kept, Cond.instanceMethod yX4_kept, Cond.selects RX4 yX4_kept yX4_kept, Cond.code yX4_kept cX4_kept 2 (some .int), Cond.fieldLink RX4 116 "DistinctDale$LeastHashes" "size" "I", Cond.methodLink RX4 112 yX1_keepThoseOf, Cond.instanceMethod yX1_keepThoseOf, Cond.selects RX1 yX1_keepThoseOf yX1_keepThoseOf, Cond.code yX1_keepThoseOf cX1_keepThoseOf 3 none, Cond.fieldLink RX1 25 "DistinctDale$Basket" "size" "I", Cond.fieldLink RX1 28 "DistinctDale$Basket" "items" "[I", Cond.methodLink RX1 22 yX1_forget, Cond.instanceMethod yX1_forget, Cond.selects RX1 yX1_forget yX1_forget, Cond.code yX1_forget cX1_forget 1 none, Cond.methodLink RX1 39 yX1_offer, Cond.instanceMethod yX1_offer, Cond.selects RX1 yX1_offer yX1_offer]
def wsL_law0_r15 : List Cond := [Cond.code yX1_offer cX1_offer 5 none, Cond.methodLink RL 141 yX5_kept, Cond.instanceMethod yX5_kept, Cond.selects RX5 yX5_kept yX5_kept, Cond.code yX5_kept cX5_kept 2 (some .int), Cond.methodLink RX5 89 yX5_layKept, Cond.instanceMethod yX5_layKept, Cond.selects RX5 yX5_layKept yX5_layKept, Cond.code yX5_layKept cX5_layKept 4 (some .int), Cond.methodLink RX5 85 yX5_above, Cond.instanceMethod yX5_above, Cond.selects RX5 yX5_above yX5_above, Cond.code yX5_above cX5_above 7 (some .int), Cond.methodLink RL 142 yL_keptAt, Cond.static yL_keptAt, Cond.codeWith yL_keptAt cL_keptAt 5 (some .int) [(0, 10, 13, 13)], Cond.methodLink RL 47 yX4_keptAt, Cond.instanceMethod yX4_keptAt, Cond.selects RX4 yX4_keptAt yX4_keptAt, Cond.code yX4_keptAt cX4_keptAt 3 (some .int), Cond.fieldLink RX4 124 "DistinctDale$LeastHashes" "hashes" "[I", Cond.methodLink RX4 127 yX4_at, Cond.methodLink RL 144 yX5_keptAt, Cond.instanceMethod yX5_keptAt]
def wsL_law0_r16 : List Cond := [Cond.selects RX5 yX5_keptAt yX5_keptAt, Cond.code yX5_keptAt cX5_keptAt 4 (some .int), Cond.methodLink RL 145 yL_byLeast, Cond.static yL_byLeast, Cond.codeWith yL_byLeast cL_byLeast 4 (some .int) [(0, 9, 12, 13)], Cond.methodLink RL 50 yX4_byLeast, Cond.instanceMethod yX4_byLeast, Cond.selects RX4 yX4_byLeast yX4_byLeast, Cond.code yX4_byLeast cX4_byLeast 2 (some .int), Cond.methodLink RX4 130 yX1_estimate, Cond.instanceMethod yX1_estimate, Cond.selects RX1 yX1_estimate yX1_estimate, Cond.code yX1_estimate cX1_estimate 2 (some .int), Cond.constant RX1 43 (16777213), Cond.methodLink RL 147 yX5_byLeast, Cond.instanceMethod yX5_byLeast, Cond.selects RX5 yX5_byLeast yX5_byLeast, Cond.code yX5_byLeast cX5_byLeast 3 (some .int), Cond.methodLink RX5 92 yX5_estimate, Cond.instanceMethod yX5_estimate, Cond.selects RX5 yX5_estimate yX5_estimate, Cond.code yX5_estimate cX5_estimate 3 (some .long), Cond.methodLink RL 148 yL_together, Cond.static yL_together]
def wsL_law0_r17 : List Cond := [Cond.codeWith yL_together cL_together 5 (some .int) [(0, 10, 13, 13)], Cond.methodLink RL 53 yX4_together, Cond.instanceMethod yX4_together, Cond.selects RX4 yX4_together yX4_together, Cond.code yX4_together cX4_together 3 (some .int), Cond.methodLink RX4 133 yX4_keepLeastOf, Cond.instanceMethod yX4_keepLeastOf, Cond.selects RX4 yX4_keepLeastOf yX4_keepLeastOf, Cond.code yX4_keepLeastOf cX4_keepLeastOf 3 none, Cond.methodLink RX4 183 yX1_forget, Cond.methodLink RX4 186 yX1_offerAllOf, Cond.instanceMethod yX1_offerAllOf, Cond.selects RX1 yX1_offerAllOf yX1_offerAllOf, Cond.code yX1_offerAllOf cX1_offerAllOf 3 none, Cond.methodLink RL 150 yX5_together, Cond.instanceMethod yX5_together, Cond.selects RX5 yX5_together yX5_together, Cond.code yX5_together cX5_together 3 (some .int), Cond.methodLink RX5 112 yX5_share, Cond.instanceMethod yX5_share, Cond.selects RX5 yX5_share yX5_share, Cond.code yX5_share cX5_share 10 (some .int), Cond.methodLink RX5 103 yX5_layBoth, Cond.instanceMethod yX5_layBoth]
def wsL_law0_r18 : List Cond := [Cond.selects RX5 yX5_layBoth yX5_layBoth, Cond.code yX5_layBoth cX5_layBoth 8 (some .int), Cond.fieldLink RX5 96 "DistinctDaleModel" "otherMany" "I", Cond.fieldLink RX5 99 "DistinctDaleModel" "keptMany" "I", Cond.constant RX5 102 (16777213), Cond.methodLink RX5 106 yX5_isKept, Cond.instanceMethod yX5_isKept, Cond.selects RX5 yX5_isKept yX5_isKept, Cond.code yX5_isKept cX5_isKept 4 (some .boolean), Cond.methodLink RX5 109 yX5_isOther, Cond.instanceMethod yX5_isOther, Cond.selects RX5 yX5_isOther yX5_isOther, Cond.code yX5_isOther cX5_isOther 4 (some .boolean), Cond.methodLink RL 151 yL_common, Cond.static yL_common, Cond.codeWith yL_common cL_common 5 (some .int) [(0, 10, 13, 13)], Cond.methodLink RL 56 yX4_common, Cond.instanceMethod yX4_common, Cond.selects RX4 yX4_common yX4_common, Cond.code yX4_common cX4_common 6 (some .int), Cond.methodLink RX4 137 yX1_has, Cond.instanceMethod yX1_has, Cond.selects RX1 yX1_has yX1_has, Cond.code yX1_has cX1_has 3 (some .boolean)]
def wsL_law0_r19 : List Cond := [Cond.methodLink RX4 140 yX1_estimateOfPart, Cond.instanceMethod yX1_estimateOfPart, Cond.selects RX1 yX1_estimateOfPart yX1_estimateOfPart, Cond.code yX1_estimateOfPart cX1_estimateOfPart 2 (some .int), Cond.methodLink RX1 44 yX1_estimate, Cond.methodLink RL 153 yX5_common, Cond.instanceMethod yX5_common, Cond.selects RX5 yX5_common yX5_common, Cond.code yX5_common cX5_common 3 (some .int), Cond.methodLink RL 154 yL_without, Cond.static yL_without, Cond.codeWith yL_without cL_without 5 (some .int) [(0, 10, 13, 13)], Cond.methodLink RL 59 yX4_without, Cond.instanceMethod yX4_without, Cond.selects RX4 yX4_without yX4_without, Cond.code yX4_without cX4_without 5 (some .int), Cond.methodLink RL 156 yX5_without, Cond.instanceMethod yX5_without, Cond.selects RX5 yX5_without yX5_without, Cond.code yX5_without cX5_without 3 (some .int), Cond.methodLink RL 157 yL_register, Cond.static yL_register, Cond.codeWith yL_register cL_register 5 (some .int) [(0, 10, 13, 13)], Cond.methodLink RL 62 yX4_register]
def wsL_law0_r20 : List Cond := [Cond.instanceMethod yX4_register, Cond.selects RX4 yX4_register yX4_register, Cond.code yX4_register cX4_register 4 (some .int), Cond.fieldLink RX4 148 "DistinctDale$Registers" "ranks" "[I", Cond.methodLink RX4 145 yX2_rankAllOf, Cond.instanceMethod yX2_rankAllOf, Cond.selects RX2 yX2_rankAllOf yX2_rankAllOf, Cond.code yX2_rankAllOf cX2_rankAllOf 2 none, Cond.methodLink RX2 15 yX2_rankThoseAbove, Cond.instanceMethod yX2_rankThoseAbove, Cond.selects RX2 yX2_rankThoseAbove yX2_rankThoseAbove, Cond.code yX2_rankThoseAbove cX2_rankThoseAbove 4 none, Cond.fieldLink RX2 23 "DistinctDale$Basket" "size" "I", Cond.fieldLink RX2 29 "DistinctDale$Basket" "dates" "[I", Cond.fieldLink RX2 36 "DistinctDale$Basket" "items" "[I", Cond.methodLink RX2 43 yX2_rank, Cond.instanceMethod yX2_rank, Cond.selects RX2 yX2_rank yX2_rank, Cond.code yX2_rank cX2_rank 4 none, Cond.static yX4_lowZeros, Cond.code yX4_lowZeros cX4_lowZeros 3 (some .int), Cond.methodLink RL 159 yX5_register, Cond.instanceMethod yX5_register, Cond.selects RX5 yX5_register yX5_register]
def wsL_law0_r21 : List Cond := [Cond.code yX5_register cX5_register 4 (some .int), Cond.methodLink RX5 124 yX5_layRegisters, Cond.instanceMethod yX5_layRegisters, Cond.selects RX5 yX5_layRegisters yX5_layRegisters, Cond.code yX5_layRegisters cX5_layRegisters 6 none, Cond.methodLink RX5 116 yX5_rankOf, Cond.static yX5_rankOf, Cond.code yX5_rankOf cX5_rankOf 3 (some .int), Cond.methodLink RL 160 yL_byRegisters, Cond.static yL_byRegisters, Cond.codeWith yL_byRegisters cL_byRegisters 4 (some .int) [(0, 8, 11, 13)], Cond.methodLink RL 65 yX4_byRegisters, Cond.instanceMethod yX4_byRegisters, Cond.selects RX4 yX4_byRegisters yX4_byRegisters, Cond.code yX4_byRegisters cX4_byRegisters 2 (some .long), Cond.methodLink RX4 151 yX2_estimate, Cond.instanceMethod yX2_estimate, Cond.selects RX2 yX2_estimate yX2_estimate, Cond.code yX2_estimate cX2_estimate 6 (some .long), Cond.constant RX2 47 (16777216), Cond.constantLong RX2 48 (2890512990208), Cond.constantLong RX2 50 (40000), Cond.fieldLink RX2 52 "DistinctDale$Registers" "ESTIMATE_BY_ZEROS" "[I", Cond.methodLink RL 162 yX5_byRegisters]
def wsL_law0_r22 : List Cond := [Cond.instanceMethod yX5_byRegisters, Cond.selects RX5 yX5_byRegisters yX5_byRegisters, Cond.code yX5_byRegisters cX5_byRegisters 2 (some .long), Cond.methodLink RX5 128 yX5_ofRegisters, Cond.instanceMethod yX5_ofRegisters, Cond.selects RX5 yX5_ofRegisters yX5_ofRegisters, Cond.code yX5_ofRegisters cX5_ofRegisters 6 (some .long), Cond.constant RX5 119 (16777216), Cond.constantLong RX5 120 (2890512990208), Cond.constantLong RX5 122 (40000), Cond.methodLink RL 163 yL_recent, Cond.static yL_recent, Cond.codeWith yL_recent cL_recent 5 (some .int) [(0, 9, 12, 13), (0, 9, 16, 15)], Cond.methodLink RL 69 yX4_recent, Cond.instanceMethod yX4_recent, Cond.selects RX4 yX4_recent yX4_recent, Cond.code yX4_recent cX4_recent 4 (some .long), Cond.methodLink RX4 155 yX2_rankThoseAbove, Cond.methodLink RL 165 yX5_recent, Cond.instanceMethod yX5_recent, Cond.selects RX5 yX5_recent yX5_recent, Cond.code yX5_recent cX5_recent 4 (some .long), Cond.methodLink RL 166 yL_level, Cond.static yL_level]
def wsL_law0_r23 : List Cond := [Cond.codeWith yL_level cL_level 4 (some .int) [(0, 9, 12, 13)], Cond.methodLink RL 73 yX4_level, Cond.instanceMethod yX4_level, Cond.selects RX4 yX4_level yX4_level, Cond.code yX4_level cX4_level 2 (some .int), Cond.fieldLink RX4 162 "DistinctDale$Thinning" "levelFound" "I", Cond.methodLink RX4 159 yX3_thin, Cond.instanceMethod yX3_thin, Cond.selects RX3 yX3_thin yX3_thin, Cond.code yX3_thin cX3_thin 4 none, Cond.fieldLink RX3 26 "DistinctDale$Basket" "size" "I", Cond.fieldLink RX3 29 "DistinctDale$Basket" "items" "[I", Cond.methodLink RX3 36 yX3_lowZerosOf, Cond.static yX3_lowZerosOf, Cond.code yX3_lowZerosOf cX3_lowZerosOf 1 (some .int), Cond.methodLink RL 168 yX5_level, Cond.instanceMethod yX5_level, Cond.selects RX5 yX5_level yX5_level, Cond.code yX5_level cX5_level 2 (some .int), Cond.methodLink RX5 135 yX5_levelOf, Cond.instanceMethod yX5_levelOf, Cond.selects RX5 yX5_levelOf yX5_levelOf, Cond.code yX5_levelOf cX5_levelOf 3 (some .int), Cond.methodLink RX5 132 yX5_countAt]
def wsL_law0_r24 : List Cond := [Cond.instanceMethod yX5_countAt, Cond.selects RX5 yX5_countAt yX5_countAt, Cond.code yX5_countAt cX5_countAt 5 (some .int), Cond.methodLink RL 169 yL_sampled, Cond.static yL_sampled, Cond.codeWith yL_sampled cL_sampled 4 (some .int) [(0, 9, 12, 13)], Cond.methodLink RL 76 yX4_sampled, Cond.instanceMethod yX4_sampled, Cond.selects RX4 yX4_sampled yX4_sampled, Cond.code yX4_sampled cX4_sampled 2 (some .int), Cond.fieldLink RX4 165 "DistinctDale$Thinning" "size" "I", Cond.methodLink RL 171 yX5_sampled, Cond.instanceMethod yX5_sampled, Cond.selects RX5 yX5_sampled yX5_sampled, Cond.code yX5_sampled cX5_sampled 2 (some .int), Cond.methodLink RL 172 yL_sampledAt, Cond.static yL_sampledAt, Cond.codeWith yL_sampledAt cL_sampledAt 5 (some .int) [(0, 10, 13, 13)], Cond.methodLink RL 79 yX4_sampledAt, Cond.instanceMethod yX4_sampledAt, Cond.selects RX4 yX4_sampledAt yX4_sampledAt, Cond.code yX4_sampledAt cX4_sampledAt 4 (some .int), Cond.methodLink RX4 168 yX3_itemAt, Cond.instanceMethod yX3_itemAt]
def wsL_law0_r25 : List Cond := [Cond.selects RX3 yX3_itemAt yX3_itemAt, Cond.code yX3_itemAt cX3_itemAt 6 (some .int), Cond.methodLink RL 174 yX5_sampledAt, Cond.instanceMethod yX5_sampledAt, Cond.selects RX5 yX5_sampledAt yX5_sampledAt, Cond.code yX5_sampledAt cX5_sampledAt 7 (some .int), Cond.methodLink RL 175 yL_bySample, Cond.static yL_bySample, Cond.codeWith yL_bySample cL_bySample 4 (some .int) [(0, 9, 12, 13)], Cond.methodLink RL 82 yX4_bySample, Cond.instanceMethod yX4_bySample, Cond.selects RX4 yX4_bySample yX4_bySample, Cond.code yX4_bySample cX4_bySample 2 (some .int), Cond.methodLink RL 177 yX5_bySample, Cond.instanceMethod yX5_bySample, Cond.selects RX5 yX5_bySample yX5_bySample, Cond.code yX5_bySample cX5_bySample 3 (some .int)]
def wsL_law0 : List Cond := (wsL_law0_r1 ++ (wsL_law0_r2 ++ (wsL_law0_r3 ++ (wsL_law0_r4 ++ (wsL_law0_r5 ++ (wsL_law0_r6 ++ (wsL_law0_r7 ++ (wsL_law0_r8 ++ (wsL_law0_r9 ++ (wsL_law0_r10 ++ (wsL_law0_r11 ++ (wsL_law0_r12 ++ (wsL_law0_r13 ++ (wsL_law0_r14 ++ (wsL_law0_r15 ++ (wsL_law0_r16 ++ (wsL_law0_r17 ++ (wsL_law0_r18 ++ (wsL_law0_r19 ++ (wsL_law0_r20 ++ (wsL_law0_r21 ++ (wsL_law0_r22 ++ (wsL_law0_r23 ++ (wsL_law0_r24 ++ wsL_law0_r25)))))))))))))))))))))))) ++ wsX40 ++ wsX50 ++ wsX00 ++ wsX20 ++ wsX30 ++ wsX10 ++ ([] : List Cond)
def wsL_law : List Cond := wsL_law0 ++ (vx_atS RX4 121 "java/lang/IndexOutOfBoundsException" ["java/lang/RuntimeException", "java/lang/Exception"]).filter goodWord ++ (vx_atS RX4 178 "java/lang/IllegalArgumentException" ["java/lang/RuntimeException", "java/lang/Exception"]).filter goodWord
abbrev vwCl : List vw_C := [(RX0, TX0, 3), (RX1, TX1, 3), (RX2, TX2, 1), (RX3, TX3, 3), (RX4, TX4, 10), (RX5, TX5, 14)]
end
section
theorem dX0_init_0 : decode cX0_init 0 = .ok (.aload_n 0, 1) := by decide +kernel
theorem dX0_init_1 : decode cX0_init 1 = .ok (.invokespecial 3, 3) := by decide +kernel
theorem dX0_init_4 : decode cX0_init 4 = .ok (.aload_n 0, 1) := by decide +kernel
theorem dX0_init_5 : decode cX0_init 5 = .ok (.bipush 64, 2) := by decide +kernel
theorem dX0_init_7 : decode cX0_init 7 = .ok (.newarray .int, 2) := by decide +kernel
theorem dX0_init_9 : decode cX0_init 9 = .ok (.putfield 11, 3) := by decide +kernel
theorem dX0_init_12 : decode cX0_init 12 = .ok (.aload_n 0, 1) := by decide +kernel
theorem dX0_init_13 : decode cX0_init 13 = .ok (.bipush 64, 2) := by decide +kernel
theorem dX0_init_15 : decode cX0_init 15 = .ok (.newarray .int, 2) := by decide +kernel
theorem dX0_init_17 : decode cX0_init 17 = .ok (.putfield 15, 3) := by decide +kernel
theorem dX0_init_20 : decode cX0_init 20 = .ok (.aload_n 0, 1) := by decide +kernel
theorem dX0_init_21 : decode cX0_init 21 = .ok (.iconst 0, 1) := by decide +kernel
theorem dX0_init_22 : decode cX0_init 22 = .ok (.putfield 18, 3) := by decide +kernel
theorem dX0_init_25 : decode cX0_init 25 = .ok (.return_, 1) := by decide +kernel
theorem dX0_drain_0 : decode cX0_drain 0 = .ok (.aload_n 0, 1) := by decide +kernel
theorem dX0_drain_1 : decode cX0_drain 1 = .ok (.getfield 18, 3) := by decide +kernel
theorem dX0_drain_4 : decode cX0_drain 4 = .ok (.istore_n 1, 1) := by decide +kernel
theorem dX0_drain_5 : decode cX0_drain 5 = .ok (.aload_n 0, 1) := by decide +kernel
theorem dX0_drain_6 : decode cX0_drain 6 = .ok (.iconst 0, 1) := by decide +kernel
theorem dX0_drain_7 : decode cX0_drain 7 = .ok (.putfield 18, 3) := by decide +kernel
theorem dX0_drain_10 : decode cX0_drain 10 = .ok (.iload_n 1, 1) := by decide +kernel
theorem dX0_drain_11 : decode cX0_drain 11 = .ok (.ireturn, 1) := by decide +kernel
set_option maxRecDepth 20000 in
theorem ggX0_take_X0_countShared : GoodIn wsX0_take wsX0_countShared := goodIn_r _ [12, 1, 2, 13, 14, 15, 42, 43, 44] (by decide +kernel) (by decide +kernel)
set_option maxRecDepth 20000 in
theorem gX0_take_X0_countShared : GoodIn wsX0_take (wsV RX0 22 RX0 yX0_countShared wsX0_countShared) := goodIn_app (goodIn_of _ (by decide +kernel)) ggX0_take_X0_countShared
set_option maxRecDepth 20000 in
theorem ggX0_take_X0_makeRoomFor : GoodIn wsX0_take wsX0_makeRoomFor := goodIn_r _ [19, 20, 2, 4, 5, 6, 7, 21, 22, 23, 3, 24, 25, 26, 27, 28, 29, 30, 31, 32, 33, 34, 35, 36, 37, 38, 39, 42, 43, 44] (by decide +kernel) (by decide +kernel)
set_option maxRecDepth 20000 in
theorem gX0_take_X0_makeRoomFor : GoodIn wsX0_take (wsV RX0 26 RX0 yX0_makeRoomFor wsX0_makeRoomFor) := goodIn_app (goodIn_of _ (by decide +kernel)) ggX0_take_X0_makeRoomFor
set_option maxRecDepth 20000 in
theorem ggX0_take_X4_at : GoodIn wsX0_take wsX4_at := goodIn_r _ [15] (by decide +kernel) (by decide +kernel)
set_option maxRecDepth 20000 in
theorem gX0_take_X4_at_n30 : GoodIn wsX0_take (wsX4_at) := ggX0_take_X4_at
set_option maxRecDepth 20000 in
theorem ggX0_take_X4_put : GoodIn wsX0_take wsX4_put := goodIn_r _ [41] (by decide +kernel) (by decide +kernel)
set_option maxRecDepth 20000 in
theorem gX0_take_X4_put_n39 : GoodIn wsX0_take (wsX4_put) := ggX0_take_X4_put
theorem dX0_take_0 : decode cX0_take 0 = .ok (.iload_n 3, 1) := by decide +kernel
theorem dX0_take_1 : decode cX0_take 1 = .ok (.aload_n 0, 1) := by decide +kernel
theorem dX0_take_2 : decode cX0_take 2 = .ok (.aload_n 1, 1) := by decide +kernel
theorem dX0_take_3 : decode cX0_take 3 = .ok (.iload_n 3, 1) := by decide +kernel
theorem dX0_take_4 : decode cX0_take 4 = .ok (.invokevirtual 22, 3) := by decide +kernel
theorem dX0_take_7 : decode cX0_take 7 = .ok (.isub, 1) := by decide +kernel
theorem dX0_take_8 : decode cX0_take 8 = .ok (.istore 4, 2) := by decide +kernel
theorem dX0_take_10 : decode cX0_take 10 = .ok (.aload_n 0, 1) := by decide +kernel
theorem dX0_take_11 : decode cX0_take 11 = .ok (.aload_n 0, 1) := by decide +kernel
theorem dX0_take_12 : decode cX0_take 12 = .ok (.getfield 18, 3) := by decide +kernel
theorem dX0_take_15 : decode cX0_take 15 = .ok (.iload 4, 2) := by decide +kernel
theorem dX0_take_17 : decode cX0_take 17 = .ok (.iadd, 1) := by decide +kernel
theorem dX0_take_18 : decode cX0_take 18 = .ok (.invokevirtual 26, 3) := by decide +kernel
theorem dX0_take_21 : decode cX0_take 21 = .ok (.aload_n 0, 1) := by decide +kernel
theorem dX0_take_22 : decode cX0_take 22 = .ok (.getfield 18, 3) := by decide +kernel
theorem dX0_take_25 : decode cX0_take 25 = .ok (.iconst 1, 1) := by decide +kernel
theorem dX0_take_26 : decode cX0_take 26 = .ok (.isub, 1) := by decide +kernel
theorem dX0_take_27 : decode cX0_take 27 = .ok (.istore 5, 2) := by decide +kernel
theorem dX0_take_29 : decode cX0_take 29 = .ok (.iload_n 3, 1) := by decide +kernel
theorem dX0_take_30 : decode cX0_take 30 = .ok (.iconst 1, 1) := by decide +kernel
theorem dX0_take_31 : decode cX0_take 31 = .ok (.isub, 1) := by decide +kernel
theorem dX0_take_32 : decode cX0_take 32 = .ok (.istore 6, 2) := by decide +kernel
theorem dX0_take_34 : decode cX0_take 34 = .ok (.aload_n 0, 1) := by decide +kernel
theorem dX0_take_35 : decode cX0_take 35 = .ok (.getfield 18, 3) := by decide +kernel
theorem dX0_take_38 : decode cX0_take 38 = .ok (.iload 4, 2) := by decide +kernel
theorem dX0_take_40 : decode cX0_take 40 = .ok (.iadd, 1) := by decide +kernel
theorem dX0_take_41 : decode cX0_take 41 = .ok (.iconst 1, 1) := by decide +kernel
theorem dX0_take_42 : decode cX0_take 42 = .ok (.isub, 1) := by decide +kernel
theorem dX0_take_43 : decode cX0_take 43 = .ok (.istore 7, 2) := by decide +kernel
theorem dX0_take_45 : decode cX0_take 45 = .ok (.iload 7, 2) := by decide +kernel
theorem dX0_take_47 : decode cX0_take 47 = .ok (.ifCond .lt 140, 3) := by decide +kernel
theorem dX0_take_50 : decode cX0_take 50 = .ok (.iload 6, 2) := by decide +kernel
theorem dX0_take_52 : decode cX0_take 52 = .ok (.ifCond .lt 135, 3) := by decide +kernel
theorem dX0_take_55 : decode cX0_take 55 = .ok (.aload_n 0, 1) := by decide +kernel
theorem dX0_take_56 : decode cX0_take 56 = .ok (.getfield 11, 3) := by decide +kernel
theorem dX0_take_59 : decode cX0_take 59 = .ok (.iload 5, 2) := by decide +kernel
theorem dX0_take_61 : decode cX0_take 61 = .ok (.invokestatic 30, 3) := by decide +kernel
theorem dX0_take_64 : decode cX0_take 64 = .ok (.istore 8, 2) := by decide +kernel
theorem dX0_take_66 : decode cX0_take 66 = .ok (.aload_n 1, 1) := by decide +kernel
theorem dX0_take_67 : decode cX0_take 67 = .ok (.iload 6, 2) := by decide +kernel
theorem dX0_take_69 : decode cX0_take 69 = .ok (.invokestatic 30, 3) := by decide +kernel
theorem dX0_take_72 : decode cX0_take 72 = .ok (.istore 9, 2) := by decide +kernel
theorem dX0_take_74 : decode cX0_take 74 = .ok (.iload 8, 2) := by decide +kernel
theorem dX0_take_76 : decode cX0_take 76 = .ok (.iload 9, 2) := by decide +kernel
theorem dX0_take_78 : decode cX0_take 78 = .ok (.if_icmp .lt 15, 3) := by decide +kernel
theorem dX0_take_81 : decode cX0_take 81 = .ok (.aload_n 0, 1) := by decide +kernel
theorem dX0_take_82 : decode cX0_take 82 = .ok (.getfield 15, 3) := by decide +kernel
theorem dX0_take_85 : decode cX0_take 85 = .ok (.iload 5, 2) := by decide +kernel
theorem dX0_take_87 : decode cX0_take 87 = .ok (.invokestatic 30, 3) := by decide +kernel
theorem dX0_take_90 : decode cX0_take 90 = .ok (.goto 4, 3) := by decide +kernel
theorem dX0_take_93 : decode cX0_take 93 = .ok (.iconst (-1), 1) := by decide +kernel
theorem dX0_take_94 : decode cX0_take 94 = .ok (.istore 10, 2) := by decide +kernel
theorem dX0_take_96 : decode cX0_take 96 = .ok (.iload 9, 2) := by decide +kernel
theorem dX0_take_98 : decode cX0_take 98 = .ok (.iload 8, 2) := by decide +kernel
theorem dX0_take_100 : decode cX0_take 100 = .ok (.if_icmp .lt 12, 3) := by decide +kernel
theorem dX0_take_103 : decode cX0_take 103 = .ok (.aload_n 2, 1) := by decide +kernel
theorem dX0_take_104 : decode cX0_take 104 = .ok (.iload 6, 2) := by decide +kernel
theorem dX0_take_106 : decode cX0_take 106 = .ok (.invokestatic 30, 3) := by decide +kernel
theorem dX0_take_109 : decode cX0_take 109 = .ok (.goto 4, 3) := by decide +kernel
theorem dX0_take_112 : decode cX0_take 112 = .ok (.iconst (-1), 1) := by decide +kernel
theorem dX0_take_113 : decode cX0_take 113 = .ok (.istore 11, 2) := by decide +kernel
theorem dX0_take_115 : decode cX0_take 115 = .ok (.iload 5, 2) := by decide +kernel
theorem dX0_take_117 : decode cX0_take 117 = .ok (.iload 8, 2) := by decide +kernel
theorem dX0_take_119 : decode cX0_take 119 = .ok (.iload 9, 2) := by decide +kernel
theorem dX0_take_121 : decode cX0_take 121 = .ok (.if_icmp .lt 7, 3) := by decide +kernel
theorem dX0_take_124 : decode cX0_take 124 = .ok (.iconst 1, 1) := by decide +kernel
theorem dX0_take_125 : decode cX0_take 125 = .ok (.goto 4, 3) := by decide +kernel
theorem dX0_take_128 : decode cX0_take 128 = .ok (.iconst 0, 1) := by decide +kernel
theorem dX0_take_129 : decode cX0_take 129 = .ok (.isub, 1) := by decide +kernel
theorem dX0_take_130 : decode cX0_take 130 = .ok (.istore 5, 2) := by decide +kernel
theorem dX0_take_132 : decode cX0_take 132 = .ok (.iload 6, 2) := by decide +kernel
theorem dX0_take_134 : decode cX0_take 134 = .ok (.iload 9, 2) := by decide +kernel
theorem dX0_take_136 : decode cX0_take 136 = .ok (.iload 8, 2) := by decide +kernel
theorem dX0_take_138 : decode cX0_take 138 = .ok (.if_icmp .lt 7, 3) := by decide +kernel
theorem dX0_take_141 : decode cX0_take 141 = .ok (.iconst 1, 1) := by decide +kernel
theorem dX0_take_142 : decode cX0_take 142 = .ok (.goto 4, 3) := by decide +kernel
theorem dX0_take_145 : decode cX0_take 145 = .ok (.iconst 0, 1) := by decide +kernel
theorem dX0_take_146 : decode cX0_take 146 = .ok (.isub, 1) := by decide +kernel
theorem dX0_take_147 : decode cX0_take 147 = .ok (.istore 6, 2) := by decide +kernel
theorem dX0_take_149 : decode cX0_take 149 = .ok (.aload_n 0, 1) := by decide +kernel
theorem dX0_take_150 : decode cX0_take 150 = .ok (.getfield 11, 3) := by decide +kernel
theorem dX0_take_153 : decode cX0_take 153 = .ok (.iload 7, 2) := by decide +kernel
theorem dX0_take_155 : decode cX0_take 155 = .ok (.iload 8, 2) := by decide +kernel
theorem dX0_take_157 : decode cX0_take 157 = .ok (.iload 9, 2) := by decide +kernel
theorem dX0_take_159 : decode cX0_take 159 = .ok (.invokestatic 33, 3) := by decide +kernel
theorem dX0_take_162 : decode cX0_take 162 = .ok (.invokestatic 39, 3) := by decide +kernel
theorem dX0_take_165 : decode cX0_take 165 = .ok (.aload_n 0, 1) := by decide +kernel
theorem dX0_take_166 : decode cX0_take 166 = .ok (.getfield 15, 3) := by decide +kernel
theorem dX0_take_169 : decode cX0_take 169 = .ok (.iload 7, 2) := by decide +kernel
theorem dX0_take_171 : decode cX0_take 171 = .ok (.iload 10, 2) := by decide +kernel
theorem dX0_take_173 : decode cX0_take 173 = .ok (.iload 11, 2) := by decide +kernel
theorem dX0_take_175 : decode cX0_take 175 = .ok (.invokestatic 33, 3) := by decide +kernel
theorem dX0_take_178 : decode cX0_take 178 = .ok (.invokestatic 39, 3) := by decide +kernel
theorem dX0_take_181 : decode cX0_take 181 = .ok (.iinc 7 (-1), 3) := by decide +kernel
theorem dX0_take_184 : decode cX0_take 184 = .ok (.goto (-139), 3) := by decide +kernel
theorem dX0_take_187 : decode cX0_take 187 = .ok (.aload_n 0, 1) := by decide +kernel
theorem dX0_take_188 : decode cX0_take 188 = .ok (.dup, 1) := by decide +kernel
theorem dX0_take_189 : decode cX0_take 189 = .ok (.getfield 18, 3) := by decide +kernel
theorem dX0_take_192 : decode cX0_take 192 = .ok (.iload 4, 2) := by decide +kernel
theorem dX0_take_194 : decode cX0_take 194 = .ok (.iadd, 1) := by decide +kernel
theorem dX0_take_195 : decode cX0_take 195 = .ok (.putfield 18, 3) := by decide +kernel
theorem dX0_take_198 : decode cX0_take 198 = .ok (.iload 4, 2) := by decide +kernel
theorem dX0_take_200 : decode cX0_take 200 = .ok (.ireturn, 1) := by decide +kernel
set_option maxRecDepth 20000 in
theorem ggX0_countShared_X4_at : GoodIn wsX0_countShared wsX4_at := goodIn_r _ [5] (by decide +kernel) (by decide +kernel)
set_option maxRecDepth 20000 in
theorem gX0_countShared_X4_at_n30 : GoodIn wsX0_countShared (wsX4_at) := ggX0_countShared_X4_at
theorem dX0_countShared_0 : decode cX0_countShared 0 = .ok (.iconst 0, 1) := by decide +kernel
theorem dX0_countShared_1 : decode cX0_countShared 1 = .ok (.istore_n 3, 1) := by decide +kernel
theorem dX0_countShared_2 : decode cX0_countShared 2 = .ok (.iconst 0, 1) := by decide +kernel
theorem dX0_countShared_3 : decode cX0_countShared 3 = .ok (.istore 4, 2) := by decide +kernel
theorem dX0_countShared_5 : decode cX0_countShared 5 = .ok (.iconst 0, 1) := by decide +kernel
theorem dX0_countShared_6 : decode cX0_countShared 6 = .ok (.istore 5, 2) := by decide +kernel
theorem dX0_countShared_8 : decode cX0_countShared 8 = .ok (.iload 5, 2) := by decide +kernel
theorem dX0_countShared_10 : decode cX0_countShared 10 = .ok (.aload_n 0, 1) := by decide +kernel
theorem dX0_countShared_11 : decode cX0_countShared 11 = .ok (.getfield 18, 3) := by decide +kernel
theorem dX0_countShared_14 : decode cX0_countShared 14 = .ok (.if_icmp .ge 63, 3) := by decide +kernel
theorem dX0_countShared_17 : decode cX0_countShared 17 = .ok (.aload_n 0, 1) := by decide +kernel
theorem dX0_countShared_18 : decode cX0_countShared 18 = .ok (.getfield 11, 3) := by decide +kernel
theorem dX0_countShared_21 : decode cX0_countShared 21 = .ok (.iload 5, 2) := by decide +kernel
theorem dX0_countShared_23 : decode cX0_countShared 23 = .ok (.invokestatic 30, 3) := by decide +kernel
theorem dX0_countShared_26 : decode cX0_countShared 26 = .ok (.istore 6, 2) := by decide +kernel
theorem dX0_countShared_28 : decode cX0_countShared 28 = .ok (.iload 4, 2) := by decide +kernel
theorem dX0_countShared_30 : decode cX0_countShared 30 = .ok (.iload_n 2, 1) := by decide +kernel
theorem dX0_countShared_31 : decode cX0_countShared 31 = .ok (.if_icmp .ge 20, 3) := by decide +kernel
theorem dX0_countShared_34 : decode cX0_countShared 34 = .ok (.aload_n 1, 1) := by decide +kernel
theorem dX0_countShared_35 : decode cX0_countShared 35 = .ok (.iload 4, 2) := by decide +kernel
theorem dX0_countShared_37 : decode cX0_countShared 37 = .ok (.invokestatic 30, 3) := by decide +kernel
theorem dX0_countShared_40 : decode cX0_countShared 40 = .ok (.iload 6, 2) := by decide +kernel
theorem dX0_countShared_42 : decode cX0_countShared 42 = .ok (.if_icmp .ge 9, 3) := by decide +kernel
theorem dX0_countShared_45 : decode cX0_countShared 45 = .ok (.iinc 4 1, 3) := by decide +kernel
theorem dX0_countShared_48 : decode cX0_countShared 48 = .ok (.goto (-20), 3) := by decide +kernel
theorem dX0_countShared_51 : decode cX0_countShared 51 = .ok (.iload 4, 2) := by decide +kernel
theorem dX0_countShared_53 : decode cX0_countShared 53 = .ok (.iload_n 2, 1) := by decide +kernel
theorem dX0_countShared_54 : decode cX0_countShared 54 = .ok (.if_icmp .ge 17, 3) := by decide +kernel
theorem dX0_countShared_57 : decode cX0_countShared 57 = .ok (.aload_n 1, 1) := by decide +kernel
theorem dX0_countShared_58 : decode cX0_countShared 58 = .ok (.iload 4, 2) := by decide +kernel
theorem dX0_countShared_60 : decode cX0_countShared 60 = .ok (.invokestatic 30, 3) := by decide +kernel
theorem dX0_countShared_63 : decode cX0_countShared 63 = .ok (.iload 6, 2) := by decide +kernel
theorem dX0_countShared_65 : decode cX0_countShared 65 = .ok (.if_icmp .ne 6, 3) := by decide +kernel
theorem dX0_countShared_68 : decode cX0_countShared 68 = .ok (.iinc 3 1, 3) := by decide +kernel
theorem dX0_countShared_71 : decode cX0_countShared 71 = .ok (.iinc 5 1, 3) := by decide +kernel
theorem dX0_countShared_74 : decode cX0_countShared 74 = .ok (.goto (-66), 3) := by decide +kernel
theorem dX0_countShared_77 : decode cX0_countShared 77 = .ok (.iload_n 3, 1) := by decide +kernel
theorem dX0_countShared_78 : decode cX0_countShared 78 = .ok (.ireturn, 1) := by decide +kernel
set_option maxRecDepth 20000 in
theorem ggX0_dateFor_X4_at : GoodIn wsX0_dateFor wsX4_at := goodIn_r _ [7] (by decide +kernel) (by decide +kernel)
set_option maxRecDepth 20000 in
theorem gX0_dateFor_X4_at_n30 : GoodIn wsX0_dateFor (wsX4_at) := ggX0_dateFor_X4_at
theorem dX0_dateFor_0 : decode cX0_dateFor 0 = .ok (.iconst 0, 1) := by decide +kernel
theorem dX0_dateFor_1 : decode cX0_dateFor 1 = .ok (.istore_n 2, 1) := by decide +kernel
theorem dX0_dateFor_2 : decode cX0_dateFor 2 = .ok (.ldc 43, 2) := by decide +kernel
theorem dX0_dateFor_4 : decode cX0_dateFor 4 = .ok (.istore_n 3, 1) := by decide +kernel
theorem dX0_dateFor_5 : decode cX0_dateFor 5 = .ok (.iload_n 3, 1) := by decide +kernel
theorem dX0_dateFor_6 : decode cX0_dateFor 6 = .ok (.ifCond .le 40, 3) := by decide +kernel
theorem dX0_dateFor_9 : decode cX0_dateFor 9 = .ok (.iload_n 2, 1) := by decide +kernel
theorem dX0_dateFor_10 : decode cX0_dateFor 10 = .ok (.iload_n 3, 1) := by decide +kernel
theorem dX0_dateFor_11 : decode cX0_dateFor 11 = .ok (.iadd, 1) := by decide +kernel
theorem dX0_dateFor_12 : decode cX0_dateFor 12 = .ok (.aload_n 0, 1) := by decide +kernel
theorem dX0_dateFor_13 : decode cX0_dateFor 13 = .ok (.getfield 18, 3) := by decide +kernel
theorem dX0_dateFor_16 : decode cX0_dateFor 16 = .ok (.if_icmp .gt 23, 3) := by decide +kernel
theorem dX0_dateFor_19 : decode cX0_dateFor 19 = .ok (.aload_n 0, 1) := by decide +kernel
theorem dX0_dateFor_20 : decode cX0_dateFor 20 = .ok (.getfield 11, 3) := by decide +kernel
theorem dX0_dateFor_23 : decode cX0_dateFor 23 = .ok (.iload_n 2, 1) := by decide +kernel
theorem dX0_dateFor_24 : decode cX0_dateFor 24 = .ok (.iload_n 3, 1) := by decide +kernel
theorem dX0_dateFor_25 : decode cX0_dateFor 25 = .ok (.iadd, 1) := by decide +kernel
theorem dX0_dateFor_26 : decode cX0_dateFor 26 = .ok (.iconst 1, 1) := by decide +kernel
theorem dX0_dateFor_27 : decode cX0_dateFor 27 = .ok (.isub, 1) := by decide +kernel
theorem dX0_dateFor_28 : decode cX0_dateFor 28 = .ok (.invokestatic 30, 3) := by decide +kernel
theorem dX0_dateFor_31 : decode cX0_dateFor 31 = .ok (.iload_n 1, 1) := by decide +kernel
theorem dX0_dateFor_32 : decode cX0_dateFor 32 = .ok (.if_icmp .ge 7, 3) := by decide +kernel
theorem dX0_dateFor_35 : decode cX0_dateFor 35 = .ok (.iload_n 2, 1) := by decide +kernel
theorem dX0_dateFor_36 : decode cX0_dateFor 36 = .ok (.iload_n 3, 1) := by decide +kernel
theorem dX0_dateFor_37 : decode cX0_dateFor 37 = .ok (.iadd, 1) := by decide +kernel
theorem dX0_dateFor_38 : decode cX0_dateFor 38 = .ok (.istore_n 2, 1) := by decide +kernel
theorem dX0_dateFor_39 : decode cX0_dateFor 39 = .ok (.iload_n 3, 1) := by decide +kernel
theorem dX0_dateFor_40 : decode cX0_dateFor 40 = .ok (.iconst 2, 1) := by decide +kernel
theorem dX0_dateFor_41 : decode cX0_dateFor 41 = .ok (.idiv, 1) := by decide +kernel
theorem dX0_dateFor_42 : decode cX0_dateFor 42 = .ok (.istore_n 3, 1) := by decide +kernel
theorem dX0_dateFor_43 : decode cX0_dateFor 43 = .ok (.goto (-38), 3) := by decide +kernel
theorem dX0_dateFor_46 : decode cX0_dateFor 46 = .ok (.iload_n 2, 1) := by decide +kernel
theorem dX0_dateFor_47 : decode cX0_dateFor 47 = .ok (.aload_n 0, 1) := by decide +kernel
theorem dX0_dateFor_48 : decode cX0_dateFor 48 = .ok (.getfield 18, 3) := by decide +kernel
theorem dX0_dateFor_51 : decode cX0_dateFor 51 = .ok (.if_icmp .ge 26, 3) := by decide +kernel
theorem dX0_dateFor_54 : decode cX0_dateFor 54 = .ok (.aload_n 0, 1) := by decide +kernel
theorem dX0_dateFor_55 : decode cX0_dateFor 55 = .ok (.getfield 11, 3) := by decide +kernel
theorem dX0_dateFor_58 : decode cX0_dateFor 58 = .ok (.iload_n 2, 1) := by decide +kernel
theorem dX0_dateFor_59 : decode cX0_dateFor 59 = .ok (.invokestatic 30, 3) := by decide +kernel
theorem dX0_dateFor_62 : decode cX0_dateFor 62 = .ok (.iload_n 1, 1) := by decide +kernel
theorem dX0_dateFor_63 : decode cX0_dateFor 63 = .ok (.if_icmp .ne 14, 3) := by decide +kernel
theorem dX0_dateFor_66 : decode cX0_dateFor 66 = .ok (.aload_n 0, 1) := by decide +kernel
theorem dX0_dateFor_67 : decode cX0_dateFor 67 = .ok (.getfield 15, 3) := by decide +kernel
theorem dX0_dateFor_70 : decode cX0_dateFor 70 = .ok (.iload_n 2, 1) := by decide +kernel
theorem dX0_dateFor_71 : decode cX0_dateFor 71 = .ok (.invokestatic 30, 3) := by decide +kernel
theorem dX0_dateFor_74 : decode cX0_dateFor 74 = .ok (.goto 4, 3) := by decide +kernel
theorem dX0_dateFor_77 : decode cX0_dateFor 77 = .ok (.iconst (-1), 1) := by decide +kernel
theorem dX0_dateFor_78 : decode cX0_dateFor 78 = .ok (.ireturn, 1) := by decide +kernel
set_option maxRecDepth 20000 in
theorem ggX0_makeRoomFor_J7_copyOf_59c91 : GoodIn wsX0_makeRoomFor wsJ7_copyOf_59c91 := goodIn_r _ [14, 15, 16, 17, 18, 19, 20, 21, 22, 8, 5, 9, 23, 24, 25, 26] (by decide +kernel) (by decide +kernel)
set_option maxRecDepth 20000 in
theorem gX0_makeRoomFor_J7_copyOf_59c91 : GoodIn wsX0_makeRoomFor (va_wsS RX0 48 yJ7_copyOf_59c91 wsJ7_copyOf_59c91) := goodIn_app (goodIn_of _ (by decide +kernel)) ggX0_makeRoomFor_J7_copyOf_59c91
theorem dX0_makeRoomFor_0 : decode cX0_makeRoomFor 0 = .ok (.ldc 44, 2) := by decide +kernel
theorem dX0_makeRoomFor_2 : decode cX0_makeRoomFor 2 = .ok (.iload_n 1, 1) := by decide +kernel
theorem dX0_makeRoomFor_3 : decode cX0_makeRoomFor 3 = .ok (.iconst 2, 1) := by decide +kernel
theorem dX0_makeRoomFor_4 : decode cX0_makeRoomFor 4 = .ok (.aload_n 0, 1) := by decide +kernel
theorem dX0_makeRoomFor_5 : decode cX0_makeRoomFor 5 = .ok (.getfield 11, 3) := by decide +kernel
theorem dX0_makeRoomFor_8 : decode cX0_makeRoomFor 8 = .ok (.arraylength, 1) := by decide +kernel
theorem dX0_makeRoomFor_9 : decode cX0_makeRoomFor 9 = .ok (.imul, 1) := by decide +kernel
theorem dX0_makeRoomFor_10 : decode cX0_makeRoomFor 10 = .ok (.invokestatic 33, 3) := by decide +kernel
theorem dX0_makeRoomFor_13 : decode cX0_makeRoomFor 13 = .ok (.invokestatic 45, 3) := by decide +kernel
theorem dX0_makeRoomFor_16 : decode cX0_makeRoomFor 16 = .ok (.istore_n 2, 1) := by decide +kernel
theorem dX0_makeRoomFor_17 : decode cX0_makeRoomFor 17 = .ok (.iload_n 1, 1) := by decide +kernel
theorem dX0_makeRoomFor_18 : decode cX0_makeRoomFor 18 = .ok (.aload_n 0, 1) := by decide +kernel
theorem dX0_makeRoomFor_19 : decode cX0_makeRoomFor 19 = .ok (.getfield 11, 3) := by decide +kernel
theorem dX0_makeRoomFor_22 : decode cX0_makeRoomFor 22 = .ok (.arraylength, 1) := by decide +kernel
theorem dX0_makeRoomFor_23 : decode cX0_makeRoomFor 23 = .ok (.if_icmp .le 36, 3) := by decide +kernel
theorem dX0_makeRoomFor_26 : decode cX0_makeRoomFor 26 = .ok (.iload_n 2, 1) := by decide +kernel
theorem dX0_makeRoomFor_27 : decode cX0_makeRoomFor 27 = .ok (.aload_n 0, 1) := by decide +kernel
theorem dX0_makeRoomFor_28 : decode cX0_makeRoomFor 28 = .ok (.getfield 11, 3) := by decide +kernel
theorem dX0_makeRoomFor_31 : decode cX0_makeRoomFor 31 = .ok (.arraylength, 1) := by decide +kernel
theorem dX0_makeRoomFor_32 : decode cX0_makeRoomFor 32 = .ok (.if_icmp .le 27, 3) := by decide +kernel
theorem dX0_makeRoomFor_35 : decode cX0_makeRoomFor 35 = .ok (.aload_n 0, 1) := by decide +kernel
theorem dX0_makeRoomFor_36 : decode cX0_makeRoomFor 36 = .ok (.aload_n 0, 1) := by decide +kernel
theorem dX0_makeRoomFor_37 : decode cX0_makeRoomFor 37 = .ok (.getfield 11, 3) := by decide +kernel
theorem dX0_makeRoomFor_40 : decode cX0_makeRoomFor 40 = .ok (.iload_n 2, 1) := by decide +kernel
theorem dX0_makeRoomFor_41 : decode cX0_makeRoomFor 41 = .ok (.invokestatic 48, 3) := by decide +kernel
theorem dX0_makeRoomFor_44 : decode cX0_makeRoomFor 44 = .ok (.putfield 11, 3) := by decide +kernel
theorem dX0_makeRoomFor_47 : decode cX0_makeRoomFor 47 = .ok (.aload_n 0, 1) := by decide +kernel
theorem dX0_makeRoomFor_48 : decode cX0_makeRoomFor 48 = .ok (.aload_n 0, 1) := by decide +kernel
theorem dX0_makeRoomFor_49 : decode cX0_makeRoomFor 49 = .ok (.getfield 15, 3) := by decide +kernel
theorem dX0_makeRoomFor_52 : decode cX0_makeRoomFor 52 = .ok (.iload_n 2, 1) := by decide +kernel
theorem dX0_makeRoomFor_53 : decode cX0_makeRoomFor 53 = .ok (.invokestatic 48, 3) := by decide +kernel
theorem dX0_makeRoomFor_56 : decode cX0_makeRoomFor 56 = .ok (.putfield 15, 3) := by decide +kernel
theorem dX0_makeRoomFor_59 : decode cX0_makeRoomFor 59 = .ok (.return_, 1) := by decide +kernel
theorem dX1_init_0 : decode cX1_init 0 = .ok (.aload_n 0, 1) := by decide +kernel
theorem dX1_init_1 : decode cX1_init 1 = .ok (.invokespecial 3, 3) := by decide +kernel
theorem dX1_init_4 : decode cX1_init 4 = .ok (.aload_n 0, 1) := by decide +kernel
theorem dX1_init_5 : decode cX1_init 5 = .ok (.bipush 32, 2) := by decide +kernel
theorem dX1_init_7 : decode cX1_init 7 = .ok (.newarray .int, 2) := by decide +kernel
theorem dX1_init_9 : decode cX1_init 9 = .ok (.putfield 9, 3) := by decide +kernel
theorem dX1_init_12 : decode cX1_init 12 = .ok (.aload_n 0, 1) := by decide +kernel
theorem dX1_init_13 : decode cX1_init 13 = .ok (.iconst 0, 1) := by decide +kernel
theorem dX1_init_14 : decode cX1_init 14 = .ok (.putfield 15, 3) := by decide +kernel
theorem dX1_init_17 : decode cX1_init 17 = .ok (.aload_n 0, 1) := by decide +kernel
theorem dX1_init_18 : decode cX1_init 18 = .ok (.iload_n 1, 1) := by decide +kernel
theorem dX1_init_19 : decode cX1_init 19 = .ok (.putfield 19, 3) := by decide +kernel
theorem dX1_init_22 : decode cX1_init 22 = .ok (.return_, 1) := by decide +kernel
theorem dX1_forget_0 : decode cX1_forget 0 = .ok (.aload_n 0, 1) := by decide +kernel
theorem dX1_forget_1 : decode cX1_forget 1 = .ok (.iconst 0, 1) := by decide +kernel
theorem dX1_forget_2 : decode cX1_forget 2 = .ok (.putfield 15, 3) := by decide +kernel
theorem dX1_forget_5 : decode cX1_forget 5 = .ok (.return_, 1) := by decide +kernel
set_option maxRecDepth 20000 in
theorem ggX1_keepThoseOf_X1_forget : GoodIn wsX1_keepThoseOf wsX1_forget := goodIn_r _ [7, 8, 29, 30, 31] (by decide +kernel) (by decide +kernel)
set_option maxRecDepth 20000 in
theorem gX1_keepThoseOf_X1_forget : GoodIn wsX1_keepThoseOf (wsV RX1 22 RX1 yX1_forget wsX1_forget) := goodIn_app (goodIn_of _ (by decide +kernel)) ggX1_keepThoseOf_X1_forget
set_option maxRecDepth 20000 in
theorem ggX1_keepThoseOf_X4_at : GoodIn wsX1_keepThoseOf wsX4_at := goodIn_r _ [11] (by decide +kernel) (by decide +kernel)
set_option maxRecDepth 20000 in
theorem gX1_keepThoseOf_X4_at_n31 : GoodIn wsX1_keepThoseOf (wsX4_at) := ggX1_keepThoseOf_X4_at
set_option maxRecDepth 20000 in
theorem ggX1_keepThoseOf_X4_hashFor : GoodIn wsX1_keepThoseOf wsX4_hashFor := goodIn_r _ [13, 14, 15, 16, 17] (by decide +kernel) (by decide +kernel)
set_option maxRecDepth 20000 in
theorem gX1_keepThoseOf_X4_hashFor_n35 : GoodIn wsX1_keepThoseOf (wsX4_hashFor) := ggX1_keepThoseOf_X4_hashFor
set_option maxRecDepth 20000 in
theorem ggX1_keepThoseOf_X1_offer : GoodIn wsX1_keepThoseOf wsX1_offer := goodIn_r _ [21, 8, 22, 23, 9, 10, 11, 24, 25, 29, 30, 31] (by decide +kernel) (by decide +kernel)
set_option maxRecDepth 20000 in
theorem gX1_keepThoseOf_X1_offer : GoodIn wsX1_keepThoseOf (wsV RX1 39 RX1 yX1_offer wsX1_offer) := goodIn_app (goodIn_of _ (by decide +kernel)) ggX1_keepThoseOf_X1_offer
theorem dX1_keepThoseOf_0 : decode cX1_keepThoseOf 0 = .ok (.aload_n 0, 1) := by decide +kernel
theorem dX1_keepThoseOf_1 : decode cX1_keepThoseOf 1 = .ok (.invokevirtual 22, 3) := by decide +kernel
theorem dX1_keepThoseOf_4 : decode cX1_keepThoseOf 4 = .ok (.iconst 0, 1) := by decide +kernel
theorem dX1_keepThoseOf_5 : decode cX1_keepThoseOf 5 = .ok (.istore_n 2, 1) := by decide +kernel
theorem dX1_keepThoseOf_6 : decode cX1_keepThoseOf 6 = .ok (.iload_n 2, 1) := by decide +kernel
theorem dX1_keepThoseOf_7 : decode cX1_keepThoseOf 7 = .ok (.aload_n 1, 1) := by decide +kernel
theorem dX1_keepThoseOf_8 : decode cX1_keepThoseOf 8 = .ok (.getfield 25, 3) := by decide +kernel
theorem dX1_keepThoseOf_11 : decode cX1_keepThoseOf 11 = .ok (.if_icmp .ge 24, 3) := by decide +kernel
theorem dX1_keepThoseOf_14 : decode cX1_keepThoseOf 14 = .ok (.aload_n 0, 1) := by decide +kernel
theorem dX1_keepThoseOf_15 : decode cX1_keepThoseOf 15 = .ok (.aload_n 1, 1) := by decide +kernel
theorem dX1_keepThoseOf_16 : decode cX1_keepThoseOf 16 = .ok (.getfield 28, 3) := by decide +kernel
theorem dX1_keepThoseOf_19 : decode cX1_keepThoseOf 19 = .ok (.iload_n 2, 1) := by decide +kernel
theorem dX1_keepThoseOf_20 : decode cX1_keepThoseOf 20 = .ok (.invokestatic 31, 3) := by decide +kernel
theorem dX1_keepThoseOf_23 : decode cX1_keepThoseOf 23 = .ok (.invokestatic 35, 3) := by decide +kernel
theorem dX1_keepThoseOf_26 : decode cX1_keepThoseOf 26 = .ok (.invokevirtual 39, 3) := by decide +kernel
theorem dX1_keepThoseOf_29 : decode cX1_keepThoseOf 29 = .ok (.iinc 2 1, 3) := by decide +kernel
theorem dX1_keepThoseOf_32 : decode cX1_keepThoseOf 32 = .ok (.goto (-26), 3) := by decide +kernel
theorem dX1_keepThoseOf_35 : decode cX1_keepThoseOf 35 = .ok (.return_, 1) := by decide +kernel
set_option maxRecDepth 20000 in
theorem ggX1_offerAllOf_X4_at : GoodIn wsX1_offerAllOf wsX4_at := goodIn_r _ [5] (by decide +kernel) (by decide +kernel)
set_option maxRecDepth 20000 in
theorem gX1_offerAllOf_X4_at_n31 : GoodIn wsX1_offerAllOf (wsX4_at) := ggX1_offerAllOf_X4_at
set_option maxRecDepth 20000 in
theorem ggX1_offerAllOf_X1_offer : GoodIn wsX1_offerAllOf wsX1_offer := goodIn_r _ [10, 1, 11, 2, 3, 4, 5, 12, 13, 14, 15, 16] (by decide +kernel) (by decide +kernel)
set_option maxRecDepth 20000 in
theorem gX1_offerAllOf_X1_offer : GoodIn wsX1_offerAllOf (wsV RX1 39 RX1 yX1_offer wsX1_offer) := goodIn_app (goodIn_of _ (by decide +kernel)) ggX1_offerAllOf_X1_offer
theorem dX1_offerAllOf_0 : decode cX1_offerAllOf 0 = .ok (.iconst 0, 1) := by decide +kernel
theorem dX1_offerAllOf_1 : decode cX1_offerAllOf 1 = .ok (.istore_n 2, 1) := by decide +kernel
theorem dX1_offerAllOf_2 : decode cX1_offerAllOf 2 = .ok (.iload_n 2, 1) := by decide +kernel
theorem dX1_offerAllOf_3 : decode cX1_offerAllOf 3 = .ok (.aload_n 1, 1) := by decide +kernel
theorem dX1_offerAllOf_4 : decode cX1_offerAllOf 4 = .ok (.getfield 15, 3) := by decide +kernel
theorem dX1_offerAllOf_7 : decode cX1_offerAllOf 7 = .ok (.if_icmp .ge 21, 3) := by decide +kernel
theorem dX1_offerAllOf_10 : decode cX1_offerAllOf 10 = .ok (.aload_n 0, 1) := by decide +kernel
theorem dX1_offerAllOf_11 : decode cX1_offerAllOf 11 = .ok (.aload_n 1, 1) := by decide +kernel
theorem dX1_offerAllOf_12 : decode cX1_offerAllOf 12 = .ok (.getfield 9, 3) := by decide +kernel
theorem dX1_offerAllOf_15 : decode cX1_offerAllOf 15 = .ok (.iload_n 2, 1) := by decide +kernel
theorem dX1_offerAllOf_16 : decode cX1_offerAllOf 16 = .ok (.invokestatic 31, 3) := by decide +kernel
theorem dX1_offerAllOf_19 : decode cX1_offerAllOf 19 = .ok (.invokevirtual 39, 3) := by decide +kernel
theorem dX1_offerAllOf_22 : decode cX1_offerAllOf 22 = .ok (.iinc 2 1, 3) := by decide +kernel
theorem dX1_offerAllOf_25 : decode cX1_offerAllOf 25 = .ok (.goto (-23), 3) := by decide +kernel
theorem dX1_offerAllOf_28 : decode cX1_offerAllOf 28 = .ok (.return_, 1) := by decide +kernel
set_option maxRecDepth 20000 in
theorem ggX1_has_X4_at : GoodIn wsX1_has wsX4_at := goodIn_r _ [5] (by decide +kernel) (by decide +kernel)
set_option maxRecDepth 20000 in
theorem gX1_has_X4_at_n31 : GoodIn wsX1_has (wsX4_at) := ggX1_has_X4_at
theorem dX1_has_0 : decode cX1_has 0 = .ok (.iconst 0, 1) := by decide +kernel
theorem dX1_has_1 : decode cX1_has 1 = .ok (.istore_n 2, 1) := by decide +kernel
theorem dX1_has_2 : decode cX1_has 2 = .ok (.iload_n 2, 1) := by decide +kernel
theorem dX1_has_3 : decode cX1_has 3 = .ok (.aload_n 0, 1) := by decide +kernel
theorem dX1_has_4 : decode cX1_has 4 = .ok (.getfield 15, 3) := by decide +kernel
theorem dX1_has_7 : decode cX1_has 7 = .ok (.if_icmp .ge 23, 3) := by decide +kernel
theorem dX1_has_10 : decode cX1_has 10 = .ok (.aload_n 0, 1) := by decide +kernel
theorem dX1_has_11 : decode cX1_has 11 = .ok (.getfield 9, 3) := by decide +kernel
theorem dX1_has_14 : decode cX1_has 14 = .ok (.iload_n 2, 1) := by decide +kernel
theorem dX1_has_15 : decode cX1_has 15 = .ok (.invokestatic 31, 3) := by decide +kernel
theorem dX1_has_18 : decode cX1_has 18 = .ok (.iload_n 1, 1) := by decide +kernel
theorem dX1_has_19 : decode cX1_has 19 = .ok (.if_icmp .ne 5, 3) := by decide +kernel
theorem dX1_has_22 : decode cX1_has 22 = .ok (.iconst 1, 1) := by decide +kernel
theorem dX1_has_23 : decode cX1_has 23 = .ok (.ireturn, 1) := by decide +kernel
theorem dX1_has_24 : decode cX1_has 24 = .ok (.iinc 2 1, 3) := by decide +kernel
theorem dX1_has_27 : decode cX1_has 27 = .ok (.goto (-25), 3) := by decide +kernel
theorem dX1_has_30 : decode cX1_has 30 = .ok (.iconst 0, 1) := by decide +kernel
theorem dX1_has_31 : decode cX1_has 31 = .ok (.ireturn, 1) := by decide +kernel
set_option maxRecDepth 20000 in
theorem ggX1_estimate_X4_at : GoodIn wsX1_estimate wsX4_at := goodIn_r _ [7] (by decide +kernel) (by decide +kernel)
set_option maxRecDepth 20000 in
theorem gX1_estimate_X4_at_n31 : GoodIn wsX1_estimate (wsX4_at) := ggX1_estimate_X4_at
theorem dX1_estimate_0 : decode cX1_estimate 0 = .ok (.aload_n 0, 1) := by decide +kernel
theorem dX1_estimate_1 : decode cX1_estimate 1 = .ok (.getfield 9, 3) := by decide +kernel
theorem dX1_estimate_4 : decode cX1_estimate 4 = .ok (.aload_n 0, 1) := by decide +kernel
theorem dX1_estimate_5 : decode cX1_estimate 5 = .ok (.getfield 15, 3) := by decide +kernel
theorem dX1_estimate_8 : decode cX1_estimate 8 = .ok (.iconst 1, 1) := by decide +kernel
theorem dX1_estimate_9 : decode cX1_estimate 9 = .ok (.isub, 1) := by decide +kernel
theorem dX1_estimate_10 : decode cX1_estimate 10 = .ok (.invokestatic 31, 3) := by decide +kernel
theorem dX1_estimate_13 : decode cX1_estimate 13 = .ok (.istore_n 1, 1) := by decide +kernel
theorem dX1_estimate_14 : decode cX1_estimate 14 = .ok (.aload_n 0, 1) := by decide +kernel
theorem dX1_estimate_15 : decode cX1_estimate 15 = .ok (.getfield 15, 3) := by decide +kernel
theorem dX1_estimate_18 : decode cX1_estimate 18 = .ok (.aload_n 0, 1) := by decide +kernel
theorem dX1_estimate_19 : decode cX1_estimate 19 = .ok (.getfield 19, 3) := by decide +kernel
theorem dX1_estimate_22 : decode cX1_estimate 22 = .ok (.if_icmp .lt 7, 3) := by decide +kernel
theorem dX1_estimate_25 : decode cX1_estimate 25 = .ok (.iload_n 1, 1) := by decide +kernel
theorem dX1_estimate_26 : decode cX1_estimate 26 = .ok (.ifCond .gt 8, 3) := by decide +kernel
theorem dX1_estimate_29 : decode cX1_estimate 29 = .ok (.aload_n 0, 1) := by decide +kernel
theorem dX1_estimate_30 : decode cX1_estimate 30 = .ok (.getfield 15, 3) := by decide +kernel
theorem dX1_estimate_33 : decode cX1_estimate 33 = .ok (.ireturn, 1) := by decide +kernel
theorem dX1_estimate_34 : decode cX1_estimate 34 = .ok (.aload_n 0, 1) := by decide +kernel
theorem dX1_estimate_35 : decode cX1_estimate 35 = .ok (.getfield 19, 3) := by decide +kernel
theorem dX1_estimate_38 : decode cX1_estimate 38 = .ok (.iconst 1, 1) := by decide +kernel
theorem dX1_estimate_39 : decode cX1_estimate 39 = .ok (.isub, 1) := by decide +kernel
theorem dX1_estimate_40 : decode cX1_estimate 40 = .ok (.ldc 43, 2) := by decide +kernel
theorem dX1_estimate_42 : decode cX1_estimate 42 = .ok (.imul, 1) := by decide +kernel
theorem dX1_estimate_43 : decode cX1_estimate 43 = .ok (.iload_n 1, 1) := by decide +kernel
theorem dX1_estimate_44 : decode cX1_estimate 44 = .ok (.idiv, 1) := by decide +kernel
theorem dX1_estimate_45 : decode cX1_estimate 45 = .ok (.ireturn, 1) := by decide +kernel
set_option maxRecDepth 20000 in
theorem ggX1_estimateOfPart_X1_estimate : GoodIn wsX1_estimateOfPart wsX1_estimate := goodIn_r _ [6, 7, 1, 8, 9, 10, 11, 12, 13, 14, 15] (by decide +kernel) (by decide +kernel)
set_option maxRecDepth 20000 in
theorem gX1_estimateOfPart_X1_estimate : GoodIn wsX1_estimateOfPart (wsV RX1 44 RX1 yX1_estimate wsX1_estimate) := goodIn_app (goodIn_of _ (by decide +kernel)) ggX1_estimateOfPart_X1_estimate
theorem dX1_estimateOfPart_0 : decode cX1_estimateOfPart 0 = .ok (.aload_n 0, 1) := by decide +kernel
theorem dX1_estimateOfPart_1 : decode cX1_estimateOfPart 1 = .ok (.getfield 15, 3) := by decide +kernel
theorem dX1_estimateOfPart_4 : decode cX1_estimateOfPart 4 = .ok (.ifCond .le 21, 3) := by decide +kernel
theorem dX1_estimateOfPart_7 : decode cX1_estimateOfPart 7 = .ok (.aload_n 0, 1) := by decide +kernel
theorem dX1_estimateOfPart_8 : decode cX1_estimateOfPart 8 = .ok (.invokevirtual 44, 3) := by decide +kernel
theorem dX1_estimateOfPart_11 : decode cX1_estimateOfPart 11 = .ok (.i2l, 1) := by decide +kernel
theorem dX1_estimateOfPart_12 : decode cX1_estimateOfPart 12 = .ok (.iload_n 1, 1) := by decide +kernel
theorem dX1_estimateOfPart_13 : decode cX1_estimateOfPart 13 = .ok (.i2l, 1) := by decide +kernel
theorem dX1_estimateOfPart_14 : decode cX1_estimateOfPart 14 = .ok (.lmul, 1) := by decide +kernel
theorem dX1_estimateOfPart_15 : decode cX1_estimateOfPart 15 = .ok (.aload_n 0, 1) := by decide +kernel
theorem dX1_estimateOfPart_16 : decode cX1_estimateOfPart 16 = .ok (.getfield 15, 3) := by decide +kernel
theorem dX1_estimateOfPart_19 : decode cX1_estimateOfPart 19 = .ok (.i2l, 1) := by decide +kernel
theorem dX1_estimateOfPart_20 : decode cX1_estimateOfPart 20 = .ok (.ldiv, 1) := by decide +kernel
theorem dX1_estimateOfPart_21 : decode cX1_estimateOfPart 21 = .ok (.l2i, 1) := by decide +kernel
theorem dX1_estimateOfPart_22 : decode cX1_estimateOfPart 22 = .ok (.goto 4, 3) := by decide +kernel
theorem dX1_estimateOfPart_25 : decode cX1_estimateOfPart 25 = .ok (.iconst 0, 1) := by decide +kernel
theorem dX1_estimateOfPart_26 : decode cX1_estimateOfPart 26 = .ok (.ireturn, 1) := by decide +kernel
set_option maxRecDepth 20000 in
theorem ggX1_offer_X4_at : GoodIn wsX1_offer wsX4_at := goodIn_r _ [6] (by decide +kernel) (by decide +kernel)
set_option maxRecDepth 20000 in
theorem gX1_offer_X4_at_n31 : GoodIn wsX1_offer (wsX4_at) := ggX1_offer_X4_at
set_option maxRecDepth 20000 in
theorem ggX1_offer_X4_put : GoodIn wsX1_offer wsX4_put := goodIn_r _ [8] (by decide +kernel) (by decide +kernel)
set_option maxRecDepth 20000 in
theorem gX1_offer_X4_put_n48 : GoodIn wsX1_offer (wsX4_put) := ggX1_offer_X4_put
theorem dX1_offer_0 : decode cX1_offer 0 = .ok (.aload_n 0, 1) := by decide +kernel
theorem dX1_offer_1 : decode cX1_offer 1 = .ok (.getfield 15, 3) := by decide +kernel
theorem dX1_offer_4 : decode cX1_offer 4 = .ok (.aload_n 0, 1) := by decide +kernel
theorem dX1_offer_5 : decode cX1_offer 5 = .ok (.getfield 19, 3) := by decide +kernel
theorem dX1_offer_8 : decode cX1_offer 8 = .ok (.if_icmp .lt 7, 3) := by decide +kernel
theorem dX1_offer_11 : decode cX1_offer 11 = .ok (.iconst 1, 1) := by decide +kernel
theorem dX1_offer_12 : decode cX1_offer 12 = .ok (.goto 4, 3) := by decide +kernel
theorem dX1_offer_15 : decode cX1_offer 15 = .ok (.iconst 0, 1) := by decide +kernel
theorem dX1_offer_16 : decode cX1_offer 16 = .ok (.istore_n 2, 1) := by decide +kernel
theorem dX1_offer_17 : decode cX1_offer 17 = .ok (.iload_n 2, 1) := by decide +kernel
theorem dX1_offer_18 : decode cX1_offer 18 = .ok (.ifCond .eq 21, 3) := by decide +kernel
theorem dX1_offer_21 : decode cX1_offer 21 = .ok (.iload_n 1, 1) := by decide +kernel
theorem dX1_offer_22 : decode cX1_offer 22 = .ok (.aload_n 0, 1) := by decide +kernel
theorem dX1_offer_23 : decode cX1_offer 23 = .ok (.getfield 9, 3) := by decide +kernel
theorem dX1_offer_26 : decode cX1_offer 26 = .ok (.aload_n 0, 1) := by decide +kernel
theorem dX1_offer_27 : decode cX1_offer 27 = .ok (.getfield 15, 3) := by decide +kernel
theorem dX1_offer_30 : decode cX1_offer 30 = .ok (.iconst 1, 1) := by decide +kernel
theorem dX1_offer_31 : decode cX1_offer 31 = .ok (.isub, 1) := by decide +kernel
theorem dX1_offer_32 : decode cX1_offer 32 = .ok (.invokestatic 31, 3) := by decide +kernel
theorem dX1_offer_35 : decode cX1_offer 35 = .ok (.if_icmp .lt 4, 3) := by decide +kernel
theorem dX1_offer_38 : decode cX1_offer 38 = .ok (.return_, 1) := by decide +kernel
theorem dX1_offer_39 : decode cX1_offer 39 = .ok (.aload_n 0, 1) := by decide +kernel
theorem dX1_offer_40 : decode cX1_offer 40 = .ok (.getfield 15, 3) := by decide +kernel
theorem dX1_offer_43 : decode cX1_offer 43 = .ok (.istore_n 3, 1) := by decide +kernel
theorem dX1_offer_44 : decode cX1_offer 44 = .ok (.iload_n 3, 1) := by decide +kernel
theorem dX1_offer_45 : decode cX1_offer 45 = .ok (.ifCond .le 23, 3) := by decide +kernel
theorem dX1_offer_48 : decode cX1_offer 48 = .ok (.aload_n 0, 1) := by decide +kernel
theorem dX1_offer_49 : decode cX1_offer 49 = .ok (.getfield 9, 3) := by decide +kernel
theorem dX1_offer_52 : decode cX1_offer 52 = .ok (.iload_n 3, 1) := by decide +kernel
theorem dX1_offer_53 : decode cX1_offer 53 = .ok (.iconst 1, 1) := by decide +kernel
theorem dX1_offer_54 : decode cX1_offer 54 = .ok (.isub, 1) := by decide +kernel
theorem dX1_offer_55 : decode cX1_offer 55 = .ok (.invokestatic 31, 3) := by decide +kernel
theorem dX1_offer_58 : decode cX1_offer 58 = .ok (.iload_n 1, 1) := by decide +kernel
theorem dX1_offer_59 : decode cX1_offer 59 = .ok (.if_icmp .lt 9, 3) := by decide +kernel
theorem dX1_offer_62 : decode cX1_offer 62 = .ok (.iinc 3 (-1), 3) := by decide +kernel
theorem dX1_offer_65 : decode cX1_offer 65 = .ok (.goto (-21), 3) := by decide +kernel
theorem dX1_offer_68 : decode cX1_offer 68 = .ok (.iload_n 3, 1) := by decide +kernel
theorem dX1_offer_69 : decode cX1_offer 69 = .ok (.aload_n 0, 1) := by decide +kernel
theorem dX1_offer_70 : decode cX1_offer 70 = .ok (.getfield 15, 3) := by decide +kernel
theorem dX1_offer_73 : decode cX1_offer 73 = .ok (.if_icmp .ge 16, 3) := by decide +kernel
theorem dX1_offer_76 : decode cX1_offer 76 = .ok (.aload_n 0, 1) := by decide +kernel
theorem dX1_offer_77 : decode cX1_offer 77 = .ok (.getfield 9, 3) := by decide +kernel
theorem dX1_offer_80 : decode cX1_offer 80 = .ok (.iload_n 3, 1) := by decide +kernel
theorem dX1_offer_81 : decode cX1_offer 81 = .ok (.invokestatic 31, 3) := by decide +kernel
theorem dX1_offer_84 : decode cX1_offer 84 = .ok (.iload_n 1, 1) := by decide +kernel
theorem dX1_offer_85 : decode cX1_offer 85 = .ok (.if_icmp .ne 4, 3) := by decide +kernel
theorem dX1_offer_88 : decode cX1_offer 88 = .ok (.return_, 1) := by decide +kernel
theorem dX1_offer_89 : decode cX1_offer 89 = .ok (.aload_n 0, 1) := by decide +kernel
theorem dX1_offer_90 : decode cX1_offer 90 = .ok (.iload_n 2, 1) := by decide +kernel
theorem dX1_offer_91 : decode cX1_offer 91 = .ok (.ifCond .eq 10, 3) := by decide +kernel
theorem dX1_offer_94 : decode cX1_offer 94 = .ok (.aload_n 0, 1) := by decide +kernel
theorem dX1_offer_95 : decode cX1_offer 95 = .ok (.getfield 19, 3) := by decide +kernel
theorem dX1_offer_98 : decode cX1_offer 98 = .ok (.goto 9, 3) := by decide +kernel
theorem dX1_offer_101 : decode cX1_offer 101 = .ok (.aload_n 0, 1) := by decide +kernel
theorem dX1_offer_102 : decode cX1_offer 102 = .ok (.getfield 15, 3) := by decide +kernel
theorem dX1_offer_105 : decode cX1_offer 105 = .ok (.iconst 1, 1) := by decide +kernel
theorem dX1_offer_106 : decode cX1_offer 106 = .ok (.iadd, 1) := by decide +kernel
theorem dX1_offer_107 : decode cX1_offer 107 = .ok (.putfield 15, 3) := by decide +kernel
theorem dX1_offer_110 : decode cX1_offer 110 = .ok (.aload_n 0, 1) := by decide +kernel
theorem dX1_offer_111 : decode cX1_offer 111 = .ok (.getfield 15, 3) := by decide +kernel
theorem dX1_offer_114 : decode cX1_offer 114 = .ok (.iconst 1, 1) := by decide +kernel
theorem dX1_offer_115 : decode cX1_offer 115 = .ok (.isub, 1) := by decide +kernel
theorem dX1_offer_116 : decode cX1_offer 116 = .ok (.istore 4, 2) := by decide +kernel
theorem dX1_offer_118 : decode cX1_offer 118 = .ok (.iload 4, 2) := by decide +kernel
theorem dX1_offer_120 : decode cX1_offer 120 = .ok (.iload_n 3, 1) := by decide +kernel
theorem dX1_offer_121 : decode cX1_offer 121 = .ok (.if_icmp .le 29, 3) := by decide +kernel
theorem dX1_offer_124 : decode cX1_offer 124 = .ok (.aload_n 0, 1) := by decide +kernel
theorem dX1_offer_125 : decode cX1_offer 125 = .ok (.getfield 9, 3) := by decide +kernel
theorem dX1_offer_128 : decode cX1_offer 128 = .ok (.iload 4, 2) := by decide +kernel
theorem dX1_offer_130 : decode cX1_offer 130 = .ok (.aload_n 0, 1) := by decide +kernel
theorem dX1_offer_131 : decode cX1_offer 131 = .ok (.getfield 9, 3) := by decide +kernel
theorem dX1_offer_134 : decode cX1_offer 134 = .ok (.iload 4, 2) := by decide +kernel
theorem dX1_offer_136 : decode cX1_offer 136 = .ok (.iconst 1, 1) := by decide +kernel
theorem dX1_offer_137 : decode cX1_offer 137 = .ok (.isub, 1) := by decide +kernel
theorem dX1_offer_138 : decode cX1_offer 138 = .ok (.invokestatic 31, 3) := by decide +kernel
theorem dX1_offer_141 : decode cX1_offer 141 = .ok (.invokestatic 48, 3) := by decide +kernel
theorem dX1_offer_144 : decode cX1_offer 144 = .ok (.iinc 4 (-1), 3) := by decide +kernel
theorem dX1_offer_147 : decode cX1_offer 147 = .ok (.goto (-29), 3) := by decide +kernel
theorem dX1_offer_150 : decode cX1_offer 150 = .ok (.aload_n 0, 1) := by decide +kernel
theorem dX1_offer_151 : decode cX1_offer 151 = .ok (.getfield 9, 3) := by decide +kernel
theorem dX1_offer_154 : decode cX1_offer 154 = .ok (.iload_n 3, 1) := by decide +kernel
theorem dX1_offer_155 : decode cX1_offer 155 = .ok (.iload_n 1, 1) := by decide +kernel
theorem dX1_offer_156 : decode cX1_offer 156 = .ok (.invokestatic 48, 3) := by decide +kernel
theorem dX1_offer_159 : decode cX1_offer 159 = .ok (.return_, 1) := by decide +kernel
theorem dX2_init_0 : decode cX2_init 0 = .ok (.aload_n 0, 1) := by decide +kernel
theorem dX2_init_1 : decode cX2_init 1 = .ok (.invokespecial 5, 3) := by decide +kernel
theorem dX2_init_4 : decode cX2_init 4 = .ok (.aload_n 0, 1) := by decide +kernel
theorem dX2_init_5 : decode cX2_init 5 = .ok (.bipush 16, 2) := by decide +kernel
theorem dX2_init_7 : decode cX2_init 7 = .ok (.newarray .int, 2) := by decide +kernel
theorem dX2_init_9 : decode cX2_init 9 = .ok (.putfield 11, 3) := by decide +kernel
theorem dX2_init_12 : decode cX2_init 12 = .ok (.return_, 1) := by decide +kernel
set_option maxRecDepth 20000 in
theorem ggX2_rankAllOf_X2_rankThoseAbove : GoodIn wsX2_rankAllOf wsX2_rankThoseAbove := goodIn_r _ [5, 6, 7, 8, 9, 10, 11, 12, 13, 14, 15, 16, 17, 18, 19, 20, 21, 22, 23, 4, 24, 25, 26, 27, 28, 29, 30] (by decide +kernel) (by decide +kernel)
set_option maxRecDepth 20000 in
theorem gX2_rankAllOf_X2_rankThoseAbove : GoodIn wsX2_rankAllOf (wsV RX2 15 RX2 yX2_rankThoseAbove wsX2_rankThoseAbove) := goodIn_app (goodIn_of _ (by decide +kernel)) ggX2_rankAllOf_X2_rankThoseAbove
theorem dX2_rankAllOf_0 : decode cX2_rankAllOf 0 = .ok (.aload_n 0, 1) := by decide +kernel
theorem dX2_rankAllOf_1 : decode cX2_rankAllOf 1 = .ok (.iconst (-1), 1) := by decide +kernel
theorem dX2_rankAllOf_2 : decode cX2_rankAllOf 2 = .ok (.aload_n 1, 1) := by decide +kernel
theorem dX2_rankAllOf_3 : decode cX2_rankAllOf 3 = .ok (.invokevirtual 15, 3) := by decide +kernel
theorem dX2_rankAllOf_6 : decode cX2_rankAllOf 6 = .ok (.return_, 1) := by decide +kernel
set_option maxRecDepth 20000 in
theorem ggX2_rankThoseAbove_X4_put : GoodIn wsX2_rankThoseAbove wsX4_put := goodIn_r _ [7] (by decide +kernel) (by decide +kernel)
set_option maxRecDepth 20000 in
theorem gX2_rankThoseAbove_X4_put_n19 : GoodIn wsX2_rankThoseAbove (wsX4_put) := ggX2_rankThoseAbove_X4_put
set_option maxRecDepth 20000 in
theorem ggX2_rankThoseAbove_X4_at : GoodIn wsX2_rankThoseAbove wsX4_at := goodIn_r _ [9] (by decide +kernel) (by decide +kernel)
set_option maxRecDepth 20000 in
theorem gX2_rankThoseAbove_X4_at_n32 : GoodIn wsX2_rankThoseAbove (wsX4_at) := ggX2_rankThoseAbove_X4_at
set_option maxRecDepth 20000 in
theorem ggX2_rankThoseAbove_X4_hashFor : GoodIn wsX2_rankThoseAbove wsX4_hashFor := goodIn_r _ [11, 12, 13, 14, 15] (by decide +kernel) (by decide +kernel)
set_option maxRecDepth 20000 in
theorem gX2_rankThoseAbove_X4_hashFor_n39 : GoodIn wsX2_rankThoseAbove (wsX4_hashFor) := ggX2_rankThoseAbove_X4_hashFor
set_option maxRecDepth 20000 in
theorem ggX2_rankThoseAbove_X2_rank : GoodIn wsX2_rankThoseAbove wsX2_rank := goodIn_r _ [20, 1, 21, 6, 22, 8, 9, 5, 7, 23] (by decide +kernel) (by decide +kernel)
set_option maxRecDepth 20000 in
theorem gX2_rankThoseAbove_X2_rank : GoodIn wsX2_rankThoseAbove (wsV RX2 43 RX2 yX2_rank wsX2_rank) := goodIn_app (goodIn_of _ (by decide +kernel)) ggX2_rankThoseAbove_X2_rank
theorem dX2_rankThoseAbove_0 : decode cX2_rankThoseAbove 0 = .ok (.iconst 0, 1) := by decide +kernel
theorem dX2_rankThoseAbove_1 : decode cX2_rankThoseAbove 1 = .ok (.istore_n 3, 1) := by decide +kernel
theorem dX2_rankThoseAbove_2 : decode cX2_rankThoseAbove 2 = .ok (.iload_n 3, 1) := by decide +kernel
theorem dX2_rankThoseAbove_3 : decode cX2_rankThoseAbove 3 = .ok (.bipush 16, 2) := by decide +kernel
theorem dX2_rankThoseAbove_5 : decode cX2_rankThoseAbove 5 = .ok (.if_icmp .ge 18, 3) := by decide +kernel
theorem dX2_rankThoseAbove_8 : decode cX2_rankThoseAbove 8 = .ok (.aload_n 0, 1) := by decide +kernel
theorem dX2_rankThoseAbove_9 : decode cX2_rankThoseAbove 9 = .ok (.getfield 11, 3) := by decide +kernel
theorem dX2_rankThoseAbove_12 : decode cX2_rankThoseAbove 12 = .ok (.iload_n 3, 1) := by decide +kernel
theorem dX2_rankThoseAbove_13 : decode cX2_rankThoseAbove 13 = .ok (.iconst 0, 1) := by decide +kernel
theorem dX2_rankThoseAbove_14 : decode cX2_rankThoseAbove 14 = .ok (.invokestatic 19, 3) := by decide +kernel
theorem dX2_rankThoseAbove_17 : decode cX2_rankThoseAbove 17 = .ok (.iinc 3 1, 3) := by decide +kernel
theorem dX2_rankThoseAbove_20 : decode cX2_rankThoseAbove 20 = .ok (.goto (-18), 3) := by decide +kernel
theorem dX2_rankThoseAbove_23 : decode cX2_rankThoseAbove 23 = .ok (.iconst 0, 1) := by decide +kernel
theorem dX2_rankThoseAbove_24 : decode cX2_rankThoseAbove 24 = .ok (.istore_n 3, 1) := by decide +kernel
theorem dX2_rankThoseAbove_25 : decode cX2_rankThoseAbove 25 = .ok (.iload_n 3, 1) := by decide +kernel
theorem dX2_rankThoseAbove_26 : decode cX2_rankThoseAbove 26 = .ok (.aload_n 2, 1) := by decide +kernel
theorem dX2_rankThoseAbove_27 : decode cX2_rankThoseAbove 27 = .ok (.getfield 23, 3) := by decide +kernel
theorem dX2_rankThoseAbove_30 : decode cX2_rankThoseAbove 30 = .ok (.if_icmp .ge 36, 3) := by decide +kernel
theorem dX2_rankThoseAbove_33 : decode cX2_rankThoseAbove 33 = .ok (.aload_n 2, 1) := by decide +kernel
theorem dX2_rankThoseAbove_34 : decode cX2_rankThoseAbove 34 = .ok (.getfield 29, 3) := by decide +kernel
theorem dX2_rankThoseAbove_37 : decode cX2_rankThoseAbove 37 = .ok (.iload_n 3, 1) := by decide +kernel
theorem dX2_rankThoseAbove_38 : decode cX2_rankThoseAbove 38 = .ok (.invokestatic 32, 3) := by decide +kernel
theorem dX2_rankThoseAbove_41 : decode cX2_rankThoseAbove 41 = .ok (.iload_n 1, 1) := by decide +kernel
theorem dX2_rankThoseAbove_42 : decode cX2_rankThoseAbove 42 = .ok (.if_icmp .le 18, 3) := by decide +kernel
theorem dX2_rankThoseAbove_45 : decode cX2_rankThoseAbove 45 = .ok (.aload_n 0, 1) := by decide +kernel
theorem dX2_rankThoseAbove_46 : decode cX2_rankThoseAbove 46 = .ok (.aload_n 2, 1) := by decide +kernel
theorem dX2_rankThoseAbove_47 : decode cX2_rankThoseAbove 47 = .ok (.getfield 36, 3) := by decide +kernel
theorem dX2_rankThoseAbove_50 : decode cX2_rankThoseAbove 50 = .ok (.iload_n 3, 1) := by decide +kernel
theorem dX2_rankThoseAbove_51 : decode cX2_rankThoseAbove 51 = .ok (.invokestatic 32, 3) := by decide +kernel
theorem dX2_rankThoseAbove_54 : decode cX2_rankThoseAbove 54 = .ok (.invokestatic 39, 3) := by decide +kernel
theorem dX2_rankThoseAbove_57 : decode cX2_rankThoseAbove 57 = .ok (.invokevirtual 43, 3) := by decide +kernel
theorem dX2_rankThoseAbove_60 : decode cX2_rankThoseAbove 60 = .ok (.iinc 3 1, 3) := by decide +kernel
theorem dX2_rankThoseAbove_63 : decode cX2_rankThoseAbove 63 = .ok (.goto (-38), 3) := by decide +kernel
theorem dX2_rankThoseAbove_66 : decode cX2_rankThoseAbove 66 = .ok (.return_, 1) := by decide +kernel
set_option maxRecDepth 20000 in
theorem ggX2_estimate_X4_at : GoodIn wsX2_estimate wsX4_at := goodIn_r _ [8] (by decide +kernel) (by decide +kernel)
set_option maxRecDepth 20000 in
theorem gX2_estimate_X4_at_n32 : GoodIn wsX2_estimate (wsX4_at) := ggX2_estimate_X4_at
theorem dX2_estimate_0 : decode cX2_estimate 0 = .ok (.lconst 0, 1) := by decide +kernel
theorem dX2_estimate_1 : decode cX2_estimate 1 = .ok (.lstore_n 1, 1) := by decide +kernel
theorem dX2_estimate_2 : decode cX2_estimate 2 = .ok (.iconst 0, 1) := by decide +kernel
theorem dX2_estimate_3 : decode cX2_estimate 3 = .ok (.istore_n 3, 1) := by decide +kernel
theorem dX2_estimate_4 : decode cX2_estimate 4 = .ok (.iconst 0, 1) := by decide +kernel
theorem dX2_estimate_5 : decode cX2_estimate 5 = .ok (.istore 4, 2) := by decide +kernel
theorem dX2_estimate_7 : decode cX2_estimate 7 = .ok (.iload 4, 2) := by decide +kernel
theorem dX2_estimate_9 : decode cX2_estimate 9 = .ok (.bipush 16, 2) := by decide +kernel
theorem dX2_estimate_11 : decode cX2_estimate 11 = .ok (.if_icmp .ge 42, 3) := by decide +kernel
theorem dX2_estimate_14 : decode cX2_estimate 14 = .ok (.aload_n 0, 1) := by decide +kernel
theorem dX2_estimate_15 : decode cX2_estimate 15 = .ok (.getfield 11, 3) := by decide +kernel
theorem dX2_estimate_18 : decode cX2_estimate 18 = .ok (.iload 4, 2) := by decide +kernel
theorem dX2_estimate_20 : decode cX2_estimate 20 = .ok (.invokestatic 32, 3) := by decide +kernel
theorem dX2_estimate_23 : decode cX2_estimate 23 = .ok (.istore 5, 2) := by decide +kernel
theorem dX2_estimate_25 : decode cX2_estimate 25 = .ok (.lload_n 1, 1) := by decide +kernel
theorem dX2_estimate_26 : decode cX2_estimate 26 = .ok (.ldc 47, 2) := by decide +kernel
theorem dX2_estimate_28 : decode cX2_estimate 28 = .ok (.iload 5, 2) := by decide +kernel
theorem dX2_estimate_30 : decode cX2_estimate 30 = .ok (.ishr, 1) := by decide +kernel
theorem dX2_estimate_31 : decode cX2_estimate 31 = .ok (.i2l, 1) := by decide +kernel
theorem dX2_estimate_32 : decode cX2_estimate 32 = .ok (.ladd, 1) := by decide +kernel
theorem dX2_estimate_33 : decode cX2_estimate 33 = .ok (.lstore_n 1, 1) := by decide +kernel
theorem dX2_estimate_34 : decode cX2_estimate 34 = .ok (.iload_n 3, 1) := by decide +kernel
theorem dX2_estimate_35 : decode cX2_estimate 35 = .ok (.iload 5, 2) := by decide +kernel
theorem dX2_estimate_37 : decode cX2_estimate 37 = .ok (.ifCond .ne 7, 3) := by decide +kernel
theorem dX2_estimate_40 : decode cX2_estimate 40 = .ok (.iconst 1, 1) := by decide +kernel
theorem dX2_estimate_41 : decode cX2_estimate 41 = .ok (.goto 4, 3) := by decide +kernel
theorem dX2_estimate_44 : decode cX2_estimate 44 = .ok (.iconst 0, 1) := by decide +kernel
theorem dX2_estimate_45 : decode cX2_estimate 45 = .ok (.iadd, 1) := by decide +kernel
theorem dX2_estimate_46 : decode cX2_estimate 46 = .ok (.istore_n 3, 1) := by decide +kernel
theorem dX2_estimate_47 : decode cX2_estimate 47 = .ok (.iinc 4 1, 3) := by decide +kernel
theorem dX2_estimate_50 : decode cX2_estimate 50 = .ok (.goto (-43), 3) := by decide +kernel
theorem dX2_estimate_53 : decode cX2_estimate 53 = .ok (.lload_n 1, 1) := by decide +kernel
theorem dX2_estimate_54 : decode cX2_estimate 54 = .ok (.lconst 0, 1) := by decide +kernel
theorem dX2_estimate_55 : decode cX2_estimate 55 = .ok (.lcmp, 1) := by decide +kernel
theorem dX2_estimate_56 : decode cX2_estimate 56 = .ok (.ifCond .le 11, 3) := by decide +kernel
theorem dX2_estimate_59 : decode cX2_estimate 59 = .ok (.ldc2_w 48, 3) := by decide +kernel
theorem dX2_estimate_62 : decode cX2_estimate 62 = .ok (.lload_n 1, 1) := by decide +kernel
theorem dX2_estimate_63 : decode cX2_estimate 63 = .ok (.ldiv, 1) := by decide +kernel
theorem dX2_estimate_64 : decode cX2_estimate 64 = .ok (.goto 4, 3) := by decide +kernel
theorem dX2_estimate_67 : decode cX2_estimate 67 = .ok (.lconst 0, 1) := by decide +kernel
theorem dX2_estimate_68 : decode cX2_estimate 68 = .ok (.lstore 4, 2) := by decide +kernel
theorem dX2_estimate_70 : decode cX2_estimate 70 = .ok (.lload 4, 2) := by decide +kernel
theorem dX2_estimate_72 : decode cX2_estimate 72 = .ok (.ldc2_w 50, 3) := by decide +kernel
theorem dX2_estimate_75 : decode cX2_estimate 75 = .ok (.lcmp, 1) := by decide +kernel
theorem dX2_estimate_76 : decode cX2_estimate 76 = .ok (.ifCond .gt 18, 3) := by decide +kernel
theorem dX2_estimate_79 : decode cX2_estimate 79 = .ok (.iload_n 3, 1) := by decide +kernel
theorem dX2_estimate_80 : decode cX2_estimate 80 = .ok (.ifCond .le 14, 3) := by decide +kernel
theorem dX2_estimate_83 : decode cX2_estimate 83 = .ok (.getstatic 52, 3) := by decide +kernel
theorem dX2_estimate_86 : decode cX2_estimate 86 = .ok (.iload_n 3, 1) := by decide +kernel
theorem dX2_estimate_87 : decode cX2_estimate 87 = .ok (.invokestatic 32, 3) := by decide +kernel
theorem dX2_estimate_90 : decode cX2_estimate 90 = .ok (.i2l, 1) := by decide +kernel
theorem dX2_estimate_91 : decode cX2_estimate 91 = .ok (.goto 5, 3) := by decide +kernel
theorem dX2_estimate_94 : decode cX2_estimate 94 = .ok (.lload 4, 2) := by decide +kernel
theorem dX2_estimate_96 : decode cX2_estimate 96 = .ok (.lreturn, 1) := by decide +kernel
set_option maxRecDepth 20000 in
theorem ggX2_rank_X4_lowZeros : GoodIn wsX2_rank wsX4_lowZeros := goodIn_r _ [4] (by decide +kernel) (by decide +kernel)
set_option maxRecDepth 20000 in
theorem gX2_rank_X4_lowZeros_n55 : GoodIn wsX2_rank (wsX4_lowZeros) := ggX2_rank_X4_lowZeros
set_option maxRecDepth 20000 in
theorem ggX2_rank_X4_at : GoodIn wsX2_rank wsX4_at := goodIn_r _ [6] (by decide +kernel) (by decide +kernel)
set_option maxRecDepth 20000 in
theorem gX2_rank_X4_at_n32 : GoodIn wsX2_rank (wsX4_at) := ggX2_rank_X4_at
set_option maxRecDepth 20000 in
theorem ggX2_rank_X4_put : GoodIn wsX2_rank wsX4_put := goodIn_r _ [8] (by decide +kernel) (by decide +kernel)
set_option maxRecDepth 20000 in
theorem gX2_rank_X4_put_n19 : GoodIn wsX2_rank (wsX4_put) := ggX2_rank_X4_put
theorem dX2_rank_0 : decode cX2_rank 0 = .ok (.iload_n 1, 1) := by decide +kernel
theorem dX2_rank_1 : decode cX2_rank 1 = .ok (.bipush 16, 2) := by decide +kernel
theorem dX2_rank_3 : decode cX2_rank 3 = .ok (.irem, 1) := by decide +kernel
theorem dX2_rank_4 : decode cX2_rank 4 = .ok (.istore_n 2, 1) := by decide +kernel
theorem dX2_rank_5 : decode cX2_rank 5 = .ok (.iconst 1, 1) := by decide +kernel
theorem dX2_rank_6 : decode cX2_rank 6 = .ok (.iload_n 1, 1) := by decide +kernel
theorem dX2_rank_7 : decode cX2_rank 7 = .ok (.bipush 16, 2) := by decide +kernel
theorem dX2_rank_9 : decode cX2_rank 9 = .ok (.idiv, 1) := by decide +kernel
theorem dX2_rank_10 : decode cX2_rank 10 = .ok (.bipush 20, 2) := by decide +kernel
theorem dX2_rank_12 : decode cX2_rank 12 = .ok (.invokestatic 55, 3) := by decide +kernel
theorem dX2_rank_15 : decode cX2_rank 15 = .ok (.iadd, 1) := by decide +kernel
theorem dX2_rank_16 : decode cX2_rank 16 = .ok (.istore_n 3, 1) := by decide +kernel
theorem dX2_rank_17 : decode cX2_rank 17 = .ok (.iload_n 3, 1) := by decide +kernel
theorem dX2_rank_18 : decode cX2_rank 18 = .ok (.aload_n 0, 1) := by decide +kernel
theorem dX2_rank_19 : decode cX2_rank 19 = .ok (.getfield 11, 3) := by decide +kernel
theorem dX2_rank_22 : decode cX2_rank 22 = .ok (.iload_n 2, 1) := by decide +kernel
theorem dX2_rank_23 : decode cX2_rank 23 = .ok (.invokestatic 32, 3) := by decide +kernel
theorem dX2_rank_26 : decode cX2_rank 26 = .ok (.if_icmp .le 12, 3) := by decide +kernel
theorem dX2_rank_29 : decode cX2_rank 29 = .ok (.aload_n 0, 1) := by decide +kernel
theorem dX2_rank_30 : decode cX2_rank 30 = .ok (.getfield 11, 3) := by decide +kernel
theorem dX2_rank_33 : decode cX2_rank 33 = .ok (.iload_n 2, 1) := by decide +kernel
theorem dX2_rank_34 : decode cX2_rank 34 = .ok (.iload_n 3, 1) := by decide +kernel
theorem dX2_rank_35 : decode cX2_rank 35 = .ok (.invokestatic 19, 3) := by decide +kernel
theorem dX2_rank_38 : decode cX2_rank 38 = .ok (.return_, 1) := by decide +kernel
theorem dX3_init_0 : decode cX3_init 0 = .ok (.aload_n 0, 1) := by decide +kernel
theorem dX3_init_1 : decode cX3_init 1 = .ok (.invokespecial 3, 3) := by decide +kernel
theorem dX3_init_4 : decode cX3_init 4 = .ok (.aload_n 0, 1) := by decide +kernel
theorem dX3_init_5 : decode cX3_init 5 = .ok (.bipush 25, 2) := by decide +kernel
theorem dX3_init_7 : decode cX3_init 7 = .ok (.newarray .int, 2) := by decide +kernel
theorem dX3_init_9 : decode cX3_init 9 = .ok (.putfield 11, 3) := by decide +kernel
theorem dX3_init_12 : decode cX3_init 12 = .ok (.aload_n 0, 1) := by decide +kernel
theorem dX3_init_13 : decode cX3_init 13 = .ok (.iconst 0, 1) := by decide +kernel
theorem dX3_init_14 : decode cX3_init 14 = .ok (.putfield 15, 3) := by decide +kernel
theorem dX3_init_17 : decode cX3_init 17 = .ok (.aload_n 0, 1) := by decide +kernel
theorem dX3_init_18 : decode cX3_init 18 = .ok (.iconst 0, 1) := by decide +kernel
theorem dX3_init_19 : decode cX3_init 19 = .ok (.putfield 19, 3) := by decide +kernel
theorem dX3_init_22 : decode cX3_init 22 = .ok (.return_, 1) := by decide +kernel
set_option maxRecDepth 20000 in
theorem ggX3_thin_X4_put : GoodIn wsX3_thin wsX4_put := goodIn_r _ [8] (by decide +kernel) (by decide +kernel)
set_option maxRecDepth 20000 in
theorem gX3_thin_X4_put_n22 : GoodIn wsX3_thin (wsX4_put) := ggX3_thin_X4_put
set_option maxRecDepth 20000 in
theorem ggX3_thin_X4_at : GoodIn wsX3_thin wsX4_at := goodIn_r _ [10] (by decide +kernel) (by decide +kernel)
set_option maxRecDepth 20000 in
theorem gX3_thin_X4_at_n32 : GoodIn wsX3_thin (wsX4_at) := ggX3_thin_X4_at
set_option maxRecDepth 20000 in
theorem ggX3_thin_X3_lowZerosOf : GoodIn wsX3_thin wsX3_lowZerosOf := goodIn_r _ [14, 15, 7, 16, 17, 18, 19, 20, 21, 22] (by decide +kernel) (by decide +kernel)
set_option maxRecDepth 20000 in
theorem gX3_thin_X3_lowZerosOf : GoodIn wsX3_thin (va_wsS RX3 36 yX3_lowZerosOf wsX3_lowZerosOf) := goodIn_app (goodIn_of _ (by decide +kernel)) ggX3_thin_X3_lowZerosOf
theorem dX3_thin_0 : decode cX3_thin 0 = .ok (.iconst 0, 1) := by decide +kernel
theorem dX3_thin_1 : decode cX3_thin 1 = .ok (.istore_n 2, 1) := by decide +kernel
theorem dX3_thin_2 : decode cX3_thin 2 = .ok (.iload_n 2, 1) := by decide +kernel
theorem dX3_thin_3 : decode cX3_thin 3 = .ok (.bipush 24, 2) := by decide +kernel
theorem dX3_thin_5 : decode cX3_thin 5 = .ok (.if_icmp .gt 18, 3) := by decide +kernel
theorem dX3_thin_8 : decode cX3_thin 8 = .ok (.aload_n 0, 1) := by decide +kernel
theorem dX3_thin_9 : decode cX3_thin 9 = .ok (.getfield 11, 3) := by decide +kernel
theorem dX3_thin_12 : decode cX3_thin 12 = .ok (.iload_n 2, 1) := by decide +kernel
theorem dX3_thin_13 : decode cX3_thin 13 = .ok (.iconst 0, 1) := by decide +kernel
theorem dX3_thin_14 : decode cX3_thin 14 = .ok (.invokestatic 22, 3) := by decide +kernel
theorem dX3_thin_17 : decode cX3_thin 17 = .ok (.iinc 2 1, 3) := by decide +kernel
theorem dX3_thin_20 : decode cX3_thin 20 = .ok (.goto (-18), 3) := by decide +kernel
theorem dX3_thin_23 : decode cX3_thin 23 = .ok (.iconst 0, 1) := by decide +kernel
theorem dX3_thin_24 : decode cX3_thin 24 = .ok (.istore_n 2, 1) := by decide +kernel
theorem dX3_thin_25 : decode cX3_thin 25 = .ok (.iload_n 2, 1) := by decide +kernel
theorem dX3_thin_26 : decode cX3_thin 26 = .ok (.aload_n 1, 1) := by decide +kernel
theorem dX3_thin_27 : decode cX3_thin 27 = .ok (.getfield 26, 3) := by decide +kernel
theorem dX3_thin_30 : decode cX3_thin 30 = .ok (.if_icmp .ge 39, 3) := by decide +kernel
theorem dX3_thin_33 : decode cX3_thin 33 = .ok (.aload_n 1, 1) := by decide +kernel
theorem dX3_thin_34 : decode cX3_thin 34 = .ok (.getfield 29, 3) := by decide +kernel
theorem dX3_thin_37 : decode cX3_thin 37 = .ok (.iload_n 2, 1) := by decide +kernel
theorem dX3_thin_38 : decode cX3_thin 38 = .ok (.invokestatic 32, 3) := by decide +kernel
theorem dX3_thin_41 : decode cX3_thin 41 = .ok (.invokestatic 36, 3) := by decide +kernel
theorem dX3_thin_44 : decode cX3_thin 44 = .ok (.istore_n 3, 1) := by decide +kernel
theorem dX3_thin_45 : decode cX3_thin 45 = .ok (.aload_n 0, 1) := by decide +kernel
theorem dX3_thin_46 : decode cX3_thin 46 = .ok (.getfield 11, 3) := by decide +kernel
theorem dX3_thin_49 : decode cX3_thin 49 = .ok (.iload_n 3, 1) := by decide +kernel
theorem dX3_thin_50 : decode cX3_thin 50 = .ok (.aload_n 0, 1) := by decide +kernel
theorem dX3_thin_51 : decode cX3_thin 51 = .ok (.getfield 11, 3) := by decide +kernel
theorem dX3_thin_54 : decode cX3_thin 54 = .ok (.iload_n 3, 1) := by decide +kernel
theorem dX3_thin_55 : decode cX3_thin 55 = .ok (.invokestatic 32, 3) := by decide +kernel
theorem dX3_thin_58 : decode cX3_thin 58 = .ok (.iconst 1, 1) := by decide +kernel
theorem dX3_thin_59 : decode cX3_thin 59 = .ok (.iadd, 1) := by decide +kernel
theorem dX3_thin_60 : decode cX3_thin 60 = .ok (.invokestatic 22, 3) := by decide +kernel
theorem dX3_thin_63 : decode cX3_thin 63 = .ok (.iinc 2 1, 3) := by decide +kernel
theorem dX3_thin_66 : decode cX3_thin 66 = .ok (.goto (-41), 3) := by decide +kernel
theorem dX3_thin_69 : decode cX3_thin 69 = .ok (.aload_n 0, 1) := by decide +kernel
theorem dX3_thin_70 : decode cX3_thin 70 = .ok (.iconst 0, 1) := by decide +kernel
theorem dX3_thin_71 : decode cX3_thin 71 = .ok (.putfield 15, 3) := by decide +kernel
theorem dX3_thin_74 : decode cX3_thin 74 = .ok (.aload_n 0, 1) := by decide +kernel
theorem dX3_thin_75 : decode cX3_thin 75 = .ok (.aload_n 1, 1) := by decide +kernel
theorem dX3_thin_76 : decode cX3_thin 76 = .ok (.getfield 26, 3) := by decide +kernel
theorem dX3_thin_79 : decode cX3_thin 79 = .ok (.putfield 19, 3) := by decide +kernel
theorem dX3_thin_82 : decode cX3_thin 82 = .ok (.aload_n 0, 1) := by decide +kernel
theorem dX3_thin_83 : decode cX3_thin 83 = .ok (.getfield 19, 3) := by decide +kernel
theorem dX3_thin_86 : decode cX3_thin 86 = .ok (.bipush 16, 2) := by decide +kernel
theorem dX3_thin_88 : decode cX3_thin 88 = .ok (.if_icmp .le 45, 3) := by decide +kernel
theorem dX3_thin_91 : decode cX3_thin 91 = .ok (.aload_n 0, 1) := by decide +kernel
theorem dX3_thin_92 : decode cX3_thin 92 = .ok (.getfield 15, 3) := by decide +kernel
theorem dX3_thin_95 : decode cX3_thin 95 = .ok (.bipush 24, 2) := by decide +kernel
theorem dX3_thin_97 : decode cX3_thin 97 = .ok (.if_icmp .ge 36, 3) := by decide +kernel
theorem dX3_thin_100 : decode cX3_thin 100 = .ok (.aload_n 0, 1) := by decide +kernel
theorem dX3_thin_101 : decode cX3_thin 101 = .ok (.dup, 1) := by decide +kernel
theorem dX3_thin_102 : decode cX3_thin 102 = .ok (.getfield 19, 3) := by decide +kernel
theorem dX3_thin_105 : decode cX3_thin 105 = .ok (.aload_n 0, 1) := by decide +kernel
theorem dX3_thin_106 : decode cX3_thin 106 = .ok (.getfield 11, 3) := by decide +kernel
theorem dX3_thin_109 : decode cX3_thin 109 = .ok (.aload_n 0, 1) := by decide +kernel
theorem dX3_thin_110 : decode cX3_thin 110 = .ok (.getfield 15, 3) := by decide +kernel
theorem dX3_thin_113 : decode cX3_thin 113 = .ok (.invokestatic 32, 3) := by decide +kernel
theorem dX3_thin_116 : decode cX3_thin 116 = .ok (.isub, 1) := by decide +kernel
theorem dX3_thin_117 : decode cX3_thin 117 = .ok (.putfield 19, 3) := by decide +kernel
theorem dX3_thin_120 : decode cX3_thin 120 = .ok (.aload_n 0, 1) := by decide +kernel
theorem dX3_thin_121 : decode cX3_thin 121 = .ok (.dup, 1) := by decide +kernel
theorem dX3_thin_122 : decode cX3_thin 122 = .ok (.getfield 15, 3) := by decide +kernel
theorem dX3_thin_125 : decode cX3_thin 125 = .ok (.iconst 1, 1) := by decide +kernel
theorem dX3_thin_126 : decode cX3_thin 126 = .ok (.iadd, 1) := by decide +kernel
theorem dX3_thin_127 : decode cX3_thin 127 = .ok (.putfield 15, 3) := by decide +kernel
theorem dX3_thin_130 : decode cX3_thin 130 = .ok (.goto (-48), 3) := by decide +kernel
theorem dX3_thin_133 : decode cX3_thin 133 = .ok (.return_, 1) := by decide +kernel
set_option maxRecDepth 20000 in
theorem ggX3_itemAt_X4_at : GoodIn wsX3_itemAt wsX4_at := goodIn_r _ [6] (by decide +kernel) (by decide +kernel)
set_option maxRecDepth 20000 in
theorem gX3_itemAt_X4_at_n32 : GoodIn wsX3_itemAt (wsX4_at) := ggX3_itemAt_X4_at
set_option maxRecDepth 20000 in
theorem ggX3_itemAt_X3_lowZerosOf : GoodIn wsX3_itemAt wsX3_lowZerosOf := goodIn_r _ [10, 11, 5, 12, 13, 14, 15, 16, 17, 18] (by decide +kernel) (by decide +kernel)
set_option maxRecDepth 20000 in
theorem gX3_itemAt_X3_lowZerosOf : GoodIn wsX3_itemAt (va_wsS RX3 36 yX3_lowZerosOf wsX3_lowZerosOf) := goodIn_app (goodIn_of _ (by decide +kernel)) ggX3_itemAt_X3_lowZerosOf
theorem dX3_itemAt_0 : decode cX3_itemAt 0 = .ok (.iconst 0, 1) := by decide +kernel
theorem dX3_itemAt_1 : decode cX3_itemAt 1 = .ok (.istore_n 3, 1) := by decide +kernel
theorem dX3_itemAt_2 : decode cX3_itemAt 2 = .ok (.iconst 0, 1) := by decide +kernel
theorem dX3_itemAt_3 : decode cX3_itemAt 3 = .ok (.istore 4, 2) := by decide +kernel
theorem dX3_itemAt_5 : decode cX3_itemAt 5 = .ok (.iload 4, 2) := by decide +kernel
theorem dX3_itemAt_7 : decode cX3_itemAt 7 = .ok (.aload_n 1, 1) := by decide +kernel
theorem dX3_itemAt_8 : decode cX3_itemAt 8 = .ok (.getfield 26, 3) := by decide +kernel
theorem dX3_itemAt_11 : decode cX3_itemAt 11 = .ok (.if_icmp .ge 43, 3) := by decide +kernel
theorem dX3_itemAt_14 : decode cX3_itemAt 14 = .ok (.aload_n 1, 1) := by decide +kernel
theorem dX3_itemAt_15 : decode cX3_itemAt 15 = .ok (.getfield 29, 3) := by decide +kernel
theorem dX3_itemAt_18 : decode cX3_itemAt 18 = .ok (.iload 4, 2) := by decide +kernel
theorem dX3_itemAt_20 : decode cX3_itemAt 20 = .ok (.invokestatic 32, 3) := by decide +kernel
theorem dX3_itemAt_23 : decode cX3_itemAt 23 = .ok (.istore 5, 2) := by decide +kernel
theorem dX3_itemAt_25 : decode cX3_itemAt 25 = .ok (.iload 5, 2) := by decide +kernel
theorem dX3_itemAt_27 : decode cX3_itemAt 27 = .ok (.invokestatic 36, 3) := by decide +kernel
theorem dX3_itemAt_30 : decode cX3_itemAt 30 = .ok (.aload_n 0, 1) := by decide +kernel
theorem dX3_itemAt_31 : decode cX3_itemAt 31 = .ok (.getfield 15, 3) := by decide +kernel
theorem dX3_itemAt_34 : decode cX3_itemAt 34 = .ok (.if_icmp .lt 14, 3) := by decide +kernel
theorem dX3_itemAt_37 : decode cX3_itemAt 37 = .ok (.iload_n 3, 1) := by decide +kernel
theorem dX3_itemAt_38 : decode cX3_itemAt 38 = .ok (.iload_n 2, 1) := by decide +kernel
theorem dX3_itemAt_39 : decode cX3_itemAt 39 = .ok (.if_icmp .ne 6, 3) := by decide +kernel
theorem dX3_itemAt_42 : decode cX3_itemAt 42 = .ok (.iload 5, 2) := by decide +kernel
theorem dX3_itemAt_44 : decode cX3_itemAt 44 = .ok (.ireturn, 1) := by decide +kernel
theorem dX3_itemAt_45 : decode cX3_itemAt 45 = .ok (.iinc 3 1, 3) := by decide +kernel
theorem dX3_itemAt_48 : decode cX3_itemAt 48 = .ok (.iinc 4 1, 3) := by decide +kernel
theorem dX3_itemAt_51 : decode cX3_itemAt 51 = .ok (.goto (-46), 3) := by decide +kernel
theorem dX3_itemAt_54 : decode cX3_itemAt 54 = .ok (.iconst (-1), 1) := by decide +kernel
theorem dX3_itemAt_55 : decode cX3_itemAt 55 = .ok (.ireturn, 1) := by decide +kernel
set_option maxRecDepth 20000 in
theorem ggX3_lowZerosOf_X4_hashFor : GoodIn wsX3_lowZerosOf wsX4_hashFor := goodIn_r _ [3, 4, 5, 6, 7] (by decide +kernel) (by decide +kernel)
set_option maxRecDepth 20000 in
theorem gX3_lowZerosOf_X4_hashFor_n40 : GoodIn wsX3_lowZerosOf (wsX4_hashFor) := ggX3_lowZerosOf_X4_hashFor
set_option maxRecDepth 20000 in
theorem ggX3_lowZerosOf_X4_lowZeros : GoodIn wsX3_lowZerosOf wsX4_lowZeros := goodIn_r _ [9] (by decide +kernel) (by decide +kernel)
set_option maxRecDepth 20000 in
theorem gX3_lowZerosOf_X4_lowZeros_n43 : GoodIn wsX3_lowZerosOf (wsX4_lowZeros) := ggX3_lowZerosOf_X4_lowZeros
theorem dX3_lowZerosOf_0 : decode cX3_lowZerosOf 0 = .ok (.iload_n 0, 1) := by decide +kernel
theorem dX3_lowZerosOf_1 : decode cX3_lowZerosOf 1 = .ok (.invokestatic 40, 3) := by decide +kernel
theorem dX3_lowZerosOf_4 : decode cX3_lowZerosOf 4 = .ok (.bipush 24, 2) := by decide +kernel
theorem dX3_lowZerosOf_6 : decode cX3_lowZerosOf 6 = .ok (.invokestatic 43, 3) := by decide +kernel
theorem dX3_lowZerosOf_9 : decode cX3_lowZerosOf 9 = .ok (.ireturn, 1) := by decide +kernel
set_option maxRecDepth 20000 in
theorem ggX4_init_X0_init : GoodIn wsX4_init wsX0_init := goodIn_r _ [35, 36, 2, 3, 30, 37, 38, 39, 67, 68, 69] (by decide +kernel) (by decide +kernel)
set_option maxRecDepth 20000 in
theorem gX4_init_X0_init_n28 : GoodIn wsX4_init (wsX0_init) := ggX4_init_X0_init
set_option maxRecDepth 20000 in
theorem ggX4_init_X2_init : GoodIn wsX4_init wsX2_init := goodIn_r _ [41, 42, 2, 3, 30, 43, 70] (by decide +kernel) (by decide +kernel)
set_option maxRecDepth 20000 in
theorem gX4_init_X2_init_n31 : GoodIn wsX4_init (wsX2_init) := ggX4_init_X2_init
set_option maxRecDepth 20000 in
theorem ggX4_init_X3_init : GoodIn wsX4_init wsX3_init := goodIn_r _ [45, 46, 2, 3, 30, 47, 48, 49, 71, 72, 73] (by decide +kernel) (by decide +kernel)
set_option maxRecDepth 20000 in
theorem gX4_init_X3_init_n38 : GoodIn wsX4_init (wsX3_init) := ggX4_init_X3_init
set_option maxRecDepth 20000 in
theorem ggX4_init_X1_init : GoodIn wsX4_init wsX1_init := goodIn_r _ [52, 53, 2, 3, 30, 54, 55, 56, 74, 75, 76] (by decide +kernel) (by decide +kernel)
set_option maxRecDepth 20000 in
theorem gX4_init_X1_init : GoodIn wsX4_init (wsX1_init) := ggX4_init_X1_init
theorem dX4_init_0 : decode cX4_init 0 = .ok (.aload_n 0, 1) := by decide +kernel
theorem dX4_init_1 : decode cX4_init 1 = .ok (.invokespecial 1, 3) := by decide +kernel
theorem dX4_init_4 : decode cX4_init 4 = .ok (.aload_n 0, 1) := by decide +kernel
theorem dX4_init_5 : decode cX4_init 5 = .ok (.iconst 2, 1) := by decide +kernel
theorem dX4_init_6 : decode cX4_init 6 = .ok (.bipush 32, 2) := by decide +kernel
theorem dX4_init_8 : decode cX4_init 8 = .ok (.iload_n 1, 1) := by decide +kernel
theorem dX4_init_9 : decode cX4_init 9 = .ok (.invokestatic 9, 3) := by decide +kernel
theorem dX4_init_12 : decode cX4_init 12 = .ok (.invokestatic 15, 3) := by decide +kernel
theorem dX4_init_15 : decode cX4_init 15 = .ok (.putfield 18, 3) := by decide +kernel
theorem dX4_init_18 : decode cX4_init 18 = .ok (.aload_n 0, 1) := by decide +kernel
theorem dX4_init_19 : decode cX4_init 19 = .ok (.bipush 6, 2) := by decide +kernel
theorem dX4_init_21 : decode cX4_init 21 = .ok (.anewarray 22, 3) := by decide +kernel
theorem dX4_init_24 : decode cX4_init 24 = .ok (.putfield 24, 3) := by decide +kernel
theorem dX4_init_27 : decode cX4_init 27 = .ok (.iconst 0, 1) := by decide +kernel
theorem dX4_init_28 : decode cX4_init 28 = .ok (.istore_n 2, 1) := by decide +kernel
theorem dX4_init_29 : decode cX4_init 29 = .ok (.iload_n 2, 1) := by decide +kernel
theorem dX4_init_30 : decode cX4_init 30 = .ok (.aload_n 0, 1) := by decide +kernel
theorem dX4_init_31 : decode cX4_init 31 = .ok (.getfield 24, 3) := by decide +kernel
theorem dX4_init_34 : decode cX4_init 34 = .ok (.arraylength, 1) := by decide +kernel
theorem dX4_init_35 : decode cX4_init 35 = .ok (.if_icmp .ge 22, 3) := by decide +kernel
theorem dX4_init_38 : decode cX4_init 38 = .ok (.aload_n 0, 1) := by decide +kernel
theorem dX4_init_39 : decode cX4_init 39 = .ok (.getfield 24, 3) := by decide +kernel
theorem dX4_init_42 : decode cX4_init 42 = .ok (.iload_n 2, 1) := by decide +kernel
theorem dX4_init_43 : decode cX4_init 43 = .ok (.new 22, 3) := by decide +kernel
theorem dX4_init_46 : decode cX4_init 46 = .ok (.dup, 1) := by decide +kernel
theorem dX4_init_47 : decode cX4_init 47 = .ok (.invokespecial 28, 3) := by decide +kernel
theorem dX4_init_50 : decode cX4_init 50 = .ok (.aastore, 1) := by decide +kernel
theorem dX4_init_51 : decode cX4_init 51 = .ok (.iinc 2 1, 3) := by decide +kernel
theorem dX4_init_54 : decode cX4_init 54 = .ok (.goto (-25), 3) := by decide +kernel
theorem dX4_init_57 : decode cX4_init 57 = .ok (.aload_n 0, 1) := by decide +kernel
theorem dX4_init_58 : decode cX4_init 58 = .ok (.new 29, 3) := by decide +kernel
theorem dX4_init_61 : decode cX4_init 61 = .ok (.dup, 1) := by decide +kernel
theorem dX4_init_62 : decode cX4_init 62 = .ok (.invokespecial 31, 3) := by decide +kernel
theorem dX4_init_65 : decode cX4_init 65 = .ok (.putfield 32, 3) := by decide +kernel
theorem dX4_init_68 : decode cX4_init 68 = .ok (.aload_n 0, 1) := by decide +kernel
theorem dX4_init_69 : decode cX4_init 69 = .ok (.new 36, 3) := by decide +kernel
theorem dX4_init_72 : decode cX4_init 72 = .ok (.dup, 1) := by decide +kernel
theorem dX4_init_73 : decode cX4_init 73 = .ok (.invokespecial 38, 3) := by decide +kernel
theorem dX4_init_76 : decode cX4_init 76 = .ok (.putfield 39, 3) := by decide +kernel
theorem dX4_init_79 : decode cX4_init 79 = .ok (.aload_n 0, 1) := by decide +kernel
theorem dX4_init_80 : decode cX4_init 80 = .ok (.new 43, 3) := by decide +kernel
theorem dX4_init_83 : decode cX4_init 83 = .ok (.dup, 1) := by decide +kernel
theorem dX4_init_84 : decode cX4_init 84 = .ok (.aload_n 0, 1) := by decide +kernel
theorem dX4_init_85 : decode cX4_init 85 = .ok (.getfield 18, 3) := by decide +kernel
theorem dX4_init_88 : decode cX4_init 88 = .ok (.invokespecial 45, 3) := by decide +kernel
theorem dX4_init_91 : decode cX4_init 91 = .ok (.putfield 48, 3) := by decide +kernel
theorem dX4_init_94 : decode cX4_init 94 = .ok (.aload_n 0, 1) := by decide +kernel
theorem dX4_init_95 : decode cX4_init 95 = .ok (.new 43, 3) := by decide +kernel
theorem dX4_init_98 : decode cX4_init 98 = .ok (.dup, 1) := by decide +kernel
theorem dX4_init_99 : decode cX4_init 99 = .ok (.aload_n 0, 1) := by decide +kernel
theorem dX4_init_100 : decode cX4_init 100 = .ok (.getfield 18, 3) := by decide +kernel
theorem dX4_init_103 : decode cX4_init 103 = .ok (.invokespecial 45, 3) := by decide +kernel
theorem dX4_init_106 : decode cX4_init 106 = .ok (.putfield 52, 3) := by decide +kernel
theorem dX4_init_109 : decode cX4_init 109 = .ok (.aload_n 0, 1) := by decide +kernel
theorem dX4_init_110 : decode cX4_init 110 = .ok (.new 43, 3) := by decide +kernel
theorem dX4_init_113 : decode cX4_init 113 = .ok (.dup, 1) := by decide +kernel
theorem dX4_init_114 : decode cX4_init 114 = .ok (.aload_n 0, 1) := by decide +kernel
theorem dX4_init_115 : decode cX4_init 115 = .ok (.getfield 18, 3) := by decide +kernel
theorem dX4_init_118 : decode cX4_init 118 = .ok (.invokespecial 45, 3) := by decide +kernel
theorem dX4_init_121 : decode cX4_init 121 = .ok (.putfield 55, 3) := by decide +kernel
theorem dX4_init_124 : decode cX4_init 124 = .ok (.aload_n 0, 1) := by decide +kernel
theorem dX4_init_125 : decode cX4_init 125 = .ok (.bipush 60, 2) := by decide +kernel
theorem dX4_init_127 : decode cX4_init 127 = .ok (.newarray .int, 2) := by decide +kernel
theorem dX4_init_129 : decode cX4_init 129 = .ok (.putfield 58, 3) := by decide +kernel
theorem dX4_init_132 : decode cX4_init 132 = .ok (.aload_n 0, 1) := by decide +kernel
theorem dX4_init_133 : decode cX4_init 133 = .ok (.bipush 60, 2) := by decide +kernel
theorem dX4_init_135 : decode cX4_init 135 = .ok (.newarray .int, 2) := by decide +kernel
theorem dX4_init_137 : decode cX4_init 137 = .ok (.putfield 62, 3) := by decide +kernel
theorem dX4_init_140 : decode cX4_init 140 = .ok (.aload_n 0, 1) := by decide +kernel
theorem dX4_init_141 : decode cX4_init 141 = .ok (.iconst 0, 1) := by decide +kernel
theorem dX4_init_142 : decode cX4_init 142 = .ok (.putfield 65, 3) := by decide +kernel
theorem dX4_init_145 : decode cX4_init 145 = .ok (.return_, 1) := by decide +kernel
set_option maxRecDepth 20000 in
theorem ggX4_add_X4_need : GoodIn wsX4_add wsX4_need := goodIn_ca (goodIn_r _ [5, 6, 7, 8, 70, 71, 72, 73, 74, 75, 76, 77, 78, 79] (by decide +kernel) (by decide +kernel)) (goodIn_sub (fun _ h => List.mem_cons_of_mem _ (List.mem_append_left _ (List.mem_append_right _ h))) (by decide +kernel))
set_option maxRecDepth 20000 in
theorem gX4_add_X4_need : GoodIn wsX4_add (wsV RX4 68 RX4 yX4_need wsX4_need) := goodIn_app (goodIn_of _ (by decide +kernel)) ggX4_add_X4_need
set_option maxRecDepth 20000 in
theorem ggX4_add_X4_isItem : GoodIn wsX4_add wsX4_isItem := goodIn_r _ [11, 12] (by decide +kernel) (by decide +kernel)
set_option maxRecDepth 20000 in
theorem gX4_add_X4_isItem : GoodIn wsX4_add (va_wsS RX4 72 yX4_isItem wsX4_isItem) := goodIn_app (goodIn_of _ (by decide +kernel)) ggX4_add_X4_isItem
set_option maxRecDepth 20000 in
theorem ggX4_add_X4_refuseUnless : GoodIn wsX4_add wsX4_refuseUnless := goodIn_ca (goodIn_r _ [15, 16, 17] (by decide +kernel) (by decide +kernel)) (goodIn_sub (fun _ h => List.mem_cons_of_mem _ (List.mem_append_right _ h)) (by decide +kernel))
set_option maxRecDepth 20000 in
theorem gX4_add_X4_refuseUnless : GoodIn wsX4_add (va_wsS RX4 76 yX4_refuseUnless wsX4_refuseUnless) := goodIn_app (goodIn_of _ (by decide +kernel)) ggX4_add_X4_refuseUnless
set_option maxRecDepth 20000 in
theorem ggX4_add_X4_takeLine : GoodIn wsX4_add wsX4_takeLine := goodIn_r _ [21, 22, 23, 24, 25, 26, 4, 27, 28, 29, 30, 31, 32, 33, 34, 35, 36, 37, 38, 39, 40, 41, 42, 43, 44, 45, 46, 47, 48, 49, 50, 51, 52, 53, 54, 55, 56, 57, 58, 59, 60, 61, 62, 63, 64, 65, 66, 67, 68, 69, 70, 71, 72, 73, 74, 75, 76, 77, 78, 79, 80, 81, 82] (by decide +kernel) (by decide +kernel)
set_option maxRecDepth 20000 in
theorem gX4_add_X4_takeLine : GoodIn wsX4_add (wsV RX4 80 RX4 yX4_takeLine wsX4_takeLine) := goodIn_app (goodIn_of _ (by decide +kernel)) ggX4_add_X4_takeLine
theorem dX4_add_0 : decode cX4_add 0 = .ok (.aload_n 0, 1) := by decide +kernel
theorem dX4_add_1 : decode cX4_add 1 = .ok (.iload_n 1, 1) := by decide +kernel
theorem dX4_add_2 : decode cX4_add 2 = .ok (.invokevirtual 68, 3) := by decide +kernel
theorem dX4_add_5 : decode cX4_add 5 = .ok (.astore_n 3, 1) := by decide +kernel
theorem dX4_add_6 : decode cX4_add 6 = .ok (.iload_n 2, 1) := by decide +kernel
theorem dX4_add_7 : decode cX4_add 7 = .ok (.invokestatic 72, 3) := by decide +kernel
theorem dX4_add_10 : decode cX4_add 10 = .ok (.invokestatic 76, 3) := by decide +kernel
theorem dX4_add_13 : decode cX4_add 13 = .ok (.aload_n 0, 1) := by decide +kernel
theorem dX4_add_14 : decode cX4_add 14 = .ok (.aload_n 3, 1) := by decide +kernel
theorem dX4_add_15 : decode cX4_add 15 = .ok (.iload_n 2, 1) := by decide +kernel
theorem dX4_add_16 : decode cX4_add 16 = .ok (.iconst 1, 1) := by decide +kernel
theorem dX4_add_17 : decode cX4_add 17 = .ok (.iconst 1, 1) := by decide +kernel
theorem dX4_add_18 : decode cX4_add 18 = .ok (.invokevirtual 80, 3) := by decide +kernel
theorem dX4_add_21 : decode cX4_add 21 = .ok (.iconst 1, 1) := by decide +kernel
theorem dX4_add_22 : decode cX4_add 22 = .ok (.if_icmp .ne 7, 3) := by decide +kernel
theorem dX4_add_25 : decode cX4_add 25 = .ok (.iconst 1, 1) := by decide +kernel
theorem dX4_add_26 : decode cX4_add 26 = .ok (.goto 4, 3) := by decide +kernel
theorem dX4_add_29 : decode cX4_add 29 = .ok (.iconst 0, 1) := by decide +kernel
theorem dX4_add_30 : decode cX4_add 30 = .ok (.ireturn, 1) := by decide +kernel
set_option maxRecDepth 20000 in
theorem ggX4_addLine_X4_need : GoodIn wsX4_addLine wsX4_need := goodIn_ca (goodIn_r _ [5, 6, 7, 8, 70, 71, 72, 73, 74, 75, 76, 77, 78, 79] (by decide +kernel) (by decide +kernel)) (goodIn_sub (fun _ h => List.mem_cons_of_mem _ (List.mem_append_left _ (List.mem_append_right _ h))) (by decide +kernel))
set_option maxRecDepth 20000 in
theorem gX4_addLine_X4_need : GoodIn wsX4_addLine (wsV RX4 68 RX4 yX4_need wsX4_need) := goodIn_app (goodIn_of _ (by decide +kernel)) ggX4_addLine_X4_need
set_option maxRecDepth 20000 in
theorem ggX4_addLine_X4_isItem : GoodIn wsX4_addLine wsX4_isItem := goodIn_r _ [11, 12] (by decide +kernel) (by decide +kernel)
set_option maxRecDepth 20000 in
theorem gX4_addLine_X4_isItem : GoodIn wsX4_addLine (va_wsS RX4 72 yX4_isItem wsX4_isItem) := goodIn_app (goodIn_of _ (by decide +kernel)) ggX4_addLine_X4_isItem
set_option maxRecDepth 20000 in
theorem ggX4_addLine_X4_refuseUnless : GoodIn wsX4_addLine wsX4_refuseUnless := goodIn_ca (goodIn_r _ [15, 16, 17] (by decide +kernel) (by decide +kernel)) (goodIn_sub (fun _ h => List.mem_cons_of_mem _ (List.mem_append_right _ h)) (by decide +kernel))
set_option maxRecDepth 20000 in
theorem gX4_addLine_X4_refuseUnless : GoodIn wsX4_addLine (va_wsS RX4 76 yX4_refuseUnless wsX4_refuseUnless) := goodIn_app (goodIn_of _ (by decide +kernel)) ggX4_addLine_X4_refuseUnless
set_option maxRecDepth 20000 in
theorem ggX4_addLine_X4_takeLine : GoodIn wsX4_addLine wsX4_takeLine := goodIn_r _ [21, 22, 23, 24, 25, 26, 4, 27, 28, 29, 30, 31, 32, 33, 34, 35, 36, 37, 38, 39, 40, 41, 42, 43, 44, 45, 46, 47, 48, 49, 50, 51, 52, 53, 54, 55, 56, 57, 58, 59, 60, 61, 62, 63, 64, 65, 66, 67, 68, 69, 70, 71, 72, 73, 74, 75, 76, 77, 78, 79, 80, 81, 82] (by decide +kernel) (by decide +kernel)
set_option maxRecDepth 20000 in
theorem gX4_addLine_X4_takeLine : GoodIn wsX4_addLine (wsV RX4 80 RX4 yX4_takeLine wsX4_takeLine) := goodIn_app (goodIn_of _ (by decide +kernel)) ggX4_addLine_X4_takeLine
theorem dX4_addLine_0 : decode cX4_addLine 0 = .ok (.aload_n 0, 1) := by decide +kernel
theorem dX4_addLine_1 : decode cX4_addLine 1 = .ok (.iload_n 1, 1) := by decide +kernel
theorem dX4_addLine_2 : decode cX4_addLine 2 = .ok (.invokevirtual 68, 3) := by decide +kernel
theorem dX4_addLine_5 : decode cX4_addLine 5 = .ok (.astore 5, 2) := by decide +kernel
theorem dX4_addLine_7 : decode cX4_addLine 7 = .ok (.iload_n 2, 1) := by decide +kernel
theorem dX4_addLine_8 : decode cX4_addLine 8 = .ok (.invokestatic 72, 3) := by decide +kernel
theorem dX4_addLine_11 : decode cX4_addLine 11 = .ok (.invokestatic 76, 3) := by decide +kernel
theorem dX4_addLine_14 : decode cX4_addLine 14 = .ok (.iload_n 3, 1) := by decide +kernel
theorem dX4_addLine_15 : decode cX4_addLine 15 = .ok (.iconst 1, 1) := by decide +kernel
theorem dX4_addLine_16 : decode cX4_addLine 16 = .ok (.if_icmp .lt 14, 3) := by decide +kernel
theorem dX4_addLine_19 : decode cX4_addLine 19 = .ok (.iload_n 3, 1) := by decide +kernel
theorem dX4_addLine_20 : decode cX4_addLine 20 = .ok (.sipush 999, 3) := by decide +kernel
theorem dX4_addLine_23 : decode cX4_addLine 23 = .ok (.if_icmp .gt 7, 3) := by decide +kernel
theorem dX4_addLine_26 : decode cX4_addLine 26 = .ok (.iconst 1, 1) := by decide +kernel
theorem dX4_addLine_27 : decode cX4_addLine 27 = .ok (.goto 4, 3) := by decide +kernel
theorem dX4_addLine_30 : decode cX4_addLine 30 = .ok (.iconst 0, 1) := by decide +kernel
theorem dX4_addLine_31 : decode cX4_addLine 31 = .ok (.invokestatic 76, 3) := by decide +kernel
theorem dX4_addLine_34 : decode cX4_addLine 34 = .ok (.iload 4, 2) := by decide +kernel
theorem dX4_addLine_36 : decode cX4_addLine 36 = .ok (.iconst 1, 1) := by decide +kernel
theorem dX4_addLine_37 : decode cX4_addLine 37 = .ok (.if_icmp .lt 14, 3) := by decide +kernel
theorem dX4_addLine_40 : decode cX4_addLine 40 = .ok (.iload 4, 2) := by decide +kernel
theorem dX4_addLine_42 : decode cX4_addLine 42 = .ok (.bipush 60, 2) := by decide +kernel
theorem dX4_addLine_44 : decode cX4_addLine 44 = .ok (.if_icmp .gt 7, 3) := by decide +kernel
theorem dX4_addLine_47 : decode cX4_addLine 47 = .ok (.iconst 1, 1) := by decide +kernel
theorem dX4_addLine_48 : decode cX4_addLine 48 = .ok (.goto 4, 3) := by decide +kernel
theorem dX4_addLine_51 : decode cX4_addLine 51 = .ok (.iconst 0, 1) := by decide +kernel
theorem dX4_addLine_52 : decode cX4_addLine 52 = .ok (.invokestatic 76, 3) := by decide +kernel
theorem dX4_addLine_55 : decode cX4_addLine 55 = .ok (.iload_n 2, 1) := by decide +kernel
theorem dX4_addLine_56 : decode cX4_addLine 56 = .ok (.iload_n 3, 1) := by decide +kernel
theorem dX4_addLine_57 : decode cX4_addLine 57 = .ok (.iload 4, 2) := by decide +kernel
theorem dX4_addLine_59 : decode cX4_addLine 59 = .ok (.iconst 1, 1) := by decide +kernel
theorem dX4_addLine_60 : decode cX4_addLine 60 = .ok (.isub, 1) := by decide +kernel
theorem dX4_addLine_61 : decode cX4_addLine 61 = .ok (.imul, 1) := by decide +kernel
theorem dX4_addLine_62 : decode cX4_addLine 62 = .ok (.iadd, 1) := by decide +kernel
theorem dX4_addLine_63 : decode cX4_addLine 63 = .ok (.invokestatic 72, 3) := by decide +kernel
theorem dX4_addLine_66 : decode cX4_addLine 66 = .ok (.invokestatic 76, 3) := by decide +kernel
theorem dX4_addLine_69 : decode cX4_addLine 69 = .ok (.aload_n 0, 1) := by decide +kernel
theorem dX4_addLine_70 : decode cX4_addLine 70 = .ok (.aload 5, 2) := by decide +kernel
theorem dX4_addLine_72 : decode cX4_addLine 72 = .ok (.iload_n 2, 1) := by decide +kernel
theorem dX4_addLine_73 : decode cX4_addLine 73 = .ok (.iload_n 3, 1) := by decide +kernel
theorem dX4_addLine_74 : decode cX4_addLine 74 = .ok (.iload 4, 2) := by decide +kernel
theorem dX4_addLine_76 : decode cX4_addLine 76 = .ok (.invokevirtual 80, 3) := by decide +kernel
theorem dX4_addLine_79 : decode cX4_addLine 79 = .ok (.ireturn, 1) := by decide +kernel
set_option maxRecDepth 20000 in
theorem ggX4_empty_X4_need : GoodIn wsX4_empty wsX4_need := goodIn_ca (goodIn_r _ [5, 6, 7, 8, 15, 16, 17, 18, 19, 20, 21, 22, 23, 24] (by decide +kernel) (by decide +kernel)) (goodIn_sub (fun _ h => List.mem_cons_of_mem _ (List.mem_append_right _ h)) (by decide +kernel))
set_option maxRecDepth 20000 in
theorem gX4_empty_X4_need : GoodIn wsX4_empty (wsV RX4 68 RX4 yX4_need wsX4_need) := goodIn_app (goodIn_of _ (by decide +kernel)) ggX4_empty_X4_need
set_option maxRecDepth 20000 in
theorem ggX4_empty_X0_drain : GoodIn wsX4_empty wsX0_drain := goodIn_r _ [13, 14, 25, 26, 27] (by decide +kernel) (by decide +kernel)
set_option maxRecDepth 20000 in
theorem gX4_empty_X0_drain : GoodIn wsX4_empty (wsV RX4 84 RX0 yX0_drain wsX0_drain) := goodIn_app (goodIn_of _ (by decide +kernel)) ggX4_empty_X0_drain
theorem dX4_empty_0 : decode cX4_empty 0 = .ok (.aload_n 0, 1) := by decide +kernel
theorem dX4_empty_1 : decode cX4_empty 1 = .ok (.iload_n 1, 1) := by decide +kernel
theorem dX4_empty_2 : decode cX4_empty 2 = .ok (.invokevirtual 68, 3) := by decide +kernel
theorem dX4_empty_5 : decode cX4_empty 5 = .ok (.invokevirtual 84, 3) := by decide +kernel
theorem dX4_empty_8 : decode cX4_empty 8 = .ok (.ireturn, 1) := by decide +kernel
set_option maxRecDepth 20000 in
theorem ggX4_merge_X4_need : GoodIn wsX4_merge wsX4_need := goodIn_ca (goodIn_r _ [8, 9, 10, 11, 59, 60, 61, 62, 63, 64, 65, 66, 67, 68] (by decide +kernel) (by decide +kernel)) (goodIn_sub (fun _ h => List.mem_cons_of_mem _ (List.mem_append_right _ h)) (by decide +kernel))
set_option maxRecDepth 20000 in
theorem gX4_merge_X4_need : GoodIn wsX4_merge (wsV RX4 68 RX4 yX4_need wsX4_need) := goodIn_app (goodIn_of _ (by decide +kernel)) ggX4_merge_X4_need
set_option maxRecDepth 20000 in
theorem ggX4_merge_X0_take : GoodIn wsX4_merge wsX0_take := goodIn_r _ [16, 17, 18, 19, 20, 21, 22, 23, 24, 25, 26, 15, 27, 28, 7, 29, 30, 31, 32, 33, 34, 35, 36, 37, 38, 39, 40, 41, 42, 43, 44, 45, 46, 47, 48, 49, 50, 51, 52, 53, 54, 55, 56, 57, 58] (by decide +kernel) (by decide +kernel)
set_option maxRecDepth 20000 in
theorem gX4_merge_X0_take : GoodIn wsX4_merge (wsV RX4 97 RX0 yX0_take wsX0_take) := goodIn_app (goodIn_of _ (by decide +kernel)) ggX4_merge_X0_take
theorem dX4_merge_0 : decode cX4_merge 0 = .ok (.aload_n 0, 1) := by decide +kernel
theorem dX4_merge_1 : decode cX4_merge 1 = .ok (.iload_n 1, 1) := by decide +kernel
theorem dX4_merge_2 : decode cX4_merge 2 = .ok (.invokevirtual 68, 3) := by decide +kernel
theorem dX4_merge_5 : decode cX4_merge 5 = .ok (.astore_n 3, 1) := by decide +kernel
theorem dX4_merge_6 : decode cX4_merge 6 = .ok (.aload_n 0, 1) := by decide +kernel
theorem dX4_merge_7 : decode cX4_merge 7 = .ok (.iload_n 2, 1) := by decide +kernel
theorem dX4_merge_8 : decode cX4_merge 8 = .ok (.invokevirtual 68, 3) := by decide +kernel
theorem dX4_merge_11 : decode cX4_merge 11 = .ok (.astore 4, 2) := by decide +kernel
theorem dX4_merge_13 : decode cX4_merge 13 = .ok (.aload 4, 2) := by decide +kernel
theorem dX4_merge_15 : decode cX4_merge 15 = .ok (.aload_n 3, 1) := by decide +kernel
theorem dX4_merge_16 : decode cX4_merge 16 = .ok (.getfield 88, 3) := by decide +kernel
theorem dX4_merge_19 : decode cX4_merge 19 = .ok (.aload_n 3, 1) := by decide +kernel
theorem dX4_merge_20 : decode cX4_merge 20 = .ok (.getfield 91, 3) := by decide +kernel
theorem dX4_merge_23 : decode cX4_merge 23 = .ok (.aload_n 3, 1) := by decide +kernel
theorem dX4_merge_24 : decode cX4_merge 24 = .ok (.getfield 94, 3) := by decide +kernel
theorem dX4_merge_27 : decode cX4_merge 27 = .ok (.invokevirtual 97, 3) := by decide +kernel
theorem dX4_merge_30 : decode cX4_merge 30 = .ok (.ireturn, 1) := by decide +kernel
set_option maxRecDepth 20000 in
theorem ggX4_pass_X4_refuseUnless : GoodIn wsX4_pass wsX4_refuseUnless := goodIn_ca (goodIn_r _ [5, 6, 7] (by decide +kernel) (by decide +kernel)) (goodIn_sub (fun _ h => List.mem_cons_of_mem _ (List.mem_append_right _ h)) (by decide +kernel))
set_option maxRecDepth 20000 in
theorem gX4_pass_X4_refuseUnless : GoodIn wsX4_pass (va_wsS RX4 76 yX4_refuseUnless wsX4_refuseUnless) := goodIn_app (goodIn_of _ (by decide +kernel)) ggX4_pass_X4_refuseUnless
theorem dX4_pass_0 : decode cX4_pass 0 = .ok (.iload_n 1, 1) := by decide +kernel
theorem dX4_pass_1 : decode cX4_pass 1 = .ok (.iconst 1, 1) := by decide +kernel
theorem dX4_pass_2 : decode cX4_pass 2 = .ok (.if_icmp .lt 14, 3) := by decide +kernel
theorem dX4_pass_5 : decode cX4_pass 5 = .ok (.iload_n 1, 1) := by decide +kernel
theorem dX4_pass_6 : decode cX4_pass 6 = .ok (.sipush 1000, 3) := by decide +kernel
theorem dX4_pass_9 : decode cX4_pass 9 = .ok (.if_icmp .gt 7, 3) := by decide +kernel
theorem dX4_pass_12 : decode cX4_pass 12 = .ok (.iconst 1, 1) := by decide +kernel
theorem dX4_pass_13 : decode cX4_pass 13 = .ok (.goto 4, 3) := by decide +kernel
theorem dX4_pass_16 : decode cX4_pass 16 = .ok (.iconst 0, 1) := by decide +kernel
theorem dX4_pass_17 : decode cX4_pass 17 = .ok (.invokestatic 76, 3) := by decide +kernel
theorem dX4_pass_20 : decode cX4_pass 20 = .ok (.aload_n 0, 1) := by decide +kernel
theorem dX4_pass_21 : decode cX4_pass 21 = .ok (.dup, 1) := by decide +kernel
theorem dX4_pass_22 : decode cX4_pass 22 = .ok (.getfield 65, 3) := by decide +kernel
theorem dX4_pass_25 : decode cX4_pass 25 = .ok (.iload_n 1, 1) := by decide +kernel
theorem dX4_pass_26 : decode cX4_pass 26 = .ok (.iadd, 1) := by decide +kernel
theorem dX4_pass_27 : decode cX4_pass 27 = .ok (.putfield 65, 3) := by decide +kernel
theorem dX4_pass_30 : decode cX4_pass 30 = .ok (.aload_n 0, 1) := by decide +kernel
theorem dX4_pass_31 : decode cX4_pass 31 = .ok (.getfield 65, 3) := by decide +kernel
theorem dX4_pass_34 : decode cX4_pass 34 = .ok (.ireturn, 1) := by decide +kernel
theorem dX4_clock_0 : decode cX4_clock 0 = .ok (.aload_n 0, 1) := by decide +kernel
theorem dX4_clock_1 : decode cX4_clock 1 = .ok (.getfield 65, 3) := by decide +kernel
theorem dX4_clock_4 : decode cX4_clock 4 = .ok (.ireturn, 1) := by decide +kernel
set_option maxRecDepth 20000 in
theorem ggX4_plain_X4_need : GoodIn wsX4_plain wsX4_need := goodIn_ca (goodIn_r _ [6, 7, 8, 9, 13, 14, 15, 16, 17, 18, 19, 20, 21, 22] (by decide +kernel) (by decide +kernel)) (goodIn_sub (fun _ h => List.mem_cons_of_mem _ (List.mem_append_right _ h)) (by decide +kernel))
set_option maxRecDepth 20000 in
theorem gX4_plain_X4_need : GoodIn wsX4_plain (wsV RX4 68 RX4 yX4_need wsX4_need) := goodIn_app (goodIn_of _ (by decide +kernel)) ggX4_plain_X4_need
theorem dX4_plain_0 : decode cX4_plain 0 = .ok (.aload_n 0, 1) := by decide +kernel
theorem dX4_plain_1 : decode cX4_plain 1 = .ok (.iload_n 1, 1) := by decide +kernel
theorem dX4_plain_2 : decode cX4_plain 2 = .ok (.invokevirtual 68, 3) := by decide +kernel
theorem dX4_plain_5 : decode cX4_plain 5 = .ok (.getfield 94, 3) := by decide +kernel
theorem dX4_plain_8 : decode cX4_plain 8 = .ok (.ireturn, 1) := by decide +kernel
set_option maxRecDepth 20000 in
theorem ggX4_plainCommon_X4_need : GoodIn wsX4_plainCommon wsX4_need := goodIn_ca (goodIn_r _ [7, 8, 9, 10, 23, 24, 25, 26, 27, 28, 29, 30, 31, 32] (by decide +kernel) (by decide +kernel)) (goodIn_sub (fun _ h => List.mem_cons_of_mem _ (List.mem_append_right _ h)) (by decide +kernel))
set_option maxRecDepth 20000 in
theorem gX4_plainCommon_X4_need : GoodIn wsX4_plainCommon (wsV RX4 68 RX4 yX4_need wsX4_need) := goodIn_app (goodIn_of _ (by decide +kernel)) ggX4_plainCommon_X4_need
set_option maxRecDepth 20000 in
theorem ggX4_plainCommon_X0_countShared : GoodIn wsX4_plainCommon wsX0_countShared := goodIn_r _ [15, 16, 17, 18, 6, 19, 20, 21, 22] (by decide +kernel) (by decide +kernel)
set_option maxRecDepth 20000 in
theorem gX4_plainCommon_X0_countShared : GoodIn wsX4_plainCommon (wsV RX4 101 RX0 yX0_countShared wsX0_countShared) := goodIn_app (goodIn_of _ (by decide +kernel)) ggX4_plainCommon_X0_countShared
theorem dX4_plainCommon_0 : decode cX4_plainCommon 0 = .ok (.aload_n 0, 1) := by decide +kernel
theorem dX4_plainCommon_1 : decode cX4_plainCommon 1 = .ok (.iload_n 1, 1) := by decide +kernel
theorem dX4_plainCommon_2 : decode cX4_plainCommon 2 = .ok (.invokevirtual 68, 3) := by decide +kernel
theorem dX4_plainCommon_5 : decode cX4_plainCommon 5 = .ok (.astore_n 3, 1) := by decide +kernel
theorem dX4_plainCommon_6 : decode cX4_plainCommon 6 = .ok (.aload_n 0, 1) := by decide +kernel
theorem dX4_plainCommon_7 : decode cX4_plainCommon 7 = .ok (.iload_n 2, 1) := by decide +kernel
theorem dX4_plainCommon_8 : decode cX4_plainCommon 8 = .ok (.invokevirtual 68, 3) := by decide +kernel
theorem dX4_plainCommon_11 : decode cX4_plainCommon 11 = .ok (.astore 4, 2) := by decide +kernel
theorem dX4_plainCommon_13 : decode cX4_plainCommon 13 = .ok (.aload_n 3, 1) := by decide +kernel
theorem dX4_plainCommon_14 : decode cX4_plainCommon 14 = .ok (.aload 4, 2) := by decide +kernel
theorem dX4_plainCommon_16 : decode cX4_plainCommon 16 = .ok (.getfield 88, 3) := by decide +kernel
theorem dX4_plainCommon_19 : decode cX4_plainCommon 19 = .ok (.aload 4, 2) := by decide +kernel
theorem dX4_plainCommon_21 : decode cX4_plainCommon 21 = .ok (.getfield 94, 3) := by decide +kernel
theorem dX4_plainCommon_24 : decode cX4_plainCommon 24 = .ok (.invokevirtual 101, 3) := by decide +kernel
theorem dX4_plainCommon_27 : decode cX4_plainCommon 27 = .ok (.ireturn, 1) := by decide +kernel
set_option maxRecDepth 20000 in
theorem ggX4_dateOf_X4_need : GoodIn wsX4_dateOf wsX4_need := goodIn_ca (goodIn_r _ [5, 6, 7, 8, 29, 30, 31, 32, 33, 34, 35, 36, 37, 38] (by decide +kernel) (by decide +kernel)) (goodIn_sub (fun _ h => List.mem_cons_of_mem _ (List.mem_append_left _ (List.mem_append_right _ h))) (by decide +kernel))
set_option maxRecDepth 20000 in
theorem gX4_dateOf_X4_need : GoodIn wsX4_dateOf (wsV RX4 68 RX4 yX4_need wsX4_need) := goodIn_app (goodIn_of _ (by decide +kernel)) ggX4_dateOf_X4_need
set_option maxRecDepth 20000 in
theorem ggX4_dateOf_X4_isItem : GoodIn wsX4_dateOf wsX4_isItem := goodIn_r _ [11, 12] (by decide +kernel) (by decide +kernel)
set_option maxRecDepth 20000 in
theorem gX4_dateOf_X4_isItem : GoodIn wsX4_dateOf (va_wsS RX4 72 yX4_isItem wsX4_isItem) := goodIn_app (goodIn_of _ (by decide +kernel)) ggX4_dateOf_X4_isItem
set_option maxRecDepth 20000 in
theorem ggX4_dateOf_X4_refuseUnless : GoodIn wsX4_dateOf wsX4_refuseUnless := goodIn_ca (goodIn_r _ [15, 16, 17] (by decide +kernel) (by decide +kernel)) (goodIn_sub (fun _ h => List.mem_cons_of_mem _ (List.mem_append_right _ h)) (by decide +kernel))
set_option maxRecDepth 20000 in
theorem gX4_dateOf_X4_refuseUnless : GoodIn wsX4_dateOf (va_wsS RX4 76 yX4_refuseUnless wsX4_refuseUnless) := goodIn_app (goodIn_of _ (by decide +kernel)) ggX4_dateOf_X4_refuseUnless
set_option maxRecDepth 20000 in
theorem ggX4_dateOf_X0_dateFor : GoodIn wsX4_dateOf wsX0_dateFor := goodIn_r _ [22, 23, 24, 25, 26, 27, 4, 28, 39, 40, 41] (by decide +kernel) (by decide +kernel)
set_option maxRecDepth 20000 in
theorem gX4_dateOf_X0_dateFor : GoodIn wsX4_dateOf (wsV RX4 105 RX0 yX0_dateFor wsX0_dateFor) := goodIn_app (goodIn_of _ (by decide +kernel)) ggX4_dateOf_X0_dateFor
theorem dX4_dateOf_0 : decode cX4_dateOf 0 = .ok (.aload_n 0, 1) := by decide +kernel
theorem dX4_dateOf_1 : decode cX4_dateOf 1 = .ok (.iload_n 1, 1) := by decide +kernel
theorem dX4_dateOf_2 : decode cX4_dateOf 2 = .ok (.invokevirtual 68, 3) := by decide +kernel
theorem dX4_dateOf_5 : decode cX4_dateOf 5 = .ok (.astore_n 3, 1) := by decide +kernel
theorem dX4_dateOf_6 : decode cX4_dateOf 6 = .ok (.iload_n 2, 1) := by decide +kernel
theorem dX4_dateOf_7 : decode cX4_dateOf 7 = .ok (.invokestatic 72, 3) := by decide +kernel
theorem dX4_dateOf_10 : decode cX4_dateOf 10 = .ok (.invokestatic 76, 3) := by decide +kernel
theorem dX4_dateOf_13 : decode cX4_dateOf 13 = .ok (.aload_n 3, 1) := by decide +kernel
theorem dX4_dateOf_14 : decode cX4_dateOf 14 = .ok (.iload_n 2, 1) := by decide +kernel
theorem dX4_dateOf_15 : decode cX4_dateOf 15 = .ok (.invokevirtual 105, 3) := by decide +kernel
theorem dX4_dateOf_18 : decode cX4_dateOf 18 = .ok (.ireturn, 1) := by decide +kernel
set_option maxRecDepth 20000 in
theorem ggX4_hash_X4_isItem : GoodIn wsX4_hash wsX4_isItem := goodIn_r _ [4, 5] (by decide +kernel) (by decide +kernel)
set_option maxRecDepth 20000 in
theorem gX4_hash_X4_isItem : GoodIn wsX4_hash (va_wsS RX4 72 yX4_isItem wsX4_isItem) := goodIn_app (goodIn_of _ (by decide +kernel)) ggX4_hash_X4_isItem
set_option maxRecDepth 20000 in
theorem ggX4_hash_X4_refuseUnless : GoodIn wsX4_hash wsX4_refuseUnless := goodIn_ca (goodIn_r _ [8, 9, 10] (by decide +kernel) (by decide +kernel)) (goodIn_sub (fun _ h => List.mem_cons_of_mem _ (List.mem_append_right _ h)) (by decide +kernel))
set_option maxRecDepth 20000 in
theorem gX4_hash_X4_refuseUnless : GoodIn wsX4_hash (va_wsS RX4 76 yX4_refuseUnless wsX4_refuseUnless) := goodIn_app (goodIn_of _ (by decide +kernel)) ggX4_hash_X4_refuseUnless
set_option maxRecDepth 20000 in
theorem ggX4_hash_X4_hashFor : GoodIn wsX4_hash wsX4_hashFor := goodIn_r _ [13, 14, 15, 16, 17] (by decide +kernel) (by decide +kernel)
set_option maxRecDepth 20000 in
theorem gX4_hash_X4_hashFor : GoodIn wsX4_hash (va_wsS RX4 109 yX4_hashFor wsX4_hashFor) := goodIn_app (goodIn_of _ (by decide +kernel)) ggX4_hash_X4_hashFor
theorem dX4_hash_0 : decode cX4_hash 0 = .ok (.iload_n 1, 1) := by decide +kernel
theorem dX4_hash_1 : decode cX4_hash 1 = .ok (.invokestatic 72, 3) := by decide +kernel
theorem dX4_hash_4 : decode cX4_hash 4 = .ok (.invokestatic 76, 3) := by decide +kernel
theorem dX4_hash_7 : decode cX4_hash 7 = .ok (.iload_n 1, 1) := by decide +kernel
theorem dX4_hash_8 : decode cX4_hash 8 = .ok (.invokestatic 109, 3) := by decide +kernel
theorem dX4_hash_11 : decode cX4_hash 11 = .ok (.ireturn, 1) := by decide +kernel
theorem dX4_most_0 : decode cX4_most 0 = .ok (.aload_n 0, 1) := by decide +kernel
theorem dX4_most_1 : decode cX4_most 1 = .ok (.getfield 18, 3) := by decide +kernel
theorem dX4_most_4 : decode cX4_most 4 = .ok (.ireturn, 1) := by decide +kernel
set_option maxRecDepth 20000 in
theorem ggX4_kept_X4_need : GoodIn wsX4_kept wsX4_need := goodIn_ca (goodIn_r _ [7, 8, 9, 10, 39, 40, 41, 42, 43, 44, 45, 46, 47, 48] (by decide +kernel) (by decide +kernel)) (goodIn_sub (fun _ h => List.mem_cons_of_mem _ (List.mem_append_right _ h)) (by decide +kernel))
set_option maxRecDepth 20000 in
theorem gX4_kept_X4_need : GoodIn wsX4_kept (wsV RX4 68 RX4 yX4_need wsX4_need) := goodIn_app (goodIn_of _ (by decide +kernel)) ggX4_kept_X4_need
set_option maxRecDepth 20000 in
theorem ggX4_kept_X1_keepThoseOf : GoodIn wsX4_kept wsX1_keepThoseOf := goodIn_r _ [15, 16, 17, 18, 19, 20, 14, 21, 22, 23, 6, 24, 25, 26, 27, 28, 29, 30, 31, 32, 33, 34, 35, 36, 37, 38, 52, 53, 54, 49, 50, 51] (by decide +kernel) (by decide +kernel)
set_option maxRecDepth 20000 in
theorem gX4_kept_X1_keepThoseOf : GoodIn wsX4_kept (wsV RX4 112 RX1 yX1_keepThoseOf wsX1_keepThoseOf) := goodIn_app (goodIn_of _ (by decide +kernel)) ggX4_kept_X1_keepThoseOf
theorem dX4_kept_0 : decode cX4_kept 0 = .ok (.aload_n 0, 1) := by decide +kernel
theorem dX4_kept_1 : decode cX4_kept 1 = .ok (.getfield 48, 3) := by decide +kernel
theorem dX4_kept_4 : decode cX4_kept 4 = .ok (.aload_n 0, 1) := by decide +kernel
theorem dX4_kept_5 : decode cX4_kept 5 = .ok (.iload_n 1, 1) := by decide +kernel
theorem dX4_kept_6 : decode cX4_kept 6 = .ok (.invokevirtual 68, 3) := by decide +kernel
theorem dX4_kept_9 : decode cX4_kept 9 = .ok (.invokevirtual 112, 3) := by decide +kernel
theorem dX4_kept_12 : decode cX4_kept 12 = .ok (.aload_n 0, 1) := by decide +kernel
theorem dX4_kept_13 : decode cX4_kept 13 = .ok (.getfield 48, 3) := by decide +kernel
theorem dX4_kept_16 : decode cX4_kept 16 = .ok (.getfield 116, 3) := by decide +kernel
theorem dX4_kept_19 : decode cX4_kept 19 = .ok (.ireturn, 1) := by decide +kernel
set_option maxRecDepth 20000 in
theorem ggX4_keptAt_X4_need : GoodIn wsX4_keptAt wsX4_need := goodIn_ca (goodIn_r _ [10, 1, 2, 11, 41, 42, 43, 44, 45, 46, 47, 48, 49, 50] (by decide +kernel) (by decide +kernel)) (goodIn_sub (fun _ h => List.mem_cons_of_mem _ (List.mem_append_right _ h)) (by decide +kernel))
set_option maxRecDepth 20000 in
theorem gX4_keptAt_X4_need : GoodIn wsX4_keptAt (wsV RX4 68 RX4 yX4_need wsX4_need) := goodIn_app (goodIn_of _ (by decide +kernel)) ggX4_keptAt_X4_need
set_option maxRecDepth 20000 in
theorem ggX4_keptAt_X1_keepThoseOf : GoodIn wsX4_keptAt wsX1_keepThoseOf := goodIn_r _ [16, 17, 18, 19, 20, 21, 15, 22, 23, 24, 9, 25, 26, 27, 28, 29, 30, 31, 32, 33, 34, 35, 36, 37, 38, 39, 54, 55, 56, 51, 52, 53] (by decide +kernel) (by decide +kernel)
set_option maxRecDepth 20000 in
theorem gX4_keptAt_X1_keepThoseOf : GoodIn wsX4_keptAt (wsV RX4 112 RX1 yX1_keepThoseOf wsX1_keepThoseOf) := goodIn_app (goodIn_of _ (by decide +kernel)) ggX4_keptAt_X1_keepThoseOf
set_option maxRecDepth 20000 in
theorem ggX4_keptAt_X4_at : GoodIn wsX4_keptAt wsX4_at := goodIn_r _ [25] (by decide +kernel) (by decide +kernel)
set_option maxRecDepth 20000 in
theorem gX4_keptAt_X4_at : GoodIn wsX4_keptAt (va_wsS RX4 127 yX4_at wsX4_at) := goodIn_app (goodIn_of _ (by decide +kernel)) ggX4_keptAt_X4_at
theorem dX4_keptAt_0 : decode cX4_keptAt 0 = .ok (.aload_n 0, 1) := by decide +kernel
theorem dX4_keptAt_1 : decode cX4_keptAt 1 = .ok (.getfield 48, 3) := by decide +kernel
theorem dX4_keptAt_4 : decode cX4_keptAt 4 = .ok (.aload_n 0, 1) := by decide +kernel
theorem dX4_keptAt_5 : decode cX4_keptAt 5 = .ok (.iload_n 1, 1) := by decide +kernel
theorem dX4_keptAt_6 : decode cX4_keptAt 6 = .ok (.invokevirtual 68, 3) := by decide +kernel
theorem dX4_keptAt_9 : decode cX4_keptAt 9 = .ok (.invokevirtual 112, 3) := by decide +kernel
theorem dX4_keptAt_12 : decode cX4_keptAt 12 = .ok (.iload_n 2, 1) := by decide +kernel
theorem dX4_keptAt_13 : decode cX4_keptAt 13 = .ok (.ifCond .lt 14, 3) := by decide +kernel
theorem dX4_keptAt_16 : decode cX4_keptAt 16 = .ok (.iload_n 2, 1) := by decide +kernel
theorem dX4_keptAt_17 : decode cX4_keptAt 17 = .ok (.aload_n 0, 1) := by decide +kernel
theorem dX4_keptAt_18 : decode cX4_keptAt 18 = .ok (.getfield 48, 3) := by decide +kernel
theorem dX4_keptAt_21 : decode cX4_keptAt 21 = .ok (.getfield 116, 3) := by decide +kernel
theorem dX4_keptAt_24 : decode cX4_keptAt 24 = .ok (.if_icmp .lt 13, 3) := by decide +kernel
theorem dX4_keptAt_27 : decode cX4_keptAt 27 = .ok (.new 117, 3) := by decide +kernel
theorem dX4_keptAt_30 : decode cX4_keptAt 30 = .ok (.dup, 1) := by decide +kernel
theorem dX4_keptAt_31 : decode cX4_keptAt 31 = .ok (.ldc 119, 2) := by decide +kernel
theorem dX4_keptAt_33 : decode cX4_keptAt 33 = .ok (.invokespecial 121, 3) := by decide +kernel
theorem dX4_keptAt_36 : decode cX4_keptAt 36 = .ok (.athrow, 1) := by decide +kernel
theorem dX4_keptAt_37 : decode cX4_keptAt 37 = .ok (.aload_n 0, 1) := by decide +kernel
theorem dX4_keptAt_38 : decode cX4_keptAt 38 = .ok (.getfield 48, 3) := by decide +kernel
theorem dX4_keptAt_41 : decode cX4_keptAt 41 = .ok (.getfield 124, 3) := by decide +kernel
theorem dX4_keptAt_44 : decode cX4_keptAt 44 = .ok (.iload_n 2, 1) := by decide +kernel
theorem dX4_keptAt_45 : decode cX4_keptAt 45 = .ok (.invokestatic 127, 3) := by decide +kernel
theorem dX4_keptAt_48 : decode cX4_keptAt 48 = .ok (.ireturn, 1) := by decide +kernel
set_option maxRecDepth 20000 in
theorem ggX4_byLeast_X4_need : GoodIn wsX4_byLeast wsX4_need := goodIn_ca (goodIn_r _ [6, 7, 8, 9, 43, 44, 45, 46, 47, 48, 49, 50, 51, 52] (by decide +kernel) (by decide +kernel)) (goodIn_sub (fun _ h => List.mem_cons_of_mem _ (List.mem_append_right _ h)) (by decide +kernel))
set_option maxRecDepth 20000 in
theorem gX4_byLeast_X4_need : GoodIn wsX4_byLeast (wsV RX4 68 RX4 yX4_need wsX4_need) := goodIn_app (goodIn_of _ (by decide +kernel)) ggX4_byLeast_X4_need
set_option maxRecDepth 20000 in
theorem ggX4_byLeast_X1_keepThoseOf : GoodIn wsX4_byLeast wsX1_keepThoseOf := goodIn_r _ [14, 15, 16, 17, 18, 19, 13, 20, 21, 22, 5, 23, 24, 25, 26, 27, 28, 29, 30, 31, 32, 33, 34, 35, 36, 37, 53, 54, 55, 56, 57, 58] (by decide +kernel) (by decide +kernel)
set_option maxRecDepth 20000 in
theorem gX4_byLeast_X1_keepThoseOf : GoodIn wsX4_byLeast (wsV RX4 112 RX1 yX1_keepThoseOf wsX1_keepThoseOf) := goodIn_app (goodIn_of _ (by decide +kernel)) ggX4_byLeast_X1_keepThoseOf
set_option maxRecDepth 20000 in
theorem ggX4_byLeast_X1_estimate : GoodIn wsX4_byLeast wsX1_estimate := goodIn_r _ [41, 35, 21, 34, 42, 22, 5, 23, 56, 57, 58] (by decide +kernel) (by decide +kernel)
set_option maxRecDepth 20000 in
theorem gX4_byLeast_X1_estimate : GoodIn wsX4_byLeast (wsV RX4 130 RX1 yX1_estimate wsX1_estimate) := goodIn_app (goodIn_of _ (by decide +kernel)) ggX4_byLeast_X1_estimate
theorem dX4_byLeast_0 : decode cX4_byLeast 0 = .ok (.aload_n 0, 1) := by decide +kernel
theorem dX4_byLeast_1 : decode cX4_byLeast 1 = .ok (.getfield 48, 3) := by decide +kernel
theorem dX4_byLeast_4 : decode cX4_byLeast 4 = .ok (.aload_n 0, 1) := by decide +kernel
theorem dX4_byLeast_5 : decode cX4_byLeast 5 = .ok (.iload_n 1, 1) := by decide +kernel
theorem dX4_byLeast_6 : decode cX4_byLeast 6 = .ok (.invokevirtual 68, 3) := by decide +kernel
theorem dX4_byLeast_9 : decode cX4_byLeast 9 = .ok (.invokevirtual 112, 3) := by decide +kernel
theorem dX4_byLeast_12 : decode cX4_byLeast 12 = .ok (.aload_n 0, 1) := by decide +kernel
theorem dX4_byLeast_13 : decode cX4_byLeast 13 = .ok (.getfield 48, 3) := by decide +kernel
theorem dX4_byLeast_16 : decode cX4_byLeast 16 = .ok (.invokevirtual 130, 3) := by decide +kernel
theorem dX4_byLeast_19 : decode cX4_byLeast 19 = .ok (.ireturn, 1) := by decide +kernel
set_option maxRecDepth 20000 in
theorem ggX4_together_X4_need : GoodIn wsX4_together wsX4_need := goodIn_ca (goodIn_r _ [6, 7, 8, 9, 54, 55, 56, 57, 58, 59, 60, 61, 62, 63] (by decide +kernel) (by decide +kernel)) (goodIn_sub (fun _ h => List.mem_cons_of_mem _ (List.mem_append_right _ h)) (by decide +kernel))
set_option maxRecDepth 20000 in
theorem gX4_together_X4_need : GoodIn wsX4_together (wsV RX4 68 RX4 yX4_need wsX4_need) := goodIn_app (goodIn_of _ (by decide +kernel)) ggX4_together_X4_need
set_option maxRecDepth 20000 in
theorem ggX4_together_X4_keepLeastOf : GoodIn wsX4_together wsX4_keepLeastOf := goodIn_r _ [13, 14, 15, 1, 16, 17, 18, 19, 20, 21, 22, 23, 24, 25, 26, 27, 28, 5, 29, 30, 31, 32, 33, 34, 35, 36, 37, 38, 39, 40, 41, 42, 43, 44, 45, 46, 47, 48, 54, 55, 56, 57, 58, 59, 60, 61, 62, 63, 64, 65, 66, 67, 68, 69] (by decide +kernel) (by decide +kernel)
set_option maxRecDepth 20000 in
theorem gX4_together_X4_keepLeastOf : GoodIn wsX4_together (wsV RX4 133 RX4 yX4_keepLeastOf wsX4_keepLeastOf) := goodIn_app (goodIn_of _ (by decide +kernel)) ggX4_together_X4_keepLeastOf
set_option maxRecDepth 20000 in
theorem ggX4_together_X1_estimate : GoodIn wsX4_together wsX1_estimate := goodIn_r _ [52, 41, 27, 40, 53, 28, 5, 29, 67, 68, 69] (by decide +kernel) (by decide +kernel)
set_option maxRecDepth 20000 in
theorem gX4_together_X1_estimate : GoodIn wsX4_together (wsV RX4 130 RX1 yX1_estimate wsX1_estimate) := goodIn_app (goodIn_of _ (by decide +kernel)) ggX4_together_X1_estimate
theorem dX4_together_0 : decode cX4_together 0 = .ok (.aload_n 0, 1) := by decide +kernel
theorem dX4_together_1 : decode cX4_together 1 = .ok (.aload_n 0, 1) := by decide +kernel
theorem dX4_together_2 : decode cX4_together 2 = .ok (.iload_n 1, 1) := by decide +kernel
theorem dX4_together_3 : decode cX4_together 3 = .ok (.invokevirtual 68, 3) := by decide +kernel
theorem dX4_together_6 : decode cX4_together 6 = .ok (.aload_n 0, 1) := by decide +kernel
theorem dX4_together_7 : decode cX4_together 7 = .ok (.iload_n 2, 1) := by decide +kernel
theorem dX4_together_8 : decode cX4_together 8 = .ok (.invokevirtual 68, 3) := by decide +kernel
theorem dX4_together_11 : decode cX4_together 11 = .ok (.invokevirtual 133, 3) := by decide +kernel
theorem dX4_together_14 : decode cX4_together 14 = .ok (.aload_n 0, 1) := by decide +kernel
theorem dX4_together_15 : decode cX4_together 15 = .ok (.getfield 55, 3) := by decide +kernel
theorem dX4_together_18 : decode cX4_together 18 = .ok (.invokevirtual 130, 3) := by decide +kernel
theorem dX4_together_21 : decode cX4_together 21 = .ok (.ireturn, 1) := by decide +kernel
set_option maxRecDepth 20000 in
theorem ggX4_common_X4_need : GoodIn wsX4_common wsX4_need := goodIn_ca (goodIn_r _ [10, 11, 12, 13, 65, 66, 67, 68, 69, 70, 71, 72, 73, 74] (by decide +kernel) (by decide +kernel)) (goodIn_sub (fun _ h => List.mem_cons_of_mem _ (List.mem_append_right _ h)) (by decide +kernel))
set_option maxRecDepth 20000 in
theorem gX4_common_X4_need : GoodIn wsX4_common (wsV RX4 68 RX4 yX4_need wsX4_need) := goodIn_app (goodIn_of _ (by decide +kernel)) ggX4_common_X4_need
set_option maxRecDepth 20000 in
theorem ggX4_common_X4_keepLeastOf : GoodIn wsX4_common wsX4_keepLeastOf := goodIn_r _ [17, 4, 5, 1, 18, 19, 20, 21, 22, 23, 24, 25, 26, 27, 28, 29, 30, 9, 31, 32, 33, 34, 35, 36, 37, 38, 39, 40, 41, 42, 43, 44, 45, 46, 47, 48, 49, 50, 65, 66, 67, 68, 69, 70, 71, 72, 73, 74, 78, 79, 80, 75, 76, 77] (by decide +kernel) (by decide +kernel)
set_option maxRecDepth 20000 in
theorem gX4_common_X4_keepLeastOf : GoodIn wsX4_common (wsV RX4 133 RX4 yX4_keepLeastOf wsX4_keepLeastOf) := goodIn_app (goodIn_of _ (by decide +kernel)) ggX4_common_X4_keepLeastOf
set_option maxRecDepth 20000 in
theorem ggX4_common_X4_at : GoodIn wsX4_common wsX4_at := goodIn_r _ [31] (by decide +kernel) (by decide +kernel)
set_option maxRecDepth 20000 in
theorem gX4_common_X4_at : GoodIn wsX4_common (va_wsS RX4 127 yX4_at wsX4_at) := goodIn_app (goodIn_of _ (by decide +kernel)) ggX4_common_X4_at
set_option maxRecDepth 20000 in
theorem ggX4_common_X1_has : GoodIn wsX4_common wsX1_has := goodIn_r _ [55, 29, 43, 30, 9, 31, 75, 76, 77] (by decide +kernel) (by decide +kernel)
set_option maxRecDepth 20000 in
theorem gX4_common_X1_has : GoodIn wsX4_common (wsV RX4 137 RX1 yX1_has wsX1_has) := goodIn_app (goodIn_of _ (by decide +kernel)) ggX4_common_X1_has
set_option maxRecDepth 20000 in
theorem ggX4_common_X1_estimateOfPart : GoodIn wsX4_common wsX1_estimateOfPart := goodIn_r _ [59, 29, 60, 61, 62, 21, 63, 43, 42, 64, 30, 9, 31, 75, 76, 77] (by decide +kernel) (by decide +kernel)
set_option maxRecDepth 20000 in
theorem gX4_common_X1_estimateOfPart : GoodIn wsX4_common (wsV RX4 140 RX1 yX1_estimateOfPart wsX1_estimateOfPart) := goodIn_app (goodIn_of _ (by decide +kernel)) ggX4_common_X1_estimateOfPart
theorem dX4_common_0 : decode cX4_common 0 = .ok (.aload_n 0, 1) := by decide +kernel
theorem dX4_common_1 : decode cX4_common 1 = .ok (.aload_n 0, 1) := by decide +kernel
theorem dX4_common_2 : decode cX4_common 2 = .ok (.iload_n 1, 1) := by decide +kernel
theorem dX4_common_3 : decode cX4_common 3 = .ok (.invokevirtual 68, 3) := by decide +kernel
theorem dX4_common_6 : decode cX4_common 6 = .ok (.aload_n 0, 1) := by decide +kernel
theorem dX4_common_7 : decode cX4_common 7 = .ok (.iload_n 2, 1) := by decide +kernel
theorem dX4_common_8 : decode cX4_common 8 = .ok (.invokevirtual 68, 3) := by decide +kernel
theorem dX4_common_11 : decode cX4_common 11 = .ok (.invokevirtual 133, 3) := by decide +kernel
theorem dX4_common_14 : decode cX4_common 14 = .ok (.iconst 0, 1) := by decide +kernel
theorem dX4_common_15 : decode cX4_common 15 = .ok (.istore_n 3, 1) := by decide +kernel
theorem dX4_common_16 : decode cX4_common 16 = .ok (.iconst 0, 1) := by decide +kernel
theorem dX4_common_17 : decode cX4_common 17 = .ok (.istore 4, 2) := by decide +kernel
theorem dX4_common_19 : decode cX4_common 19 = .ok (.iload 4, 2) := by decide +kernel
theorem dX4_common_21 : decode cX4_common 21 = .ok (.aload_n 0, 1) := by decide +kernel
theorem dX4_common_22 : decode cX4_common 22 = .ok (.getfield 55, 3) := by decide +kernel
theorem dX4_common_25 : decode cX4_common 25 = .ok (.getfield 116, 3) := by decide +kernel
theorem dX4_common_28 : decode cX4_common 28 = .ok (.if_icmp .ge 50, 3) := by decide +kernel
theorem dX4_common_31 : decode cX4_common 31 = .ok (.aload_n 0, 1) := by decide +kernel
theorem dX4_common_32 : decode cX4_common 32 = .ok (.getfield 55, 3) := by decide +kernel
theorem dX4_common_35 : decode cX4_common 35 = .ok (.getfield 124, 3) := by decide +kernel
theorem dX4_common_38 : decode cX4_common 38 = .ok (.iload 4, 2) := by decide +kernel
theorem dX4_common_40 : decode cX4_common 40 = .ok (.invokestatic 127, 3) := by decide +kernel
theorem dX4_common_43 : decode cX4_common 43 = .ok (.istore 5, 2) := by decide +kernel
theorem dX4_common_45 : decode cX4_common 45 = .ok (.aload_n 0, 1) := by decide +kernel
theorem dX4_common_46 : decode cX4_common 46 = .ok (.getfield 48, 3) := by decide +kernel
theorem dX4_common_49 : decode cX4_common 49 = .ok (.iload 5, 2) := by decide +kernel
theorem dX4_common_51 : decode cX4_common 51 = .ok (.invokevirtual 137, 3) := by decide +kernel
theorem dX4_common_54 : decode cX4_common 54 = .ok (.ifCond .eq 18, 3) := by decide +kernel
theorem dX4_common_57 : decode cX4_common 57 = .ok (.aload_n 0, 1) := by decide +kernel
theorem dX4_common_58 : decode cX4_common 58 = .ok (.getfield 52, 3) := by decide +kernel
theorem dX4_common_61 : decode cX4_common 61 = .ok (.iload 5, 2) := by decide +kernel
theorem dX4_common_63 : decode cX4_common 63 = .ok (.invokevirtual 137, 3) := by decide +kernel
theorem dX4_common_66 : decode cX4_common 66 = .ok (.ifCond .eq 6, 3) := by decide +kernel
theorem dX4_common_69 : decode cX4_common 69 = .ok (.iinc 3 1, 3) := by decide +kernel
theorem dX4_common_72 : decode cX4_common 72 = .ok (.iinc 4 1, 3) := by decide +kernel
theorem dX4_common_75 : decode cX4_common 75 = .ok (.goto (-56), 3) := by decide +kernel
theorem dX4_common_78 : decode cX4_common 78 = .ok (.aload_n 0, 1) := by decide +kernel
theorem dX4_common_79 : decode cX4_common 79 = .ok (.getfield 55, 3) := by decide +kernel
theorem dX4_common_82 : decode cX4_common 82 = .ok (.iload_n 3, 1) := by decide +kernel
theorem dX4_common_83 : decode cX4_common 83 = .ok (.invokevirtual 140, 3) := by decide +kernel
theorem dX4_common_86 : decode cX4_common 86 = .ok (.ireturn, 1) := by decide +kernel
set_option maxRecDepth 20000 in
theorem ggX4_without_X4_need : GoodIn wsX4_without wsX4_need := goodIn_ca (goodIn_r _ [9, 10, 11, 12, 65, 66, 67, 68, 69, 70, 71, 72, 73, 74] (by decide +kernel) (by decide +kernel)) (goodIn_sub (fun _ h => List.mem_cons_of_mem _ (List.mem_append_right _ h)) (by decide +kernel))
set_option maxRecDepth 20000 in
theorem gX4_without_X4_need : GoodIn wsX4_without (wsV RX4 68 RX4 yX4_need wsX4_need) := goodIn_app (goodIn_of _ (by decide +kernel)) ggX4_without_X4_need
set_option maxRecDepth 20000 in
theorem ggX4_without_X4_keepLeastOf : GoodIn wsX4_without wsX4_keepLeastOf := goodIn_r _ [16, 17, 3, 1, 18, 19, 20, 21, 22, 23, 24, 25, 26, 27, 28, 29, 30, 8, 31, 32, 33, 34, 35, 36, 37, 38, 39, 40, 41, 42, 43, 44, 45, 46, 47, 48, 49, 50, 65, 66, 67, 68, 69, 70, 71, 72, 73, 74, 78, 79, 80, 75, 76, 77] (by decide +kernel) (by decide +kernel)
set_option maxRecDepth 20000 in
theorem gX4_without_X4_keepLeastOf : GoodIn wsX4_without (wsV RX4 133 RX4 yX4_keepLeastOf wsX4_keepLeastOf) := goodIn_app (goodIn_of _ (by decide +kernel)) ggX4_without_X4_keepLeastOf
set_option maxRecDepth 20000 in
theorem ggX4_without_X4_at : GoodIn wsX4_without wsX4_at := goodIn_r _ [31] (by decide +kernel) (by decide +kernel)
set_option maxRecDepth 20000 in
theorem gX4_without_X4_at : GoodIn wsX4_without (va_wsS RX4 127 yX4_at wsX4_at) := goodIn_app (goodIn_of _ (by decide +kernel)) ggX4_without_X4_at
set_option maxRecDepth 20000 in
theorem ggX4_without_X1_has : GoodIn wsX4_without wsX1_has := goodIn_r _ [55, 29, 43, 30, 8, 31, 75, 76, 77] (by decide +kernel) (by decide +kernel)
set_option maxRecDepth 20000 in
theorem gX4_without_X1_has : GoodIn wsX4_without (wsV RX4 137 RX1 yX1_has wsX1_has) := goodIn_app (goodIn_of _ (by decide +kernel)) ggX4_without_X1_has
set_option maxRecDepth 20000 in
theorem ggX4_without_X1_estimateOfPart : GoodIn wsX4_without wsX1_estimateOfPart := goodIn_r _ [59, 29, 60, 61, 62, 21, 63, 43, 42, 64, 30, 8, 31, 75, 76, 77] (by decide +kernel) (by decide +kernel)
set_option maxRecDepth 20000 in
theorem gX4_without_X1_estimateOfPart : GoodIn wsX4_without (wsV RX4 140 RX1 yX1_estimateOfPart wsX1_estimateOfPart) := goodIn_app (goodIn_of _ (by decide +kernel)) ggX4_without_X1_estimateOfPart
theorem dX4_without_0 : decode cX4_without 0 = .ok (.aload_n 0, 1) := by decide +kernel
theorem dX4_without_1 : decode cX4_without 1 = .ok (.aload_n 0, 1) := by decide +kernel
theorem dX4_without_2 : decode cX4_without 2 = .ok (.iload_n 1, 1) := by decide +kernel
theorem dX4_without_3 : decode cX4_without 3 = .ok (.invokevirtual 68, 3) := by decide +kernel
theorem dX4_without_6 : decode cX4_without 6 = .ok (.aload_n 0, 1) := by decide +kernel
theorem dX4_without_7 : decode cX4_without 7 = .ok (.iload_n 2, 1) := by decide +kernel
theorem dX4_without_8 : decode cX4_without 8 = .ok (.invokevirtual 68, 3) := by decide +kernel
theorem dX4_without_11 : decode cX4_without 11 = .ok (.invokevirtual 133, 3) := by decide +kernel
theorem dX4_without_14 : decode cX4_without 14 = .ok (.iconst 0, 1) := by decide +kernel
theorem dX4_without_15 : decode cX4_without 15 = .ok (.istore_n 3, 1) := by decide +kernel
theorem dX4_without_16 : decode cX4_without 16 = .ok (.iconst 0, 1) := by decide +kernel
theorem dX4_without_17 : decode cX4_without 17 = .ok (.istore 4, 2) := by decide +kernel
theorem dX4_without_19 : decode cX4_without 19 = .ok (.iload 4, 2) := by decide +kernel
theorem dX4_without_21 : decode cX4_without 21 = .ok (.aload_n 0, 1) := by decide +kernel
theorem dX4_without_22 : decode cX4_without 22 = .ok (.getfield 55, 3) := by decide +kernel
theorem dX4_without_25 : decode cX4_without 25 = .ok (.getfield 116, 3) := by decide +kernel
theorem dX4_without_28 : decode cX4_without 28 = .ok (.if_icmp .ge 34, 3) := by decide +kernel
theorem dX4_without_31 : decode cX4_without 31 = .ok (.aload_n 0, 1) := by decide +kernel
theorem dX4_without_32 : decode cX4_without 32 = .ok (.getfield 52, 3) := by decide +kernel
theorem dX4_without_35 : decode cX4_without 35 = .ok (.aload_n 0, 1) := by decide +kernel
theorem dX4_without_36 : decode cX4_without 36 = .ok (.getfield 55, 3) := by decide +kernel
theorem dX4_without_39 : decode cX4_without 39 = .ok (.getfield 124, 3) := by decide +kernel
theorem dX4_without_42 : decode cX4_without 42 = .ok (.iload 4, 2) := by decide +kernel
theorem dX4_without_44 : decode cX4_without 44 = .ok (.invokestatic 127, 3) := by decide +kernel
theorem dX4_without_47 : decode cX4_without 47 = .ok (.invokevirtual 137, 3) := by decide +kernel
theorem dX4_without_50 : decode cX4_without 50 = .ok (.ifCond .ne 6, 3) := by decide +kernel
theorem dX4_without_53 : decode cX4_without 53 = .ok (.iinc 3 1, 3) := by decide +kernel
theorem dX4_without_56 : decode cX4_without 56 = .ok (.iinc 4 1, 3) := by decide +kernel
theorem dX4_without_59 : decode cX4_without 59 = .ok (.goto (-40), 3) := by decide +kernel
theorem dX4_without_62 : decode cX4_without 62 = .ok (.aload_n 0, 1) := by decide +kernel
theorem dX4_without_63 : decode cX4_without 63 = .ok (.getfield 55, 3) := by decide +kernel
theorem dX4_without_66 : decode cX4_without 66 = .ok (.iload_n 3, 1) := by decide +kernel
theorem dX4_without_67 : decode cX4_without 67 = .ok (.invokevirtual 140, 3) := by decide +kernel
theorem dX4_without_70 : decode cX4_without 70 = .ok (.ireturn, 1) := by decide +kernel
set_option maxRecDepth 20000 in
theorem ggX4_register_X4_need : GoodIn wsX4_register wsX4_need := goodIn_ca (goodIn_r _ [9, 1, 2, 10, 41, 42, 43, 44, 45, 46, 47, 48, 49, 50] (by decide +kernel) (by decide +kernel)) (goodIn_sub (fun _ h => List.mem_cons_of_mem _ (List.mem_append_right _ h)) (by decide +kernel))
set_option maxRecDepth 20000 in
theorem gX4_register_X4_need : GoodIn wsX4_register (wsV RX4 68 RX4 yX4_need wsX4_need) := goodIn_app (goodIn_of _ (by decide +kernel)) ggX4_register_X4_need
set_option maxRecDepth 20000 in
theorem ggX4_register_X2_rankAllOf : GoodIn wsX4_register wsX2_rankAllOf := goodIn_r _ [15, 16, 17, 18, 14, 19, 20, 21, 22, 23, 24, 8, 25, 26, 27, 28, 29, 30, 31, 32, 33, 34, 35, 36, 37, 38, 39, 51, 52, 53, 54] (by decide +kernel) (by decide +kernel)
set_option maxRecDepth 20000 in
theorem gX4_register_X2_rankAllOf : GoodIn wsX4_register (wsV RX4 145 RX2 yX2_rankAllOf wsX2_rankAllOf) := goodIn_app (goodIn_of _ (by decide +kernel)) ggX4_register_X2_rankAllOf
set_option maxRecDepth 20000 in
theorem ggX4_register_X4_at : GoodIn wsX4_register wsX4_at := goodIn_r _ [27] (by decide +kernel) (by decide +kernel)
set_option maxRecDepth 20000 in
theorem gX4_register_X4_at : GoodIn wsX4_register (va_wsS RX4 127 yX4_at wsX4_at) := goodIn_app (goodIn_of _ (by decide +kernel)) ggX4_register_X4_at
theorem dX4_register_0 : decode cX4_register 0 = .ok (.aload_n 0, 1) := by decide +kernel
theorem dX4_register_1 : decode cX4_register 1 = .ok (.iload_n 1, 1) := by decide +kernel
theorem dX4_register_2 : decode cX4_register 2 = .ok (.invokevirtual 68, 3) := by decide +kernel
theorem dX4_register_5 : decode cX4_register 5 = .ok (.astore_n 3, 1) := by decide +kernel
theorem dX4_register_6 : decode cX4_register 6 = .ok (.iload_n 2, 1) := by decide +kernel
theorem dX4_register_7 : decode cX4_register 7 = .ok (.ifCond .lt 9, 3) := by decide +kernel
theorem dX4_register_10 : decode cX4_register 10 = .ok (.iload_n 2, 1) := by decide +kernel
theorem dX4_register_11 : decode cX4_register 11 = .ok (.bipush 16, 2) := by decide +kernel
theorem dX4_register_13 : decode cX4_register 13 = .ok (.if_icmp .lt 13, 3) := by decide +kernel
theorem dX4_register_16 : decode cX4_register 16 = .ok (.new 117, 3) := by decide +kernel
theorem dX4_register_19 : decode cX4_register 19 = .ok (.dup, 1) := by decide +kernel
theorem dX4_register_20 : decode cX4_register 20 = .ok (.ldc 143, 2) := by decide +kernel
theorem dX4_register_22 : decode cX4_register 22 = .ok (.invokespecial 121, 3) := by decide +kernel
theorem dX4_register_25 : decode cX4_register 25 = .ok (.athrow, 1) := by decide +kernel
theorem dX4_register_26 : decode cX4_register 26 = .ok (.aload_n 0, 1) := by decide +kernel
theorem dX4_register_27 : decode cX4_register 27 = .ok (.getfield 32, 3) := by decide +kernel
theorem dX4_register_30 : decode cX4_register 30 = .ok (.aload_n 3, 1) := by decide +kernel
theorem dX4_register_31 : decode cX4_register 31 = .ok (.invokevirtual 145, 3) := by decide +kernel
theorem dX4_register_34 : decode cX4_register 34 = .ok (.aload_n 0, 1) := by decide +kernel
theorem dX4_register_35 : decode cX4_register 35 = .ok (.getfield 32, 3) := by decide +kernel
theorem dX4_register_38 : decode cX4_register 38 = .ok (.getfield 148, 3) := by decide +kernel
theorem dX4_register_41 : decode cX4_register 41 = .ok (.iload_n 2, 1) := by decide +kernel
theorem dX4_register_42 : decode cX4_register 42 = .ok (.invokestatic 127, 3) := by decide +kernel
theorem dX4_register_45 : decode cX4_register 45 = .ok (.ireturn, 1) := by decide +kernel
set_option maxRecDepth 20000 in
theorem ggX4_byRegisters_X4_need : GoodIn wsX4_byRegisters wsX4_need := goodIn_ca (goodIn_r _ [6, 7, 8, 9, 47, 48, 49, 50, 51, 52, 53, 54, 55, 56] (by decide +kernel) (by decide +kernel)) (goodIn_sub (fun _ h => List.mem_cons_of_mem _ (List.mem_append_right _ h)) (by decide +kernel))
set_option maxRecDepth 20000 in
theorem gX4_byRegisters_X4_need : GoodIn wsX4_byRegisters (wsV RX4 68 RX4 yX4_need wsX4_need) := goodIn_app (goodIn_of _ (by decide +kernel)) ggX4_byRegisters_X4_need
set_option maxRecDepth 20000 in
theorem ggX4_byRegisters_X2_rankAllOf : GoodIn wsX4_byRegisters wsX2_rankAllOf := goodIn_r _ [14, 15, 16, 17, 13, 18, 19, 20, 21, 22, 23, 5, 24, 25, 26, 27, 28, 29, 30, 31, 32, 33, 34, 35, 36, 37, 38, 57, 58, 59, 60] (by decide +kernel) (by decide +kernel)
set_option maxRecDepth 20000 in
theorem gX4_byRegisters_X2_rankAllOf : GoodIn wsX4_byRegisters (wsV RX4 145 RX2 yX2_rankAllOf wsX2_rankAllOf) := goodIn_app (goodIn_of _ (by decide +kernel)) ggX4_byRegisters_X2_rankAllOf
set_option maxRecDepth 20000 in
theorem ggX4_byRegisters_X2_estimate : GoodIn wsX4_byRegisters wsX2_estimate := goodIn_r _ [42, 19, 43, 44, 45, 46, 25, 5, 26, 57] (by decide +kernel) (by decide +kernel)
set_option maxRecDepth 20000 in
theorem gX4_byRegisters_X2_estimate : GoodIn wsX4_byRegisters (wsV RX4 151 RX2 yX2_estimate wsX2_estimate) := goodIn_app (goodIn_of _ (by decide +kernel)) ggX4_byRegisters_X2_estimate
theorem dX4_byRegisters_0 : decode cX4_byRegisters 0 = .ok (.aload_n 0, 1) := by decide +kernel
theorem dX4_byRegisters_1 : decode cX4_byRegisters 1 = .ok (.getfield 32, 3) := by decide +kernel
theorem dX4_byRegisters_4 : decode cX4_byRegisters 4 = .ok (.aload_n 0, 1) := by decide +kernel
theorem dX4_byRegisters_5 : decode cX4_byRegisters 5 = .ok (.iload_n 1, 1) := by decide +kernel
theorem dX4_byRegisters_6 : decode cX4_byRegisters 6 = .ok (.invokevirtual 68, 3) := by decide +kernel
theorem dX4_byRegisters_9 : decode cX4_byRegisters 9 = .ok (.invokevirtual 145, 3) := by decide +kernel
theorem dX4_byRegisters_12 : decode cX4_byRegisters 12 = .ok (.aload_n 0, 1) := by decide +kernel
theorem dX4_byRegisters_13 : decode cX4_byRegisters 13 = .ok (.getfield 32, 3) := by decide +kernel
theorem dX4_byRegisters_16 : decode cX4_byRegisters 16 = .ok (.invokevirtual 151, 3) := by decide +kernel
theorem dX4_byRegisters_19 : decode cX4_byRegisters 19 = .ok (.lreturn, 1) := by decide +kernel
set_option maxRecDepth 20000 in
theorem ggX4_recent_X4_need : GoodIn wsX4_recent wsX4_need := goodIn_ca (goodIn_r _ [8, 9, 10, 11, 50, 51, 52, 53, 54, 55, 56, 57, 58, 59] (by decide +kernel) (by decide +kernel)) (goodIn_sub (fun _ h => List.mem_cons_of_mem _ (List.mem_append_left _ (List.mem_append_right _ h))) (by decide +kernel))
set_option maxRecDepth 20000 in
theorem gX4_recent_X4_need : GoodIn wsX4_recent (wsV RX4 68 RX4 yX4_need wsX4_need) := goodIn_app (goodIn_of _ (by decide +kernel)) ggX4_recent_X4_need
set_option maxRecDepth 20000 in
theorem ggX4_recent_X4_refuseUnless : GoodIn wsX4_recent wsX4_refuseUnless := goodIn_ca (goodIn_r _ [14, 15, 16] (by decide +kernel) (by decide +kernel)) (goodIn_sub (fun _ h => List.mem_cons_of_mem _ (List.mem_append_right _ h)) (by decide +kernel))
set_option maxRecDepth 20000 in
theorem gX4_recent_X4_refuseUnless : GoodIn wsX4_recent (va_wsS RX4 76 yX4_refuseUnless wsX4_refuseUnless) := goodIn_app (goodIn_of _ (by decide +kernel)) ggX4_recent_X4_refuseUnless
set_option maxRecDepth 20000 in
theorem ggX4_recent_X2_rankThoseAbove : GoodIn wsX4_recent wsX2_rankThoseAbove := goodIn_r _ [21, 22, 23, 24, 25, 26, 7, 27, 28, 29, 30, 31, 32, 33, 34, 35, 36, 37, 38, 20, 39, 40, 41, 60, 61, 62, 63] (by decide +kernel) (by decide +kernel)
set_option maxRecDepth 20000 in
theorem gX4_recent_X2_rankThoseAbove : GoodIn wsX4_recent (wsV RX4 155 RX2 yX2_rankThoseAbove wsX2_rankThoseAbove) := goodIn_app (goodIn_of _ (by decide +kernel)) ggX4_recent_X2_rankThoseAbove
set_option maxRecDepth 20000 in
theorem ggX4_recent_X2_estimate : GoodIn wsX4_recent wsX2_estimate := goodIn_r _ [45, 22, 46, 47, 48, 49, 28, 7, 29, 60] (by decide +kernel) (by decide +kernel)
set_option maxRecDepth 20000 in
theorem gX4_recent_X2_estimate : GoodIn wsX4_recent (wsV RX4 151 RX2 yX2_estimate wsX2_estimate) := goodIn_app (goodIn_of _ (by decide +kernel)) ggX4_recent_X2_estimate
theorem dX4_recent_0 : decode cX4_recent 0 = .ok (.aload_n 0, 1) := by decide +kernel
theorem dX4_recent_1 : decode cX4_recent 1 = .ok (.iload_n 1, 1) := by decide +kernel
theorem dX4_recent_2 : decode cX4_recent 2 = .ok (.invokevirtual 68, 3) := by decide +kernel
theorem dX4_recent_5 : decode cX4_recent 5 = .ok (.astore_n 3, 1) := by decide +kernel
theorem dX4_recent_6 : decode cX4_recent 6 = .ok (.iload_n 2, 1) := by decide +kernel
theorem dX4_recent_7 : decode cX4_recent 7 = .ok (.iconst 1, 1) := by decide +kernel
theorem dX4_recent_8 : decode cX4_recent 8 = .ok (.if_icmp .lt 13, 3) := by decide +kernel
theorem dX4_recent_11 : decode cX4_recent 11 = .ok (.iload_n 2, 1) := by decide +kernel
theorem dX4_recent_12 : decode cX4_recent 12 = .ok (.ldc 154, 2) := by decide +kernel
theorem dX4_recent_14 : decode cX4_recent 14 = .ok (.if_icmp .gt 7, 3) := by decide +kernel
theorem dX4_recent_17 : decode cX4_recent 17 = .ok (.iconst 1, 1) := by decide +kernel
theorem dX4_recent_18 : decode cX4_recent 18 = .ok (.goto 4, 3) := by decide +kernel
theorem dX4_recent_21 : decode cX4_recent 21 = .ok (.iconst 0, 1) := by decide +kernel
theorem dX4_recent_22 : decode cX4_recent 22 = .ok (.invokestatic 76, 3) := by decide +kernel
theorem dX4_recent_25 : decode cX4_recent 25 = .ok (.aload_n 0, 1) := by decide +kernel
theorem dX4_recent_26 : decode cX4_recent 26 = .ok (.getfield 32, 3) := by decide +kernel
theorem dX4_recent_29 : decode cX4_recent 29 = .ok (.aload_n 0, 1) := by decide +kernel
theorem dX4_recent_30 : decode cX4_recent 30 = .ok (.getfield 65, 3) := by decide +kernel
theorem dX4_recent_33 : decode cX4_recent 33 = .ok (.iload_n 2, 1) := by decide +kernel
theorem dX4_recent_34 : decode cX4_recent 34 = .ok (.isub, 1) := by decide +kernel
theorem dX4_recent_35 : decode cX4_recent 35 = .ok (.aload_n 3, 1) := by decide +kernel
theorem dX4_recent_36 : decode cX4_recent 36 = .ok (.invokevirtual 155, 3) := by decide +kernel
theorem dX4_recent_39 : decode cX4_recent 39 = .ok (.aload_n 0, 1) := by decide +kernel
theorem dX4_recent_40 : decode cX4_recent 40 = .ok (.getfield 32, 3) := by decide +kernel
theorem dX4_recent_43 : decode cX4_recent 43 = .ok (.invokevirtual 151, 3) := by decide +kernel
theorem dX4_recent_46 : decode cX4_recent 46 = .ok (.lreturn, 1) := by decide +kernel
set_option maxRecDepth 20000 in
theorem ggX4_level_X4_need : GoodIn wsX4_level wsX4_need := goodIn_ca (goodIn_r _ [7, 8, 9, 10, 36, 37, 38, 39, 40, 41, 42, 43, 44, 45] (by decide +kernel) (by decide +kernel)) (goodIn_sub (fun _ h => List.mem_cons_of_mem _ (List.mem_append_right _ h)) (by decide +kernel))
set_option maxRecDepth 20000 in
theorem gX4_level_X4_need : GoodIn wsX4_level (wsV RX4 68 RX4 yX4_need wsX4_need) := goodIn_app (goodIn_of _ (by decide +kernel)) ggX4_level_X4_need
set_option maxRecDepth 20000 in
theorem ggX4_level_X3_thin : GoodIn wsX4_level wsX3_thin := goodIn_r _ [15, 16, 17, 18, 19, 20, 21, 6, 22, 23, 24, 25, 26, 14, 27, 28, 29, 30, 31, 32, 33, 34, 35, 46, 47, 48, 49, 50, 51] (by decide +kernel) (by decide +kernel)
set_option maxRecDepth 20000 in
theorem gX4_level_X3_thin : GoodIn wsX4_level (wsV RX4 159 RX3 yX3_thin wsX3_thin) := goodIn_app (goodIn_of _ (by decide +kernel)) ggX4_level_X3_thin
theorem dX4_level_0 : decode cX4_level 0 = .ok (.aload_n 0, 1) := by decide +kernel
theorem dX4_level_1 : decode cX4_level 1 = .ok (.getfield 39, 3) := by decide +kernel
theorem dX4_level_4 : decode cX4_level 4 = .ok (.aload_n 0, 1) := by decide +kernel
theorem dX4_level_5 : decode cX4_level 5 = .ok (.iload_n 1, 1) := by decide +kernel
theorem dX4_level_6 : decode cX4_level 6 = .ok (.invokevirtual 68, 3) := by decide +kernel
theorem dX4_level_9 : decode cX4_level 9 = .ok (.invokevirtual 159, 3) := by decide +kernel
theorem dX4_level_12 : decode cX4_level 12 = .ok (.aload_n 0, 1) := by decide +kernel
theorem dX4_level_13 : decode cX4_level 13 = .ok (.getfield 39, 3) := by decide +kernel
theorem dX4_level_16 : decode cX4_level 16 = .ok (.getfield 162, 3) := by decide +kernel
theorem dX4_level_19 : decode cX4_level 19 = .ok (.ireturn, 1) := by decide +kernel
set_option maxRecDepth 20000 in
theorem ggX4_sampled_X4_need : GoodIn wsX4_sampled wsX4_need := goodIn_ca (goodIn_r _ [7, 8, 9, 10, 36, 37, 38, 39, 40, 41, 42, 43, 44, 45] (by decide +kernel) (by decide +kernel)) (goodIn_sub (fun _ h => List.mem_cons_of_mem _ (List.mem_append_right _ h)) (by decide +kernel))
set_option maxRecDepth 20000 in
theorem gX4_sampled_X4_need : GoodIn wsX4_sampled (wsV RX4 68 RX4 yX4_need wsX4_need) := goodIn_app (goodIn_of _ (by decide +kernel)) ggX4_sampled_X4_need
set_option maxRecDepth 20000 in
theorem ggX4_sampled_X3_thin : GoodIn wsX4_sampled wsX3_thin := goodIn_r _ [15, 16, 17, 18, 19, 20, 21, 6, 22, 23, 24, 25, 26, 14, 27, 28, 29, 30, 31, 32, 33, 34, 35, 46, 47, 48, 49, 50, 51] (by decide +kernel) (by decide +kernel)
set_option maxRecDepth 20000 in
theorem gX4_sampled_X3_thin : GoodIn wsX4_sampled (wsV RX4 159 RX3 yX3_thin wsX3_thin) := goodIn_app (goodIn_of _ (by decide +kernel)) ggX4_sampled_X3_thin
theorem dX4_sampled_0 : decode cX4_sampled 0 = .ok (.aload_n 0, 1) := by decide +kernel
theorem dX4_sampled_1 : decode cX4_sampled 1 = .ok (.getfield 39, 3) := by decide +kernel
theorem dX4_sampled_4 : decode cX4_sampled 4 = .ok (.aload_n 0, 1) := by decide +kernel
theorem dX4_sampled_5 : decode cX4_sampled 5 = .ok (.iload_n 1, 1) := by decide +kernel
theorem dX4_sampled_6 : decode cX4_sampled 6 = .ok (.invokevirtual 68, 3) := by decide +kernel
theorem dX4_sampled_9 : decode cX4_sampled 9 = .ok (.invokevirtual 159, 3) := by decide +kernel
theorem dX4_sampled_12 : decode cX4_sampled 12 = .ok (.aload_n 0, 1) := by decide +kernel
theorem dX4_sampled_13 : decode cX4_sampled 13 = .ok (.getfield 39, 3) := by decide +kernel
theorem dX4_sampled_16 : decode cX4_sampled 16 = .ok (.getfield 165, 3) := by decide +kernel
theorem dX4_sampled_19 : decode cX4_sampled 19 = .ok (.ireturn, 1) := by decide +kernel
set_option maxRecDepth 20000 in
theorem ggX4_sampledAt_X4_need : GoodIn wsX4_sampledAt wsX4_need := goodIn_ca (goodIn_r _ [9, 1, 2, 10, 40, 41, 42, 43, 44, 45, 46, 47, 48, 49] (by decide +kernel) (by decide +kernel)) (goodIn_sub (fun _ h => List.mem_cons_of_mem _ (List.mem_append_right _ h)) (by decide +kernel))
set_option maxRecDepth 20000 in
theorem gX4_sampledAt_X4_need : GoodIn wsX4_sampledAt (wsV RX4 68 RX4 yX4_need wsX4_need) := goodIn_app (goodIn_of _ (by decide +kernel)) ggX4_sampledAt_X4_need
set_option maxRecDepth 20000 in
theorem ggX4_sampledAt_X3_thin : GoodIn wsX4_sampledAt wsX3_thin := goodIn_r _ [15, 16, 17, 18, 19, 20, 21, 8, 22, 23, 24, 25, 26, 14, 27, 28, 29, 30, 31, 32, 33, 34, 35, 50, 51, 52, 53, 54, 55] (by decide +kernel) (by decide +kernel)
set_option maxRecDepth 20000 in
theorem gX4_sampledAt_X3_thin : GoodIn wsX4_sampledAt (wsV RX4 159 RX3 yX3_thin wsX3_thin) := goodIn_app (goodIn_of _ (by decide +kernel)) ggX4_sampledAt_X3_thin
set_option maxRecDepth 20000 in
theorem ggX4_sampledAt_X3_itemAt : GoodIn wsX4_sampledAt wsX3_itemAt := goodIn_r _ [39, 17, 18, 19, 23, 8, 24, 25, 26, 14, 27, 28, 29, 30, 31, 32, 33, 34, 35, 53, 54, 55, 50, 51, 52] (by decide +kernel) (by decide +kernel)
set_option maxRecDepth 20000 in
theorem gX4_sampledAt_X3_itemAt : GoodIn wsX4_sampledAt (wsV RX4 168 RX3 yX3_itemAt wsX3_itemAt) := goodIn_app (goodIn_of _ (by decide +kernel)) ggX4_sampledAt_X3_itemAt
theorem dX4_sampledAt_0 : decode cX4_sampledAt 0 = .ok (.aload_n 0, 1) := by decide +kernel
theorem dX4_sampledAt_1 : decode cX4_sampledAt 1 = .ok (.iload_n 1, 1) := by decide +kernel
theorem dX4_sampledAt_2 : decode cX4_sampledAt 2 = .ok (.invokevirtual 68, 3) := by decide +kernel
theorem dX4_sampledAt_5 : decode cX4_sampledAt 5 = .ok (.astore_n 3, 1) := by decide +kernel
theorem dX4_sampledAt_6 : decode cX4_sampledAt 6 = .ok (.aload_n 0, 1) := by decide +kernel
theorem dX4_sampledAt_7 : decode cX4_sampledAt 7 = .ok (.getfield 39, 3) := by decide +kernel
theorem dX4_sampledAt_10 : decode cX4_sampledAt 10 = .ok (.aload_n 3, 1) := by decide +kernel
theorem dX4_sampledAt_11 : decode cX4_sampledAt 11 = .ok (.invokevirtual 159, 3) := by decide +kernel
theorem dX4_sampledAt_14 : decode cX4_sampledAt 14 = .ok (.iload_n 2, 1) := by decide +kernel
theorem dX4_sampledAt_15 : decode cX4_sampledAt 15 = .ok (.ifCond .lt 14, 3) := by decide +kernel
theorem dX4_sampledAt_18 : decode cX4_sampledAt 18 = .ok (.iload_n 2, 1) := by decide +kernel
theorem dX4_sampledAt_19 : decode cX4_sampledAt 19 = .ok (.aload_n 0, 1) := by decide +kernel
theorem dX4_sampledAt_20 : decode cX4_sampledAt 20 = .ok (.getfield 39, 3) := by decide +kernel
theorem dX4_sampledAt_23 : decode cX4_sampledAt 23 = .ok (.getfield 165, 3) := by decide +kernel
theorem dX4_sampledAt_26 : decode cX4_sampledAt 26 = .ok (.if_icmp .lt 13, 3) := by decide +kernel
theorem dX4_sampledAt_29 : decode cX4_sampledAt 29 = .ok (.new 117, 3) := by decide +kernel
theorem dX4_sampledAt_32 : decode cX4_sampledAt 32 = .ok (.dup, 1) := by decide +kernel
theorem dX4_sampledAt_33 : decode cX4_sampledAt 33 = .ok (.ldc 166, 2) := by decide +kernel
theorem dX4_sampledAt_35 : decode cX4_sampledAt 35 = .ok (.invokespecial 121, 3) := by decide +kernel
theorem dX4_sampledAt_38 : decode cX4_sampledAt 38 = .ok (.athrow, 1) := by decide +kernel
theorem dX4_sampledAt_39 : decode cX4_sampledAt 39 = .ok (.aload_n 0, 1) := by decide +kernel
theorem dX4_sampledAt_40 : decode cX4_sampledAt 40 = .ok (.getfield 39, 3) := by decide +kernel
theorem dX4_sampledAt_43 : decode cX4_sampledAt 43 = .ok (.aload_n 3, 1) := by decide +kernel
theorem dX4_sampledAt_44 : decode cX4_sampledAt 44 = .ok (.iload_n 2, 1) := by decide +kernel
theorem dX4_sampledAt_45 : decode cX4_sampledAt 45 = .ok (.invokevirtual 168, 3) := by decide +kernel
theorem dX4_sampledAt_48 : decode cX4_sampledAt 48 = .ok (.ireturn, 1) := by decide +kernel
set_option maxRecDepth 20000 in
theorem ggX4_bySample_X4_need : GoodIn wsX4_bySample wsX4_need := goodIn_ca (goodIn_r _ [8, 9, 10, 11, 37, 38, 39, 40, 41, 42, 43, 44, 45, 46] (by decide +kernel) (by decide +kernel)) (goodIn_sub (fun _ h => List.mem_cons_of_mem _ (List.mem_append_right _ h)) (by decide +kernel))
set_option maxRecDepth 20000 in
theorem gX4_bySample_X4_need : GoodIn wsX4_bySample (wsV RX4 68 RX4 yX4_need wsX4_need) := goodIn_app (goodIn_of _ (by decide +kernel)) ggX4_bySample_X4_need
set_option maxRecDepth 20000 in
theorem ggX4_bySample_X3_thin : GoodIn wsX4_bySample wsX3_thin := goodIn_r _ [16, 17, 18, 19, 20, 21, 22, 7, 23, 24, 25, 26, 27, 15, 28, 29, 30, 31, 32, 33, 34, 35, 36, 47, 48, 49, 50, 51, 52] (by decide +kernel) (by decide +kernel)
set_option maxRecDepth 20000 in
theorem gX4_bySample_X3_thin : GoodIn wsX4_bySample (wsV RX4 159 RX3 yX3_thin wsX3_thin) := goodIn_app (goodIn_of _ (by decide +kernel)) ggX4_bySample_X3_thin
theorem dX4_bySample_0 : decode cX4_bySample 0 = .ok (.aload_n 0, 1) := by decide +kernel
theorem dX4_bySample_1 : decode cX4_bySample 1 = .ok (.getfield 39, 3) := by decide +kernel
theorem dX4_bySample_4 : decode cX4_bySample 4 = .ok (.aload_n 0, 1) := by decide +kernel
theorem dX4_bySample_5 : decode cX4_bySample 5 = .ok (.iload_n 1, 1) := by decide +kernel
theorem dX4_bySample_6 : decode cX4_bySample 6 = .ok (.invokevirtual 68, 3) := by decide +kernel
theorem dX4_bySample_9 : decode cX4_bySample 9 = .ok (.invokevirtual 159, 3) := by decide +kernel
theorem dX4_bySample_12 : decode cX4_bySample 12 = .ok (.aload_n 0, 1) := by decide +kernel
theorem dX4_bySample_13 : decode cX4_bySample 13 = .ok (.getfield 39, 3) := by decide +kernel
theorem dX4_bySample_16 : decode cX4_bySample 16 = .ok (.getfield 165, 3) := by decide +kernel
theorem dX4_bySample_19 : decode cX4_bySample 19 = .ok (.aload_n 0, 1) := by decide +kernel
theorem dX4_bySample_20 : decode cX4_bySample 20 = .ok (.getfield 39, 3) := by decide +kernel
theorem dX4_bySample_23 : decode cX4_bySample 23 = .ok (.getfield 162, 3) := by decide +kernel
theorem dX4_bySample_26 : decode cX4_bySample 26 = .ok (.ishl, 1) := by decide +kernel
theorem dX4_bySample_27 : decode cX4_bySample 27 = .ok (.ireturn, 1) := by decide +kernel
theorem dX4_need_0 : decode cX4_need 0 = .ok (.iload_n 1, 1) := by decide +kernel
theorem dX4_need_1 : decode cX4_need 1 = .ok (.ifCond .lt 21, 3) := by decide +kernel
theorem dX4_need_4 : decode cX4_need 4 = .ok (.iload_n 1, 1) := by decide +kernel
theorem dX4_need_5 : decode cX4_need 5 = .ok (.aload_n 0, 1) := by decide +kernel
theorem dX4_need_6 : decode cX4_need 6 = .ok (.getfield 24, 3) := by decide +kernel
theorem dX4_need_9 : decode cX4_need 9 = .ok (.arraylength, 1) := by decide +kernel
theorem dX4_need_10 : decode cX4_need 10 = .ok (.if_icmp .ge 12, 3) := by decide +kernel
theorem dX4_need_13 : decode cX4_need 13 = .ok (.aload_n 0, 1) := by decide +kernel
theorem dX4_need_14 : decode cX4_need 14 = .ok (.getfield 24, 3) := by decide +kernel
theorem dX4_need_17 : decode cX4_need 17 = .ok (.iload_n 1, 1) := by decide +kernel
theorem dX4_need_18 : decode cX4_need 18 = .ok (.aaload, 1) := by decide +kernel
theorem dX4_need_19 : decode cX4_need 19 = .ok (.goto 4, 3) := by decide +kernel
theorem dX4_need_22 : decode cX4_need 22 = .ok (.aconst_null, 1) := by decide +kernel
theorem dX4_need_23 : decode cX4_need 23 = .ok (.astore_n 2, 1) := by decide +kernel
theorem dX4_need_24 : decode cX4_need 24 = .ok (.aload_n 2, 1) := by decide +kernel
theorem dX4_need_25 : decode cX4_need 25 = .ok (.ifnonnull 13, 3) := by decide +kernel
theorem dX4_need_28 : decode cX4_need 28 = .ok (.new 117, 3) := by decide +kernel
theorem dX4_need_31 : decode cX4_need 31 = .ok (.dup, 1) := by decide +kernel
theorem dX4_need_32 : decode cX4_need 32 = .ok (.ldc 172, 2) := by decide +kernel
theorem dX4_need_34 : decode cX4_need 34 = .ok (.invokespecial 121, 3) := by decide +kernel
theorem dX4_need_37 : decode cX4_need 37 = .ok (.athrow, 1) := by decide +kernel
theorem dX4_need_38 : decode cX4_need 38 = .ok (.aload_n 2, 1) := by decide +kernel
theorem dX4_need_39 : decode cX4_need 39 = .ok (.areturn, 1) := by decide +kernel
theorem dX4_refuseUnless_0 : decode cX4_refuseUnless 0 = .ok (.iload_n 0, 1) := by decide +kernel
theorem dX4_refuseUnless_1 : decode cX4_refuseUnless 1 = .ok (.ifCond .ne 13, 3) := by decide +kernel
theorem dX4_refuseUnless_4 : decode cX4_refuseUnless 4 = .ok (.new 174, 3) := by decide +kernel
theorem dX4_refuseUnless_7 : decode cX4_refuseUnless 7 = .ok (.dup, 1) := by decide +kernel
theorem dX4_refuseUnless_8 : decode cX4_refuseUnless 8 = .ok (.ldc 176, 2) := by decide +kernel
theorem dX4_refuseUnless_10 : decode cX4_refuseUnless 10 = .ok (.invokespecial 178, 3) := by decide +kernel
theorem dX4_refuseUnless_13 : decode cX4_refuseUnless 13 = .ok (.athrow, 1) := by decide +kernel
theorem dX4_refuseUnless_14 : decode cX4_refuseUnless 14 = .ok (.return_, 1) := by decide +kernel
theorem dX4_isItem_0 : decode cX4_isItem 0 = .ok (.iload_n 0, 1) := by decide +kernel
theorem dX4_isItem_1 : decode cX4_isItem 1 = .ok (.ifCond .lt 13, 3) := by decide +kernel
theorem dX4_isItem_4 : decode cX4_isItem 4 = .ok (.iload_n 0, 1) := by decide +kernel
theorem dX4_isItem_5 : decode cX4_isItem 5 = .ok (.ldc 154, 2) := by decide +kernel
theorem dX4_isItem_7 : decode cX4_isItem 7 = .ok (.if_icmp .ge 7, 3) := by decide +kernel
theorem dX4_isItem_10 : decode cX4_isItem 10 = .ok (.iconst 1, 1) := by decide +kernel
theorem dX4_isItem_11 : decode cX4_isItem 11 = .ok (.goto 4, 3) := by decide +kernel
theorem dX4_isItem_14 : decode cX4_isItem 14 = .ok (.iconst 0, 1) := by decide +kernel
theorem dX4_isItem_15 : decode cX4_isItem 15 = .ok (.ireturn, 1) := by decide +kernel
set_option maxRecDepth 20000 in
theorem ggX4_takeLine_X4_put : GoodIn wsX4_takeLine wsX4_put := goodIn_r _ [7] (by decide +kernel) (by decide +kernel)
set_option maxRecDepth 20000 in
theorem gX4_takeLine_X4_put : GoodIn wsX4_takeLine (va_wsS RX4 179 yX4_put wsX4_put) := goodIn_app (goodIn_of _ (by decide +kernel)) ggX4_takeLine_X4_put
set_option maxRecDepth 20000 in
theorem ggX4_takeLine_X0_take : GoodIn wsX4_takeLine wsX0_take := goodIn_r _ [12, 13, 14, 15, 16, 17, 18, 19, 20, 21, 22, 11, 23, 24, 6, 25, 26, 27, 28, 29, 30, 31, 32, 33, 34, 35, 36, 37, 38, 39, 40, 41, 42, 43, 44, 45, 46, 47, 48, 49, 5, 7, 60, 61, 62] (by decide +kernel) (by decide +kernel)
set_option maxRecDepth 20000 in
theorem gX4_takeLine_X0_take : GoodIn wsX4_takeLine (wsV RX4 97 RX0 yX0_take wsX0_take) := goodIn_app (goodIn_of _ (by decide +kernel)) ggX4_takeLine_X0_take
theorem dX4_takeLine_0 : decode cX4_takeLine 0 = .ok (.iconst 0, 1) := by decide +kernel
theorem dX4_takeLine_1 : decode cX4_takeLine 1 = .ok (.istore 5, 2) := by decide +kernel
theorem dX4_takeLine_3 : decode cX4_takeLine 3 = .ok (.iload 5, 2) := by decide +kernel
theorem dX4_takeLine_5 : decode cX4_takeLine 5 = .ok (.iload 4, 2) := by decide +kernel
theorem dX4_takeLine_7 : decode cX4_takeLine 7 = .ok (.if_icmp .ge 37, 3) := by decide +kernel
theorem dX4_takeLine_10 : decode cX4_takeLine 10 = .ok (.aload_n 0, 1) := by decide +kernel
theorem dX4_takeLine_11 : decode cX4_takeLine 11 = .ok (.getfield 58, 3) := by decide +kernel
theorem dX4_takeLine_14 : decode cX4_takeLine 14 = .ok (.iload 5, 2) := by decide +kernel
theorem dX4_takeLine_16 : decode cX4_takeLine 16 = .ok (.iload_n 2, 1) := by decide +kernel
theorem dX4_takeLine_17 : decode cX4_takeLine 17 = .ok (.iload 5, 2) := by decide +kernel
theorem dX4_takeLine_19 : decode cX4_takeLine 19 = .ok (.iload_n 3, 1) := by decide +kernel
theorem dX4_takeLine_20 : decode cX4_takeLine 20 = .ok (.imul, 1) := by decide +kernel
theorem dX4_takeLine_21 : decode cX4_takeLine 21 = .ok (.iadd, 1) := by decide +kernel
theorem dX4_takeLine_22 : decode cX4_takeLine 22 = .ok (.invokestatic 179, 3) := by decide +kernel
theorem dX4_takeLine_25 : decode cX4_takeLine 25 = .ok (.aload_n 0, 1) := by decide +kernel
theorem dX4_takeLine_26 : decode cX4_takeLine 26 = .ok (.getfield 62, 3) := by decide +kernel
theorem dX4_takeLine_29 : decode cX4_takeLine 29 = .ok (.iload 5, 2) := by decide +kernel
theorem dX4_takeLine_31 : decode cX4_takeLine 31 = .ok (.aload_n 0, 1) := by decide +kernel
theorem dX4_takeLine_32 : decode cX4_takeLine 32 = .ok (.getfield 65, 3) := by decide +kernel
theorem dX4_takeLine_35 : decode cX4_takeLine 35 = .ok (.invokestatic 179, 3) := by decide +kernel
theorem dX4_takeLine_38 : decode cX4_takeLine 38 = .ok (.iinc 5 1, 3) := by decide +kernel
theorem dX4_takeLine_41 : decode cX4_takeLine 41 = .ok (.goto (-38), 3) := by decide +kernel
theorem dX4_takeLine_44 : decode cX4_takeLine 44 = .ok (.aload_n 1, 1) := by decide +kernel
theorem dX4_takeLine_45 : decode cX4_takeLine 45 = .ok (.aload_n 0, 1) := by decide +kernel
theorem dX4_takeLine_46 : decode cX4_takeLine 46 = .ok (.getfield 58, 3) := by decide +kernel
theorem dX4_takeLine_49 : decode cX4_takeLine 49 = .ok (.aload_n 0, 1) := by decide +kernel
theorem dX4_takeLine_50 : decode cX4_takeLine 50 = .ok (.getfield 62, 3) := by decide +kernel
theorem dX4_takeLine_53 : decode cX4_takeLine 53 = .ok (.iload 4, 2) := by decide +kernel
theorem dX4_takeLine_55 : decode cX4_takeLine 55 = .ok (.invokevirtual 97, 3) := by decide +kernel
theorem dX4_takeLine_58 : decode cX4_takeLine 58 = .ok (.ireturn, 1) := by decide +kernel
set_option maxRecDepth 20000 in
theorem ggX4_keepLeastOf_X1_keepThoseOf : GoodIn wsX4_keepLeastOf wsX1_keepThoseOf := goodIn_r _ [8, 9, 10, 11, 12, 13, 7, 14, 15, 16, 17, 18, 19, 20, 21, 22, 23, 24, 25, 26, 27, 28, 29, 30, 31, 32, 48, 49, 50, 51, 52, 53] (by decide +kernel) (by decide +kernel)
set_option maxRecDepth 20000 in
theorem gX4_keepLeastOf_X1_keepThoseOf : GoodIn wsX4_keepLeastOf (wsV RX4 112 RX1 yX1_keepThoseOf wsX1_keepThoseOf) := goodIn_app (goodIn_of _ (by decide +kernel)) ggX4_keepLeastOf_X1_keepThoseOf
set_option maxRecDepth 20000 in
theorem ggX4_keepLeastOf_X1_forget : GoodIn wsX4_keepLeastOf wsX1_forget := goodIn_r _ [14, 15, 51, 52, 53] (by decide +kernel) (by decide +kernel)
set_option maxRecDepth 20000 in
theorem gX4_keepLeastOf_X1_forget : GoodIn wsX4_keepLeastOf (wsV RX4 183 RX1 yX1_forget wsX1_forget) := goodIn_app (goodIn_of _ (by decide +kernel)) ggX4_keepLeastOf_X1_forget
set_option maxRecDepth 20000 in
theorem ggX4_keepLeastOf_X1_offerAllOf : GoodIn wsX4_keepLeastOf wsX1_offerAllOf := goodIn_r _ [37, 15, 30, 16, 17, 18, 25, 26, 27, 7, 28, 29, 31, 32, 51, 52, 53] (by decide +kernel) (by decide +kernel)
set_option maxRecDepth 20000 in
theorem gX4_keepLeastOf_X1_offerAllOf : GoodIn wsX4_keepLeastOf (wsV RX4 186 RX1 yX1_offerAllOf wsX1_offerAllOf) := goodIn_app (goodIn_of _ (by decide +kernel)) ggX4_keepLeastOf_X1_offerAllOf
theorem dX4_keepLeastOf_0 : decode cX4_keepLeastOf 0 = .ok (.aload_n 0, 1) := by decide +kernel
theorem dX4_keepLeastOf_1 : decode cX4_keepLeastOf 1 = .ok (.getfield 48, 3) := by decide +kernel
theorem dX4_keepLeastOf_4 : decode cX4_keepLeastOf 4 = .ok (.aload_n 1, 1) := by decide +kernel
theorem dX4_keepLeastOf_5 : decode cX4_keepLeastOf 5 = .ok (.invokevirtual 112, 3) := by decide +kernel
theorem dX4_keepLeastOf_8 : decode cX4_keepLeastOf 8 = .ok (.aload_n 0, 1) := by decide +kernel
theorem dX4_keepLeastOf_9 : decode cX4_keepLeastOf 9 = .ok (.getfield 52, 3) := by decide +kernel
theorem dX4_keepLeastOf_12 : decode cX4_keepLeastOf 12 = .ok (.aload_n 2, 1) := by decide +kernel
theorem dX4_keepLeastOf_13 : decode cX4_keepLeastOf 13 = .ok (.invokevirtual 112, 3) := by decide +kernel
theorem dX4_keepLeastOf_16 : decode cX4_keepLeastOf 16 = .ok (.aload_n 0, 1) := by decide +kernel
theorem dX4_keepLeastOf_17 : decode cX4_keepLeastOf 17 = .ok (.getfield 55, 3) := by decide +kernel
theorem dX4_keepLeastOf_20 : decode cX4_keepLeastOf 20 = .ok (.invokevirtual 183, 3) := by decide +kernel
theorem dX4_keepLeastOf_23 : decode cX4_keepLeastOf 23 = .ok (.aload_n 0, 1) := by decide +kernel
theorem dX4_keepLeastOf_24 : decode cX4_keepLeastOf 24 = .ok (.getfield 55, 3) := by decide +kernel
theorem dX4_keepLeastOf_27 : decode cX4_keepLeastOf 27 = .ok (.aload_n 0, 1) := by decide +kernel
theorem dX4_keepLeastOf_28 : decode cX4_keepLeastOf 28 = .ok (.getfield 48, 3) := by decide +kernel
theorem dX4_keepLeastOf_31 : decode cX4_keepLeastOf 31 = .ok (.invokevirtual 186, 3) := by decide +kernel
theorem dX4_keepLeastOf_34 : decode cX4_keepLeastOf 34 = .ok (.aload_n 0, 1) := by decide +kernel
theorem dX4_keepLeastOf_35 : decode cX4_keepLeastOf 35 = .ok (.getfield 55, 3) := by decide +kernel
theorem dX4_keepLeastOf_38 : decode cX4_keepLeastOf 38 = .ok (.aload_n 0, 1) := by decide +kernel
theorem dX4_keepLeastOf_39 : decode cX4_keepLeastOf 39 = .ok (.getfield 52, 3) := by decide +kernel
theorem dX4_keepLeastOf_42 : decode cX4_keepLeastOf 42 = .ok (.invokevirtual 186, 3) := by decide +kernel
theorem dX4_keepLeastOf_45 : decode cX4_keepLeastOf 45 = .ok (.return_, 1) := by decide +kernel
theorem dX4_hashFor_0 : decode cX4_hashFor 0 = .ok (.iload_n 0, 1) := by decide +kernel
theorem dX4_hashFor_1 : decode cX4_hashFor 1 = .ok (.i2l, 1) := by decide +kernel
theorem dX4_hashFor_2 : decode cX4_hashFor 2 = .ok (.lstore_n 1, 1) := by decide +kernel
theorem dX4_hashFor_3 : decode cX4_hashFor 3 = .ok (.ldc2_w 190, 3) := by decide +kernel
theorem dX4_hashFor_6 : decode cX4_hashFor 6 = .ok (.lload_n 1, 1) := by decide +kernel
theorem dX4_hashFor_7 : decode cX4_hashFor 7 = .ok (.lmul, 1) := by decide +kernel
theorem dX4_hashFor_8 : decode cX4_hashFor 8 = .ok (.lload_n 1, 1) := by decide +kernel
theorem dX4_hashFor_9 : decode cX4_hashFor 9 = .ok (.lmul, 1) := by decide +kernel
theorem dX4_hashFor_10 : decode cX4_hashFor 10 = .ok (.ldc2_w 192, 3) := by decide +kernel
theorem dX4_hashFor_13 : decode cX4_hashFor 13 = .ok (.lload_n 1, 1) := by decide +kernel
theorem dX4_hashFor_14 : decode cX4_hashFor 14 = .ok (.lmul, 1) := by decide +kernel
theorem dX4_hashFor_15 : decode cX4_hashFor 15 = .ok (.ladd, 1) := by decide +kernel
theorem dX4_hashFor_16 : decode cX4_hashFor 16 = .ok (.ldc2_w 194, 3) := by decide +kernel
theorem dX4_hashFor_19 : decode cX4_hashFor 19 = .ok (.ladd, 1) := by decide +kernel
theorem dX4_hashFor_20 : decode cX4_hashFor 20 = .ok (.ldc2_w 196, 3) := by decide +kernel
theorem dX4_hashFor_23 : decode cX4_hashFor 23 = .ok (.lrem, 1) := by decide +kernel
theorem dX4_hashFor_24 : decode cX4_hashFor 24 = .ok (.l2i, 1) := by decide +kernel
theorem dX4_hashFor_25 : decode cX4_hashFor 25 = .ok (.ireturn, 1) := by decide +kernel
theorem dX4_lowZeros_0 : decode cX4_lowZeros 0 = .ok (.iconst 0, 1) := by decide +kernel
theorem dX4_lowZeros_1 : decode cX4_lowZeros 1 = .ok (.istore_n 2, 1) := by decide +kernel
theorem dX4_lowZeros_2 : decode cX4_lowZeros 2 = .ok (.iload_n 2, 1) := by decide +kernel
theorem dX4_lowZeros_3 : decode cX4_lowZeros 3 = .ok (.iload_n 1, 1) := by decide +kernel
theorem dX4_lowZeros_4 : decode cX4_lowZeros 4 = .ok (.if_icmp .ge 20, 3) := by decide +kernel
theorem dX4_lowZeros_7 : decode cX4_lowZeros 7 = .ok (.iload_n 0, 1) := by decide +kernel
theorem dX4_lowZeros_8 : decode cX4_lowZeros 8 = .ok (.iload_n 2, 1) := by decide +kernel
theorem dX4_lowZeros_9 : decode cX4_lowZeros 9 = .ok (.ishr, 1) := by decide +kernel
theorem dX4_lowZeros_10 : decode cX4_lowZeros 10 = .ok (.iconst 1, 1) := by decide +kernel
theorem dX4_lowZeros_11 : decode cX4_lowZeros 11 = .ok (.iand, 1) := by decide +kernel
theorem dX4_lowZeros_12 : decode cX4_lowZeros 12 = .ok (.iconst 1, 1) := by decide +kernel
theorem dX4_lowZeros_13 : decode cX4_lowZeros 13 = .ok (.if_icmp .ne 5, 3) := by decide +kernel
theorem dX4_lowZeros_16 : decode cX4_lowZeros 16 = .ok (.iload_n 2, 1) := by decide +kernel
theorem dX4_lowZeros_17 : decode cX4_lowZeros 17 = .ok (.ireturn, 1) := by decide +kernel
theorem dX4_lowZeros_18 : decode cX4_lowZeros 18 = .ok (.iinc 2 1, 3) := by decide +kernel
theorem dX4_lowZeros_21 : decode cX4_lowZeros 21 = .ok (.goto (-19), 3) := by decide +kernel
theorem dX4_lowZeros_24 : decode cX4_lowZeros 24 = .ok (.iload_n 1, 1) := by decide +kernel
theorem dX4_lowZeros_25 : decode cX4_lowZeros 25 = .ok (.ireturn, 1) := by decide +kernel
theorem dX4_at_0 : decode cX4_at 0 = .ok (.aload_n 0, 1) := by decide +kernel
theorem dX4_at_1 : decode cX4_at 1 = .ok (.ifnull 19, 3) := by decide +kernel
theorem dX4_at_4 : decode cX4_at 4 = .ok (.iload_n 1, 1) := by decide +kernel
theorem dX4_at_5 : decode cX4_at 5 = .ok (.ifCond .lt 15, 3) := by decide +kernel
theorem dX4_at_8 : decode cX4_at 8 = .ok (.iload_n 1, 1) := by decide +kernel
theorem dX4_at_9 : decode cX4_at 9 = .ok (.aload_n 0, 1) := by decide +kernel
theorem dX4_at_10 : decode cX4_at 10 = .ok (.arraylength, 1) := by decide +kernel
theorem dX4_at_11 : decode cX4_at 11 = .ok (.if_icmp .ge 9, 3) := by decide +kernel
theorem dX4_at_14 : decode cX4_at 14 = .ok (.aload_n 0, 1) := by decide +kernel
theorem dX4_at_15 : decode cX4_at 15 = .ok (.iload_n 1, 1) := by decide +kernel
theorem dX4_at_16 : decode cX4_at 16 = .ok (.iaload, 1) := by decide +kernel
theorem dX4_at_17 : decode cX4_at 17 = .ok (.goto 4, 3) := by decide +kernel
theorem dX4_at_20 : decode cX4_at 20 = .ok (.iconst (-1), 1) := by decide +kernel
theorem dX4_at_21 : decode cX4_at 21 = .ok (.ireturn, 1) := by decide +kernel
theorem dX4_put_0 : decode cX4_put 0 = .ok (.aload_n 0, 1) := by decide +kernel
theorem dX4_put_1 : decode cX4_put 1 = .ok (.ifnull 17, 3) := by decide +kernel
theorem dX4_put_4 : decode cX4_put 4 = .ok (.iload_n 1, 1) := by decide +kernel
theorem dX4_put_5 : decode cX4_put 5 = .ok (.ifCond .lt 13, 3) := by decide +kernel
theorem dX4_put_8 : decode cX4_put 8 = .ok (.iload_n 1, 1) := by decide +kernel
theorem dX4_put_9 : decode cX4_put 9 = .ok (.aload_n 0, 1) := by decide +kernel
theorem dX4_put_10 : decode cX4_put 10 = .ok (.arraylength, 1) := by decide +kernel
theorem dX4_put_11 : decode cX4_put 11 = .ok (.if_icmp .ge 7, 3) := by decide +kernel
theorem dX4_put_14 : decode cX4_put 14 = .ok (.aload_n 0, 1) := by decide +kernel
theorem dX4_put_15 : decode cX4_put 15 = .ok (.iload_n 1, 1) := by decide +kernel
theorem dX4_put_16 : decode cX4_put 16 = .ok (.iload_n 2, 1) := by decide +kernel
theorem dX4_put_17 : decode cX4_put 17 = .ok (.iastore, 1) := by decide +kernel
theorem dX4_put_18 : decode cX4_put 18 = .ok (.return_, 1) := by decide +kernel
end
section
theorem dX5_init_0 : decode cX5_init 0 = .ok (.aload_n 0, 1) := by decide +kernel
theorem dX5_init_1 : decode cX5_init 1 = .ok (.invokespecial 1, 3) := by decide +kernel
theorem dX5_init_4 : decode cX5_init 4 = .ok (.aload_n 0, 1) := by decide +kernel
theorem dX5_init_5 : decode cX5_init 5 = .ok (.ldc 7, 2) := by decide +kernel
theorem dX5_init_7 : decode cX5_init 7 = .ok (.newarray .int, 2) := by decide +kernel
theorem dX5_init_9 : decode cX5_init 9 = .ok (.putfield 8, 3) := by decide +kernel
theorem dX5_init_12 : decode cX5_init 12 = .ok (.aload_n 0, 1) := by decide +kernel
theorem dX5_init_13 : decode cX5_init 13 = .ok (.ldc 14, 2) := by decide +kernel
theorem dX5_init_15 : decode cX5_init 15 = .ok (.newarray .int, 2) := by decide +kernel
theorem dX5_init_17 : decode cX5_init 17 = .ok (.putfield 15, 3) := by decide +kernel
theorem dX5_init_20 : decode cX5_init 20 = .ok (.aload_n 0, 1) := by decide +kernel
theorem dX5_init_21 : decode cX5_init 21 = .ok (.ldc 14, 2) := by decide +kernel
theorem dX5_init_23 : decode cX5_init 23 = .ok (.newarray .boolean, 2) := by decide +kernel
theorem dX5_init_25 : decode cX5_init 25 = .ok (.putfield 18, 3) := by decide +kernel
theorem dX5_init_28 : decode cX5_init 28 = .ok (.aload_n 0, 1) := by decide +kernel
theorem dX5_init_29 : decode cX5_init 29 = .ok (.bipush 32, 2) := by decide +kernel
theorem dX5_init_31 : decode cX5_init 31 = .ok (.newarray .int, 2) := by decide +kernel
theorem dX5_init_33 : decode cX5_init 33 = .ok (.putfield 22, 3) := by decide +kernel
theorem dX5_init_36 : decode cX5_init 36 = .ok (.aload_n 0, 1) := by decide +kernel
theorem dX5_init_37 : decode cX5_init 37 = .ok (.bipush 32, 2) := by decide +kernel
theorem dX5_init_39 : decode cX5_init 39 = .ok (.newarray .int, 2) := by decide +kernel
theorem dX5_init_41 : decode cX5_init 41 = .ok (.putfield 25, 3) := by decide +kernel
theorem dX5_init_44 : decode cX5_init 44 = .ok (.aload_n 0, 1) := by decide +kernel
theorem dX5_init_45 : decode cX5_init 45 = .ok (.bipush 32, 2) := by decide +kernel
theorem dX5_init_47 : decode cX5_init 47 = .ok (.newarray .int, 2) := by decide +kernel
theorem dX5_init_49 : decode cX5_init 49 = .ok (.putfield 28, 3) := by decide +kernel
theorem dX5_init_52 : decode cX5_init 52 = .ok (.aload_n 0, 1) := by decide +kernel
theorem dX5_init_53 : decode cX5_init 53 = .ok (.bipush 16, 2) := by decide +kernel
theorem dX5_init_55 : decode cX5_init 55 = .ok (.newarray .int, 2) := by decide +kernel
theorem dX5_init_57 : decode cX5_init 57 = .ok (.putfield 31, 3) := by decide +kernel
theorem dX5_init_60 : decode cX5_init 60 = .ok (.aload_n 0, 1) := by decide +kernel
theorem dX5_init_61 : decode cX5_init 61 = .ok (.bipush 17, 2) := by decide +kernel
theorem dX5_init_63 : decode cX5_init 63 = .ok (.newarray .int, 2) := by decide +kernel
theorem dX5_init_65 : decode cX5_init 65 = .ok (.dup, 1) := by decide +kernel
theorem dX5_init_66 : decode cX5_init 66 = .ok (.iconst 0, 1) := by decide +kernel
theorem dX5_init_67 : decode cX5_init 67 = .ok (.iconst 0, 1) := by decide +kernel
theorem dX5_init_68 : decode cX5_init 68 = .ok (.iastore, 1) := by decide +kernel
theorem dX5_init_69 : decode cX5_init 69 = .ok (.dup, 1) := by decide +kernel
theorem dX5_init_70 : decode cX5_init 70 = .ok (.iconst 1, 1) := by decide +kernel
theorem dX5_init_71 : decode cX5_init 71 = .ok (.ldc 34, 2) := by decide +kernel
theorem dX5_init_73 : decode cX5_init 73 = .ok (.iastore, 1) := by decide +kernel
theorem dX5_init_74 : decode cX5_init 74 = .ok (.dup, 1) := by decide +kernel
theorem dX5_init_75 : decode cX5_init 75 = .ok (.iconst 2, 1) := by decide +kernel
theorem dX5_init_76 : decode cX5_init 76 = .ok (.ldc 35, 2) := by decide +kernel
theorem dX5_init_78 : decode cX5_init 78 = .ok (.iastore, 1) := by decide +kernel
theorem dX5_init_79 : decode cX5_init 79 = .ok (.dup, 1) := by decide +kernel
theorem dX5_init_80 : decode cX5_init 80 = .ok (.iconst 3, 1) := by decide +kernel
theorem dX5_init_81 : decode cX5_init 81 = .ok (.sipush 26784, 3) := by decide +kernel
theorem dX5_init_84 : decode cX5_init 84 = .ok (.iastore, 1) := by decide +kernel
theorem dX5_init_85 : decode cX5_init 85 = .ok (.dup, 1) := by decide +kernel
theorem dX5_init_86 : decode cX5_init 86 = .ok (.iconst 4, 1) := by decide +kernel
theorem dX5_init_87 : decode cX5_init 87 = .ok (.sipush 22181, 3) := by decide +kernel
theorem dX5_init_90 : decode cX5_init 90 = .ok (.iastore, 1) := by decide +kernel
theorem dX5_init_91 : decode cX5_init 91 = .ok (.dup, 1) := by decide +kernel
theorem dX5_init_92 : decode cX5_init 92 = .ok (.iconst 5, 1) := by decide +kernel
theorem dX5_init_93 : decode cX5_init 93 = .ok (.sipush 18610, 3) := by decide +kernel
theorem dX5_init_96 : decode cX5_init 96 = .ok (.iastore, 1) := by decide +kernel
theorem dX5_init_97 : decode cX5_init 97 = .ok (.dup, 1) := by decide +kernel
theorem dX5_init_98 : decode cX5_init 98 = .ok (.bipush 6, 2) := by decide +kernel
theorem dX5_init_100 : decode cX5_init 100 = .ok (.sipush 15693, 3) := by decide +kernel
theorem dX5_init_103 : decode cX5_init 103 = .ok (.iastore, 1) := by decide +kernel
theorem dX5_init_104 : decode cX5_init 104 = .ok (.dup, 1) := by decide +kernel
theorem dX5_init_105 : decode cX5_init 105 = .ok (.bipush 7, 2) := by decide +kernel
theorem dX5_init_107 : decode cX5_init 107 = .ok (.sipush 13227, 3) := by decide +kernel
theorem dX5_init_110 : decode cX5_init 110 = .ok (.iastore, 1) := by decide +kernel
theorem dX5_init_111 : decode cX5_init 111 = .ok (.dup, 1) := by decide +kernel
theorem dX5_init_112 : decode cX5_init 112 = .ok (.bipush 8, 2) := by decide +kernel
theorem dX5_init_114 : decode cX5_init 114 = .ok (.sipush 11090, 3) := by decide +kernel
theorem dX5_init_117 : decode cX5_init 117 = .ok (.iastore, 1) := by decide +kernel
theorem dX5_init_118 : decode cX5_init 118 = .ok (.dup, 1) := by decide +kernel
theorem dX5_init_119 : decode cX5_init 119 = .ok (.bipush 9, 2) := by decide +kernel
theorem dX5_init_121 : decode cX5_init 121 = .ok (.sipush 9206, 3) := by decide +kernel
theorem dX5_init_124 : decode cX5_init 124 = .ok (.iastore, 1) := by decide +kernel
theorem dX5_init_125 : decode cX5_init 125 = .ok (.dup, 1) := by decide +kernel
theorem dX5_init_126 : decode cX5_init 126 = .ok (.bipush 10, 2) := by decide +kernel
theorem dX5_init_128 : decode cX5_init 128 = .ok (.sipush 7520, 3) := by decide +kernel
theorem dX5_init_131 : decode cX5_init 131 = .ok (.iastore, 1) := by decide +kernel
theorem dX5_init_132 : decode cX5_init 132 = .ok (.dup, 1) := by decide +kernel
theorem dX5_init_133 : decode cX5_init 133 = .ok (.bipush 11, 2) := by decide +kernel
theorem dX5_init_135 : decode cX5_init 135 = .ok (.sipush 5995, 3) := by decide +kernel
theorem dX5_init_138 : decode cX5_init 138 = .ok (.iastore, 1) := by decide +kernel
theorem dX5_init_139 : decode cX5_init 139 = .ok (.dup, 1) := by decide +kernel
theorem dX5_init_140 : decode cX5_init 140 = .ok (.bipush 12, 2) := by decide +kernel
theorem dX5_init_142 : decode cX5_init 142 = .ok (.sipush 4603, 3) := by decide +kernel
theorem dX5_init_145 : decode cX5_init 145 = .ok (.iastore, 1) := by decide +kernel
theorem dX5_init_146 : decode cX5_init 146 = .ok (.dup, 1) := by decide +kernel
theorem dX5_init_147 : decode cX5_init 147 = .ok (.bipush 13, 2) := by decide +kernel
theorem dX5_init_149 : decode cX5_init 149 = .ok (.sipush 3322, 3) := by decide +kernel
theorem dX5_init_152 : decode cX5_init 152 = .ok (.iastore, 1) := by decide +kernel
theorem dX5_init_153 : decode cX5_init 153 = .ok (.dup, 1) := by decide +kernel
theorem dX5_init_154 : decode cX5_init 154 = .ok (.bipush 14, 2) := by decide +kernel
theorem dX5_init_156 : decode cX5_init 156 = .ok (.sipush 2137, 3) := by decide +kernel
theorem dX5_init_159 : decode cX5_init 159 = .ok (.iastore, 1) := by decide +kernel
theorem dX5_init_160 : decode cX5_init 160 = .ok (.dup, 1) := by decide +kernel
theorem dX5_init_161 : decode cX5_init 161 = .ok (.bipush 15, 2) := by decide +kernel
theorem dX5_init_163 : decode cX5_init 163 = .ok (.sipush 1033, 3) := by decide +kernel
theorem dX5_init_166 : decode cX5_init 166 = .ok (.iastore, 1) := by decide +kernel
theorem dX5_init_167 : decode cX5_init 167 = .ok (.dup, 1) := by decide +kernel
theorem dX5_init_168 : decode cX5_init 168 = .ok (.bipush 16, 2) := by decide +kernel
theorem dX5_init_170 : decode cX5_init 170 = .ok (.iconst 0, 1) := by decide +kernel
theorem dX5_init_171 : decode cX5_init 171 = .ok (.iastore, 1) := by decide +kernel
theorem dX5_init_172 : decode cX5_init 172 = .ok (.putfield 36, 3) := by decide +kernel
theorem dX5_init_175 : decode cX5_init 175 = .ok (.aload_n 0, 1) := by decide +kernel
theorem dX5_init_176 : decode cX5_init 176 = .ok (.iload_n 1, 1) := by decide +kernel
theorem dX5_init_177 : decode cX5_init 177 = .ok (.iconst 2, 1) := by decide +kernel
theorem dX5_init_178 : decode cX5_init 178 = .ok (.if_icmp .ge 7, 3) := by decide +kernel
theorem dX5_init_181 : decode cX5_init 181 = .ok (.iconst 2, 1) := by decide +kernel
theorem dX5_init_182 : decode cX5_init 182 = .ok (.goto 15, 3) := by decide +kernel
theorem dX5_init_185 : decode cX5_init 185 = .ok (.iload_n 1, 1) := by decide +kernel
theorem dX5_init_186 : decode cX5_init 186 = .ok (.bipush 32, 2) := by decide +kernel
theorem dX5_init_188 : decode cX5_init 188 = .ok (.if_icmp .le 8, 3) := by decide +kernel
theorem dX5_init_191 : decode cX5_init 191 = .ok (.bipush 32, 2) := by decide +kernel
theorem dX5_init_193 : decode cX5_init 193 = .ok (.goto 4, 3) := by decide +kernel
theorem dX5_init_196 : decode cX5_init 196 = .ok (.iload_n 1, 1) := by decide +kernel
theorem dX5_init_197 : decode cX5_init 197 = .ok (.putfield 39, 3) := by decide +kernel
theorem dX5_init_200 : decode cX5_init 200 = .ok (.iconst 0, 1) := by decide +kernel
theorem dX5_init_201 : decode cX5_init 201 = .ok (.istore_n 2, 1) := by decide +kernel
theorem dX5_init_202 : decode cX5_init 202 = .ok (.iload_n 2, 1) := by decide +kernel
theorem dX5_init_203 : decode cX5_init 203 = .ok (.ldc 7, 2) := by decide +kernel
theorem dX5_init_205 : decode cX5_init 205 = .ok (.if_icmp .ge 16, 3) := by decide +kernel
theorem dX5_init_208 : decode cX5_init 208 = .ok (.aload_n 0, 1) := by decide +kernel
theorem dX5_init_209 : decode cX5_init 209 = .ok (.getfield 8, 3) := by decide +kernel
theorem dX5_init_212 : decode cX5_init 212 = .ok (.iload_n 2, 1) := by decide +kernel
theorem dX5_init_213 : decode cX5_init 213 = .ok (.iconst (-1), 1) := by decide +kernel
theorem dX5_init_214 : decode cX5_init 214 = .ok (.iastore, 1) := by decide +kernel
theorem dX5_init_215 : decode cX5_init 215 = .ok (.iinc 2 1, 3) := by decide +kernel
theorem dX5_init_218 : decode cX5_init 218 = .ok (.goto (-16), 3) := by decide +kernel
theorem dX5_init_221 : decode cX5_init 221 = .ok (.return_, 1) := by decide +kernel
theorem dX5_thrown_0 : decode cX5_thrown 0 = .ok (.aload_n 0, 1) := by decide +kernel
theorem dX5_thrown_1 : decode cX5_thrown 1 = .ok (.getfield 43, 3) := by decide +kernel
theorem dX5_thrown_4 : decode cX5_thrown 4 = .ok (.ireturn, 1) := by decide +kernel
theorem dX5_goesWell_0 : decode cX5_goesWell 0 = .ok (.aload_n 0, 1) := by decide +kernel
theorem dX5_goesWell_1 : decode cX5_goesWell 1 = .ok (.iload_n 1, 1) := by decide +kernel
theorem dX5_goesWell_2 : decode cX5_goesWell 2 = .ok (.putfield 43, 3) := by decide +kernel
theorem dX5_goesWell_5 : decode cX5_goesWell 5 = .ok (.iload_n 1, 1) := by decide +kernel
theorem dX5_goesWell_6 : decode cX5_goesWell 6 = .ok (.ifCond .ne 7, 3) := by decide +kernel
theorem dX5_goesWell_9 : decode cX5_goesWell 9 = .ok (.iconst 1, 1) := by decide +kernel
theorem dX5_goesWell_10 : decode cX5_goesWell 10 = .ok (.goto 4, 3) := by decide +kernel
theorem dX5_goesWell_13 : decode cX5_goesWell 13 = .ok (.iconst 0, 1) := by decide +kernel
theorem dX5_goesWell_14 : decode cX5_goesWell 14 = .ok (.ireturn, 1) := by decide +kernel
theorem dX5_isBasket_0 : decode cX5_isBasket 0 = .ok (.iload_n 0, 1) := by decide +kernel
theorem dX5_isBasket_1 : decode cX5_isBasket 1 = .ok (.ifCond .lt 13, 3) := by decide +kernel
theorem dX5_isBasket_4 : decode cX5_isBasket 4 = .ok (.iload_n 0, 1) := by decide +kernel
theorem dX5_isBasket_5 : decode cX5_isBasket 5 = .ok (.bipush 6, 2) := by decide +kernel
theorem dX5_isBasket_7 : decode cX5_isBasket 7 = .ok (.if_icmp .ge 7, 3) := by decide +kernel
theorem dX5_isBasket_10 : decode cX5_isBasket 10 = .ok (.iconst 1, 1) := by decide +kernel
theorem dX5_isBasket_11 : decode cX5_isBasket 11 = .ok (.goto 4, 3) := by decide +kernel
theorem dX5_isBasket_14 : decode cX5_isBasket 14 = .ok (.iconst 0, 1) := by decide +kernel
theorem dX5_isBasket_15 : decode cX5_isBasket 15 = .ok (.ireturn, 1) := by decide +kernel
theorem dX5_isItem_0 : decode cX5_isItem 0 = .ok (.iload_n 0, 1) := by decide +kernel
theorem dX5_isItem_1 : decode cX5_isItem 1 = .ok (.ifCond .lt 13, 3) := by decide +kernel
theorem dX5_isItem_4 : decode cX5_isItem 4 = .ok (.iload_n 0, 1) := by decide +kernel
theorem dX5_isItem_5 : decode cX5_isItem 5 = .ok (.ldc 14, 2) := by decide +kernel
theorem dX5_isItem_7 : decode cX5_isItem 7 = .ok (.if_icmp .ge 7, 3) := by decide +kernel
theorem dX5_isItem_10 : decode cX5_isItem 10 = .ok (.iconst 1, 1) := by decide +kernel
theorem dX5_isItem_11 : decode cX5_isItem 11 = .ok (.goto 4, 3) := by decide +kernel
theorem dX5_isItem_14 : decode cX5_isItem 14 = .ok (.iconst 0, 1) := by decide +kernel
theorem dX5_isItem_15 : decode cX5_isItem 15 = .ok (.ireturn, 1) := by decide +kernel
theorem dX5_hashOf_0 : decode cX5_hashOf 0 = .ok (.ldc2_w 46, 3) := by decide +kernel
theorem dX5_hashOf_3 : decode cX5_hashOf 3 = .ok (.iload_n 0, 1) := by decide +kernel
theorem dX5_hashOf_4 : decode cX5_hashOf 4 = .ok (.i2l, 1) := by decide +kernel
theorem dX5_hashOf_5 : decode cX5_hashOf 5 = .ok (.lmul, 1) := by decide +kernel
theorem dX5_hashOf_6 : decode cX5_hashOf 6 = .ok (.iload_n 0, 1) := by decide +kernel
theorem dX5_hashOf_7 : decode cX5_hashOf 7 = .ok (.i2l, 1) := by decide +kernel
theorem dX5_hashOf_8 : decode cX5_hashOf 8 = .ok (.lmul, 1) := by decide +kernel
theorem dX5_hashOf_9 : decode cX5_hashOf 9 = .ok (.ldc2_w 48, 3) := by decide +kernel
theorem dX5_hashOf_12 : decode cX5_hashOf 12 = .ok (.iload_n 0, 1) := by decide +kernel
theorem dX5_hashOf_13 : decode cX5_hashOf 13 = .ok (.i2l, 1) := by decide +kernel
theorem dX5_hashOf_14 : decode cX5_hashOf 14 = .ok (.lmul, 1) := by decide +kernel
theorem dX5_hashOf_15 : decode cX5_hashOf 15 = .ok (.ladd, 1) := by decide +kernel
theorem dX5_hashOf_16 : decode cX5_hashOf 16 = .ok (.ldc2_w 50, 3) := by decide +kernel
theorem dX5_hashOf_19 : decode cX5_hashOf 19 = .ok (.ladd, 1) := by decide +kernel
theorem dX5_hashOf_20 : decode cX5_hashOf 20 = .ok (.ldc2_w 52, 3) := by decide +kernel
theorem dX5_hashOf_23 : decode cX5_hashOf 23 = .ok (.lrem, 1) := by decide +kernel
theorem dX5_hashOf_24 : decode cX5_hashOf 24 = .ok (.l2i, 1) := by decide +kernel
theorem dX5_hashOf_25 : decode cX5_hashOf 25 = .ok (.ireturn, 1) := by decide +kernel
theorem dX5_has_0 : decode cX5_has 0 = .ok (.aload_n 0, 1) := by decide +kernel
theorem dX5_has_1 : decode cX5_has 1 = .ok (.getfield 8, 3) := by decide +kernel
theorem dX5_has_4 : decode cX5_has 4 = .ok (.ldc 14, 2) := by decide +kernel
theorem dX5_has_6 : decode cX5_has 6 = .ok (.iload_n 1, 1) := by decide +kernel
theorem dX5_has_7 : decode cX5_has 7 = .ok (.imul, 1) := by decide +kernel
theorem dX5_has_8 : decode cX5_has 8 = .ok (.iload_n 2, 1) := by decide +kernel
theorem dX5_has_9 : decode cX5_has 9 = .ok (.iadd, 1) := by decide +kernel
theorem dX5_has_10 : decode cX5_has 10 = .ok (.iaload, 1) := by decide +kernel
theorem dX5_has_11 : decode cX5_has 11 = .ok (.iconst (-1), 1) := by decide +kernel
theorem dX5_has_12 : decode cX5_has 12 = .ok (.if_icmp .eq 7, 3) := by decide +kernel
theorem dX5_has_15 : decode cX5_has 15 = .ok (.iconst 1, 1) := by decide +kernel
theorem dX5_has_16 : decode cX5_has 16 = .ok (.goto 4, 3) := by decide +kernel
theorem dX5_has_19 : decode cX5_has 19 = .ok (.iconst 0, 1) := by decide +kernel
theorem dX5_has_20 : decode cX5_has 20 = .ok (.ireturn, 1) := by decide +kernel
set_option maxRecDepth 20000 in
theorem ggX5_put_X5_has : GoodIn wsX5_put wsX5_has := goodIn_r _ [10, 1, 2, 11, 12, 13, 14, 15, 16, 17, 18, 19, 20, 21, 22, 23, 24] (by decide +kernel) (by decide +kernel)
set_option maxRecDepth 20000 in
theorem gX5_put_X5_has : GoodIn wsX5_put (wsV RX5 54 RX5 yX5_has wsX5_has) := goodIn_app (goodIn_of _ (by decide +kernel)) ggX5_put_X5_has
theorem dX5_put_0 : decode cX5_put 0 = .ok (.aload_n 0, 1) := by decide +kernel
theorem dX5_put_1 : decode cX5_put 1 = .ok (.iload_n 1, 1) := by decide +kernel
theorem dX5_put_2 : decode cX5_put 2 = .ok (.iload_n 2, 1) := by decide +kernel
theorem dX5_put_3 : decode cX5_put 3 = .ok (.invokevirtual 54, 3) := by decide +kernel
theorem dX5_put_6 : decode cX5_put 6 = .ok (.ifCond .ne 7, 3) := by decide +kernel
theorem dX5_put_9 : decode cX5_put 9 = .ok (.iconst 1, 1) := by decide +kernel
theorem dX5_put_10 : decode cX5_put 10 = .ok (.goto 4, 3) := by decide +kernel
theorem dX5_put_13 : decode cX5_put 13 = .ok (.iconst 0, 1) := by decide +kernel
theorem dX5_put_14 : decode cX5_put 14 = .ok (.istore 4, 2) := by decide +kernel
theorem dX5_put_16 : decode cX5_put 16 = .ok (.iload_n 3, 1) := by decide +kernel
theorem dX5_put_17 : decode cX5_put 17 = .ok (.aload_n 0, 1) := by decide +kernel
theorem dX5_put_18 : decode cX5_put 18 = .ok (.getfield 8, 3) := by decide +kernel
theorem dX5_put_21 : decode cX5_put 21 = .ok (.ldc 14, 2) := by decide +kernel
theorem dX5_put_23 : decode cX5_put 23 = .ok (.iload_n 1, 1) := by decide +kernel
theorem dX5_put_24 : decode cX5_put 24 = .ok (.imul, 1) := by decide +kernel
theorem dX5_put_25 : decode cX5_put 25 = .ok (.iload_n 2, 1) := by decide +kernel
theorem dX5_put_26 : decode cX5_put 26 = .ok (.iadd, 1) := by decide +kernel
theorem dX5_put_27 : decode cX5_put 27 = .ok (.iaload, 1) := by decide +kernel
theorem dX5_put_28 : decode cX5_put 28 = .ok (.if_icmp .le 15, 3) := by decide +kernel
theorem dX5_put_31 : decode cX5_put 31 = .ok (.aload_n 0, 1) := by decide +kernel
theorem dX5_put_32 : decode cX5_put 32 = .ok (.getfield 8, 3) := by decide +kernel
theorem dX5_put_35 : decode cX5_put 35 = .ok (.ldc 14, 2) := by decide +kernel
theorem dX5_put_37 : decode cX5_put 37 = .ok (.iload_n 1, 1) := by decide +kernel
theorem dX5_put_38 : decode cX5_put 38 = .ok (.imul, 1) := by decide +kernel
theorem dX5_put_39 : decode cX5_put 39 = .ok (.iload_n 2, 1) := by decide +kernel
theorem dX5_put_40 : decode cX5_put 40 = .ok (.iadd, 1) := by decide +kernel
theorem dX5_put_41 : decode cX5_put 41 = .ok (.iload_n 3, 1) := by decide +kernel
theorem dX5_put_42 : decode cX5_put 42 = .ok (.iastore, 1) := by decide +kernel
theorem dX5_put_43 : decode cX5_put 43 = .ok (.aload_n 0, 1) := by decide +kernel
theorem dX5_put_44 : decode cX5_put 44 = .ok (.getfield 18, 3) := by decide +kernel
theorem dX5_put_47 : decode cX5_put 47 = .ok (.iload_n 2, 1) := by decide +kernel
theorem dX5_put_48 : decode cX5_put 48 = .ok (.baload, 1) := by decide +kernel
theorem dX5_put_49 : decode cX5_put 49 = .ok (.ifCond .ne 30, 3) := by decide +kernel
theorem dX5_put_52 : decode cX5_put 52 = .ok (.aload_n 0, 1) := by decide +kernel
theorem dX5_put_53 : decode cX5_put 53 = .ok (.getfield 18, 3) := by decide +kernel
theorem dX5_put_56 : decode cX5_put 56 = .ok (.iload_n 2, 1) := by decide +kernel
theorem dX5_put_57 : decode cX5_put 57 = .ok (.iconst 1, 1) := by decide +kernel
theorem dX5_put_58 : decode cX5_put 58 = .ok (.bastore, 1) := by decide +kernel
theorem dX5_put_59 : decode cX5_put 59 = .ok (.aload_n 0, 1) := by decide +kernel
theorem dX5_put_60 : decode cX5_put 60 = .ok (.getfield 15, 3) := by decide +kernel
theorem dX5_put_63 : decode cX5_put 63 = .ok (.aload_n 0, 1) := by decide +kernel
theorem dX5_put_64 : decode cX5_put 64 = .ok (.getfield 58, 3) := by decide +kernel
theorem dX5_put_67 : decode cX5_put 67 = .ok (.iload_n 2, 1) := by decide +kernel
theorem dX5_put_68 : decode cX5_put 68 = .ok (.iastore, 1) := by decide +kernel
theorem dX5_put_69 : decode cX5_put 69 = .ok (.aload_n 0, 1) := by decide +kernel
theorem dX5_put_70 : decode cX5_put 70 = .ok (.dup, 1) := by decide +kernel
theorem dX5_put_71 : decode cX5_put 71 = .ok (.getfield 58, 3) := by decide +kernel
theorem dX5_put_74 : decode cX5_put 74 = .ok (.iconst 1, 1) := by decide +kernel
theorem dX5_put_75 : decode cX5_put 75 = .ok (.iadd, 1) := by decide +kernel
theorem dX5_put_76 : decode cX5_put 76 = .ok (.putfield 58, 3) := by decide +kernel
theorem dX5_put_79 : decode cX5_put 79 = .ok (.iload 4, 2) := by decide +kernel
theorem dX5_put_81 : decode cX5_put 81 = .ok (.ireturn, 1) := by decide +kernel
set_option maxRecDepth 20000 in
theorem ggX5_add_X5_isBasket : GoodIn wsX5_add wsX5_isBasket := goodIn_r _ [5] (by decide +kernel) (by decide +kernel)
set_option maxRecDepth 20000 in
theorem gX5_add_X5_isBasket : GoodIn wsX5_add (va_wsS RX5 61 yX5_isBasket wsX5_isBasket) := goodIn_app (goodIn_of _ (by decide +kernel)) ggX5_add_X5_isBasket
set_option maxRecDepth 20000 in
theorem ggX5_add_X5_isItem : GoodIn wsX5_add wsX5_isItem := goodIn_r _ [8, 9] (by decide +kernel) (by decide +kernel)
set_option maxRecDepth 20000 in
theorem gX5_add_X5_isItem : GoodIn wsX5_add (va_wsS RX5 65 yX5_isItem wsX5_isItem) := goodIn_app (goodIn_of _ (by decide +kernel)) ggX5_add_X5_isItem
set_option maxRecDepth 20000 in
theorem ggX5_add_X5_goesWell : GoodIn wsX5_add wsX5_goesWell := goodIn_r _ [13, 14, 27, 28, 29, 30, 31, 32, 33, 34, 35, 36, 37, 38, 39, 40] (by decide +kernel) (by decide +kernel)
set_option maxRecDepth 20000 in
theorem gX5_add_X5_goesWell : GoodIn wsX5_add (wsV RX5 68 RX5 yX5_goesWell wsX5_goesWell) := goodIn_app (goodIn_of _ (by decide +kernel)) ggX5_add_X5_goesWell
set_option maxRecDepth 20000 in
theorem ggX5_add_X5_put : GoodIn wsX5_add wsX5_put := goodIn_r _ [18, 19, 9, 20, 21, 22, 23, 24, 25, 4, 26, 27, 28, 29, 30, 31, 32, 33, 34, 35, 36, 37, 38, 39, 40] (by decide +kernel) (by decide +kernel)
set_option maxRecDepth 20000 in
theorem gX5_add_X5_put : GoodIn wsX5_add (wsV RX5 74 RX5 yX5_put wsX5_put) := goodIn_app (goodIn_of _ (by decide +kernel)) ggX5_add_X5_put
theorem dX5_add_0 : decode cX5_add 0 = .ok (.aload_n 0, 1) := by decide +kernel
theorem dX5_add_1 : decode cX5_add 1 = .ok (.iload_n 1, 1) := by decide +kernel
theorem dX5_add_2 : decode cX5_add 2 = .ok (.invokestatic 61, 3) := by decide +kernel
theorem dX5_add_5 : decode cX5_add 5 = .ok (.ifCond .ne 7, 3) := by decide +kernel
theorem dX5_add_8 : decode cX5_add 8 = .ok (.iconst 1, 1) := by decide +kernel
theorem dX5_add_9 : decode cX5_add 9 = .ok (.goto 15, 3) := by decide +kernel
theorem dX5_add_12 : decode cX5_add 12 = .ok (.iload_n 2, 1) := by decide +kernel
theorem dX5_add_13 : decode cX5_add 13 = .ok (.invokestatic 65, 3) := by decide +kernel
theorem dX5_add_16 : decode cX5_add 16 = .ok (.ifCond .eq 7, 3) := by decide +kernel
theorem dX5_add_19 : decode cX5_add 19 = .ok (.iconst 0, 1) := by decide +kernel
theorem dX5_add_20 : decode cX5_add 20 = .ok (.goto 4, 3) := by decide +kernel
theorem dX5_add_23 : decode cX5_add 23 = .ok (.iconst 2, 1) := by decide +kernel
theorem dX5_add_24 : decode cX5_add 24 = .ok (.invokevirtual 68, 3) := by decide +kernel
theorem dX5_add_27 : decode cX5_add 27 = .ok (.ifCond .eq 20, 3) := by decide +kernel
theorem dX5_add_30 : decode cX5_add 30 = .ok (.aload_n 0, 1) := by decide +kernel
theorem dX5_add_31 : decode cX5_add 31 = .ok (.iload_n 1, 1) := by decide +kernel
theorem dX5_add_32 : decode cX5_add 32 = .ok (.iload_n 2, 1) := by decide +kernel
theorem dX5_add_33 : decode cX5_add 33 = .ok (.aload_n 0, 1) := by decide +kernel
theorem dX5_add_34 : decode cX5_add 34 = .ok (.getfield 71, 3) := by decide +kernel
theorem dX5_add_37 : decode cX5_add 37 = .ok (.invokevirtual 74, 3) := by decide +kernel
theorem dX5_add_40 : decode cX5_add 40 = .ok (.ifCond .eq 7, 3) := by decide +kernel
theorem dX5_add_43 : decode cX5_add 43 = .ok (.iconst 1, 1) := by decide +kernel
theorem dX5_add_44 : decode cX5_add 44 = .ok (.goto 4, 3) := by decide +kernel
theorem dX5_add_47 : decode cX5_add 47 = .ok (.iconst 0, 1) := by decide +kernel
theorem dX5_add_48 : decode cX5_add 48 = .ok (.ireturn, 1) := by decide +kernel
set_option maxRecDepth 20000 in
theorem ggX5_addLine_X5_isItem : GoodIn wsX5_addLine wsX5_isItem := goodIn_r _ [5, 6] (by decide +kernel) (by decide +kernel)
set_option maxRecDepth 20000 in
theorem gX5_addLine_X5_isItem : GoodIn wsX5_addLine (va_wsS RX5 65 yX5_isItem wsX5_isItem) := goodIn_app (goodIn_of _ (by decide +kernel)) ggX5_addLine_X5_isItem
set_option maxRecDepth 20000 in
theorem ggX5_addLine_X5_isBasket : GoodIn wsX5_addLine wsX5_isBasket := goodIn_r _ [9] (by decide +kernel) (by decide +kernel)
set_option maxRecDepth 20000 in
theorem gX5_addLine_X5_isBasket : GoodIn wsX5_addLine (va_wsS RX5 61 yX5_isBasket wsX5_isBasket) := goodIn_app (goodIn_of _ (by decide +kernel)) ggX5_addLine_X5_isBasket
set_option maxRecDepth 20000 in
theorem ggX5_addLine_X5_goesWell : GoodIn wsX5_addLine wsX5_goesWell := goodIn_r _ [13, 14, 27, 28, 29, 30, 31, 32, 33, 34, 35, 36, 37, 38, 39, 40] (by decide +kernel) (by decide +kernel)
set_option maxRecDepth 20000 in
theorem gX5_addLine_X5_goesWell : GoodIn wsX5_addLine (wsV RX5 68 RX5 yX5_goesWell wsX5_goesWell) := goodIn_app (goodIn_of _ (by decide +kernel)) ggX5_addLine_X5_goesWell
set_option maxRecDepth 20000 in
theorem ggX5_addLine_X5_put : GoodIn wsX5_addLine wsX5_put := goodIn_r _ [18, 19, 6, 20, 21, 22, 23, 24, 25, 4, 26, 27, 28, 29, 30, 31, 32, 33, 34, 35, 36, 37, 38, 39, 40] (by decide +kernel) (by decide +kernel)
set_option maxRecDepth 20000 in
theorem gX5_addLine_X5_put : GoodIn wsX5_addLine (wsV RX5 74 RX5 yX5_put wsX5_put) := goodIn_app (goodIn_of _ (by decide +kernel)) ggX5_addLine_X5_put
theorem dX5_addLine_0 : decode cX5_addLine 0 = .ok (.iload_n 2, 1) := by decide +kernel
theorem dX5_addLine_1 : decode cX5_addLine 1 = .ok (.invokestatic 65, 3) := by decide +kernel
theorem dX5_addLine_4 : decode cX5_addLine 4 = .ok (.ifCond .eq 46, 3) := by decide +kernel
theorem dX5_addLine_7 : decode cX5_addLine 7 = .ok (.iload_n 3, 1) := by decide +kernel
theorem dX5_addLine_8 : decode cX5_addLine 8 = .ok (.iconst 1, 1) := by decide +kernel
theorem dX5_addLine_9 : decode cX5_addLine 9 = .ok (.if_icmp .lt 41, 3) := by decide +kernel
theorem dX5_addLine_12 : decode cX5_addLine 12 = .ok (.iload_n 3, 1) := by decide +kernel
theorem dX5_addLine_13 : decode cX5_addLine 13 = .ok (.sipush 999, 3) := by decide +kernel
theorem dX5_addLine_16 : decode cX5_addLine 16 = .ok (.if_icmp .gt 34, 3) := by decide +kernel
theorem dX5_addLine_19 : decode cX5_addLine 19 = .ok (.iload 4, 2) := by decide +kernel
theorem dX5_addLine_21 : decode cX5_addLine 21 = .ok (.iconst 1, 1) := by decide +kernel
theorem dX5_addLine_22 : decode cX5_addLine 22 = .ok (.if_icmp .lt 28, 3) := by decide +kernel
theorem dX5_addLine_25 : decode cX5_addLine 25 = .ok (.iload 4, 2) := by decide +kernel
theorem dX5_addLine_27 : decode cX5_addLine 27 = .ok (.bipush 60, 2) := by decide +kernel
theorem dX5_addLine_29 : decode cX5_addLine 29 = .ok (.if_icmp .gt 21, 3) := by decide +kernel
theorem dX5_addLine_32 : decode cX5_addLine 32 = .ok (.iload_n 2, 1) := by decide +kernel
theorem dX5_addLine_33 : decode cX5_addLine 33 = .ok (.iload 4, 2) := by decide +kernel
theorem dX5_addLine_35 : decode cX5_addLine 35 = .ok (.iconst 1, 1) := by decide +kernel
theorem dX5_addLine_36 : decode cX5_addLine 36 = .ok (.isub, 1) := by decide +kernel
theorem dX5_addLine_37 : decode cX5_addLine 37 = .ok (.iload_n 3, 1) := by decide +kernel
theorem dX5_addLine_38 : decode cX5_addLine 38 = .ok (.imul, 1) := by decide +kernel
theorem dX5_addLine_39 : decode cX5_addLine 39 = .ok (.iadd, 1) := by decide +kernel
theorem dX5_addLine_40 : decode cX5_addLine 40 = .ok (.invokestatic 65, 3) := by decide +kernel
theorem dX5_addLine_43 : decode cX5_addLine 43 = .ok (.ifCond .eq 7, 3) := by decide +kernel
theorem dX5_addLine_46 : decode cX5_addLine 46 = .ok (.iconst 1, 1) := by decide +kernel
theorem dX5_addLine_47 : decode cX5_addLine 47 = .ok (.goto 4, 3) := by decide +kernel
theorem dX5_addLine_50 : decode cX5_addLine 50 = .ok (.iconst 0, 1) := by decide +kernel
theorem dX5_addLine_51 : decode cX5_addLine 51 = .ok (.istore 5, 2) := by decide +kernel
theorem dX5_addLine_53 : decode cX5_addLine 53 = .ok (.aload_n 0, 1) := by decide +kernel
theorem dX5_addLine_54 : decode cX5_addLine 54 = .ok (.iload_n 1, 1) := by decide +kernel
theorem dX5_addLine_55 : decode cX5_addLine 55 = .ok (.invokestatic 61, 3) := by decide +kernel
theorem dX5_addLine_58 : decode cX5_addLine 58 = .ok (.ifCond .ne 7, 3) := by decide +kernel
theorem dX5_addLine_61 : decode cX5_addLine 61 = .ok (.iconst 1, 1) := by decide +kernel
theorem dX5_addLine_62 : decode cX5_addLine 62 = .ok (.goto 13, 3) := by decide +kernel
theorem dX5_addLine_65 : decode cX5_addLine 65 = .ok (.iload 5, 2) := by decide +kernel
theorem dX5_addLine_67 : decode cX5_addLine 67 = .ok (.ifCond .eq 7, 3) := by decide +kernel
theorem dX5_addLine_70 : decode cX5_addLine 70 = .ok (.iconst 0, 1) := by decide +kernel
theorem dX5_addLine_71 : decode cX5_addLine 71 = .ok (.goto 4, 3) := by decide +kernel
theorem dX5_addLine_74 : decode cX5_addLine 74 = .ok (.iconst 2, 1) := by decide +kernel
theorem dX5_addLine_75 : decode cX5_addLine 75 = .ok (.invokevirtual 68, 3) := by decide +kernel
theorem dX5_addLine_78 : decode cX5_addLine 78 = .ok (.ifCond .ne 5, 3) := by decide +kernel
theorem dX5_addLine_81 : decode cX5_addLine 81 = .ok (.iconst 0, 1) := by decide +kernel
theorem dX5_addLine_82 : decode cX5_addLine 82 = .ok (.ireturn, 1) := by decide +kernel
theorem dX5_addLine_83 : decode cX5_addLine 83 = .ok (.iconst 0, 1) := by decide +kernel
theorem dX5_addLine_84 : decode cX5_addLine 84 = .ok (.istore 6, 2) := by decide +kernel
theorem dX5_addLine_86 : decode cX5_addLine 86 = .ok (.iconst 0, 1) := by decide +kernel
theorem dX5_addLine_87 : decode cX5_addLine 87 = .ok (.istore 7, 2) := by decide +kernel
theorem dX5_addLine_89 : decode cX5_addLine 89 = .ok (.iload 7, 2) := by decide +kernel
theorem dX5_addLine_91 : decode cX5_addLine 91 = .ok (.iload 4, 2) := by decide +kernel
theorem dX5_addLine_93 : decode cX5_addLine 93 = .ok (.if_icmp .ge 37, 3) := by decide +kernel
theorem dX5_addLine_96 : decode cX5_addLine 96 = .ok (.iload 6, 2) := by decide +kernel
theorem dX5_addLine_98 : decode cX5_addLine 98 = .ok (.aload_n 0, 1) := by decide +kernel
theorem dX5_addLine_99 : decode cX5_addLine 99 = .ok (.iload_n 1, 1) := by decide +kernel
theorem dX5_addLine_100 : decode cX5_addLine 100 = .ok (.iload_n 2, 1) := by decide +kernel
theorem dX5_addLine_101 : decode cX5_addLine 101 = .ok (.iload 7, 2) := by decide +kernel
theorem dX5_addLine_103 : decode cX5_addLine 103 = .ok (.iload_n 3, 1) := by decide +kernel
theorem dX5_addLine_104 : decode cX5_addLine 104 = .ok (.imul, 1) := by decide +kernel
theorem dX5_addLine_105 : decode cX5_addLine 105 = .ok (.iadd, 1) := by decide +kernel
theorem dX5_addLine_106 : decode cX5_addLine 106 = .ok (.aload_n 0, 1) := by decide +kernel
theorem dX5_addLine_107 : decode cX5_addLine 107 = .ok (.getfield 71, 3) := by decide +kernel
theorem dX5_addLine_110 : decode cX5_addLine 110 = .ok (.invokevirtual 74, 3) := by decide +kernel
theorem dX5_addLine_113 : decode cX5_addLine 113 = .ok (.ifCond .eq 7, 3) := by decide +kernel
theorem dX5_addLine_116 : decode cX5_addLine 116 = .ok (.iconst 1, 1) := by decide +kernel
theorem dX5_addLine_117 : decode cX5_addLine 117 = .ok (.goto 4, 3) := by decide +kernel
theorem dX5_addLine_120 : decode cX5_addLine 120 = .ok (.iconst 0, 1) := by decide +kernel
theorem dX5_addLine_121 : decode cX5_addLine 121 = .ok (.iadd, 1) := by decide +kernel
theorem dX5_addLine_122 : decode cX5_addLine 122 = .ok (.istore 6, 2) := by decide +kernel
theorem dX5_addLine_124 : decode cX5_addLine 124 = .ok (.iinc 7 1, 3) := by decide +kernel
theorem dX5_addLine_127 : decode cX5_addLine 127 = .ok (.goto (-38), 3) := by decide +kernel
theorem dX5_addLine_130 : decode cX5_addLine 130 = .ok (.iload 6, 2) := by decide +kernel
theorem dX5_addLine_132 : decode cX5_addLine 132 = .ok (.ireturn, 1) := by decide +kernel
set_option maxRecDepth 20000 in
theorem ggX5_count_X5_has : GoodIn wsX5_count wsX5_has := goodIn_r _ [7, 8, 9, 10, 11, 12, 13, 14, 15, 16, 17, 18, 19, 20, 21, 22, 23] (by decide +kernel) (by decide +kernel)
set_option maxRecDepth 20000 in
theorem gX5_count_X5_has : GoodIn wsX5_count (wsV RX5 54 RX5 yX5_has wsX5_has) := goodIn_app (goodIn_of _ (by decide +kernel)) ggX5_count_X5_has
theorem dX5_count_0 : decode cX5_count 0 = .ok (.iconst 0, 1) := by decide +kernel
theorem dX5_count_1 : decode cX5_count 1 = .ok (.istore_n 2, 1) := by decide +kernel
theorem dX5_count_2 : decode cX5_count 2 = .ok (.iconst 0, 1) := by decide +kernel
theorem dX5_count_3 : decode cX5_count 3 = .ok (.istore_n 3, 1) := by decide +kernel
theorem dX5_count_4 : decode cX5_count 4 = .ok (.iload_n 3, 1) := by decide +kernel
theorem dX5_count_5 : decode cX5_count 5 = .ok (.aload_n 0, 1) := by decide +kernel
theorem dX5_count_6 : decode cX5_count 6 = .ok (.getfield 58, 3) := by decide +kernel
theorem dX5_count_9 : decode cX5_count 9 = .ok (.if_icmp .ge 31, 3) := by decide +kernel
theorem dX5_count_12 : decode cX5_count 12 = .ok (.iload_n 2, 1) := by decide +kernel
theorem dX5_count_13 : decode cX5_count 13 = .ok (.aload_n 0, 1) := by decide +kernel
theorem dX5_count_14 : decode cX5_count 14 = .ok (.iload_n 1, 1) := by decide +kernel
theorem dX5_count_15 : decode cX5_count 15 = .ok (.aload_n 0, 1) := by decide +kernel
theorem dX5_count_16 : decode cX5_count 16 = .ok (.getfield 15, 3) := by decide +kernel
theorem dX5_count_19 : decode cX5_count 19 = .ok (.iload_n 3, 1) := by decide +kernel
theorem dX5_count_20 : decode cX5_count 20 = .ok (.iaload, 1) := by decide +kernel
theorem dX5_count_21 : decode cX5_count 21 = .ok (.invokevirtual 54, 3) := by decide +kernel
theorem dX5_count_24 : decode cX5_count 24 = .ok (.ifCond .eq 7, 3) := by decide +kernel
theorem dX5_count_27 : decode cX5_count 27 = .ok (.iconst 1, 1) := by decide +kernel
theorem dX5_count_28 : decode cX5_count 28 = .ok (.goto 4, 3) := by decide +kernel
theorem dX5_count_31 : decode cX5_count 31 = .ok (.iconst 0, 1) := by decide +kernel
theorem dX5_count_32 : decode cX5_count 32 = .ok (.iadd, 1) := by decide +kernel
theorem dX5_count_33 : decode cX5_count 33 = .ok (.istore_n 2, 1) := by decide +kernel
theorem dX5_count_34 : decode cX5_count 34 = .ok (.iinc 3 1, 3) := by decide +kernel
theorem dX5_count_37 : decode cX5_count 37 = .ok (.goto (-33), 3) := by decide +kernel
theorem dX5_count_40 : decode cX5_count 40 = .ok (.iload_n 2, 1) := by decide +kernel
theorem dX5_count_41 : decode cX5_count 41 = .ok (.ireturn, 1) := by decide +kernel
set_option maxRecDepth 20000 in
theorem ggX5_empty_X5_isBasket : GoodIn wsX5_empty wsX5_isBasket := goodIn_r _ [8] (by decide +kernel) (by decide +kernel)
set_option maxRecDepth 20000 in
theorem gX5_empty_X5_isBasket : GoodIn wsX5_empty (va_wsS RX5 61 yX5_isBasket wsX5_isBasket) := goodIn_app (goodIn_of _ (by decide +kernel)) ggX5_empty_X5_isBasket
set_option maxRecDepth 20000 in
theorem ggX5_empty_X5_goesWell : GoodIn wsX5_empty wsX5_goesWell := goodIn_r _ [12, 13, 22, 23, 24, 25, 26, 27, 28, 29, 30, 31, 32, 33, 34, 35] (by decide +kernel) (by decide +kernel)
set_option maxRecDepth 20000 in
theorem gX5_empty_X5_goesWell : GoodIn wsX5_empty (wsV RX5 68 RX5 yX5_goesWell wsX5_goesWell) := goodIn_app (goodIn_of _ (by decide +kernel)) ggX5_empty_X5_goesWell
set_option maxRecDepth 20000 in
theorem ggX5_empty_X5_count : GoodIn wsX5_empty wsX5_count := goodIn_r _ [17, 1, 4, 18, 19, 20, 7, 21, 2, 3, 22, 23, 24, 25, 26, 27, 28, 29, 30, 31, 32, 33, 34, 35] (by decide +kernel) (by decide +kernel)
set_option maxRecDepth 20000 in
theorem gX5_empty_X5_count : GoodIn wsX5_empty (wsV RX5 78 RX5 yX5_count wsX5_count) := goodIn_app (goodIn_of _ (by decide +kernel)) ggX5_empty_X5_count
theorem dX5_empty_0 : decode cX5_empty 0 = .ok (.aload_n 0, 1) := by decide +kernel
theorem dX5_empty_1 : decode cX5_empty 1 = .ok (.iload_n 1, 1) := by decide +kernel
theorem dX5_empty_2 : decode cX5_empty 2 = .ok (.invokestatic 61, 3) := by decide +kernel
theorem dX5_empty_5 : decode cX5_empty 5 = .ok (.ifCond .eq 7, 3) := by decide +kernel
theorem dX5_empty_8 : decode cX5_empty 8 = .ok (.iconst 0, 1) := by decide +kernel
theorem dX5_empty_9 : decode cX5_empty 9 = .ok (.goto 4, 3) := by decide +kernel
theorem dX5_empty_12 : decode cX5_empty 12 = .ok (.iconst 1, 1) := by decide +kernel
theorem dX5_empty_13 : decode cX5_empty 13 = .ok (.invokevirtual 68, 3) := by decide +kernel
theorem dX5_empty_16 : decode cX5_empty 16 = .ok (.ifCond .ne 5, 3) := by decide +kernel
theorem dX5_empty_19 : decode cX5_empty 19 = .ok (.iconst 0, 1) := by decide +kernel
theorem dX5_empty_20 : decode cX5_empty 20 = .ok (.ireturn, 1) := by decide +kernel
theorem dX5_empty_21 : decode cX5_empty 21 = .ok (.aload_n 0, 1) := by decide +kernel
theorem dX5_empty_22 : decode cX5_empty 22 = .ok (.iload_n 1, 1) := by decide +kernel
theorem dX5_empty_23 : decode cX5_empty 23 = .ok (.invokevirtual 78, 3) := by decide +kernel
theorem dX5_empty_26 : decode cX5_empty 26 = .ok (.istore_n 2, 1) := by decide +kernel
theorem dX5_empty_27 : decode cX5_empty 27 = .ok (.iconst 0, 1) := by decide +kernel
theorem dX5_empty_28 : decode cX5_empty 28 = .ok (.istore_n 3, 1) := by decide +kernel
theorem dX5_empty_29 : decode cX5_empty 29 = .ok (.iload_n 3, 1) := by decide +kernel
theorem dX5_empty_30 : decode cX5_empty 30 = .ok (.aload_n 0, 1) := by decide +kernel
theorem dX5_empty_31 : decode cX5_empty 31 = .ok (.getfield 58, 3) := by decide +kernel
theorem dX5_empty_34 : decode cX5_empty 34 = .ok (.if_icmp .ge 26, 3) := by decide +kernel
theorem dX5_empty_37 : decode cX5_empty 37 = .ok (.aload_n 0, 1) := by decide +kernel
theorem dX5_empty_38 : decode cX5_empty 38 = .ok (.getfield 8, 3) := by decide +kernel
theorem dX5_empty_41 : decode cX5_empty 41 = .ok (.ldc 14, 2) := by decide +kernel
theorem dX5_empty_43 : decode cX5_empty 43 = .ok (.iload_n 1, 1) := by decide +kernel
theorem dX5_empty_44 : decode cX5_empty 44 = .ok (.imul, 1) := by decide +kernel
theorem dX5_empty_45 : decode cX5_empty 45 = .ok (.aload_n 0, 1) := by decide +kernel
theorem dX5_empty_46 : decode cX5_empty 46 = .ok (.getfield 15, 3) := by decide +kernel
theorem dX5_empty_49 : decode cX5_empty 49 = .ok (.iload_n 3, 1) := by decide +kernel
theorem dX5_empty_50 : decode cX5_empty 50 = .ok (.iaload, 1) := by decide +kernel
theorem dX5_empty_51 : decode cX5_empty 51 = .ok (.iadd, 1) := by decide +kernel
theorem dX5_empty_52 : decode cX5_empty 52 = .ok (.iconst (-1), 1) := by decide +kernel
theorem dX5_empty_53 : decode cX5_empty 53 = .ok (.iastore, 1) := by decide +kernel
theorem dX5_empty_54 : decode cX5_empty 54 = .ok (.iinc 3 1, 3) := by decide +kernel
theorem dX5_empty_57 : decode cX5_empty 57 = .ok (.goto (-28), 3) := by decide +kernel
theorem dX5_empty_60 : decode cX5_empty 60 = .ok (.iload_n 2, 1) := by decide +kernel
theorem dX5_empty_61 : decode cX5_empty 61 = .ok (.ireturn, 1) := by decide +kernel
set_option maxRecDepth 20000 in
theorem ggX5_merge_X5_isBasket : GoodIn wsX5_merge wsX5_isBasket := goodIn_r _ [8] (by decide +kernel) (by decide +kernel)
set_option maxRecDepth 20000 in
theorem gX5_merge_X5_isBasket : GoodIn wsX5_merge (va_wsS RX5 61 yX5_isBasket wsX5_isBasket) := goodIn_app (goodIn_of _ (by decide +kernel)) ggX5_merge_X5_isBasket
set_option maxRecDepth 20000 in
theorem ggX5_merge_X5_goesWell : GoodIn wsX5_merge wsX5_goesWell := goodIn_r _ [12, 13, 23, 24, 25, 26, 27, 28, 29, 30, 31, 32, 33, 34, 35, 36] (by decide +kernel) (by decide +kernel)
set_option maxRecDepth 20000 in
theorem gX5_merge_X5_goesWell : GoodIn wsX5_merge (wsV RX5 68 RX5 yX5_goesWell wsX5_goesWell) := goodIn_app (goodIn_of _ (by decide +kernel)) ggX5_merge_X5_goesWell
set_option maxRecDepth 20000 in
theorem ggX5_merge_X5_has : GoodIn wsX5_merge wsX5_has := goodIn_r _ [17, 3, 4, 23, 24, 25, 26, 27, 28, 29, 30, 31, 32, 33, 34, 35, 36] (by decide +kernel) (by decide +kernel)
set_option maxRecDepth 20000 in
theorem gX5_merge_X5_has : GoodIn wsX5_merge (wsV RX5 54 RX5 yX5_has wsX5_has) := goodIn_app (goodIn_of _ (by decide +kernel)) ggX5_merge_X5_has
set_option maxRecDepth 20000 in
theorem ggX5_merge_X5_put : GoodIn wsX5_merge wsX5_put := goodIn_r _ [21, 3, 4, 22, 2, 1, 14, 15, 16, 7, 17, 23, 24, 25, 26, 27, 28, 29, 30, 31, 32, 33, 34, 35, 36] (by decide +kernel) (by decide +kernel)
set_option maxRecDepth 20000 in
theorem gX5_merge_X5_put : GoodIn wsX5_merge (wsV RX5 74 RX5 yX5_put wsX5_put) := goodIn_app (goodIn_of _ (by decide +kernel)) ggX5_merge_X5_put
theorem dX5_merge_0 : decode cX5_merge 0 = .ok (.aload_n 0, 1) := by decide +kernel
theorem dX5_merge_1 : decode cX5_merge 1 = .ok (.iload_n 1, 1) := by decide +kernel
theorem dX5_merge_2 : decode cX5_merge 2 = .ok (.invokestatic 61, 3) := by decide +kernel
theorem dX5_merge_5 : decode cX5_merge 5 = .ok (.ifCond .eq 14, 3) := by decide +kernel
theorem dX5_merge_8 : decode cX5_merge 8 = .ok (.iload_n 2, 1) := by decide +kernel
theorem dX5_merge_9 : decode cX5_merge 9 = .ok (.invokestatic 61, 3) := by decide +kernel
theorem dX5_merge_12 : decode cX5_merge 12 = .ok (.ifCond .eq 7, 3) := by decide +kernel
theorem dX5_merge_15 : decode cX5_merge 15 = .ok (.iconst 0, 1) := by decide +kernel
theorem dX5_merge_16 : decode cX5_merge 16 = .ok (.goto 4, 3) := by decide +kernel
theorem dX5_merge_19 : decode cX5_merge 19 = .ok (.iconst 1, 1) := by decide +kernel
theorem dX5_merge_20 : decode cX5_merge 20 = .ok (.invokevirtual 68, 3) := by decide +kernel
theorem dX5_merge_23 : decode cX5_merge 23 = .ok (.ifCond .ne 5, 3) := by decide +kernel
theorem dX5_merge_26 : decode cX5_merge 26 = .ok (.iconst 0, 1) := by decide +kernel
theorem dX5_merge_27 : decode cX5_merge 27 = .ok (.ireturn, 1) := by decide +kernel
theorem dX5_merge_28 : decode cX5_merge 28 = .ok (.iconst 0, 1) := by decide +kernel
theorem dX5_merge_29 : decode cX5_merge 29 = .ok (.istore_n 3, 1) := by decide +kernel
theorem dX5_merge_30 : decode cX5_merge 30 = .ok (.iconst 0, 1) := by decide +kernel
theorem dX5_merge_31 : decode cX5_merge 31 = .ok (.istore 4, 2) := by decide +kernel
theorem dX5_merge_33 : decode cX5_merge 33 = .ok (.iload 4, 2) := by decide +kernel
theorem dX5_merge_35 : decode cX5_merge 35 = .ok (.aload_n 0, 1) := by decide +kernel
theorem dX5_merge_36 : decode cX5_merge 36 = .ok (.getfield 58, 3) := by decide +kernel
theorem dX5_merge_39 : decode cX5_merge 39 = .ok (.if_icmp .ge 68, 3) := by decide +kernel
theorem dX5_merge_42 : decode cX5_merge 42 = .ok (.aload_n 0, 1) := by decide +kernel
theorem dX5_merge_43 : decode cX5_merge 43 = .ok (.iload_n 1, 1) := by decide +kernel
theorem dX5_merge_44 : decode cX5_merge 44 = .ok (.aload_n 0, 1) := by decide +kernel
theorem dX5_merge_45 : decode cX5_merge 45 = .ok (.getfield 15, 3) := by decide +kernel
theorem dX5_merge_48 : decode cX5_merge 48 = .ok (.iload 4, 2) := by decide +kernel
theorem dX5_merge_50 : decode cX5_merge 50 = .ok (.iaload, 1) := by decide +kernel
theorem dX5_merge_51 : decode cX5_merge 51 = .ok (.invokevirtual 54, 3) := by decide +kernel
theorem dX5_merge_54 : decode cX5_merge 54 = .ok (.istore 5, 2) := by decide +kernel
theorem dX5_merge_56 : decode cX5_merge 56 = .ok (.iload_n 3, 1) := by decide +kernel
theorem dX5_merge_57 : decode cX5_merge 57 = .ok (.iload 5, 2) := by decide +kernel
theorem dX5_merge_59 : decode cX5_merge 59 = .ok (.ifCond .eq 39, 3) := by decide +kernel
theorem dX5_merge_62 : decode cX5_merge 62 = .ok (.aload_n 0, 1) := by decide +kernel
theorem dX5_merge_63 : decode cX5_merge 63 = .ok (.iload_n 2, 1) := by decide +kernel
theorem dX5_merge_64 : decode cX5_merge 64 = .ok (.aload_n 0, 1) := by decide +kernel
theorem dX5_merge_65 : decode cX5_merge 65 = .ok (.getfield 15, 3) := by decide +kernel
theorem dX5_merge_68 : decode cX5_merge 68 = .ok (.iload 4, 2) := by decide +kernel
theorem dX5_merge_70 : decode cX5_merge 70 = .ok (.iaload, 1) := by decide +kernel
theorem dX5_merge_71 : decode cX5_merge 71 = .ok (.aload_n 0, 1) := by decide +kernel
theorem dX5_merge_72 : decode cX5_merge 72 = .ok (.getfield 8, 3) := by decide +kernel
theorem dX5_merge_75 : decode cX5_merge 75 = .ok (.ldc 14, 2) := by decide +kernel
theorem dX5_merge_77 : decode cX5_merge 77 = .ok (.iload_n 1, 1) := by decide +kernel
theorem dX5_merge_78 : decode cX5_merge 78 = .ok (.imul, 1) := by decide +kernel
theorem dX5_merge_79 : decode cX5_merge 79 = .ok (.aload_n 0, 1) := by decide +kernel
theorem dX5_merge_80 : decode cX5_merge 80 = .ok (.getfield 15, 3) := by decide +kernel
theorem dX5_merge_83 : decode cX5_merge 83 = .ok (.iload 4, 2) := by decide +kernel
theorem dX5_merge_85 : decode cX5_merge 85 = .ok (.iaload, 1) := by decide +kernel
theorem dX5_merge_86 : decode cX5_merge 86 = .ok (.iadd, 1) := by decide +kernel
theorem dX5_merge_87 : decode cX5_merge 87 = .ok (.iaload, 1) := by decide +kernel
theorem dX5_merge_88 : decode cX5_merge 88 = .ok (.invokevirtual 74, 3) := by decide +kernel
theorem dX5_merge_91 : decode cX5_merge 91 = .ok (.ifCond .eq 7, 3) := by decide +kernel
theorem dX5_merge_94 : decode cX5_merge 94 = .ok (.iconst 1, 1) := by decide +kernel
theorem dX5_merge_95 : decode cX5_merge 95 = .ok (.goto 4, 3) := by decide +kernel
theorem dX5_merge_98 : decode cX5_merge 98 = .ok (.iconst 0, 1) := by decide +kernel
theorem dX5_merge_99 : decode cX5_merge 99 = .ok (.iadd, 1) := by decide +kernel
theorem dX5_merge_100 : decode cX5_merge 100 = .ok (.istore_n 3, 1) := by decide +kernel
theorem dX5_merge_101 : decode cX5_merge 101 = .ok (.iinc 4 1, 3) := by decide +kernel
theorem dX5_merge_104 : decode cX5_merge 104 = .ok (.goto (-71), 3) := by decide +kernel
theorem dX5_merge_107 : decode cX5_merge 107 = .ok (.iload_n 3, 1) := by decide +kernel
theorem dX5_merge_108 : decode cX5_merge 108 = .ok (.ireturn, 1) := by decide +kernel
set_option maxRecDepth 20000 in
theorem ggX5_pass_X5_goesWell : GoodIn wsX5_pass wsX5_goesWell := goodIn_r _ [6, 7, 8, 9, 10, 11, 12, 13, 14, 15, 16, 17, 18, 19, 20, 21] (by decide +kernel) (by decide +kernel)
set_option maxRecDepth 20000 in
theorem gX5_pass_X5_goesWell : GoodIn wsX5_pass (wsV RX5 68 RX5 yX5_goesWell wsX5_goesWell) := goodIn_app (goodIn_of _ (by decide +kernel)) ggX5_pass_X5_goesWell
theorem dX5_pass_0 : decode cX5_pass 0 = .ok (.aload_n 0, 1) := by decide +kernel
theorem dX5_pass_1 : decode cX5_pass 1 = .ok (.iload_n 1, 1) := by decide +kernel
theorem dX5_pass_2 : decode cX5_pass 2 = .ok (.iconst 1, 1) := by decide +kernel
theorem dX5_pass_3 : decode cX5_pass 3 = .ok (.if_icmp .lt 14, 3) := by decide +kernel
theorem dX5_pass_6 : decode cX5_pass 6 = .ok (.iload_n 1, 1) := by decide +kernel
theorem dX5_pass_7 : decode cX5_pass 7 = .ok (.sipush 1000, 3) := by decide +kernel
theorem dX5_pass_10 : decode cX5_pass 10 = .ok (.if_icmp .gt 7, 3) := by decide +kernel
theorem dX5_pass_13 : decode cX5_pass 13 = .ok (.iconst 0, 1) := by decide +kernel
theorem dX5_pass_14 : decode cX5_pass 14 = .ok (.goto 4, 3) := by decide +kernel
theorem dX5_pass_17 : decode cX5_pass 17 = .ok (.iconst 1, 1) := by decide +kernel
theorem dX5_pass_18 : decode cX5_pass 18 = .ok (.invokevirtual 68, 3) := by decide +kernel
theorem dX5_pass_21 : decode cX5_pass 21 = .ok (.ifCond .ne 5, 3) := by decide +kernel
theorem dX5_pass_24 : decode cX5_pass 24 = .ok (.iconst 0, 1) := by decide +kernel
theorem dX5_pass_25 : decode cX5_pass 25 = .ok (.ireturn, 1) := by decide +kernel
theorem dX5_pass_26 : decode cX5_pass 26 = .ok (.aload_n 0, 1) := by decide +kernel
theorem dX5_pass_27 : decode cX5_pass 27 = .ok (.dup, 1) := by decide +kernel
theorem dX5_pass_28 : decode cX5_pass 28 = .ok (.getfield 71, 3) := by decide +kernel
theorem dX5_pass_31 : decode cX5_pass 31 = .ok (.iload_n 1, 1) := by decide +kernel
theorem dX5_pass_32 : decode cX5_pass 32 = .ok (.iadd, 1) := by decide +kernel
theorem dX5_pass_33 : decode cX5_pass 33 = .ok (.putfield 71, 3) := by decide +kernel
theorem dX5_pass_36 : decode cX5_pass 36 = .ok (.aload_n 0, 1) := by decide +kernel
theorem dX5_pass_37 : decode cX5_pass 37 = .ok (.getfield 71, 3) := by decide +kernel
theorem dX5_pass_40 : decode cX5_pass 40 = .ok (.ireturn, 1) := by decide +kernel
theorem dX5_clock_0 : decode cX5_clock 0 = .ok (.aload_n 0, 1) := by decide +kernel
theorem dX5_clock_1 : decode cX5_clock 1 = .ok (.iconst 0, 1) := by decide +kernel
theorem dX5_clock_2 : decode cX5_clock 2 = .ok (.putfield 43, 3) := by decide +kernel
theorem dX5_clock_5 : decode cX5_clock 5 = .ok (.aload_n 0, 1) := by decide +kernel
theorem dX5_clock_6 : decode cX5_clock 6 = .ok (.getfield 71, 3) := by decide +kernel
theorem dX5_clock_9 : decode cX5_clock 9 = .ok (.ireturn, 1) := by decide +kernel
set_option maxRecDepth 20000 in
theorem ggX5_plain_X5_isBasket : GoodIn wsX5_plain wsX5_isBasket := goodIn_r _ [4] (by decide +kernel) (by decide +kernel)
set_option maxRecDepth 20000 in
theorem gX5_plain_X5_isBasket : GoodIn wsX5_plain (va_wsS RX5 61 yX5_isBasket wsX5_isBasket) := goodIn_app (goodIn_of _ (by decide +kernel)) ggX5_plain_X5_isBasket
set_option maxRecDepth 20000 in
theorem ggX5_plain_X5_goesWell : GoodIn wsX5_plain wsX5_goesWell := goodIn_r _ [8, 9, 22, 23, 24, 25, 26, 27, 28, 29, 30, 31, 32, 33, 34, 35] (by decide +kernel) (by decide +kernel)
set_option maxRecDepth 20000 in
theorem gX5_plain_X5_goesWell : GoodIn wsX5_plain (wsV RX5 68 RX5 yX5_goesWell wsX5_goesWell) := goodIn_app (goodIn_of _ (by decide +kernel)) ggX5_plain_X5_goesWell
set_option maxRecDepth 20000 in
theorem ggX5_plain_X5_count : GoodIn wsX5_plain wsX5_count := goodIn_r _ [13, 14, 15, 16, 17, 18, 3, 19, 20, 21, 22, 23, 24, 25, 26, 27, 28, 29, 30, 31, 32, 33, 34, 35] (by decide +kernel) (by decide +kernel)
set_option maxRecDepth 20000 in
theorem gX5_plain_X5_count : GoodIn wsX5_plain (wsV RX5 78 RX5 yX5_count wsX5_count) := goodIn_app (goodIn_of _ (by decide +kernel)) ggX5_plain_X5_count
theorem dX5_plain_0 : decode cX5_plain 0 = .ok (.aload_n 0, 1) := by decide +kernel
theorem dX5_plain_1 : decode cX5_plain 1 = .ok (.iload_n 1, 1) := by decide +kernel
theorem dX5_plain_2 : decode cX5_plain 2 = .ok (.invokestatic 61, 3) := by decide +kernel
theorem dX5_plain_5 : decode cX5_plain 5 = .ok (.ifCond .eq 7, 3) := by decide +kernel
theorem dX5_plain_8 : decode cX5_plain 8 = .ok (.iconst 0, 1) := by decide +kernel
theorem dX5_plain_9 : decode cX5_plain 9 = .ok (.goto 4, 3) := by decide +kernel
theorem dX5_plain_12 : decode cX5_plain 12 = .ok (.iconst 1, 1) := by decide +kernel
theorem dX5_plain_13 : decode cX5_plain 13 = .ok (.invokevirtual 68, 3) := by decide +kernel
theorem dX5_plain_16 : decode cX5_plain 16 = .ok (.ifCond .eq 11, 3) := by decide +kernel
theorem dX5_plain_19 : decode cX5_plain 19 = .ok (.aload_n 0, 1) := by decide +kernel
theorem dX5_plain_20 : decode cX5_plain 20 = .ok (.iload_n 1, 1) := by decide +kernel
theorem dX5_plain_21 : decode cX5_plain 21 = .ok (.invokevirtual 78, 3) := by decide +kernel
theorem dX5_plain_24 : decode cX5_plain 24 = .ok (.goto 4, 3) := by decide +kernel
theorem dX5_plain_27 : decode cX5_plain 27 = .ok (.iconst 0, 1) := by decide +kernel
theorem dX5_plain_28 : decode cX5_plain 28 = .ok (.ireturn, 1) := by decide +kernel
set_option maxRecDepth 20000 in
theorem ggX5_plainCommon_X5_isBasket : GoodIn wsX5_plainCommon wsX5_isBasket := goodIn_r _ [6] (by decide +kernel) (by decide +kernel)
set_option maxRecDepth 20000 in
theorem gX5_plainCommon_X5_isBasket : GoodIn wsX5_plainCommon (va_wsS RX5 61 yX5_isBasket wsX5_isBasket) := goodIn_app (goodIn_of _ (by decide +kernel)) ggX5_plainCommon_X5_isBasket
set_option maxRecDepth 20000 in
theorem ggX5_plainCommon_X5_goesWell : GoodIn wsX5_plainCommon wsX5_goesWell := goodIn_r _ [10, 11, 18, 19, 20, 21, 22, 23, 24, 25, 26, 27, 28, 29, 30, 31] (by decide +kernel) (by decide +kernel)
set_option maxRecDepth 20000 in
theorem gX5_plainCommon_X5_goesWell : GoodIn wsX5_plainCommon (wsV RX5 68 RX5 yX5_goesWell wsX5_goesWell) := goodIn_app (goodIn_of _ (by decide +kernel)) ggX5_plainCommon_X5_goesWell
set_option maxRecDepth 20000 in
theorem ggX5_plainCommon_X5_has : GoodIn wsX5_plainCommon wsX5_has := goodIn_r _ [15, 16, 17, 18, 19, 20, 21, 22, 23, 24, 25, 26, 27, 28, 29, 30, 31] (by decide +kernel) (by decide +kernel)
set_option maxRecDepth 20000 in
theorem gX5_plainCommon_X5_has : GoodIn wsX5_plainCommon (wsV RX5 54 RX5 yX5_has wsX5_has) := goodIn_app (goodIn_of _ (by decide +kernel)) ggX5_plainCommon_X5_has
theorem dX5_plainCommon_0 : decode cX5_plainCommon 0 = .ok (.aload_n 0, 1) := by decide +kernel
theorem dX5_plainCommon_1 : decode cX5_plainCommon 1 = .ok (.iload_n 1, 1) := by decide +kernel
theorem dX5_plainCommon_2 : decode cX5_plainCommon 2 = .ok (.invokestatic 61, 3) := by decide +kernel
theorem dX5_plainCommon_5 : decode cX5_plainCommon 5 = .ok (.ifCond .eq 14, 3) := by decide +kernel
theorem dX5_plainCommon_8 : decode cX5_plainCommon 8 = .ok (.iload_n 2, 1) := by decide +kernel
theorem dX5_plainCommon_9 : decode cX5_plainCommon 9 = .ok (.invokestatic 61, 3) := by decide +kernel
theorem dX5_plainCommon_12 : decode cX5_plainCommon 12 = .ok (.ifCond .eq 7, 3) := by decide +kernel
theorem dX5_plainCommon_15 : decode cX5_plainCommon 15 = .ok (.iconst 0, 1) := by decide +kernel
theorem dX5_plainCommon_16 : decode cX5_plainCommon 16 = .ok (.goto 4, 3) := by decide +kernel
theorem dX5_plainCommon_19 : decode cX5_plainCommon 19 = .ok (.iconst 1, 1) := by decide +kernel
theorem dX5_plainCommon_20 : decode cX5_plainCommon 20 = .ok (.invokevirtual 68, 3) := by decide +kernel
theorem dX5_plainCommon_23 : decode cX5_plainCommon 23 = .ok (.ifCond .ne 5, 3) := by decide +kernel
theorem dX5_plainCommon_26 : decode cX5_plainCommon 26 = .ok (.iconst 0, 1) := by decide +kernel
theorem dX5_plainCommon_27 : decode cX5_plainCommon 27 = .ok (.ireturn, 1) := by decide +kernel
theorem dX5_plainCommon_28 : decode cX5_plainCommon 28 = .ok (.iconst 0, 1) := by decide +kernel
theorem dX5_plainCommon_29 : decode cX5_plainCommon 29 = .ok (.istore_n 3, 1) := by decide +kernel
theorem dX5_plainCommon_30 : decode cX5_plainCommon 30 = .ok (.iconst 0, 1) := by decide +kernel
theorem dX5_plainCommon_31 : decode cX5_plainCommon 31 = .ok (.istore 4, 2) := by decide +kernel
theorem dX5_plainCommon_33 : decode cX5_plainCommon 33 = .ok (.iload 4, 2) := by decide +kernel
theorem dX5_plainCommon_35 : decode cX5_plainCommon 35 = .ok (.aload_n 0, 1) := by decide +kernel
theorem dX5_plainCommon_36 : decode cX5_plainCommon 36 = .ok (.getfield 58, 3) := by decide +kernel
theorem dX5_plainCommon_39 : decode cX5_plainCommon 39 = .ok (.if_icmp .ge 47, 3) := by decide +kernel
theorem dX5_plainCommon_42 : decode cX5_plainCommon 42 = .ok (.iload_n 3, 1) := by decide +kernel
theorem dX5_plainCommon_43 : decode cX5_plainCommon 43 = .ok (.aload_n 0, 1) := by decide +kernel
theorem dX5_plainCommon_44 : decode cX5_plainCommon 44 = .ok (.iload_n 1, 1) := by decide +kernel
theorem dX5_plainCommon_45 : decode cX5_plainCommon 45 = .ok (.aload_n 0, 1) := by decide +kernel
theorem dX5_plainCommon_46 : decode cX5_plainCommon 46 = .ok (.getfield 15, 3) := by decide +kernel
theorem dX5_plainCommon_49 : decode cX5_plainCommon 49 = .ok (.iload 4, 2) := by decide +kernel
theorem dX5_plainCommon_51 : decode cX5_plainCommon 51 = .ok (.iaload, 1) := by decide +kernel
theorem dX5_plainCommon_52 : decode cX5_plainCommon 52 = .ok (.invokevirtual 54, 3) := by decide +kernel
theorem dX5_plainCommon_55 : decode cX5_plainCommon 55 = .ok (.ifCond .eq 22, 3) := by decide +kernel
theorem dX5_plainCommon_58 : decode cX5_plainCommon 58 = .ok (.aload_n 0, 1) := by decide +kernel
theorem dX5_plainCommon_59 : decode cX5_plainCommon 59 = .ok (.iload_n 2, 1) := by decide +kernel
theorem dX5_plainCommon_60 : decode cX5_plainCommon 60 = .ok (.aload_n 0, 1) := by decide +kernel
theorem dX5_plainCommon_61 : decode cX5_plainCommon 61 = .ok (.getfield 15, 3) := by decide +kernel
theorem dX5_plainCommon_64 : decode cX5_plainCommon 64 = .ok (.iload 4, 2) := by decide +kernel
theorem dX5_plainCommon_66 : decode cX5_plainCommon 66 = .ok (.iaload, 1) := by decide +kernel
theorem dX5_plainCommon_67 : decode cX5_plainCommon 67 = .ok (.invokevirtual 54, 3) := by decide +kernel
theorem dX5_plainCommon_70 : decode cX5_plainCommon 70 = .ok (.ifCond .eq 7, 3) := by decide +kernel
theorem dX5_plainCommon_73 : decode cX5_plainCommon 73 = .ok (.iconst 1, 1) := by decide +kernel
theorem dX5_plainCommon_74 : decode cX5_plainCommon 74 = .ok (.goto 4, 3) := by decide +kernel
theorem dX5_plainCommon_77 : decode cX5_plainCommon 77 = .ok (.iconst 0, 1) := by decide +kernel
theorem dX5_plainCommon_78 : decode cX5_plainCommon 78 = .ok (.iadd, 1) := by decide +kernel
theorem dX5_plainCommon_79 : decode cX5_plainCommon 79 = .ok (.istore_n 3, 1) := by decide +kernel
theorem dX5_plainCommon_80 : decode cX5_plainCommon 80 = .ok (.iinc 4 1, 3) := by decide +kernel
theorem dX5_plainCommon_83 : decode cX5_plainCommon 83 = .ok (.goto (-50), 3) := by decide +kernel
theorem dX5_plainCommon_86 : decode cX5_plainCommon 86 = .ok (.iload_n 3, 1) := by decide +kernel
theorem dX5_plainCommon_87 : decode cX5_plainCommon 87 = .ok (.ireturn, 1) := by decide +kernel
set_option maxRecDepth 20000 in
theorem ggX5_dateOf_X5_isBasket : GoodIn wsX5_dateOf wsX5_isBasket := goodIn_r _ [6] (by decide +kernel) (by decide +kernel)
set_option maxRecDepth 20000 in
theorem gX5_dateOf_X5_isBasket : GoodIn wsX5_dateOf (va_wsS RX5 61 yX5_isBasket wsX5_isBasket) := goodIn_app (goodIn_of _ (by decide +kernel)) ggX5_dateOf_X5_isBasket
set_option maxRecDepth 20000 in
theorem ggX5_dateOf_X5_isItem : GoodIn wsX5_dateOf wsX5_isItem := goodIn_r _ [9, 2] (by decide +kernel) (by decide +kernel)
set_option maxRecDepth 20000 in
theorem gX5_dateOf_X5_isItem : GoodIn wsX5_dateOf (va_wsS RX5 65 yX5_isItem wsX5_isItem) := goodIn_app (goodIn_of _ (by decide +kernel)) ggX5_dateOf_X5_isItem
set_option maxRecDepth 20000 in
theorem ggX5_dateOf_X5_goesWell : GoodIn wsX5_dateOf wsX5_goesWell := goodIn_r _ [13, 14, 15, 16, 17, 18, 19, 20, 21, 22, 23, 24, 25, 26, 27, 28] (by decide +kernel) (by decide +kernel)
set_option maxRecDepth 20000 in
theorem gX5_dateOf_X5_goesWell : GoodIn wsX5_dateOf (wsV RX5 68 RX5 yX5_goesWell wsX5_goesWell) := goodIn_app (goodIn_of _ (by decide +kernel)) ggX5_dateOf_X5_goesWell
theorem dX5_dateOf_0 : decode cX5_dateOf 0 = .ok (.aload_n 0, 1) := by decide +kernel
theorem dX5_dateOf_1 : decode cX5_dateOf 1 = .ok (.iload_n 1, 1) := by decide +kernel
theorem dX5_dateOf_2 : decode cX5_dateOf 2 = .ok (.invokestatic 61, 3) := by decide +kernel
theorem dX5_dateOf_5 : decode cX5_dateOf 5 = .ok (.ifCond .ne 7, 3) := by decide +kernel
theorem dX5_dateOf_8 : decode cX5_dateOf 8 = .ok (.iconst 1, 1) := by decide +kernel
theorem dX5_dateOf_9 : decode cX5_dateOf 9 = .ok (.goto 15, 3) := by decide +kernel
theorem dX5_dateOf_12 : decode cX5_dateOf 12 = .ok (.iload_n 2, 1) := by decide +kernel
theorem dX5_dateOf_13 : decode cX5_dateOf 13 = .ok (.invokestatic 65, 3) := by decide +kernel
theorem dX5_dateOf_16 : decode cX5_dateOf 16 = .ok (.ifCond .eq 7, 3) := by decide +kernel
theorem dX5_dateOf_19 : decode cX5_dateOf 19 = .ok (.iconst 0, 1) := by decide +kernel
theorem dX5_dateOf_20 : decode cX5_dateOf 20 = .ok (.goto 4, 3) := by decide +kernel
theorem dX5_dateOf_23 : decode cX5_dateOf 23 = .ok (.iconst 2, 1) := by decide +kernel
theorem dX5_dateOf_24 : decode cX5_dateOf 24 = .ok (.invokevirtual 68, 3) := by decide +kernel
theorem dX5_dateOf_27 : decode cX5_dateOf 27 = .ok (.ifCond .eq 17, 3) := by decide +kernel
theorem dX5_dateOf_30 : decode cX5_dateOf 30 = .ok (.aload_n 0, 1) := by decide +kernel
theorem dX5_dateOf_31 : decode cX5_dateOf 31 = .ok (.getfield 8, 3) := by decide +kernel
theorem dX5_dateOf_34 : decode cX5_dateOf 34 = .ok (.ldc 14, 2) := by decide +kernel
theorem dX5_dateOf_36 : decode cX5_dateOf 36 = .ok (.iload_n 1, 1) := by decide +kernel
theorem dX5_dateOf_37 : decode cX5_dateOf 37 = .ok (.imul, 1) := by decide +kernel
theorem dX5_dateOf_38 : decode cX5_dateOf 38 = .ok (.iload_n 2, 1) := by decide +kernel
theorem dX5_dateOf_39 : decode cX5_dateOf 39 = .ok (.iadd, 1) := by decide +kernel
theorem dX5_dateOf_40 : decode cX5_dateOf 40 = .ok (.iaload, 1) := by decide +kernel
theorem dX5_dateOf_41 : decode cX5_dateOf 41 = .ok (.goto 4, 3) := by decide +kernel
theorem dX5_dateOf_44 : decode cX5_dateOf 44 = .ok (.iconst 0, 1) := by decide +kernel
theorem dX5_dateOf_45 : decode cX5_dateOf 45 = .ok (.ireturn, 1) := by decide +kernel
set_option maxRecDepth 20000 in
theorem ggX5_hash_X5_isItem : GoodIn wsX5_hash wsX5_isItem := goodIn_r _ [4, 5] (by decide +kernel) (by decide +kernel)
set_option maxRecDepth 20000 in
theorem gX5_hash_X5_isItem : GoodIn wsX5_hash (va_wsS RX5 65 yX5_isItem wsX5_isItem) := goodIn_app (goodIn_of _ (by decide +kernel)) ggX5_hash_X5_isItem
set_option maxRecDepth 20000 in
theorem ggX5_hash_X5_goesWell : GoodIn wsX5_hash wsX5_goesWell := goodIn_r _ [9, 10, 18, 19, 20, 21, 22, 23, 24, 25, 26, 27, 28, 29, 30, 31] (by decide +kernel) (by decide +kernel)
set_option maxRecDepth 20000 in
theorem gX5_hash_X5_goesWell : GoodIn wsX5_hash (wsV RX5 68 RX5 yX5_goesWell wsX5_goesWell) := goodIn_app (goodIn_of _ (by decide +kernel)) ggX5_hash_X5_goesWell
set_option maxRecDepth 20000 in
theorem ggX5_hash_X5_hashOf : GoodIn wsX5_hash wsX5_hashOf := goodIn_r _ [13, 14, 15, 16, 17] (by decide +kernel) (by decide +kernel)
set_option maxRecDepth 20000 in
theorem gX5_hash_X5_hashOf : GoodIn wsX5_hash (va_wsS RX5 82 yX5_hashOf wsX5_hashOf) := goodIn_app (goodIn_of _ (by decide +kernel)) ggX5_hash_X5_hashOf
theorem dX5_hash_0 : decode cX5_hash 0 = .ok (.aload_n 0, 1) := by decide +kernel
theorem dX5_hash_1 : decode cX5_hash 1 = .ok (.iload_n 1, 1) := by decide +kernel
theorem dX5_hash_2 : decode cX5_hash 2 = .ok (.invokestatic 65, 3) := by decide +kernel
theorem dX5_hash_5 : decode cX5_hash 5 = .ok (.ifCond .eq 7, 3) := by decide +kernel
theorem dX5_hash_8 : decode cX5_hash 8 = .ok (.iconst 0, 1) := by decide +kernel
theorem dX5_hash_9 : decode cX5_hash 9 = .ok (.goto 4, 3) := by decide +kernel
theorem dX5_hash_12 : decode cX5_hash 12 = .ok (.iconst 1, 1) := by decide +kernel
theorem dX5_hash_13 : decode cX5_hash 13 = .ok (.invokevirtual 68, 3) := by decide +kernel
theorem dX5_hash_16 : decode cX5_hash 16 = .ok (.ifCond .eq 10, 3) := by decide +kernel
theorem dX5_hash_19 : decode cX5_hash 19 = .ok (.iload_n 1, 1) := by decide +kernel
theorem dX5_hash_20 : decode cX5_hash 20 = .ok (.invokestatic 82, 3) := by decide +kernel
theorem dX5_hash_23 : decode cX5_hash 23 = .ok (.goto 4, 3) := by decide +kernel
theorem dX5_hash_26 : decode cX5_hash 26 = .ok (.iconst 0, 1) := by decide +kernel
theorem dX5_hash_27 : decode cX5_hash 27 = .ok (.ireturn, 1) := by decide +kernel
theorem dX5_most_0 : decode cX5_most 0 = .ok (.aload_n 0, 1) := by decide +kernel
theorem dX5_most_1 : decode cX5_most 1 = .ok (.iconst 0, 1) := by decide +kernel
theorem dX5_most_2 : decode cX5_most 2 = .ok (.putfield 43, 3) := by decide +kernel
theorem dX5_most_5 : decode cX5_most 5 = .ok (.aload_n 0, 1) := by decide +kernel
theorem dX5_most_6 : decode cX5_most 6 = .ok (.getfield 39, 3) := by decide +kernel
theorem dX5_most_9 : decode cX5_most 9 = .ok (.ireturn, 1) := by decide +kernel
set_option maxRecDepth 20000 in
theorem ggX5_above_X5_hashOf : GoodIn wsX5_above wsX5_hashOf := goodIn_r _ [6, 7, 8, 9, 10] (by decide +kernel) (by decide +kernel)
set_option maxRecDepth 20000 in
theorem gX5_above_X5_hashOf : GoodIn wsX5_above (va_wsS RX5 82 yX5_hashOf wsX5_hashOf) := goodIn_app (goodIn_of _ (by decide +kernel)) ggX5_above_X5_hashOf
set_option maxRecDepth 20000 in
theorem ggX5_above_X5_has : GoodIn wsX5_above wsX5_has := goodIn_r _ [14, 15, 16, 17, 18, 19, 20, 21, 22, 23, 24, 25, 26, 27, 28, 29, 30] (by decide +kernel) (by decide +kernel)
set_option maxRecDepth 20000 in
theorem gX5_above_X5_has : GoodIn wsX5_above (wsV RX5 54 RX5 yX5_has wsX5_has) := goodIn_app (goodIn_of _ (by decide +kernel)) ggX5_above_X5_has
theorem dX5_above_0 : decode cX5_above 0 = .ok (.iconst (-1), 1) := by decide +kernel
theorem dX5_above_1 : decode cX5_above 1 = .ok (.istore_n 3, 1) := by decide +kernel
theorem dX5_above_2 : decode cX5_above 2 = .ok (.iconst 0, 1) := by decide +kernel
theorem dX5_above_3 : decode cX5_above 3 = .ok (.istore 4, 2) := by decide +kernel
theorem dX5_above_5 : decode cX5_above 5 = .ok (.iload 4, 2) := by decide +kernel
theorem dX5_above_7 : decode cX5_above 7 = .ok (.aload_n 0, 1) := by decide +kernel
theorem dX5_above_8 : decode cX5_above 8 = .ok (.getfield 58, 3) := by decide +kernel
theorem dX5_above_11 : decode cX5_above 11 = .ok (.if_icmp .ge 72, 3) := by decide +kernel
theorem dX5_above_14 : decode cX5_above 14 = .ok (.aload_n 0, 1) := by decide +kernel
theorem dX5_above_15 : decode cX5_above 15 = .ok (.getfield 15, 3) := by decide +kernel
theorem dX5_above_18 : decode cX5_above 18 = .ok (.iload 4, 2) := by decide +kernel
theorem dX5_above_20 : decode cX5_above 20 = .ok (.iaload, 1) := by decide +kernel
theorem dX5_above_21 : decode cX5_above 21 = .ok (.invokestatic 82, 3) := by decide +kernel
theorem dX5_above_24 : decode cX5_above 24 = .ok (.istore 5, 2) := by decide +kernel
theorem dX5_above_26 : decode cX5_above 26 = .ok (.aload_n 0, 1) := by decide +kernel
theorem dX5_above_27 : decode cX5_above 27 = .ok (.iload_n 1, 1) := by decide +kernel
theorem dX5_above_28 : decode cX5_above 28 = .ok (.aload_n 0, 1) := by decide +kernel
theorem dX5_above_29 : decode cX5_above 29 = .ok (.getfield 15, 3) := by decide +kernel
theorem dX5_above_32 : decode cX5_above 32 = .ok (.iload 4, 2) := by decide +kernel
theorem dX5_above_34 : decode cX5_above 34 = .ok (.iaload, 1) := by decide +kernel
theorem dX5_above_35 : decode cX5_above 35 = .ok (.invokevirtual 54, 3) := by decide +kernel
theorem dX5_above_38 : decode cX5_above 38 = .ok (.ifCond .eq 24, 3) := by decide +kernel
theorem dX5_above_41 : decode cX5_above 41 = .ok (.iload 5, 2) := by decide +kernel
theorem dX5_above_43 : decode cX5_above 43 = .ok (.iload_n 2, 1) := by decide +kernel
theorem dX5_above_44 : decode cX5_above 44 = .ok (.if_icmp .le 18, 3) := by decide +kernel
theorem dX5_above_47 : decode cX5_above 47 = .ok (.iload_n 3, 1) := by decide +kernel
theorem dX5_above_48 : decode cX5_above 48 = .ok (.iconst (-1), 1) := by decide +kernel
theorem dX5_above_49 : decode cX5_above 49 = .ok (.if_icmp .eq 9, 3) := by decide +kernel
theorem dX5_above_52 : decode cX5_above 52 = .ok (.iload 5, 2) := by decide +kernel
theorem dX5_above_54 : decode cX5_above 54 = .ok (.iload_n 3, 1) := by decide +kernel
theorem dX5_above_55 : decode cX5_above 55 = .ok (.if_icmp .ge 7, 3) := by decide +kernel
theorem dX5_above_58 : decode cX5_above 58 = .ok (.iconst 1, 1) := by decide +kernel
theorem dX5_above_59 : decode cX5_above 59 = .ok (.goto 4, 3) := by decide +kernel
theorem dX5_above_62 : decode cX5_above 62 = .ok (.iconst 0, 1) := by decide +kernel
theorem dX5_above_63 : decode cX5_above 63 = .ok (.istore 6, 2) := by decide +kernel
theorem dX5_above_65 : decode cX5_above 65 = .ok (.iload 6, 2) := by decide +kernel
theorem dX5_above_67 : decode cX5_above 67 = .ok (.ifCond .eq 8, 3) := by decide +kernel
theorem dX5_above_70 : decode cX5_above 70 = .ok (.iload 5, 2) := by decide +kernel
theorem dX5_above_72 : decode cX5_above 72 = .ok (.goto 4, 3) := by decide +kernel
theorem dX5_above_75 : decode cX5_above 75 = .ok (.iload_n 3, 1) := by decide +kernel
theorem dX5_above_76 : decode cX5_above 76 = .ok (.istore_n 3, 1) := by decide +kernel
theorem dX5_above_77 : decode cX5_above 77 = .ok (.iinc 4 1, 3) := by decide +kernel
theorem dX5_above_80 : decode cX5_above 80 = .ok (.goto (-75), 3) := by decide +kernel
theorem dX5_above_83 : decode cX5_above 83 = .ok (.iload_n 3, 1) := by decide +kernel
theorem dX5_above_84 : decode cX5_above 84 = .ok (.ireturn, 1) := by decide +kernel
set_option maxRecDepth 20000 in
theorem ggX5_layKept_X5_above : GoodIn wsX5_layKept wsX5_above := goodIn_r _ [7, 8, 9, 10, 11, 6, 12, 13, 14, 15, 16, 17, 18, 19, 20, 21, 22, 23, 24, 25, 26, 27, 28, 29, 30, 31, 32, 33, 34, 35, 36] (by decide +kernel) (by decide +kernel)
set_option maxRecDepth 20000 in
theorem gX5_layKept_X5_above : GoodIn wsX5_layKept (wsV RX5 85 RX5 yX5_above wsX5_above) := goodIn_app (goodIn_of _ (by decide +kernel)) ggX5_layKept_X5_above
theorem dX5_layKept_0 : decode cX5_layKept 0 = .ok (.iconst 0, 1) := by decide +kernel
theorem dX5_layKept_1 : decode cX5_layKept 1 = .ok (.istore_n 2, 1) := by decide +kernel
theorem dX5_layKept_2 : decode cX5_layKept 2 = .ok (.aload_n 0, 1) := by decide +kernel
theorem dX5_layKept_3 : decode cX5_layKept 3 = .ok (.iload_n 1, 1) := by decide +kernel
theorem dX5_layKept_4 : decode cX5_layKept 4 = .ok (.iconst (-1), 1) := by decide +kernel
theorem dX5_layKept_5 : decode cX5_layKept 5 = .ok (.invokevirtual 85, 3) := by decide +kernel
theorem dX5_layKept_8 : decode cX5_layKept 8 = .ok (.istore_n 3, 1) := by decide +kernel
theorem dX5_layKept_9 : decode cX5_layKept 9 = .ok (.iload_n 3, 1) := by decide +kernel
theorem dX5_layKept_10 : decode cX5_layKept 10 = .ok (.iconst (-1), 1) := by decide +kernel
theorem dX5_layKept_11 : decode cX5_layKept 11 = .ok (.if_icmp .eq 31, 3) := by decide +kernel
theorem dX5_layKept_14 : decode cX5_layKept 14 = .ok (.iload_n 2, 1) := by decide +kernel
theorem dX5_layKept_15 : decode cX5_layKept 15 = .ok (.aload_n 0, 1) := by decide +kernel
theorem dX5_layKept_16 : decode cX5_layKept 16 = .ok (.getfield 39, 3) := by decide +kernel
theorem dX5_layKept_19 : decode cX5_layKept 19 = .ok (.if_icmp .ge 23, 3) := by decide +kernel
theorem dX5_layKept_22 : decode cX5_layKept 22 = .ok (.aload_n 0, 1) := by decide +kernel
theorem dX5_layKept_23 : decode cX5_layKept 23 = .ok (.getfield 22, 3) := by decide +kernel
theorem dX5_layKept_26 : decode cX5_layKept 26 = .ok (.iload_n 2, 1) := by decide +kernel
theorem dX5_layKept_27 : decode cX5_layKept 27 = .ok (.iload_n 3, 1) := by decide +kernel
theorem dX5_layKept_28 : decode cX5_layKept 28 = .ok (.iastore, 1) := by decide +kernel
theorem dX5_layKept_29 : decode cX5_layKept 29 = .ok (.iinc 2 1, 3) := by decide +kernel
theorem dX5_layKept_32 : decode cX5_layKept 32 = .ok (.aload_n 0, 1) := by decide +kernel
theorem dX5_layKept_33 : decode cX5_layKept 33 = .ok (.iload_n 1, 1) := by decide +kernel
theorem dX5_layKept_34 : decode cX5_layKept 34 = .ok (.iload_n 3, 1) := by decide +kernel
theorem dX5_layKept_35 : decode cX5_layKept 35 = .ok (.invokevirtual 85, 3) := by decide +kernel
theorem dX5_layKept_38 : decode cX5_layKept 38 = .ok (.istore_n 3, 1) := by decide +kernel
theorem dX5_layKept_39 : decode cX5_layKept 39 = .ok (.goto (-30), 3) := by decide +kernel
theorem dX5_layKept_42 : decode cX5_layKept 42 = .ok (.iload_n 2, 1) := by decide +kernel
theorem dX5_layKept_43 : decode cX5_layKept 43 = .ok (.ireturn, 1) := by decide +kernel
theorem dX5_estimate_0 : decode cX5_estimate 0 = .ok (.iload_n 1, 1) := by decide +kernel
theorem dX5_estimate_1 : decode cX5_estimate 1 = .ok (.aload_n 0, 1) := by decide +kernel
theorem dX5_estimate_2 : decode cX5_estimate 2 = .ok (.getfield 39, 3) := by decide +kernel
theorem dX5_estimate_5 : decode cX5_estimate 5 = .ok (.if_icmp .ge 8, 3) := by decide +kernel
theorem dX5_estimate_8 : decode cX5_estimate 8 = .ok (.iload_n 1, 1) := by decide +kernel
theorem dX5_estimate_9 : decode cX5_estimate 9 = .ok (.i2l, 1) := by decide +kernel
theorem dX5_estimate_10 : decode cX5_estimate 10 = .ok (.goto 17, 3) := by decide +kernel
theorem dX5_estimate_13 : decode cX5_estimate 13 = .ok (.aload_n 0, 1) := by decide +kernel
theorem dX5_estimate_14 : decode cX5_estimate 14 = .ok (.getfield 39, 3) := by decide +kernel
theorem dX5_estimate_17 : decode cX5_estimate 17 = .ok (.i2l, 1) := by decide +kernel
theorem dX5_estimate_18 : decode cX5_estimate 18 = .ok (.lconst 1, 1) := by decide +kernel
theorem dX5_estimate_19 : decode cX5_estimate 19 = .ok (.lsub, 1) := by decide +kernel
theorem dX5_estimate_20 : decode cX5_estimate 20 = .ok (.ldc2_w 52, 3) := by decide +kernel
theorem dX5_estimate_23 : decode cX5_estimate 23 = .ok (.lmul, 1) := by decide +kernel
theorem dX5_estimate_24 : decode cX5_estimate 24 = .ok (.iload_n 2, 1) := by decide +kernel
theorem dX5_estimate_25 : decode cX5_estimate 25 = .ok (.i2l, 1) := by decide +kernel
theorem dX5_estimate_26 : decode cX5_estimate 26 = .ok (.ldiv, 1) := by decide +kernel
theorem dX5_estimate_27 : decode cX5_estimate 27 = .ok (.lreturn, 1) := by decide +kernel
set_option maxRecDepth 20000 in
theorem ggX5_kept_X5_isBasket : GoodIn wsX5_kept wsX5_isBasket := goodIn_r _ [4] (by decide +kernel) (by decide +kernel)
set_option maxRecDepth 20000 in
theorem gX5_kept_X5_isBasket : GoodIn wsX5_kept (va_wsS RX5 61 yX5_isBasket wsX5_isBasket) := goodIn_app (goodIn_of _ (by decide +kernel)) ggX5_kept_X5_isBasket
set_option maxRecDepth 20000 in
theorem ggX5_kept_X5_goesWell : GoodIn wsX5_kept wsX5_goesWell := goodIn_r _ [8, 9, 35, 36, 37, 38, 39, 40, 41, 42, 43, 44, 45, 46, 47, 48] (by decide +kernel) (by decide +kernel)
set_option maxRecDepth 20000 in
theorem gX5_kept_X5_goesWell : GoodIn wsX5_kept (wsV RX5 68 RX5 yX5_goesWell wsX5_goesWell) := goodIn_app (goodIn_of _ (by decide +kernel)) ggX5_kept_X5_goesWell
set_option maxRecDepth 20000 in
theorem ggX5_kept_X5_layKept : GoodIn wsX5_kept wsX5_layKept := goodIn_r _ [13, 14, 15, 16, 17, 18, 3, 19, 20, 21, 22, 23, 24, 25, 26, 27, 28, 29, 30, 31, 32, 33, 34, 35, 36, 37, 38, 39, 40, 41, 42, 43, 44, 45, 46, 47, 48] (by decide +kernel) (by decide +kernel)
set_option maxRecDepth 20000 in
theorem gX5_kept_X5_layKept : GoodIn wsX5_kept (wsV RX5 89 RX5 yX5_layKept wsX5_layKept) := goodIn_app (goodIn_of _ (by decide +kernel)) ggX5_kept_X5_layKept
theorem dX5_kept_0 : decode cX5_kept 0 = .ok (.aload_n 0, 1) := by decide +kernel
theorem dX5_kept_1 : decode cX5_kept 1 = .ok (.iload_n 1, 1) := by decide +kernel
theorem dX5_kept_2 : decode cX5_kept 2 = .ok (.invokestatic 61, 3) := by decide +kernel
theorem dX5_kept_5 : decode cX5_kept 5 = .ok (.ifCond .eq 7, 3) := by decide +kernel
theorem dX5_kept_8 : decode cX5_kept 8 = .ok (.iconst 0, 1) := by decide +kernel
theorem dX5_kept_9 : decode cX5_kept 9 = .ok (.goto 4, 3) := by decide +kernel
theorem dX5_kept_12 : decode cX5_kept 12 = .ok (.iconst 1, 1) := by decide +kernel
theorem dX5_kept_13 : decode cX5_kept 13 = .ok (.invokevirtual 68, 3) := by decide +kernel
theorem dX5_kept_16 : decode cX5_kept 16 = .ok (.ifCond .eq 11, 3) := by decide +kernel
theorem dX5_kept_19 : decode cX5_kept 19 = .ok (.aload_n 0, 1) := by decide +kernel
theorem dX5_kept_20 : decode cX5_kept 20 = .ok (.iload_n 1, 1) := by decide +kernel
theorem dX5_kept_21 : decode cX5_kept 21 = .ok (.invokevirtual 89, 3) := by decide +kernel
theorem dX5_kept_24 : decode cX5_kept 24 = .ok (.goto 4, 3) := by decide +kernel
theorem dX5_kept_27 : decode cX5_kept 27 = .ok (.iconst 0, 1) := by decide +kernel
theorem dX5_kept_28 : decode cX5_kept 28 = .ok (.ireturn, 1) := by decide +kernel
set_option maxRecDepth 20000 in
theorem ggX5_keptAt_X5_isBasket : GoodIn wsX5_keptAt wsX5_isBasket := goodIn_r _ [5] (by decide +kernel) (by decide +kernel)
set_option maxRecDepth 20000 in
theorem gX5_keptAt_X5_isBasket : GoodIn wsX5_keptAt (va_wsS RX5 61 yX5_isBasket wsX5_isBasket) := goodIn_app (goodIn_of _ (by decide +kernel)) ggX5_keptAt_X5_isBasket
set_option maxRecDepth 20000 in
theorem ggX5_keptAt_X5_layKept : GoodIn wsX5_keptAt wsX5_layKept := goodIn_r _ [9, 10, 1, 11, 12, 13, 4, 14, 15, 16, 17, 18, 19, 20, 21, 22, 23, 24, 25, 26, 27, 28, 29, 35, 36, 37, 38, 39, 40, 41, 42, 43, 44, 45, 46, 47, 48] (by decide +kernel) (by decide +kernel)
set_option maxRecDepth 20000 in
theorem gX5_keptAt_X5_layKept : GoodIn wsX5_keptAt (wsV RX5 89 RX5 yX5_layKept wsX5_layKept) := goodIn_app (goodIn_of _ (by decide +kernel)) ggX5_keptAt_X5_layKept
set_option maxRecDepth 20000 in
theorem ggX5_keptAt_X5_goesWell : GoodIn wsX5_keptAt wsX5_goesWell := goodIn_r _ [33, 34, 35, 36, 37, 38, 39, 40, 41, 42, 43, 44, 45, 46, 47, 48] (by decide +kernel) (by decide +kernel)
set_option maxRecDepth 20000 in
theorem gX5_keptAt_X5_goesWell : GoodIn wsX5_keptAt (wsV RX5 68 RX5 yX5_goesWell wsX5_goesWell) := goodIn_app (goodIn_of _ (by decide +kernel)) ggX5_keptAt_X5_goesWell
theorem dX5_keptAt_0 : decode cX5_keptAt 0 = .ok (.iload_n 1, 1) := by decide +kernel
theorem dX5_keptAt_1 : decode cX5_keptAt 1 = .ok (.invokestatic 61, 3) := by decide +kernel
theorem dX5_keptAt_4 : decode cX5_keptAt 4 = .ok (.ifCond .eq 11, 3) := by decide +kernel
theorem dX5_keptAt_7 : decode cX5_keptAt 7 = .ok (.aload_n 0, 1) := by decide +kernel
theorem dX5_keptAt_8 : decode cX5_keptAt 8 = .ok (.iload_n 1, 1) := by decide +kernel
theorem dX5_keptAt_9 : decode cX5_keptAt 9 = .ok (.invokevirtual 89, 3) := by decide +kernel
theorem dX5_keptAt_12 : decode cX5_keptAt 12 = .ok (.goto 4, 3) := by decide +kernel
theorem dX5_keptAt_15 : decode cX5_keptAt 15 = .ok (.iconst 0, 1) := by decide +kernel
theorem dX5_keptAt_16 : decode cX5_keptAt 16 = .ok (.istore_n 3, 1) := by decide +kernel
theorem dX5_keptAt_17 : decode cX5_keptAt 17 = .ok (.aload_n 0, 1) := by decide +kernel
theorem dX5_keptAt_18 : decode cX5_keptAt 18 = .ok (.iload_n 2, 1) := by decide +kernel
theorem dX5_keptAt_19 : decode cX5_keptAt 19 = .ok (.ifCond .lt 12, 3) := by decide +kernel
theorem dX5_keptAt_22 : decode cX5_keptAt 22 = .ok (.iload_n 2, 1) := by decide +kernel
theorem dX5_keptAt_23 : decode cX5_keptAt 23 = .ok (.iload_n 3, 1) := by decide +kernel
theorem dX5_keptAt_24 : decode cX5_keptAt 24 = .ok (.if_icmp .ge 7, 3) := by decide +kernel
theorem dX5_keptAt_27 : decode cX5_keptAt 27 = .ok (.iconst 0, 1) := by decide +kernel
theorem dX5_keptAt_28 : decode cX5_keptAt 28 = .ok (.goto 4, 3) := by decide +kernel
theorem dX5_keptAt_31 : decode cX5_keptAt 31 = .ok (.iconst 1, 1) := by decide +kernel
theorem dX5_keptAt_32 : decode cX5_keptAt 32 = .ok (.invokevirtual 68, 3) := by decide +kernel
theorem dX5_keptAt_35 : decode cX5_keptAt 35 = .ok (.ifCond .eq 12, 3) := by decide +kernel
theorem dX5_keptAt_38 : decode cX5_keptAt 38 = .ok (.aload_n 0, 1) := by decide +kernel
theorem dX5_keptAt_39 : decode cX5_keptAt 39 = .ok (.getfield 22, 3) := by decide +kernel
theorem dX5_keptAt_42 : decode cX5_keptAt 42 = .ok (.iload_n 2, 1) := by decide +kernel
theorem dX5_keptAt_43 : decode cX5_keptAt 43 = .ok (.iaload, 1) := by decide +kernel
theorem dX5_keptAt_44 : decode cX5_keptAt 44 = .ok (.goto 4, 3) := by decide +kernel
theorem dX5_keptAt_47 : decode cX5_keptAt 47 = .ok (.iconst 0, 1) := by decide +kernel
theorem dX5_keptAt_48 : decode cX5_keptAt 48 = .ok (.ireturn, 1) := by decide +kernel
set_option maxRecDepth 20000 in
theorem ggX5_byLeast_X5_isBasket : GoodIn wsX5_byLeast wsX5_isBasket := goodIn_r _ [5] (by decide +kernel) (by decide +kernel)
set_option maxRecDepth 20000 in
theorem gX5_byLeast_X5_isBasket : GoodIn wsX5_byLeast (va_wsS RX5 61 yX5_isBasket wsX5_isBasket) := goodIn_app (goodIn_of _ (by decide +kernel)) ggX5_byLeast_X5_isBasket
set_option maxRecDepth 20000 in
theorem ggX5_byLeast_X5_goesWell : GoodIn wsX5_byLeast wsX5_goesWell := goodIn_r _ [9, 10, 39, 40, 41, 42, 43, 44, 45, 46, 47, 48, 49, 50, 51, 52] (by decide +kernel) (by decide +kernel)
set_option maxRecDepth 20000 in
theorem gX5_byLeast_X5_goesWell : GoodIn wsX5_byLeast (wsV RX5 68 RX5 yX5_goesWell wsX5_goesWell) := goodIn_app (goodIn_of _ (by decide +kernel)) ggX5_byLeast_X5_goesWell
set_option maxRecDepth 20000 in
theorem ggX5_byLeast_X5_layKept : GoodIn wsX5_byLeast wsX5_layKept := goodIn_r _ [14, 15, 1, 16, 17, 18, 4, 19, 20, 21, 22, 23, 24, 25, 26, 27, 28, 29, 30, 31, 32, 33, 34, 39, 40, 41, 42, 43, 44, 45, 46, 47, 48, 49, 50, 51, 52] (by decide +kernel) (by decide +kernel)
set_option maxRecDepth 20000 in
theorem gX5_byLeast_X5_layKept : GoodIn wsX5_byLeast (wsV RX5 89 RX5 yX5_layKept wsX5_layKept) := goodIn_app (goodIn_of _ (by decide +kernel)) ggX5_byLeast_X5_layKept
set_option maxRecDepth 20000 in
theorem ggX5_byLeast_X5_estimate : GoodIn wsX5_byLeast wsX5_estimate := goodIn_r _ [38, 15, 28, 39, 40, 41, 42, 43, 44, 45, 46, 47, 48, 49, 50, 51, 52] (by decide +kernel) (by decide +kernel)
set_option maxRecDepth 20000 in
theorem gX5_byLeast_X5_estimate : GoodIn wsX5_byLeast (wsV RX5 92 RX5 yX5_estimate wsX5_estimate) := goodIn_app (goodIn_of _ (by decide +kernel)) ggX5_byLeast_X5_estimate
theorem dX5_byLeast_0 : decode cX5_byLeast 0 = .ok (.aload_n 0, 1) := by decide +kernel
theorem dX5_byLeast_1 : decode cX5_byLeast 1 = .ok (.iload_n 1, 1) := by decide +kernel
theorem dX5_byLeast_2 : decode cX5_byLeast 2 = .ok (.invokestatic 61, 3) := by decide +kernel
theorem dX5_byLeast_5 : decode cX5_byLeast 5 = .ok (.ifCond .eq 7, 3) := by decide +kernel
theorem dX5_byLeast_8 : decode cX5_byLeast 8 = .ok (.iconst 0, 1) := by decide +kernel
theorem dX5_byLeast_9 : decode cX5_byLeast 9 = .ok (.goto 4, 3) := by decide +kernel
theorem dX5_byLeast_12 : decode cX5_byLeast 12 = .ok (.iconst 1, 1) := by decide +kernel
theorem dX5_byLeast_13 : decode cX5_byLeast 13 = .ok (.invokevirtual 68, 3) := by decide +kernel
theorem dX5_byLeast_16 : decode cX5_byLeast 16 = .ok (.ifCond .ne 5, 3) := by decide +kernel
theorem dX5_byLeast_19 : decode cX5_byLeast 19 = .ok (.iconst 0, 1) := by decide +kernel
theorem dX5_byLeast_20 : decode cX5_byLeast 20 = .ok (.ireturn, 1) := by decide +kernel
theorem dX5_byLeast_21 : decode cX5_byLeast 21 = .ok (.aload_n 0, 1) := by decide +kernel
theorem dX5_byLeast_22 : decode cX5_byLeast 22 = .ok (.iload_n 1, 1) := by decide +kernel
theorem dX5_byLeast_23 : decode cX5_byLeast 23 = .ok (.invokevirtual 89, 3) := by decide +kernel
theorem dX5_byLeast_26 : decode cX5_byLeast 26 = .ok (.istore_n 2, 1) := by decide +kernel
theorem dX5_byLeast_27 : decode cX5_byLeast 27 = .ok (.aload_n 0, 1) := by decide +kernel
theorem dX5_byLeast_28 : decode cX5_byLeast 28 = .ok (.iload_n 2, 1) := by decide +kernel
theorem dX5_byLeast_29 : decode cX5_byLeast 29 = .ok (.iload_n 2, 1) := by decide +kernel
theorem dX5_byLeast_30 : decode cX5_byLeast 30 = .ok (.ifCond .ne 7, 3) := by decide +kernel
theorem dX5_byLeast_33 : decode cX5_byLeast 33 = .ok (.iconst 1, 1) := by decide +kernel
theorem dX5_byLeast_34 : decode cX5_byLeast 34 = .ok (.goto 11, 3) := by decide +kernel
theorem dX5_byLeast_37 : decode cX5_byLeast 37 = .ok (.aload_n 0, 1) := by decide +kernel
theorem dX5_byLeast_38 : decode cX5_byLeast 38 = .ok (.getfield 22, 3) := by decide +kernel
theorem dX5_byLeast_41 : decode cX5_byLeast 41 = .ok (.iload_n 2, 1) := by decide +kernel
theorem dX5_byLeast_42 : decode cX5_byLeast 42 = .ok (.iconst 1, 1) := by decide +kernel
theorem dX5_byLeast_43 : decode cX5_byLeast 43 = .ok (.isub, 1) := by decide +kernel
theorem dX5_byLeast_44 : decode cX5_byLeast 44 = .ok (.iaload, 1) := by decide +kernel
theorem dX5_byLeast_45 : decode cX5_byLeast 45 = .ok (.invokevirtual 92, 3) := by decide +kernel
theorem dX5_byLeast_48 : decode cX5_byLeast 48 = .ok (.l2i, 1) := by decide +kernel
theorem dX5_byLeast_49 : decode cX5_byLeast 49 = .ok (.ireturn, 1) := by decide +kernel
set_option maxRecDepth 20000 in
theorem ggX5_layBoth_X5_layKept : GoodIn wsX5_layBoth wsX5_layKept := goodIn_r _ [12, 5, 3, 13, 14, 15, 11, 16, 17, 18, 19, 20, 21, 22, 23, 24, 25, 26, 27, 28, 29, 30, 31, 32, 33, 34, 35, 36, 37, 38, 39, 40, 41, 42, 43, 44, 45] (by decide +kernel) (by decide +kernel)
set_option maxRecDepth 20000 in
theorem gX5_layBoth_X5_layKept : GoodIn wsX5_layBoth (wsV RX5 89 RX5 yX5_layKept wsX5_layKept) := goodIn_app (goodIn_of _ (by decide +kernel)) ggX5_layBoth_X5_layKept
theorem dX5_layBoth_0 : decode cX5_layBoth 0 = .ok (.aload_n 0, 1) := by decide +kernel
theorem dX5_layBoth_1 : decode cX5_layBoth 1 = .ok (.aload_n 0, 1) := by decide +kernel
theorem dX5_layBoth_2 : decode cX5_layBoth 2 = .ok (.iload_n 2, 1) := by decide +kernel
theorem dX5_layBoth_3 : decode cX5_layBoth 3 = .ok (.invokevirtual 89, 3) := by decide +kernel
theorem dX5_layBoth_6 : decode cX5_layBoth 6 = .ok (.putfield 96, 3) := by decide +kernel
theorem dX5_layBoth_9 : decode cX5_layBoth 9 = .ok (.iconst 0, 1) := by decide +kernel
theorem dX5_layBoth_10 : decode cX5_layBoth 10 = .ok (.istore_n 3, 1) := by decide +kernel
theorem dX5_layBoth_11 : decode cX5_layBoth 11 = .ok (.iload_n 3, 1) := by decide +kernel
theorem dX5_layBoth_12 : decode cX5_layBoth 12 = .ok (.aload_n 0, 1) := by decide +kernel
theorem dX5_layBoth_13 : decode cX5_layBoth 13 = .ok (.getfield 96, 3) := by decide +kernel
theorem dX5_layBoth_16 : decode cX5_layBoth 16 = .ok (.if_icmp .ge 21, 3) := by decide +kernel
theorem dX5_layBoth_19 : decode cX5_layBoth 19 = .ok (.aload_n 0, 1) := by decide +kernel
theorem dX5_layBoth_20 : decode cX5_layBoth 20 = .ok (.getfield 25, 3) := by decide +kernel
theorem dX5_layBoth_23 : decode cX5_layBoth 23 = .ok (.iload_n 3, 1) := by decide +kernel
theorem dX5_layBoth_24 : decode cX5_layBoth 24 = .ok (.aload_n 0, 1) := by decide +kernel
theorem dX5_layBoth_25 : decode cX5_layBoth 25 = .ok (.getfield 22, 3) := by decide +kernel
theorem dX5_layBoth_28 : decode cX5_layBoth 28 = .ok (.iload_n 3, 1) := by decide +kernel
theorem dX5_layBoth_29 : decode cX5_layBoth 29 = .ok (.iaload, 1) := by decide +kernel
theorem dX5_layBoth_30 : decode cX5_layBoth 30 = .ok (.iastore, 1) := by decide +kernel
theorem dX5_layBoth_31 : decode cX5_layBoth 31 = .ok (.iinc 3 1, 3) := by decide +kernel
theorem dX5_layBoth_34 : decode cX5_layBoth 34 = .ok (.goto (-23), 3) := by decide +kernel
theorem dX5_layBoth_37 : decode cX5_layBoth 37 = .ok (.aload_n 0, 1) := by decide +kernel
theorem dX5_layBoth_38 : decode cX5_layBoth 38 = .ok (.aload_n 0, 1) := by decide +kernel
theorem dX5_layBoth_39 : decode cX5_layBoth 39 = .ok (.iload_n 1, 1) := by decide +kernel
theorem dX5_layBoth_40 : decode cX5_layBoth 40 = .ok (.invokevirtual 89, 3) := by decide +kernel
theorem dX5_layBoth_43 : decode cX5_layBoth 43 = .ok (.putfield 99, 3) := by decide +kernel
theorem dX5_layBoth_46 : decode cX5_layBoth 46 = .ok (.iconst 0, 1) := by decide +kernel
theorem dX5_layBoth_47 : decode cX5_layBoth 47 = .ok (.istore_n 3, 1) := by decide +kernel
theorem dX5_layBoth_48 : decode cX5_layBoth 48 = .ok (.iconst 0, 1) := by decide +kernel
theorem dX5_layBoth_49 : decode cX5_layBoth 49 = .ok (.istore 4, 2) := by decide +kernel
theorem dX5_layBoth_51 : decode cX5_layBoth 51 = .ok (.iconst 0, 1) := by decide +kernel
theorem dX5_layBoth_52 : decode cX5_layBoth 52 = .ok (.istore 5, 2) := by decide +kernel
theorem dX5_layBoth_54 : decode cX5_layBoth 54 = .ok (.iload_n 3, 1) := by decide +kernel
theorem dX5_layBoth_55 : decode cX5_layBoth 55 = .ok (.aload_n 0, 1) := by decide +kernel
theorem dX5_layBoth_56 : decode cX5_layBoth 56 = .ok (.getfield 39, 3) := by decide +kernel
theorem dX5_layBoth_59 : decode cX5_layBoth 59 = .ok (.if_icmp .ge 135, 3) := by decide +kernel
theorem dX5_layBoth_62 : decode cX5_layBoth 62 = .ok (.iload 4, 2) := by decide +kernel
theorem dX5_layBoth_64 : decode cX5_layBoth 64 = .ok (.aload_n 0, 1) := by decide +kernel
theorem dX5_layBoth_65 : decode cX5_layBoth 65 = .ok (.getfield 99, 3) := by decide +kernel
theorem dX5_layBoth_68 : decode cX5_layBoth 68 = .ok (.if_icmp .lt 12, 3) := by decide +kernel
theorem dX5_layBoth_71 : decode cX5_layBoth 71 = .ok (.iload 5, 2) := by decide +kernel
theorem dX5_layBoth_73 : decode cX5_layBoth 73 = .ok (.aload_n 0, 1) := by decide +kernel
theorem dX5_layBoth_74 : decode cX5_layBoth 74 = .ok (.getfield 96, 3) := by decide +kernel
theorem dX5_layBoth_77 : decode cX5_layBoth 77 = .ok (.if_icmp .ge 117, 3) := by decide +kernel
theorem dX5_layBoth_80 : decode cX5_layBoth 80 = .ok (.iload 4, 2) := by decide +kernel
theorem dX5_layBoth_82 : decode cX5_layBoth 82 = .ok (.aload_n 0, 1) := by decide +kernel
theorem dX5_layBoth_83 : decode cX5_layBoth 83 = .ok (.getfield 99, 3) := by decide +kernel
theorem dX5_layBoth_86 : decode cX5_layBoth 86 = .ok (.if_icmp .ge 13, 3) := by decide +kernel
theorem dX5_layBoth_89 : decode cX5_layBoth 89 = .ok (.aload_n 0, 1) := by decide +kernel
theorem dX5_layBoth_90 : decode cX5_layBoth 90 = .ok (.getfield 22, 3) := by decide +kernel
theorem dX5_layBoth_93 : decode cX5_layBoth 93 = .ok (.iload 4, 2) := by decide +kernel
theorem dX5_layBoth_95 : decode cX5_layBoth 95 = .ok (.iaload, 1) := by decide +kernel
theorem dX5_layBoth_96 : decode cX5_layBoth 96 = .ok (.goto 5, 3) := by decide +kernel
theorem dX5_layBoth_99 : decode cX5_layBoth 99 = .ok (.ldc 102, 2) := by decide +kernel
theorem dX5_layBoth_101 : decode cX5_layBoth 101 = .ok (.istore 6, 2) := by decide +kernel
theorem dX5_layBoth_103 : decode cX5_layBoth 103 = .ok (.iload 5, 2) := by decide +kernel
theorem dX5_layBoth_105 : decode cX5_layBoth 105 = .ok (.aload_n 0, 1) := by decide +kernel
theorem dX5_layBoth_106 : decode cX5_layBoth 106 = .ok (.getfield 96, 3) := by decide +kernel
theorem dX5_layBoth_109 : decode cX5_layBoth 109 = .ok (.if_icmp .ge 13, 3) := by decide +kernel
theorem dX5_layBoth_112 : decode cX5_layBoth 112 = .ok (.aload_n 0, 1) := by decide +kernel
theorem dX5_layBoth_113 : decode cX5_layBoth 113 = .ok (.getfield 25, 3) := by decide +kernel
theorem dX5_layBoth_116 : decode cX5_layBoth 116 = .ok (.iload 5, 2) := by decide +kernel
theorem dX5_layBoth_118 : decode cX5_layBoth 118 = .ok (.iaload, 1) := by decide +kernel
theorem dX5_layBoth_119 : decode cX5_layBoth 119 = .ok (.goto 5, 3) := by decide +kernel
theorem dX5_layBoth_122 : decode cX5_layBoth 122 = .ok (.ldc 102, 2) := by decide +kernel
theorem dX5_layBoth_124 : decode cX5_layBoth 124 = .ok (.istore 7, 2) := by decide +kernel
theorem dX5_layBoth_126 : decode cX5_layBoth 126 = .ok (.aload_n 0, 1) := by decide +kernel
theorem dX5_layBoth_127 : decode cX5_layBoth 127 = .ok (.getfield 28, 3) := by decide +kernel
theorem dX5_layBoth_130 : decode cX5_layBoth 130 = .ok (.iload_n 3, 1) := by decide +kernel
theorem dX5_layBoth_131 : decode cX5_layBoth 131 = .ok (.iload 6, 2) := by decide +kernel
theorem dX5_layBoth_133 : decode cX5_layBoth 133 = .ok (.iload 7, 2) := by decide +kernel
theorem dX5_layBoth_135 : decode cX5_layBoth 135 = .ok (.if_icmp .ge 8, 3) := by decide +kernel
theorem dX5_layBoth_138 : decode cX5_layBoth 138 = .ok (.iload 6, 2) := by decide +kernel
theorem dX5_layBoth_140 : decode cX5_layBoth 140 = .ok (.goto 5, 3) := by decide +kernel
theorem dX5_layBoth_143 : decode cX5_layBoth 143 = .ok (.iload 7, 2) := by decide +kernel
theorem dX5_layBoth_145 : decode cX5_layBoth 145 = .ok (.iastore, 1) := by decide +kernel
theorem dX5_layBoth_146 : decode cX5_layBoth 146 = .ok (.iload 4, 2) := by decide +kernel
theorem dX5_layBoth_148 : decode cX5_layBoth 148 = .ok (.iload 6, 2) := by decide +kernel
theorem dX5_layBoth_150 : decode cX5_layBoth 150 = .ok (.aload_n 0, 1) := by decide +kernel
theorem dX5_layBoth_151 : decode cX5_layBoth 151 = .ok (.getfield 28, 3) := by decide +kernel
theorem dX5_layBoth_154 : decode cX5_layBoth 154 = .ok (.iload_n 3, 1) := by decide +kernel
theorem dX5_layBoth_155 : decode cX5_layBoth 155 = .ok (.iaload, 1) := by decide +kernel
theorem dX5_layBoth_156 : decode cX5_layBoth 156 = .ok (.if_icmp .ne 7, 3) := by decide +kernel
theorem dX5_layBoth_159 : decode cX5_layBoth 159 = .ok (.iconst 1, 1) := by decide +kernel
theorem dX5_layBoth_160 : decode cX5_layBoth 160 = .ok (.goto 4, 3) := by decide +kernel
theorem dX5_layBoth_163 : decode cX5_layBoth 163 = .ok (.iconst 0, 1) := by decide +kernel
theorem dX5_layBoth_164 : decode cX5_layBoth 164 = .ok (.iadd, 1) := by decide +kernel
theorem dX5_layBoth_165 : decode cX5_layBoth 165 = .ok (.istore 4, 2) := by decide +kernel
theorem dX5_layBoth_167 : decode cX5_layBoth 167 = .ok (.iload 5, 2) := by decide +kernel
theorem dX5_layBoth_169 : decode cX5_layBoth 169 = .ok (.iload 7, 2) := by decide +kernel
theorem dX5_layBoth_171 : decode cX5_layBoth 171 = .ok (.aload_n 0, 1) := by decide +kernel
theorem dX5_layBoth_172 : decode cX5_layBoth 172 = .ok (.getfield 28, 3) := by decide +kernel
theorem dX5_layBoth_175 : decode cX5_layBoth 175 = .ok (.iload_n 3, 1) := by decide +kernel
theorem dX5_layBoth_176 : decode cX5_layBoth 176 = .ok (.iaload, 1) := by decide +kernel
theorem dX5_layBoth_177 : decode cX5_layBoth 177 = .ok (.if_icmp .ne 7, 3) := by decide +kernel
theorem dX5_layBoth_180 : decode cX5_layBoth 180 = .ok (.iconst 1, 1) := by decide +kernel
theorem dX5_layBoth_181 : decode cX5_layBoth 181 = .ok (.goto 4, 3) := by decide +kernel
theorem dX5_layBoth_184 : decode cX5_layBoth 184 = .ok (.iconst 0, 1) := by decide +kernel
theorem dX5_layBoth_185 : decode cX5_layBoth 185 = .ok (.iadd, 1) := by decide +kernel
theorem dX5_layBoth_186 : decode cX5_layBoth 186 = .ok (.istore 5, 2) := by decide +kernel
theorem dX5_layBoth_188 : decode cX5_layBoth 188 = .ok (.iinc 3 1, 3) := by decide +kernel
theorem dX5_layBoth_191 : decode cX5_layBoth 191 = .ok (.goto (-137), 3) := by decide +kernel
theorem dX5_layBoth_194 : decode cX5_layBoth 194 = .ok (.iload_n 3, 1) := by decide +kernel
theorem dX5_layBoth_195 : decode cX5_layBoth 195 = .ok (.ireturn, 1) := by decide +kernel
theorem dX5_isKept_0 : decode cX5_isKept 0 = .ok (.iconst 0, 1) := by decide +kernel
theorem dX5_isKept_1 : decode cX5_isKept 1 = .ok (.istore_n 2, 1) := by decide +kernel
theorem dX5_isKept_2 : decode cX5_isKept 2 = .ok (.iconst 0, 1) := by decide +kernel
theorem dX5_isKept_3 : decode cX5_isKept 3 = .ok (.istore_n 3, 1) := by decide +kernel
theorem dX5_isKept_4 : decode cX5_isKept 4 = .ok (.iload_n 3, 1) := by decide +kernel
theorem dX5_isKept_5 : decode cX5_isKept 5 = .ok (.aload_n 0, 1) := by decide +kernel
theorem dX5_isKept_6 : decode cX5_isKept 6 = .ok (.getfield 99, 3) := by decide +kernel
theorem dX5_isKept_9 : decode cX5_isKept 9 = .ok (.if_icmp .ge 29, 3) := by decide +kernel
theorem dX5_isKept_12 : decode cX5_isKept 12 = .ok (.iload_n 2, 1) := by decide +kernel
theorem dX5_isKept_13 : decode cX5_isKept 13 = .ok (.ifCond .ne 13, 3) := by decide +kernel
theorem dX5_isKept_16 : decode cX5_isKept 16 = .ok (.aload_n 0, 1) := by decide +kernel
theorem dX5_isKept_17 : decode cX5_isKept 17 = .ok (.getfield 22, 3) := by decide +kernel
theorem dX5_isKept_20 : decode cX5_isKept 20 = .ok (.iload_n 3, 1) := by decide +kernel
theorem dX5_isKept_21 : decode cX5_isKept 21 = .ok (.iaload, 1) := by decide +kernel
theorem dX5_isKept_22 : decode cX5_isKept 22 = .ok (.iload_n 1, 1) := by decide +kernel
theorem dX5_isKept_23 : decode cX5_isKept 23 = .ok (.if_icmp .ne 7, 3) := by decide +kernel
theorem dX5_isKept_26 : decode cX5_isKept 26 = .ok (.iconst 1, 1) := by decide +kernel
theorem dX5_isKept_27 : decode cX5_isKept 27 = .ok (.goto 4, 3) := by decide +kernel
theorem dX5_isKept_30 : decode cX5_isKept 30 = .ok (.iconst 0, 1) := by decide +kernel
theorem dX5_isKept_31 : decode cX5_isKept 31 = .ok (.istore_n 2, 1) := by decide +kernel
theorem dX5_isKept_32 : decode cX5_isKept 32 = .ok (.iinc 3 1, 3) := by decide +kernel
theorem dX5_isKept_35 : decode cX5_isKept 35 = .ok (.goto (-31), 3) := by decide +kernel
theorem dX5_isKept_38 : decode cX5_isKept 38 = .ok (.iload_n 2, 1) := by decide +kernel
theorem dX5_isKept_39 : decode cX5_isKept 39 = .ok (.ireturn, 1) := by decide +kernel
theorem dX5_isOther_0 : decode cX5_isOther 0 = .ok (.iconst 0, 1) := by decide +kernel
theorem dX5_isOther_1 : decode cX5_isOther 1 = .ok (.istore_n 2, 1) := by decide +kernel
theorem dX5_isOther_2 : decode cX5_isOther 2 = .ok (.iconst 0, 1) := by decide +kernel
theorem dX5_isOther_3 : decode cX5_isOther 3 = .ok (.istore_n 3, 1) := by decide +kernel
theorem dX5_isOther_4 : decode cX5_isOther 4 = .ok (.iload_n 3, 1) := by decide +kernel
theorem dX5_isOther_5 : decode cX5_isOther 5 = .ok (.aload_n 0, 1) := by decide +kernel
theorem dX5_isOther_6 : decode cX5_isOther 6 = .ok (.getfield 96, 3) := by decide +kernel
theorem dX5_isOther_9 : decode cX5_isOther 9 = .ok (.if_icmp .ge 29, 3) := by decide +kernel
theorem dX5_isOther_12 : decode cX5_isOther 12 = .ok (.iload_n 2, 1) := by decide +kernel
theorem dX5_isOther_13 : decode cX5_isOther 13 = .ok (.ifCond .ne 13, 3) := by decide +kernel
theorem dX5_isOther_16 : decode cX5_isOther 16 = .ok (.aload_n 0, 1) := by decide +kernel
theorem dX5_isOther_17 : decode cX5_isOther 17 = .ok (.getfield 25, 3) := by decide +kernel
theorem dX5_isOther_20 : decode cX5_isOther 20 = .ok (.iload_n 3, 1) := by decide +kernel
theorem dX5_isOther_21 : decode cX5_isOther 21 = .ok (.iaload, 1) := by decide +kernel
theorem dX5_isOther_22 : decode cX5_isOther 22 = .ok (.iload_n 1, 1) := by decide +kernel
theorem dX5_isOther_23 : decode cX5_isOther 23 = .ok (.if_icmp .ne 7, 3) := by decide +kernel
theorem dX5_isOther_26 : decode cX5_isOther 26 = .ok (.iconst 1, 1) := by decide +kernel
theorem dX5_isOther_27 : decode cX5_isOther 27 = .ok (.goto 4, 3) := by decide +kernel
theorem dX5_isOther_30 : decode cX5_isOther 30 = .ok (.iconst 0, 1) := by decide +kernel
theorem dX5_isOther_31 : decode cX5_isOther 31 = .ok (.istore_n 2, 1) := by decide +kernel
theorem dX5_isOther_32 : decode cX5_isOther 32 = .ok (.iinc 3 1, 3) := by decide +kernel
theorem dX5_isOther_35 : decode cX5_isOther 35 = .ok (.goto (-31), 3) := by decide +kernel
theorem dX5_isOther_38 : decode cX5_isOther 38 = .ok (.iload_n 2, 1) := by decide +kernel
theorem dX5_isOther_39 : decode cX5_isOther 39 = .ok (.ireturn, 1) := by decide +kernel
set_option maxRecDepth 20000 in
theorem ggX5_share_X5_layBoth : GoodIn wsX5_share wsX5_layBoth := goodIn_r _ [6, 7, 8, 9, 10, 11, 12, 1, 13, 14, 15, 5, 16, 17, 18, 19, 20, 21, 22, 23, 24, 25, 26, 27, 28, 29, 30, 31, 32, 33, 34, 35, 48, 49, 50, 51, 52, 53, 54, 55, 56, 57, 58, 59, 60, 61] (by decide +kernel) (by decide +kernel)
set_option maxRecDepth 20000 in
theorem gX5_share_X5_layBoth : GoodIn wsX5_share (wsV RX5 103 RX5 yX5_layBoth wsX5_layBoth) := goodIn_app (goodIn_of _ (by decide +kernel)) ggX5_share_X5_layBoth
set_option maxRecDepth 20000 in
theorem ggX5_share_X5_estimate : GoodIn wsX5_share wsX5_estimate := goodIn_r _ [39, 11, 29, 48, 49, 50, 51, 52, 53, 54, 55, 56, 57, 58, 59, 60, 61] (by decide +kernel) (by decide +kernel)
set_option maxRecDepth 20000 in
theorem gX5_share_X5_estimate : GoodIn wsX5_share (wsV RX5 92 RX5 yX5_estimate wsX5_estimate) := goodIn_app (goodIn_of _ (by decide +kernel)) ggX5_share_X5_estimate
set_option maxRecDepth 20000 in
theorem ggX5_share_X5_isKept : GoodIn wsX5_share wsX5_isKept := goodIn_r _ [43, 10, 9, 48, 49, 50, 51, 52, 53, 54, 55, 56, 57, 58, 59, 60, 61] (by decide +kernel) (by decide +kernel)
set_option maxRecDepth 20000 in
theorem gX5_share_X5_isKept : GoodIn wsX5_share (wsV RX5 106 RX5 yX5_isKept wsX5_isKept) := goodIn_app (goodIn_of _ (by decide +kernel)) ggX5_share_X5_isKept
set_option maxRecDepth 20000 in
theorem ggX5_share_X5_isOther : GoodIn wsX5_share wsX5_isOther := goodIn_r _ [47, 7, 8, 48, 49, 50, 51, 52, 53, 54, 55, 56, 57, 58, 59, 60, 61] (by decide +kernel) (by decide +kernel)
set_option maxRecDepth 20000 in
theorem gX5_share_X5_isOther : GoodIn wsX5_share (wsV RX5 109 RX5 yX5_isOther wsX5_isOther) := goodIn_app (goodIn_of _ (by decide +kernel)) ggX5_share_X5_isOther
theorem dX5_share_0 : decode cX5_share 0 = .ok (.aload_n 0, 1) := by decide +kernel
theorem dX5_share_1 : decode cX5_share 1 = .ok (.iload_n 1, 1) := by decide +kernel
theorem dX5_share_2 : decode cX5_share 2 = .ok (.iload_n 2, 1) := by decide +kernel
theorem dX5_share_3 : decode cX5_share 3 = .ok (.invokevirtual 103, 3) := by decide +kernel
theorem dX5_share_6 : decode cX5_share 6 = .ok (.istore 4, 2) := by decide +kernel
theorem dX5_share_8 : decode cX5_share 8 = .ok (.iload 4, 2) := by decide +kernel
theorem dX5_share_10 : decode cX5_share 10 = .ok (.ifCond .ne 5, 3) := by decide +kernel
theorem dX5_share_13 : decode cX5_share 13 = .ok (.iconst 0, 1) := by decide +kernel
theorem dX5_share_14 : decode cX5_share 14 = .ok (.ireturn, 1) := by decide +kernel
theorem dX5_share_15 : decode cX5_share 15 = .ok (.aload_n 0, 1) := by decide +kernel
theorem dX5_share_16 : decode cX5_share 16 = .ok (.iload 4, 2) := by decide +kernel
theorem dX5_share_18 : decode cX5_share 18 = .ok (.aload_n 0, 1) := by decide +kernel
theorem dX5_share_19 : decode cX5_share 19 = .ok (.getfield 28, 3) := by decide +kernel
theorem dX5_share_22 : decode cX5_share 22 = .ok (.iload 4, 2) := by decide +kernel
theorem dX5_share_24 : decode cX5_share 24 = .ok (.iconst 1, 1) := by decide +kernel
theorem dX5_share_25 : decode cX5_share 25 = .ok (.isub, 1) := by decide +kernel
theorem dX5_share_26 : decode cX5_share 26 = .ok (.iaload, 1) := by decide +kernel
theorem dX5_share_27 : decode cX5_share 27 = .ok (.invokevirtual 92, 3) := by decide +kernel
theorem dX5_share_30 : decode cX5_share 30 = .ok (.lstore 5, 2) := by decide +kernel
theorem dX5_share_32 : decode cX5_share 32 = .ok (.iconst 0, 1) := by decide +kernel
theorem dX5_share_33 : decode cX5_share 33 = .ok (.istore 7, 2) := by decide +kernel
theorem dX5_share_35 : decode cX5_share 35 = .ok (.iconst 0, 1) := by decide +kernel
theorem dX5_share_36 : decode cX5_share 36 = .ok (.istore 8, 2) := by decide +kernel
theorem dX5_share_38 : decode cX5_share 38 = .ok (.iload 8, 2) := by decide +kernel
theorem dX5_share_40 : decode cX5_share 40 = .ok (.iload 4, 2) := by decide +kernel
theorem dX5_share_42 : decode cX5_share 42 = .ok (.if_icmp .ge 86, 3) := by decide +kernel
theorem dX5_share_45 : decode cX5_share 45 = .ok (.iload_n 3, 1) := by decide +kernel
theorem dX5_share_46 : decode cX5_share 46 = .ok (.iconst 1, 1) := by decide +kernel
theorem dX5_share_47 : decode cX5_share 47 = .ok (.if_icmp .ne 39, 3) := by decide +kernel
theorem dX5_share_50 : decode cX5_share 50 = .ok (.aload_n 0, 1) := by decide +kernel
theorem dX5_share_51 : decode cX5_share 51 = .ok (.aload_n 0, 1) := by decide +kernel
theorem dX5_share_52 : decode cX5_share 52 = .ok (.getfield 28, 3) := by decide +kernel
theorem dX5_share_55 : decode cX5_share 55 = .ok (.iload 8, 2) := by decide +kernel
theorem dX5_share_57 : decode cX5_share 57 = .ok (.iaload, 1) := by decide +kernel
theorem dX5_share_58 : decode cX5_share 58 = .ok (.invokevirtual 106, 3) := by decide +kernel
theorem dX5_share_61 : decode cX5_share 61 = .ok (.ifCond .eq 21, 3) := by decide +kernel
theorem dX5_share_64 : decode cX5_share 64 = .ok (.aload_n 0, 1) := by decide +kernel
theorem dX5_share_65 : decode cX5_share 65 = .ok (.aload_n 0, 1) := by decide +kernel
theorem dX5_share_66 : decode cX5_share 66 = .ok (.getfield 28, 3) := by decide +kernel
theorem dX5_share_69 : decode cX5_share 69 = .ok (.iload 8, 2) := by decide +kernel
theorem dX5_share_71 : decode cX5_share 71 = .ok (.iaload, 1) := by decide +kernel
theorem dX5_share_72 : decode cX5_share 72 = .ok (.invokevirtual 109, 3) := by decide +kernel
theorem dX5_share_75 : decode cX5_share 75 = .ok (.ifCond .eq 7, 3) := by decide +kernel
theorem dX5_share_78 : decode cX5_share 78 = .ok (.iconst 1, 1) := by decide +kernel
theorem dX5_share_79 : decode cX5_share 79 = .ok (.goto 26, 3) := by decide +kernel
theorem dX5_share_82 : decode cX5_share 82 = .ok (.iconst 0, 1) := by decide +kernel
theorem dX5_share_83 : decode cX5_share 83 = .ok (.goto 22, 3) := by decide +kernel
theorem dX5_share_86 : decode cX5_share 86 = .ok (.aload_n 0, 1) := by decide +kernel
theorem dX5_share_87 : decode cX5_share 87 = .ok (.aload_n 0, 1) := by decide +kernel
theorem dX5_share_88 : decode cX5_share 88 = .ok (.getfield 28, 3) := by decide +kernel
theorem dX5_share_91 : decode cX5_share 91 = .ok (.iload 8, 2) := by decide +kernel
theorem dX5_share_93 : decode cX5_share 93 = .ok (.iaload, 1) := by decide +kernel
theorem dX5_share_94 : decode cX5_share 94 = .ok (.invokevirtual 109, 3) := by decide +kernel
theorem dX5_share_97 : decode cX5_share 97 = .ok (.ifCond .ne 7, 3) := by decide +kernel
theorem dX5_share_100 : decode cX5_share 100 = .ok (.iconst 1, 1) := by decide +kernel
theorem dX5_share_101 : decode cX5_share 101 = .ok (.goto 4, 3) := by decide +kernel
theorem dX5_share_104 : decode cX5_share 104 = .ok (.iconst 0, 1) := by decide +kernel
theorem dX5_share_105 : decode cX5_share 105 = .ok (.istore 9, 2) := by decide +kernel
theorem dX5_share_107 : decode cX5_share 107 = .ok (.iload 7, 2) := by decide +kernel
theorem dX5_share_109 : decode cX5_share 109 = .ok (.iload 9, 2) := by decide +kernel
theorem dX5_share_111 : decode cX5_share 111 = .ok (.ifCond .eq 7, 3) := by decide +kernel
theorem dX5_share_114 : decode cX5_share 114 = .ok (.iconst 1, 1) := by decide +kernel
theorem dX5_share_115 : decode cX5_share 115 = .ok (.goto 4, 3) := by decide +kernel
theorem dX5_share_118 : decode cX5_share 118 = .ok (.iconst 0, 1) := by decide +kernel
theorem dX5_share_119 : decode cX5_share 119 = .ok (.iadd, 1) := by decide +kernel
theorem dX5_share_120 : decode cX5_share 120 = .ok (.istore 7, 2) := by decide +kernel
theorem dX5_share_122 : decode cX5_share 122 = .ok (.iinc 8 1, 3) := by decide +kernel
theorem dX5_share_125 : decode cX5_share 125 = .ok (.goto (-87), 3) := by decide +kernel
theorem dX5_share_128 : decode cX5_share 128 = .ok (.iload_n 3, 1) := by decide +kernel
theorem dX5_share_129 : decode cX5_share 129 = .ok (.ifCond .ne 8, 3) := by decide +kernel
theorem dX5_share_132 : decode cX5_share 132 = .ok (.lload 5, 2) := by decide +kernel
theorem dX5_share_134 : decode cX5_share 134 = .ok (.goto 13, 3) := by decide +kernel
theorem dX5_share_137 : decode cX5_share 137 = .ok (.lload 5, 2) := by decide +kernel
theorem dX5_share_139 : decode cX5_share 139 = .ok (.iload 7, 2) := by decide +kernel
theorem dX5_share_141 : decode cX5_share 141 = .ok (.i2l, 1) := by decide +kernel
theorem dX5_share_142 : decode cX5_share 142 = .ok (.lmul, 1) := by decide +kernel
theorem dX5_share_143 : decode cX5_share 143 = .ok (.iload 4, 2) := by decide +kernel
theorem dX5_share_145 : decode cX5_share 145 = .ok (.i2l, 1) := by decide +kernel
theorem dX5_share_146 : decode cX5_share 146 = .ok (.ldiv, 1) := by decide +kernel
theorem dX5_share_147 : decode cX5_share 147 = .ok (.l2i, 1) := by decide +kernel
theorem dX5_share_148 : decode cX5_share 148 = .ok (.ireturn, 1) := by decide +kernel
set_option maxRecDepth 20000 in
theorem ggX5_together_X5_isBasket : GoodIn wsX5_together wsX5_isBasket := goodIn_r _ [4] (by decide +kernel) (by decide +kernel)
set_option maxRecDepth 20000 in
theorem gX5_together_X5_isBasket : GoodIn wsX5_together (va_wsS RX5 61 yX5_isBasket wsX5_isBasket) := goodIn_app (goodIn_of _ (by decide +kernel)) ggX5_together_X5_isBasket
set_option maxRecDepth 20000 in
theorem ggX5_together_X5_goesWell : GoodIn wsX5_together wsX5_goesWell := goodIn_r _ [8, 9, 60, 61, 62, 63, 64, 65, 66, 67, 68, 69, 70, 71, 72, 73] (by decide +kernel) (by decide +kernel)
set_option maxRecDepth 20000 in
theorem gX5_together_X5_goesWell : GoodIn wsX5_together (wsV RX5 68 RX5 yX5_goesWell wsX5_goesWell) := goodIn_app (goodIn_of _ (by decide +kernel)) ggX5_together_X5_goesWell
set_option maxRecDepth 20000 in
theorem ggX5_together_X5_share : GoodIn wsX5_together wsX5_share := goodIn_r _ [13, 14, 15, 16, 17, 3, 18, 19, 20, 21, 22, 23, 24, 25, 26, 27, 28, 29, 30, 31, 32, 33, 34, 35, 36, 37, 38, 39, 40, 41, 42, 43, 44, 45, 46, 47, 48, 49, 50, 51, 52, 53, 54, 55, 56, 57, 58, 59, 60, 61, 62, 63, 64, 65, 66, 67, 68, 69, 70, 71, 72, 73] (by decide +kernel) (by decide +kernel)
set_option maxRecDepth 20000 in
theorem gX5_together_X5_share : GoodIn wsX5_together (wsV RX5 112 RX5 yX5_share wsX5_share) := goodIn_app (goodIn_of _ (by decide +kernel)) ggX5_together_X5_share
theorem dX5_together_0 : decode cX5_together 0 = .ok (.aload_n 0, 1) := by decide +kernel
theorem dX5_together_1 : decode cX5_together 1 = .ok (.iload_n 1, 1) := by decide +kernel
theorem dX5_together_2 : decode cX5_together 2 = .ok (.invokestatic 61, 3) := by decide +kernel
theorem dX5_together_5 : decode cX5_together 5 = .ok (.ifCond .eq 14, 3) := by decide +kernel
theorem dX5_together_8 : decode cX5_together 8 = .ok (.iload_n 2, 1) := by decide +kernel
theorem dX5_together_9 : decode cX5_together 9 = .ok (.invokestatic 61, 3) := by decide +kernel
theorem dX5_together_12 : decode cX5_together 12 = .ok (.ifCond .eq 7, 3) := by decide +kernel
theorem dX5_together_15 : decode cX5_together 15 = .ok (.iconst 0, 1) := by decide +kernel
theorem dX5_together_16 : decode cX5_together 16 = .ok (.goto 4, 3) := by decide +kernel
theorem dX5_together_19 : decode cX5_together 19 = .ok (.iconst 1, 1) := by decide +kernel
theorem dX5_together_20 : decode cX5_together 20 = .ok (.invokevirtual 68, 3) := by decide +kernel
theorem dX5_together_23 : decode cX5_together 23 = .ok (.ifCond .eq 13, 3) := by decide +kernel
theorem dX5_together_26 : decode cX5_together 26 = .ok (.aload_n 0, 1) := by decide +kernel
theorem dX5_together_27 : decode cX5_together 27 = .ok (.iload_n 1, 1) := by decide +kernel
theorem dX5_together_28 : decode cX5_together 28 = .ok (.iload_n 2, 1) := by decide +kernel
theorem dX5_together_29 : decode cX5_together 29 = .ok (.iconst 0, 1) := by decide +kernel
theorem dX5_together_30 : decode cX5_together 30 = .ok (.invokevirtual 112, 3) := by decide +kernel
theorem dX5_together_33 : decode cX5_together 33 = .ok (.goto 4, 3) := by decide +kernel
theorem dX5_together_36 : decode cX5_together 36 = .ok (.iconst 0, 1) := by decide +kernel
theorem dX5_together_37 : decode cX5_together 37 = .ok (.ireturn, 1) := by decide +kernel
set_option maxRecDepth 20000 in
theorem ggX5_common_X5_isBasket : GoodIn wsX5_common wsX5_isBasket := goodIn_r _ [4] (by decide +kernel) (by decide +kernel)
set_option maxRecDepth 20000 in
theorem gX5_common_X5_isBasket : GoodIn wsX5_common (va_wsS RX5 61 yX5_isBasket wsX5_isBasket) := goodIn_app (goodIn_of _ (by decide +kernel)) ggX5_common_X5_isBasket
set_option maxRecDepth 20000 in
theorem ggX5_common_X5_goesWell : GoodIn wsX5_common wsX5_goesWell := goodIn_r _ [8, 9, 60, 61, 62, 63, 64, 65, 66, 67, 68, 69, 70, 71, 72, 73] (by decide +kernel) (by decide +kernel)
set_option maxRecDepth 20000 in
theorem gX5_common_X5_goesWell : GoodIn wsX5_common (wsV RX5 68 RX5 yX5_goesWell wsX5_goesWell) := goodIn_app (goodIn_of _ (by decide +kernel)) ggX5_common_X5_goesWell
set_option maxRecDepth 20000 in
theorem ggX5_common_X5_share : GoodIn wsX5_common wsX5_share := goodIn_r _ [13, 14, 15, 16, 17, 3, 18, 19, 20, 21, 22, 23, 24, 25, 26, 27, 28, 29, 30, 31, 32, 33, 34, 35, 36, 37, 38, 39, 40, 41, 42, 43, 44, 45, 46, 47, 48, 49, 50, 51, 52, 53, 54, 55, 56, 57, 58, 59, 60, 61, 62, 63, 64, 65, 66, 67, 68, 69, 70, 71, 72, 73] (by decide +kernel) (by decide +kernel)
set_option maxRecDepth 20000 in
theorem gX5_common_X5_share : GoodIn wsX5_common (wsV RX5 112 RX5 yX5_share wsX5_share) := goodIn_app (goodIn_of _ (by decide +kernel)) ggX5_common_X5_share
theorem dX5_common_0 : decode cX5_common 0 = .ok (.aload_n 0, 1) := by decide +kernel
theorem dX5_common_1 : decode cX5_common 1 = .ok (.iload_n 1, 1) := by decide +kernel
theorem dX5_common_2 : decode cX5_common 2 = .ok (.invokestatic 61, 3) := by decide +kernel
theorem dX5_common_5 : decode cX5_common 5 = .ok (.ifCond .eq 14, 3) := by decide +kernel
theorem dX5_common_8 : decode cX5_common 8 = .ok (.iload_n 2, 1) := by decide +kernel
theorem dX5_common_9 : decode cX5_common 9 = .ok (.invokestatic 61, 3) := by decide +kernel
theorem dX5_common_12 : decode cX5_common 12 = .ok (.ifCond .eq 7, 3) := by decide +kernel
theorem dX5_common_15 : decode cX5_common 15 = .ok (.iconst 0, 1) := by decide +kernel
theorem dX5_common_16 : decode cX5_common 16 = .ok (.goto 4, 3) := by decide +kernel
theorem dX5_common_19 : decode cX5_common 19 = .ok (.iconst 1, 1) := by decide +kernel
theorem dX5_common_20 : decode cX5_common 20 = .ok (.invokevirtual 68, 3) := by decide +kernel
theorem dX5_common_23 : decode cX5_common 23 = .ok (.ifCond .eq 13, 3) := by decide +kernel
theorem dX5_common_26 : decode cX5_common 26 = .ok (.aload_n 0, 1) := by decide +kernel
theorem dX5_common_27 : decode cX5_common 27 = .ok (.iload_n 1, 1) := by decide +kernel
theorem dX5_common_28 : decode cX5_common 28 = .ok (.iload_n 2, 1) := by decide +kernel
theorem dX5_common_29 : decode cX5_common 29 = .ok (.iconst 1, 1) := by decide +kernel
theorem dX5_common_30 : decode cX5_common 30 = .ok (.invokevirtual 112, 3) := by decide +kernel
theorem dX5_common_33 : decode cX5_common 33 = .ok (.goto 4, 3) := by decide +kernel
theorem dX5_common_36 : decode cX5_common 36 = .ok (.iconst 0, 1) := by decide +kernel
theorem dX5_common_37 : decode cX5_common 37 = .ok (.ireturn, 1) := by decide +kernel
set_option maxRecDepth 20000 in
theorem ggX5_without_X5_isBasket : GoodIn wsX5_without wsX5_isBasket := goodIn_r _ [4] (by decide +kernel) (by decide +kernel)
set_option maxRecDepth 20000 in
theorem gX5_without_X5_isBasket : GoodIn wsX5_without (va_wsS RX5 61 yX5_isBasket wsX5_isBasket) := goodIn_app (goodIn_of _ (by decide +kernel)) ggX5_without_X5_isBasket
set_option maxRecDepth 20000 in
theorem ggX5_without_X5_goesWell : GoodIn wsX5_without wsX5_goesWell := goodIn_r _ [8, 9, 60, 61, 62, 63, 64, 65, 66, 67, 68, 69, 70, 71, 72, 73] (by decide +kernel) (by decide +kernel)
set_option maxRecDepth 20000 in
theorem gX5_without_X5_goesWell : GoodIn wsX5_without (wsV RX5 68 RX5 yX5_goesWell wsX5_goesWell) := goodIn_app (goodIn_of _ (by decide +kernel)) ggX5_without_X5_goesWell
set_option maxRecDepth 20000 in
theorem ggX5_without_X5_share : GoodIn wsX5_without wsX5_share := goodIn_r _ [13, 14, 15, 16, 17, 3, 18, 19, 20, 21, 22, 23, 24, 25, 26, 27, 28, 29, 30, 31, 32, 33, 34, 35, 36, 37, 38, 39, 40, 41, 42, 43, 44, 45, 46, 47, 48, 49, 50, 51, 52, 53, 54, 55, 56, 57, 58, 59, 60, 61, 62, 63, 64, 65, 66, 67, 68, 69, 70, 71, 72, 73] (by decide +kernel) (by decide +kernel)
set_option maxRecDepth 20000 in
theorem gX5_without_X5_share : GoodIn wsX5_without (wsV RX5 112 RX5 yX5_share wsX5_share) := goodIn_app (goodIn_of _ (by decide +kernel)) ggX5_without_X5_share
theorem dX5_without_0 : decode cX5_without 0 = .ok (.aload_n 0, 1) := by decide +kernel
theorem dX5_without_1 : decode cX5_without 1 = .ok (.iload_n 1, 1) := by decide +kernel
theorem dX5_without_2 : decode cX5_without 2 = .ok (.invokestatic 61, 3) := by decide +kernel
theorem dX5_without_5 : decode cX5_without 5 = .ok (.ifCond .eq 14, 3) := by decide +kernel
theorem dX5_without_8 : decode cX5_without 8 = .ok (.iload_n 2, 1) := by decide +kernel
theorem dX5_without_9 : decode cX5_without 9 = .ok (.invokestatic 61, 3) := by decide +kernel
theorem dX5_without_12 : decode cX5_without 12 = .ok (.ifCond .eq 7, 3) := by decide +kernel
theorem dX5_without_15 : decode cX5_without 15 = .ok (.iconst 0, 1) := by decide +kernel
theorem dX5_without_16 : decode cX5_without 16 = .ok (.goto 4, 3) := by decide +kernel
theorem dX5_without_19 : decode cX5_without 19 = .ok (.iconst 1, 1) := by decide +kernel
theorem dX5_without_20 : decode cX5_without 20 = .ok (.invokevirtual 68, 3) := by decide +kernel
theorem dX5_without_23 : decode cX5_without 23 = .ok (.ifCond .eq 13, 3) := by decide +kernel
theorem dX5_without_26 : decode cX5_without 26 = .ok (.aload_n 0, 1) := by decide +kernel
theorem dX5_without_27 : decode cX5_without 27 = .ok (.iload_n 1, 1) := by decide +kernel
theorem dX5_without_28 : decode cX5_without 28 = .ok (.iload_n 2, 1) := by decide +kernel
theorem dX5_without_29 : decode cX5_without 29 = .ok (.iconst 2, 1) := by decide +kernel
theorem dX5_without_30 : decode cX5_without 30 = .ok (.invokevirtual 112, 3) := by decide +kernel
theorem dX5_without_33 : decode cX5_without 33 = .ok (.goto 4, 3) := by decide +kernel
theorem dX5_without_36 : decode cX5_without 36 = .ok (.iconst 0, 1) := by decide +kernel
theorem dX5_without_37 : decode cX5_without 37 = .ok (.ireturn, 1) := by decide +kernel
theorem dX5_rankOf_0 : decode cX5_rankOf 0 = .ok (.iload_n 0, 1) := by decide +kernel
theorem dX5_rankOf_1 : decode cX5_rankOf 1 = .ok (.bipush 16, 2) := by decide +kernel
theorem dX5_rankOf_3 : decode cX5_rankOf 3 = .ok (.idiv, 1) := by decide +kernel
theorem dX5_rankOf_4 : decode cX5_rankOf 4 = .ok (.istore_n 1, 1) := by decide +kernel
theorem dX5_rankOf_5 : decode cX5_rankOf 5 = .ok (.iconst 1, 1) := by decide +kernel
theorem dX5_rankOf_6 : decode cX5_rankOf 6 = .ok (.istore_n 2, 1) := by decide +kernel
theorem dX5_rankOf_7 : decode cX5_rankOf 7 = .ok (.iload_n 1, 1) := by decide +kernel
theorem dX5_rankOf_8 : decode cX5_rankOf 8 = .ok (.ifCond .eq 19, 3) := by decide +kernel
theorem dX5_rankOf_11 : decode cX5_rankOf 11 = .ok (.iload_n 1, 1) := by decide +kernel
theorem dX5_rankOf_12 : decode cX5_rankOf 12 = .ok (.iconst 2, 1) := by decide +kernel
theorem dX5_rankOf_13 : decode cX5_rankOf 13 = .ok (.irem, 1) := by decide +kernel
theorem dX5_rankOf_14 : decode cX5_rankOf 14 = .ok (.ifCond .ne 13, 3) := by decide +kernel
theorem dX5_rankOf_17 : decode cX5_rankOf 17 = .ok (.iload_n 1, 1) := by decide +kernel
theorem dX5_rankOf_18 : decode cX5_rankOf 18 = .ok (.iconst 2, 1) := by decide +kernel
theorem dX5_rankOf_19 : decode cX5_rankOf 19 = .ok (.idiv, 1) := by decide +kernel
theorem dX5_rankOf_20 : decode cX5_rankOf 20 = .ok (.istore_n 1, 1) := by decide +kernel
theorem dX5_rankOf_21 : decode cX5_rankOf 21 = .ok (.iinc 2 1, 3) := by decide +kernel
theorem dX5_rankOf_24 : decode cX5_rankOf 24 = .ok (.goto (-17), 3) := by decide +kernel
theorem dX5_rankOf_27 : decode cX5_rankOf 27 = .ok (.iload_n 1, 1) := by decide +kernel
theorem dX5_rankOf_28 : decode cX5_rankOf 28 = .ok (.ifCond .ne 8, 3) := by decide +kernel
theorem dX5_rankOf_31 : decode cX5_rankOf 31 = .ok (.bipush 21, 2) := by decide +kernel
theorem dX5_rankOf_33 : decode cX5_rankOf 33 = .ok (.goto 4, 3) := by decide +kernel
theorem dX5_rankOf_36 : decode cX5_rankOf 36 = .ok (.iload_n 2, 1) := by decide +kernel
theorem dX5_rankOf_37 : decode cX5_rankOf 37 = .ok (.ireturn, 1) := by decide +kernel
set_option maxRecDepth 20000 in
theorem ggX5_layRegisters_X5_hashOf : GoodIn wsX5_layRegisters wsX5_hashOf := goodIn_r _ [9, 10, 11, 12, 13] (by decide +kernel) (by decide +kernel)
set_option maxRecDepth 20000 in
theorem gX5_layRegisters_X5_hashOf : GoodIn wsX5_layRegisters (va_wsS RX5 82 yX5_hashOf wsX5_hashOf) := goodIn_app (goodIn_of _ (by decide +kernel)) ggX5_layRegisters_X5_hashOf
set_option maxRecDepth 20000 in
theorem ggX5_layRegisters_X5_rankOf : GoodIn wsX5_layRegisters wsX5_rankOf := goodIn_r _ [16] (by decide +kernel) (by decide +kernel)
set_option maxRecDepth 20000 in
theorem gX5_layRegisters_X5_rankOf : GoodIn wsX5_layRegisters (va_wsS RX5 116 yX5_rankOf wsX5_rankOf) := goodIn_app (goodIn_of _ (by decide +kernel)) ggX5_layRegisters_X5_rankOf
theorem dX5_layRegisters_0 : decode cX5_layRegisters 0 = .ok (.iconst 0, 1) := by decide +kernel
theorem dX5_layRegisters_1 : decode cX5_layRegisters 1 = .ok (.istore_n 3, 1) := by decide +kernel
theorem dX5_layRegisters_2 : decode cX5_layRegisters 2 = .ok (.iload_n 3, 1) := by decide +kernel
theorem dX5_layRegisters_3 : decode cX5_layRegisters 3 = .ok (.bipush 16, 2) := by decide +kernel
theorem dX5_layRegisters_5 : decode cX5_layRegisters 5 = .ok (.if_icmp .ge 16, 3) := by decide +kernel
theorem dX5_layRegisters_8 : decode cX5_layRegisters 8 = .ok (.aload_n 0, 1) := by decide +kernel
theorem dX5_layRegisters_9 : decode cX5_layRegisters 9 = .ok (.getfield 31, 3) := by decide +kernel
theorem dX5_layRegisters_12 : decode cX5_layRegisters 12 = .ok (.iload_n 3, 1) := by decide +kernel
theorem dX5_layRegisters_13 : decode cX5_layRegisters 13 = .ok (.iconst 0, 1) := by decide +kernel
theorem dX5_layRegisters_14 : decode cX5_layRegisters 14 = .ok (.iastore, 1) := by decide +kernel
theorem dX5_layRegisters_15 : decode cX5_layRegisters 15 = .ok (.iinc 3 1, 3) := by decide +kernel
theorem dX5_layRegisters_18 : decode cX5_layRegisters 18 = .ok (.goto (-16), 3) := by decide +kernel
theorem dX5_layRegisters_21 : decode cX5_layRegisters 21 = .ok (.iconst 0, 1) := by decide +kernel
theorem dX5_layRegisters_22 : decode cX5_layRegisters 22 = .ok (.istore_n 3, 1) := by decide +kernel
theorem dX5_layRegisters_23 : decode cX5_layRegisters 23 = .ok (.iload_n 3, 1) := by decide +kernel
theorem dX5_layRegisters_24 : decode cX5_layRegisters 24 = .ok (.aload_n 0, 1) := by decide +kernel
theorem dX5_layRegisters_25 : decode cX5_layRegisters 25 = .ok (.getfield 58, 3) := by decide +kernel
theorem dX5_layRegisters_28 : decode cX5_layRegisters 28 = .ok (.if_icmp .ge 91, 3) := by decide +kernel
theorem dX5_layRegisters_31 : decode cX5_layRegisters 31 = .ok (.aload_n 0, 1) := by decide +kernel
theorem dX5_layRegisters_32 : decode cX5_layRegisters 32 = .ok (.getfield 15, 3) := by decide +kernel
theorem dX5_layRegisters_35 : decode cX5_layRegisters 35 = .ok (.iload_n 3, 1) := by decide +kernel
theorem dX5_layRegisters_36 : decode cX5_layRegisters 36 = .ok (.iaload, 1) := by decide +kernel
theorem dX5_layRegisters_37 : decode cX5_layRegisters 37 = .ok (.invokestatic 82, 3) := by decide +kernel
theorem dX5_layRegisters_40 : decode cX5_layRegisters 40 = .ok (.istore 4, 2) := by decide +kernel
theorem dX5_layRegisters_42 : decode cX5_layRegisters 42 = .ok (.aload_n 0, 1) := by decide +kernel
theorem dX5_layRegisters_43 : decode cX5_layRegisters 43 = .ok (.getfield 8, 3) := by decide +kernel
theorem dX5_layRegisters_46 : decode cX5_layRegisters 46 = .ok (.ldc 14, 2) := by decide +kernel
theorem dX5_layRegisters_48 : decode cX5_layRegisters 48 = .ok (.iload_n 1, 1) := by decide +kernel
theorem dX5_layRegisters_49 : decode cX5_layRegisters 49 = .ok (.imul, 1) := by decide +kernel
theorem dX5_layRegisters_50 : decode cX5_layRegisters 50 = .ok (.aload_n 0, 1) := by decide +kernel
theorem dX5_layRegisters_51 : decode cX5_layRegisters 51 = .ok (.getfield 15, 3) := by decide +kernel
theorem dX5_layRegisters_54 : decode cX5_layRegisters 54 = .ok (.iload_n 3, 1) := by decide +kernel
theorem dX5_layRegisters_55 : decode cX5_layRegisters 55 = .ok (.iaload, 1) := by decide +kernel
theorem dX5_layRegisters_56 : decode cX5_layRegisters 56 = .ok (.iadd, 1) := by decide +kernel
theorem dX5_layRegisters_57 : decode cX5_layRegisters 57 = .ok (.iaload, 1) := by decide +kernel
theorem dX5_layRegisters_58 : decode cX5_layRegisters 58 = .ok (.iload_n 2, 1) := by decide +kernel
theorem dX5_layRegisters_59 : decode cX5_layRegisters 59 = .ok (.if_icmp .le 11, 3) := by decide +kernel
theorem dX5_layRegisters_62 : decode cX5_layRegisters 62 = .ok (.iload 4, 2) := by decide +kernel
theorem dX5_layRegisters_64 : decode cX5_layRegisters 64 = .ok (.invokestatic 116, 3) := by decide +kernel
theorem dX5_layRegisters_67 : decode cX5_layRegisters 67 = .ok (.goto 4, 3) := by decide +kernel
theorem dX5_layRegisters_70 : decode cX5_layRegisters 70 = .ok (.iconst 0, 1) := by decide +kernel
theorem dX5_layRegisters_71 : decode cX5_layRegisters 71 = .ok (.istore 5, 2) := by decide +kernel
theorem dX5_layRegisters_73 : decode cX5_layRegisters 73 = .ok (.aload_n 0, 1) := by decide +kernel
theorem dX5_layRegisters_74 : decode cX5_layRegisters 74 = .ok (.getfield 31, 3) := by decide +kernel
theorem dX5_layRegisters_77 : decode cX5_layRegisters 77 = .ok (.iload 4, 2) := by decide +kernel
theorem dX5_layRegisters_79 : decode cX5_layRegisters 79 = .ok (.bipush 16, 2) := by decide +kernel
theorem dX5_layRegisters_81 : decode cX5_layRegisters 81 = .ok (.irem, 1) := by decide +kernel
theorem dX5_layRegisters_82 : decode cX5_layRegisters 82 = .ok (.iload 5, 2) := by decide +kernel
theorem dX5_layRegisters_84 : decode cX5_layRegisters 84 = .ok (.aload_n 0, 1) := by decide +kernel
theorem dX5_layRegisters_85 : decode cX5_layRegisters 85 = .ok (.getfield 31, 3) := by decide +kernel
theorem dX5_layRegisters_88 : decode cX5_layRegisters 88 = .ok (.iload 4, 2) := by decide +kernel
theorem dX5_layRegisters_90 : decode cX5_layRegisters 90 = .ok (.bipush 16, 2) := by decide +kernel
theorem dX5_layRegisters_92 : decode cX5_layRegisters 92 = .ok (.irem, 1) := by decide +kernel
theorem dX5_layRegisters_93 : decode cX5_layRegisters 93 = .ok (.iaload, 1) := by decide +kernel
theorem dX5_layRegisters_94 : decode cX5_layRegisters 94 = .ok (.if_icmp .le 8, 3) := by decide +kernel
theorem dX5_layRegisters_97 : decode cX5_layRegisters 97 = .ok (.iload 5, 2) := by decide +kernel
theorem dX5_layRegisters_99 : decode cX5_layRegisters 99 = .ok (.goto 13, 3) := by decide +kernel
theorem dX5_layRegisters_102 : decode cX5_layRegisters 102 = .ok (.aload_n 0, 1) := by decide +kernel
theorem dX5_layRegisters_103 : decode cX5_layRegisters 103 = .ok (.getfield 31, 3) := by decide +kernel
theorem dX5_layRegisters_106 : decode cX5_layRegisters 106 = .ok (.iload 4, 2) := by decide +kernel
theorem dX5_layRegisters_108 : decode cX5_layRegisters 108 = .ok (.bipush 16, 2) := by decide +kernel
theorem dX5_layRegisters_110 : decode cX5_layRegisters 110 = .ok (.irem, 1) := by decide +kernel
theorem dX5_layRegisters_111 : decode cX5_layRegisters 111 = .ok (.iaload, 1) := by decide +kernel
theorem dX5_layRegisters_112 : decode cX5_layRegisters 112 = .ok (.iastore, 1) := by decide +kernel
theorem dX5_layRegisters_113 : decode cX5_layRegisters 113 = .ok (.iinc 3 1, 3) := by decide +kernel
theorem dX5_layRegisters_116 : decode cX5_layRegisters 116 = .ok (.goto (-93), 3) := by decide +kernel
theorem dX5_layRegisters_119 : decode cX5_layRegisters 119 = .ok (.return_, 1) := by decide +kernel
theorem dX5_ofRegisters_0 : decode cX5_ofRegisters 0 = .ok (.lconst 0, 1) := by decide +kernel
theorem dX5_ofRegisters_1 : decode cX5_ofRegisters 1 = .ok (.lstore_n 1, 1) := by decide +kernel
theorem dX5_ofRegisters_2 : decode cX5_ofRegisters 2 = .ok (.iconst 0, 1) := by decide +kernel
theorem dX5_ofRegisters_3 : decode cX5_ofRegisters 3 = .ok (.istore_n 3, 1) := by decide +kernel
theorem dX5_ofRegisters_4 : decode cX5_ofRegisters 4 = .ok (.iconst 0, 1) := by decide +kernel
theorem dX5_ofRegisters_5 : decode cX5_ofRegisters 5 = .ok (.istore 4, 2) := by decide +kernel
theorem dX5_ofRegisters_7 : decode cX5_ofRegisters 7 = .ok (.iload 4, 2) := by decide +kernel
theorem dX5_ofRegisters_9 : decode cX5_ofRegisters 9 = .ok (.bipush 16, 2) := by decide +kernel
theorem dX5_ofRegisters_11 : decode cX5_ofRegisters 11 = .ok (.if_icmp .ge 41, 3) := by decide +kernel
theorem dX5_ofRegisters_14 : decode cX5_ofRegisters 14 = .ok (.lload_n 1, 1) := by decide +kernel
theorem dX5_ofRegisters_15 : decode cX5_ofRegisters 15 = .ok (.ldc 119, 2) := by decide +kernel
theorem dX5_ofRegisters_17 : decode cX5_ofRegisters 17 = .ok (.aload_n 0, 1) := by decide +kernel
theorem dX5_ofRegisters_18 : decode cX5_ofRegisters 18 = .ok (.getfield 31, 3) := by decide +kernel
theorem dX5_ofRegisters_21 : decode cX5_ofRegisters 21 = .ok (.iload 4, 2) := by decide +kernel
theorem dX5_ofRegisters_23 : decode cX5_ofRegisters 23 = .ok (.iaload, 1) := by decide +kernel
theorem dX5_ofRegisters_24 : decode cX5_ofRegisters 24 = .ok (.ishr, 1) := by decide +kernel
theorem dX5_ofRegisters_25 : decode cX5_ofRegisters 25 = .ok (.i2l, 1) := by decide +kernel
theorem dX5_ofRegisters_26 : decode cX5_ofRegisters 26 = .ok (.ladd, 1) := by decide +kernel
theorem dX5_ofRegisters_27 : decode cX5_ofRegisters 27 = .ok (.lstore_n 1, 1) := by decide +kernel
theorem dX5_ofRegisters_28 : decode cX5_ofRegisters 28 = .ok (.iload_n 3, 1) := by decide +kernel
theorem dX5_ofRegisters_29 : decode cX5_ofRegisters 29 = .ok (.aload_n 0, 1) := by decide +kernel
theorem dX5_ofRegisters_30 : decode cX5_ofRegisters 30 = .ok (.getfield 31, 3) := by decide +kernel
theorem dX5_ofRegisters_33 : decode cX5_ofRegisters 33 = .ok (.iload 4, 2) := by decide +kernel
theorem dX5_ofRegisters_35 : decode cX5_ofRegisters 35 = .ok (.iaload, 1) := by decide +kernel
theorem dX5_ofRegisters_36 : decode cX5_ofRegisters 36 = .ok (.ifCond .ne 7, 3) := by decide +kernel
theorem dX5_ofRegisters_39 : decode cX5_ofRegisters 39 = .ok (.iconst 1, 1) := by decide +kernel
theorem dX5_ofRegisters_40 : decode cX5_ofRegisters 40 = .ok (.goto 4, 3) := by decide +kernel
theorem dX5_ofRegisters_43 : decode cX5_ofRegisters 43 = .ok (.iconst 0, 1) := by decide +kernel
theorem dX5_ofRegisters_44 : decode cX5_ofRegisters 44 = .ok (.iadd, 1) := by decide +kernel
theorem dX5_ofRegisters_45 : decode cX5_ofRegisters 45 = .ok (.istore_n 3, 1) := by decide +kernel
theorem dX5_ofRegisters_46 : decode cX5_ofRegisters 46 = .ok (.iinc 4 1, 3) := by decide +kernel
theorem dX5_ofRegisters_49 : decode cX5_ofRegisters 49 = .ok (.goto (-42), 3) := by decide +kernel
theorem dX5_ofRegisters_52 : decode cX5_ofRegisters 52 = .ok (.ldc2_w 120, 3) := by decide +kernel
theorem dX5_ofRegisters_55 : decode cX5_ofRegisters 55 = .ok (.lload_n 1, 1) := by decide +kernel
theorem dX5_ofRegisters_56 : decode cX5_ofRegisters 56 = .ok (.ldiv, 1) := by decide +kernel
theorem dX5_ofRegisters_57 : decode cX5_ofRegisters 57 = .ok (.lstore 4, 2) := by decide +kernel
theorem dX5_ofRegisters_59 : decode cX5_ofRegisters 59 = .ok (.lload 4, 2) := by decide +kernel
theorem dX5_ofRegisters_61 : decode cX5_ofRegisters 61 = .ok (.ldc2_w 122, 3) := by decide +kernel
theorem dX5_ofRegisters_64 : decode cX5_ofRegisters 64 = .ok (.lcmp, 1) := by decide +kernel
theorem dX5_ofRegisters_65 : decode cX5_ofRegisters 65 = .ok (.ifCond .gt 17, 3) := by decide +kernel
theorem dX5_ofRegisters_68 : decode cX5_ofRegisters 68 = .ok (.iload_n 3, 1) := by decide +kernel
theorem dX5_ofRegisters_69 : decode cX5_ofRegisters 69 = .ok (.ifCond .le 13, 3) := by decide +kernel
theorem dX5_ofRegisters_72 : decode cX5_ofRegisters 72 = .ok (.aload_n 0, 1) := by decide +kernel
theorem dX5_ofRegisters_73 : decode cX5_ofRegisters 73 = .ok (.getfield 36, 3) := by decide +kernel
theorem dX5_ofRegisters_76 : decode cX5_ofRegisters 76 = .ok (.iload_n 3, 1) := by decide +kernel
theorem dX5_ofRegisters_77 : decode cX5_ofRegisters 77 = .ok (.iaload, 1) := by decide +kernel
theorem dX5_ofRegisters_78 : decode cX5_ofRegisters 78 = .ok (.i2l, 1) := by decide +kernel
theorem dX5_ofRegisters_79 : decode cX5_ofRegisters 79 = .ok (.goto 5, 3) := by decide +kernel
theorem dX5_ofRegisters_82 : decode cX5_ofRegisters 82 = .ok (.lload 4, 2) := by decide +kernel
theorem dX5_ofRegisters_84 : decode cX5_ofRegisters 84 = .ok (.lreturn, 1) := by decide +kernel
set_option maxRecDepth 20000 in
theorem ggX5_register_X5_isBasket : GoodIn wsX5_register wsX5_isBasket := goodIn_r _ [5] (by decide +kernel) (by decide +kernel)
set_option maxRecDepth 20000 in
theorem gX5_register_X5_isBasket : GoodIn wsX5_register (va_wsS RX5 61 yX5_isBasket wsX5_isBasket) := goodIn_app (goodIn_of _ (by decide +kernel)) ggX5_register_X5_isBasket
set_option maxRecDepth 20000 in
theorem ggX5_register_X5_goesWell : GoodIn wsX5_register wsX5_goesWell := goodIn_r _ [9, 10, 29, 30, 31, 32, 33, 34, 35, 36, 37, 38, 39, 40, 41, 42] (by decide +kernel) (by decide +kernel)
set_option maxRecDepth 20000 in
theorem gX5_register_X5_goesWell : GoodIn wsX5_register (wsV RX5 68 RX5 yX5_goesWell wsX5_goesWell) := goodIn_app (goodIn_of _ (by decide +kernel)) ggX5_register_X5_goesWell
set_option maxRecDepth 20000 in
theorem ggX5_register_X5_layRegisters : GoodIn wsX5_register wsX5_layRegisters := goodIn_r _ [14, 1, 15, 16, 17, 18, 19, 20, 4, 21, 22, 23, 24, 25, 26, 27, 28, 29, 30, 31, 32, 33, 34, 35, 36, 37, 38, 39, 40, 41, 42] (by decide +kernel) (by decide +kernel)
set_option maxRecDepth 20000 in
theorem gX5_register_X5_layRegisters : GoodIn wsX5_register (wsV RX5 124 RX5 yX5_layRegisters wsX5_layRegisters) := goodIn_app (goodIn_of _ (by decide +kernel)) ggX5_register_X5_layRegisters
theorem dX5_register_0 : decode cX5_register 0 = .ok (.iload_n 1, 1) := by decide +kernel
theorem dX5_register_1 : decode cX5_register 1 = .ok (.invokestatic 61, 3) := by decide +kernel
theorem dX5_register_4 : decode cX5_register 4 = .ok (.ifCond .eq 17, 3) := by decide +kernel
theorem dX5_register_7 : decode cX5_register 7 = .ok (.iload_n 2, 1) := by decide +kernel
theorem dX5_register_8 : decode cX5_register 8 = .ok (.ifCond .lt 13, 3) := by decide +kernel
theorem dX5_register_11 : decode cX5_register 11 = .ok (.iload_n 2, 1) := by decide +kernel
theorem dX5_register_12 : decode cX5_register 12 = .ok (.bipush 16, 2) := by decide +kernel
theorem dX5_register_14 : decode cX5_register 14 = .ok (.if_icmp .ge 7, 3) := by decide +kernel
theorem dX5_register_17 : decode cX5_register 17 = .ok (.iconst 1, 1) := by decide +kernel
theorem dX5_register_18 : decode cX5_register 18 = .ok (.goto 4, 3) := by decide +kernel
theorem dX5_register_21 : decode cX5_register 21 = .ok (.iconst 0, 1) := by decide +kernel
theorem dX5_register_22 : decode cX5_register 22 = .ok (.istore_n 3, 1) := by decide +kernel
theorem dX5_register_23 : decode cX5_register 23 = .ok (.aload_n 0, 1) := by decide +kernel
theorem dX5_register_24 : decode cX5_register 24 = .ok (.iload_n 3, 1) := by decide +kernel
theorem dX5_register_25 : decode cX5_register 25 = .ok (.ifCond .eq 7, 3) := by decide +kernel
theorem dX5_register_28 : decode cX5_register 28 = .ok (.iconst 0, 1) := by decide +kernel
theorem dX5_register_29 : decode cX5_register 29 = .ok (.goto 4, 3) := by decide +kernel
theorem dX5_register_32 : decode cX5_register 32 = .ok (.iconst 1, 1) := by decide +kernel
theorem dX5_register_33 : decode cX5_register 33 = .ok (.invokevirtual 68, 3) := by decide +kernel
theorem dX5_register_36 : decode cX5_register 36 = .ok (.ifCond .ne 5, 3) := by decide +kernel
theorem dX5_register_39 : decode cX5_register 39 = .ok (.iconst 0, 1) := by decide +kernel
theorem dX5_register_40 : decode cX5_register 40 = .ok (.ireturn, 1) := by decide +kernel
theorem dX5_register_41 : decode cX5_register 41 = .ok (.aload_n 0, 1) := by decide +kernel
theorem dX5_register_42 : decode cX5_register 42 = .ok (.iload_n 1, 1) := by decide +kernel
theorem dX5_register_43 : decode cX5_register 43 = .ok (.iconst (-1), 1) := by decide +kernel
theorem dX5_register_44 : decode cX5_register 44 = .ok (.invokevirtual 124, 3) := by decide +kernel
theorem dX5_register_47 : decode cX5_register 47 = .ok (.aload_n 0, 1) := by decide +kernel
theorem dX5_register_48 : decode cX5_register 48 = .ok (.getfield 31, 3) := by decide +kernel
theorem dX5_register_51 : decode cX5_register 51 = .ok (.iload_n 2, 1) := by decide +kernel
theorem dX5_register_52 : decode cX5_register 52 = .ok (.iaload, 1) := by decide +kernel
theorem dX5_register_53 : decode cX5_register 53 = .ok (.ireturn, 1) := by decide +kernel
set_option maxRecDepth 20000 in
theorem ggX5_byRegisters_X5_isBasket : GoodIn wsX5_byRegisters wsX5_isBasket := goodIn_r _ [4] (by decide +kernel) (by decide +kernel)
set_option maxRecDepth 20000 in
theorem gX5_byRegisters_X5_isBasket : GoodIn wsX5_byRegisters (va_wsS RX5 61 yX5_isBasket wsX5_isBasket) := goodIn_app (goodIn_of _ (by decide +kernel)) ggX5_byRegisters_X5_isBasket
set_option maxRecDepth 20000 in
theorem ggX5_byRegisters_X5_goesWell : GoodIn wsX5_byRegisters wsX5_goesWell := goodIn_r _ [8, 9, 37, 38, 39, 40, 41, 42, 43, 44, 45, 46, 47, 48, 49, 50] (by decide +kernel) (by decide +kernel)
set_option maxRecDepth 20000 in
theorem gX5_byRegisters_X5_goesWell : GoodIn wsX5_byRegisters (wsV RX5 68 RX5 yX5_goesWell wsX5_goesWell) := goodIn_app (goodIn_of _ (by decide +kernel)) ggX5_byRegisters_X5_goesWell
set_option maxRecDepth 20000 in
theorem ggX5_byRegisters_X5_layRegisters : GoodIn wsX5_byRegisters wsX5_layRegisters := goodIn_r _ [13, 14, 15, 16, 17, 18, 19, 20, 3, 21, 22, 23, 24, 25, 26, 27, 28, 37, 38, 39, 40, 41, 42, 43, 44, 45, 46, 47, 48, 49, 50] (by decide +kernel) (by decide +kernel)
set_option maxRecDepth 20000 in
theorem gX5_byRegisters_X5_layRegisters : GoodIn wsX5_byRegisters (wsV RX5 124 RX5 yX5_layRegisters wsX5_layRegisters) := goodIn_app (goodIn_of _ (by decide +kernel)) ggX5_byRegisters_X5_layRegisters
set_option maxRecDepth 20000 in
theorem ggX5_byRegisters_X5_ofRegisters : GoodIn wsX5_byRegisters wsX5_ofRegisters := goodIn_r _ [32, 33, 14, 34, 35, 36, 37, 38, 39, 40, 41, 42, 43, 44, 45, 46, 47, 48, 49, 50] (by decide +kernel) (by decide +kernel)
set_option maxRecDepth 20000 in
theorem gX5_byRegisters_X5_ofRegisters : GoodIn wsX5_byRegisters (wsV RX5 128 RX5 yX5_ofRegisters wsX5_ofRegisters) := goodIn_app (goodIn_of _ (by decide +kernel)) ggX5_byRegisters_X5_ofRegisters
theorem dX5_byRegisters_0 : decode cX5_byRegisters 0 = .ok (.aload_n 0, 1) := by decide +kernel
theorem dX5_byRegisters_1 : decode cX5_byRegisters 1 = .ok (.iload_n 1, 1) := by decide +kernel
theorem dX5_byRegisters_2 : decode cX5_byRegisters 2 = .ok (.invokestatic 61, 3) := by decide +kernel
theorem dX5_byRegisters_5 : decode cX5_byRegisters 5 = .ok (.ifCond .eq 7, 3) := by decide +kernel
theorem dX5_byRegisters_8 : decode cX5_byRegisters 8 = .ok (.iconst 0, 1) := by decide +kernel
theorem dX5_byRegisters_9 : decode cX5_byRegisters 9 = .ok (.goto 4, 3) := by decide +kernel
theorem dX5_byRegisters_12 : decode cX5_byRegisters 12 = .ok (.iconst 1, 1) := by decide +kernel
theorem dX5_byRegisters_13 : decode cX5_byRegisters 13 = .ok (.invokevirtual 68, 3) := by decide +kernel
theorem dX5_byRegisters_16 : decode cX5_byRegisters 16 = .ok (.ifCond .ne 5, 3) := by decide +kernel
theorem dX5_byRegisters_19 : decode cX5_byRegisters 19 = .ok (.lconst 0, 1) := by decide +kernel
theorem dX5_byRegisters_20 : decode cX5_byRegisters 20 = .ok (.lreturn, 1) := by decide +kernel
theorem dX5_byRegisters_21 : decode cX5_byRegisters 21 = .ok (.aload_n 0, 1) := by decide +kernel
theorem dX5_byRegisters_22 : decode cX5_byRegisters 22 = .ok (.iload_n 1, 1) := by decide +kernel
theorem dX5_byRegisters_23 : decode cX5_byRegisters 23 = .ok (.iconst (-1), 1) := by decide +kernel
theorem dX5_byRegisters_24 : decode cX5_byRegisters 24 = .ok (.invokevirtual 124, 3) := by decide +kernel
theorem dX5_byRegisters_27 : decode cX5_byRegisters 27 = .ok (.aload_n 0, 1) := by decide +kernel
theorem dX5_byRegisters_28 : decode cX5_byRegisters 28 = .ok (.invokevirtual 128, 3) := by decide +kernel
theorem dX5_byRegisters_31 : decode cX5_byRegisters 31 = .ok (.lreturn, 1) := by decide +kernel
set_option maxRecDepth 20000 in
theorem ggX5_recent_X5_isBasket : GoodIn wsX5_recent wsX5_isBasket := goodIn_r _ [6] (by decide +kernel) (by decide +kernel)
set_option maxRecDepth 20000 in
theorem gX5_recent_X5_isBasket : GoodIn wsX5_recent (va_wsS RX5 61 yX5_isBasket wsX5_isBasket) := goodIn_app (goodIn_of _ (by decide +kernel)) ggX5_recent_X5_isBasket
set_option maxRecDepth 20000 in
theorem ggX5_recent_X5_goesWell : GoodIn wsX5_recent wsX5_goesWell := goodIn_r _ [10, 11, 38, 39, 40, 41, 42, 43, 44, 45, 46, 47, 48, 49, 50, 51] (by decide +kernel) (by decide +kernel)
set_option maxRecDepth 20000 in
theorem gX5_recent_X5_goesWell : GoodIn wsX5_recent (wsV RX5 68 RX5 yX5_goesWell wsX5_goesWell) := goodIn_app (goodIn_of _ (by decide +kernel)) ggX5_recent_X5_goesWell
set_option maxRecDepth 20000 in
theorem ggX5_recent_X5_layRegisters : GoodIn wsX5_recent wsX5_layRegisters := goodIn_r _ [15, 16, 17, 18, 19, 1, 20, 21, 5, 22, 23, 24, 25, 26, 27, 28, 29, 38, 39, 40, 41, 42, 43, 44, 45, 46, 47, 48, 49, 50, 51] (by decide +kernel) (by decide +kernel)
set_option maxRecDepth 20000 in
theorem gX5_recent_X5_layRegisters : GoodIn wsX5_recent (wsV RX5 124 RX5 yX5_layRegisters wsX5_layRegisters) := goodIn_app (goodIn_of _ (by decide +kernel)) ggX5_recent_X5_layRegisters
set_option maxRecDepth 20000 in
theorem ggX5_recent_X5_ofRegisters : GoodIn wsX5_recent wsX5_ofRegisters := goodIn_r _ [33, 34, 16, 35, 36, 37, 38, 39, 40, 41, 42, 43, 44, 45, 46, 47, 48, 49, 50, 51] (by decide +kernel) (by decide +kernel)
set_option maxRecDepth 20000 in
theorem gX5_recent_X5_ofRegisters : GoodIn wsX5_recent (wsV RX5 128 RX5 yX5_ofRegisters wsX5_ofRegisters) := goodIn_app (goodIn_of _ (by decide +kernel)) ggX5_recent_X5_ofRegisters
theorem dX5_recent_0 : decode cX5_recent 0 = .ok (.aload_n 0, 1) := by decide +kernel
theorem dX5_recent_1 : decode cX5_recent 1 = .ok (.iload_n 1, 1) := by decide +kernel
theorem dX5_recent_2 : decode cX5_recent 2 = .ok (.invokestatic 61, 3) := by decide +kernel
theorem dX5_recent_5 : decode cX5_recent 5 = .ok (.ifCond .ne 7, 3) := by decide +kernel
theorem dX5_recent_8 : decode cX5_recent 8 = .ok (.iconst 1, 1) := by decide +kernel
theorem dX5_recent_9 : decode cX5_recent 9 = .ok (.goto 19, 3) := by decide +kernel
theorem dX5_recent_12 : decode cX5_recent 12 = .ok (.iload_n 2, 1) := by decide +kernel
theorem dX5_recent_13 : decode cX5_recent 13 = .ok (.iconst 1, 1) := by decide +kernel
theorem dX5_recent_14 : decode cX5_recent 14 = .ok (.if_icmp .lt 13, 3) := by decide +kernel
theorem dX5_recent_17 : decode cX5_recent 17 = .ok (.iload_n 2, 1) := by decide +kernel
theorem dX5_recent_18 : decode cX5_recent 18 = .ok (.ldc 14, 2) := by decide +kernel
theorem dX5_recent_20 : decode cX5_recent 20 = .ok (.if_icmp .gt 7, 3) := by decide +kernel
theorem dX5_recent_23 : decode cX5_recent 23 = .ok (.iconst 0, 1) := by decide +kernel
theorem dX5_recent_24 : decode cX5_recent 24 = .ok (.goto 4, 3) := by decide +kernel
theorem dX5_recent_27 : decode cX5_recent 27 = .ok (.iconst 2, 1) := by decide +kernel
theorem dX5_recent_28 : decode cX5_recent 28 = .ok (.invokevirtual 68, 3) := by decide +kernel
theorem dX5_recent_31 : decode cX5_recent 31 = .ok (.ifCond .ne 5, 3) := by decide +kernel
theorem dX5_recent_34 : decode cX5_recent 34 = .ok (.lconst 0, 1) := by decide +kernel
theorem dX5_recent_35 : decode cX5_recent 35 = .ok (.lreturn, 1) := by decide +kernel
theorem dX5_recent_36 : decode cX5_recent 36 = .ok (.aload_n 0, 1) := by decide +kernel
theorem dX5_recent_37 : decode cX5_recent 37 = .ok (.getfield 71, 3) := by decide +kernel
theorem dX5_recent_40 : decode cX5_recent 40 = .ok (.iload_n 2, 1) := by decide +kernel
theorem dX5_recent_41 : decode cX5_recent 41 = .ok (.isub, 1) := by decide +kernel
theorem dX5_recent_42 : decode cX5_recent 42 = .ok (.istore_n 3, 1) := by decide +kernel
theorem dX5_recent_43 : decode cX5_recent 43 = .ok (.aload_n 0, 1) := by decide +kernel
theorem dX5_recent_44 : decode cX5_recent 44 = .ok (.iload_n 1, 1) := by decide +kernel
theorem dX5_recent_45 : decode cX5_recent 45 = .ok (.iload_n 3, 1) := by decide +kernel
theorem dX5_recent_46 : decode cX5_recent 46 = .ok (.iconst (-1), 1) := by decide +kernel
theorem dX5_recent_47 : decode cX5_recent 47 = .ok (.if_icmp .ge 7, 3) := by decide +kernel
theorem dX5_recent_50 : decode cX5_recent 50 = .ok (.iconst (-1), 1) := by decide +kernel
theorem dX5_recent_51 : decode cX5_recent 51 = .ok (.goto 4, 3) := by decide +kernel
theorem dX5_recent_54 : decode cX5_recent 54 = .ok (.iload_n 3, 1) := by decide +kernel
theorem dX5_recent_55 : decode cX5_recent 55 = .ok (.invokevirtual 124, 3) := by decide +kernel
theorem dX5_recent_58 : decode cX5_recent 58 = .ok (.aload_n 0, 1) := by decide +kernel
theorem dX5_recent_59 : decode cX5_recent 59 = .ok (.invokevirtual 128, 3) := by decide +kernel
theorem dX5_recent_62 : decode cX5_recent 62 = .ok (.lreturn, 1) := by decide +kernel
set_option maxRecDepth 20000 in
theorem ggX5_countAt_X5_has : GoodIn wsX5_countAt wsX5_has := goodIn_r _ [7, 8, 9, 17, 18, 19, 20, 21, 22, 23, 24, 25, 26, 27, 28, 29, 30] (by decide +kernel) (by decide +kernel)
set_option maxRecDepth 20000 in
theorem gX5_countAt_X5_has : GoodIn wsX5_countAt (wsV RX5 54 RX5 yX5_has wsX5_has) := goodIn_app (goodIn_of _ (by decide +kernel)) ggX5_countAt_X5_has
set_option maxRecDepth 20000 in
theorem ggX5_countAt_X5_hashOf : GoodIn wsX5_countAt wsX5_hashOf := goodIn_r _ [12, 13, 14, 15, 16] (by decide +kernel) (by decide +kernel)
set_option maxRecDepth 20000 in
theorem gX5_countAt_X5_hashOf : GoodIn wsX5_countAt (va_wsS RX5 82 yX5_hashOf wsX5_hashOf) := goodIn_app (goodIn_of _ (by decide +kernel)) ggX5_countAt_X5_hashOf
theorem dX5_countAt_0 : decode cX5_countAt 0 = .ok (.iconst 0, 1) := by decide +kernel
theorem dX5_countAt_1 : decode cX5_countAt 1 = .ok (.istore_n 3, 1) := by decide +kernel
theorem dX5_countAt_2 : decode cX5_countAt 2 = .ok (.iconst 0, 1) := by decide +kernel
theorem dX5_countAt_3 : decode cX5_countAt 3 = .ok (.istore 4, 2) := by decide +kernel
theorem dX5_countAt_5 : decode cX5_countAt 5 = .ok (.iload 4, 2) := by decide +kernel
theorem dX5_countAt_7 : decode cX5_countAt 7 = .ok (.aload_n 0, 1) := by decide +kernel
theorem dX5_countAt_8 : decode cX5_countAt 8 = .ok (.getfield 58, 3) := by decide +kernel
theorem dX5_countAt_11 : decode cX5_countAt 11 = .ok (.if_icmp .ge 49, 3) := by decide +kernel
theorem dX5_countAt_14 : decode cX5_countAt 14 = .ok (.iload_n 3, 1) := by decide +kernel
theorem dX5_countAt_15 : decode cX5_countAt 15 = .ok (.aload_n 0, 1) := by decide +kernel
theorem dX5_countAt_16 : decode cX5_countAt 16 = .ok (.iload_n 1, 1) := by decide +kernel
theorem dX5_countAt_17 : decode cX5_countAt 17 = .ok (.aload_n 0, 1) := by decide +kernel
theorem dX5_countAt_18 : decode cX5_countAt 18 = .ok (.getfield 15, 3) := by decide +kernel
theorem dX5_countAt_21 : decode cX5_countAt 21 = .ok (.iload 4, 2) := by decide +kernel
theorem dX5_countAt_23 : decode cX5_countAt 23 = .ok (.iaload, 1) := by decide +kernel
theorem dX5_countAt_24 : decode cX5_countAt 24 = .ok (.invokevirtual 54, 3) := by decide +kernel
theorem dX5_countAt_27 : decode cX5_countAt 27 = .ok (.ifCond .eq 24, 3) := by decide +kernel
theorem dX5_countAt_30 : decode cX5_countAt 30 = .ok (.aload_n 0, 1) := by decide +kernel
theorem dX5_countAt_31 : decode cX5_countAt 31 = .ok (.getfield 15, 3) := by decide +kernel
theorem dX5_countAt_34 : decode cX5_countAt 34 = .ok (.iload 4, 2) := by decide +kernel
theorem dX5_countAt_36 : decode cX5_countAt 36 = .ok (.iaload, 1) := by decide +kernel
theorem dX5_countAt_37 : decode cX5_countAt 37 = .ok (.invokestatic 82, 3) := by decide +kernel
theorem dX5_countAt_40 : decode cX5_countAt 40 = .ok (.iconst 1, 1) := by decide +kernel
theorem dX5_countAt_41 : decode cX5_countAt 41 = .ok (.iload_n 2, 1) := by decide +kernel
theorem dX5_countAt_42 : decode cX5_countAt 42 = .ok (.ishl, 1) := by decide +kernel
theorem dX5_countAt_43 : decode cX5_countAt 43 = .ok (.irem, 1) := by decide +kernel
theorem dX5_countAt_44 : decode cX5_countAt 44 = .ok (.ifCond .ne 7, 3) := by decide +kernel
theorem dX5_countAt_47 : decode cX5_countAt 47 = .ok (.iconst 1, 1) := by decide +kernel
theorem dX5_countAt_48 : decode cX5_countAt 48 = .ok (.goto 4, 3) := by decide +kernel
theorem dX5_countAt_51 : decode cX5_countAt 51 = .ok (.iconst 0, 1) := by decide +kernel
theorem dX5_countAt_52 : decode cX5_countAt 52 = .ok (.iadd, 1) := by decide +kernel
theorem dX5_countAt_53 : decode cX5_countAt 53 = .ok (.istore_n 3, 1) := by decide +kernel
theorem dX5_countAt_54 : decode cX5_countAt 54 = .ok (.iinc 4 1, 3) := by decide +kernel
theorem dX5_countAt_57 : decode cX5_countAt 57 = .ok (.goto (-52), 3) := by decide +kernel
theorem dX5_countAt_60 : decode cX5_countAt 60 = .ok (.iload_n 3, 1) := by decide +kernel
theorem dX5_countAt_61 : decode cX5_countAt 61 = .ok (.ireturn, 1) := by decide +kernel
set_option maxRecDepth 20000 in
theorem ggX5_levelOf_X5_countAt : GoodIn wsX5_levelOf wsX5_countAt := goodIn_r _ [5, 6, 7, 8, 9, 10, 4, 11, 12, 13, 14, 15, 16, 17, 18, 19, 20, 21, 22, 23, 24, 25, 26, 27, 28, 29, 30, 31, 32, 33, 34] (by decide +kernel) (by decide +kernel)
set_option maxRecDepth 20000 in
theorem gX5_levelOf_X5_countAt : GoodIn wsX5_levelOf (wsV RX5 132 RX5 yX5_countAt wsX5_countAt) := goodIn_app (goodIn_of _ (by decide +kernel)) ggX5_levelOf_X5_countAt
theorem dX5_levelOf_0 : decode cX5_levelOf 0 = .ok (.iconst 0, 1) := by decide +kernel
theorem dX5_levelOf_1 : decode cX5_levelOf 1 = .ok (.istore_n 2, 1) := by decide +kernel
theorem dX5_levelOf_2 : decode cX5_levelOf 2 = .ok (.iload_n 2, 1) := by decide +kernel
theorem dX5_levelOf_3 : decode cX5_levelOf 3 = .ok (.bipush 24, 2) := by decide +kernel
theorem dX5_levelOf_5 : decode cX5_levelOf 5 = .ok (.if_icmp .ge 20, 3) := by decide +kernel
theorem dX5_levelOf_8 : decode cX5_levelOf 8 = .ok (.aload_n 0, 1) := by decide +kernel
theorem dX5_levelOf_9 : decode cX5_levelOf 9 = .ok (.iload_n 1, 1) := by decide +kernel
theorem dX5_levelOf_10 : decode cX5_levelOf 10 = .ok (.iload_n 2, 1) := by decide +kernel
theorem dX5_levelOf_11 : decode cX5_levelOf 11 = .ok (.invokevirtual 132, 3) := by decide +kernel
theorem dX5_levelOf_14 : decode cX5_levelOf 14 = .ok (.bipush 16, 2) := by decide +kernel
theorem dX5_levelOf_16 : decode cX5_levelOf 16 = .ok (.if_icmp .le 9, 3) := by decide +kernel
theorem dX5_levelOf_19 : decode cX5_levelOf 19 = .ok (.iinc 2 1, 3) := by decide +kernel
theorem dX5_levelOf_22 : decode cX5_levelOf 22 = .ok (.goto (-20), 3) := by decide +kernel
theorem dX5_levelOf_25 : decode cX5_levelOf 25 = .ok (.iload_n 2, 1) := by decide +kernel
theorem dX5_levelOf_26 : decode cX5_levelOf 26 = .ok (.ireturn, 1) := by decide +kernel
set_option maxRecDepth 20000 in
theorem ggX5_level_X5_isBasket : GoodIn wsX5_level wsX5_isBasket := goodIn_r _ [4] (by decide +kernel) (by decide +kernel)
set_option maxRecDepth 20000 in
theorem gX5_level_X5_isBasket : GoodIn wsX5_level (va_wsS RX5 61 yX5_isBasket wsX5_isBasket) := goodIn_app (goodIn_of _ (by decide +kernel)) ggX5_level_X5_isBasket
set_option maxRecDepth 20000 in
theorem ggX5_level_X5_goesWell : GoodIn wsX5_level wsX5_goesWell := goodIn_r _ [8, 9, 33, 34, 35, 36, 37, 38, 39, 40, 41, 42, 43, 44, 45, 46] (by decide +kernel) (by decide +kernel)
set_option maxRecDepth 20000 in
theorem gX5_level_X5_goesWell : GoodIn wsX5_level (wsV RX5 68 RX5 yX5_goesWell wsX5_goesWell) := goodIn_app (goodIn_of _ (by decide +kernel)) ggX5_level_X5_goesWell
set_option maxRecDepth 20000 in
theorem ggX5_level_X5_levelOf : GoodIn wsX5_level wsX5_levelOf := goodIn_r _ [13, 14, 15, 16, 3, 17, 18, 19, 20, 21, 22, 23, 24, 25, 26, 27, 28, 29, 30, 31, 32, 33, 34, 35, 36, 37, 38, 39, 40, 41, 42, 43, 44, 45, 46] (by decide +kernel) (by decide +kernel)
set_option maxRecDepth 20000 in
theorem gX5_level_X5_levelOf : GoodIn wsX5_level (wsV RX5 135 RX5 yX5_levelOf wsX5_levelOf) := goodIn_app (goodIn_of _ (by decide +kernel)) ggX5_level_X5_levelOf
theorem dX5_level_0 : decode cX5_level 0 = .ok (.aload_n 0, 1) := by decide +kernel
theorem dX5_level_1 : decode cX5_level 1 = .ok (.iload_n 1, 1) := by decide +kernel
theorem dX5_level_2 : decode cX5_level 2 = .ok (.invokestatic 61, 3) := by decide +kernel
theorem dX5_level_5 : decode cX5_level 5 = .ok (.ifCond .eq 7, 3) := by decide +kernel
theorem dX5_level_8 : decode cX5_level 8 = .ok (.iconst 0, 1) := by decide +kernel
theorem dX5_level_9 : decode cX5_level 9 = .ok (.goto 4, 3) := by decide +kernel
theorem dX5_level_12 : decode cX5_level 12 = .ok (.iconst 1, 1) := by decide +kernel
theorem dX5_level_13 : decode cX5_level 13 = .ok (.invokevirtual 68, 3) := by decide +kernel
theorem dX5_level_16 : decode cX5_level 16 = .ok (.ifCond .eq 11, 3) := by decide +kernel
theorem dX5_level_19 : decode cX5_level 19 = .ok (.aload_n 0, 1) := by decide +kernel
theorem dX5_level_20 : decode cX5_level 20 = .ok (.iload_n 1, 1) := by decide +kernel
theorem dX5_level_21 : decode cX5_level 21 = .ok (.invokevirtual 135, 3) := by decide +kernel
theorem dX5_level_24 : decode cX5_level 24 = .ok (.goto 4, 3) := by decide +kernel
theorem dX5_level_27 : decode cX5_level 27 = .ok (.iconst 0, 1) := by decide +kernel
theorem dX5_level_28 : decode cX5_level 28 = .ok (.ireturn, 1) := by decide +kernel
set_option maxRecDepth 20000 in
theorem ggX5_sampled_X5_isBasket : GoodIn wsX5_sampled wsX5_isBasket := goodIn_r _ [4] (by decide +kernel) (by decide +kernel)
set_option maxRecDepth 20000 in
theorem gX5_sampled_X5_isBasket : GoodIn wsX5_sampled (va_wsS RX5 61 yX5_isBasket wsX5_isBasket) := goodIn_app (goodIn_of _ (by decide +kernel)) ggX5_sampled_X5_isBasket
set_option maxRecDepth 20000 in
theorem ggX5_sampled_X5_goesWell : GoodIn wsX5_sampled wsX5_goesWell := goodIn_r _ [8, 9, 33, 34, 35, 36, 37, 38, 39, 40, 41, 42, 43, 44, 45, 46] (by decide +kernel) (by decide +kernel)
set_option maxRecDepth 20000 in
theorem gX5_sampled_X5_goesWell : GoodIn wsX5_sampled (wsV RX5 68 RX5 yX5_goesWell wsX5_goesWell) := goodIn_app (goodIn_of _ (by decide +kernel)) ggX5_sampled_X5_goesWell
set_option maxRecDepth 20000 in
theorem ggX5_sampled_X5_levelOf : GoodIn wsX5_sampled wsX5_levelOf := goodIn_r _ [13, 14, 15, 16, 3, 17, 18, 19, 20, 21, 22, 23, 24, 25, 26, 27, 28, 29, 30, 31, 32, 33, 34, 35, 36, 37, 38, 39, 40, 41, 42, 43, 44, 45, 46] (by decide +kernel) (by decide +kernel)
set_option maxRecDepth 20000 in
theorem gX5_sampled_X5_levelOf : GoodIn wsX5_sampled (wsV RX5 135 RX5 yX5_levelOf wsX5_levelOf) := goodIn_app (goodIn_of _ (by decide +kernel)) ggX5_sampled_X5_levelOf
set_option maxRecDepth 20000 in
theorem ggX5_sampled_X5_countAt : GoodIn wsX5_sampled wsX5_countAt := goodIn_r _ [17, 18, 19, 20, 21, 22, 3, 23, 24, 25, 26, 27, 28, 29, 30, 31, 32, 33, 34, 35, 36, 37, 38, 39, 40, 41, 42, 43, 44, 45, 46] (by decide +kernel) (by decide +kernel)
set_option maxRecDepth 20000 in
theorem gX5_sampled_X5_countAt : GoodIn wsX5_sampled (wsV RX5 132 RX5 yX5_countAt wsX5_countAt) := goodIn_app (goodIn_of _ (by decide +kernel)) ggX5_sampled_X5_countAt
theorem dX5_sampled_0 : decode cX5_sampled 0 = .ok (.aload_n 0, 1) := by decide +kernel
theorem dX5_sampled_1 : decode cX5_sampled 1 = .ok (.iload_n 1, 1) := by decide +kernel
theorem dX5_sampled_2 : decode cX5_sampled 2 = .ok (.invokestatic 61, 3) := by decide +kernel
theorem dX5_sampled_5 : decode cX5_sampled 5 = .ok (.ifCond .eq 7, 3) := by decide +kernel
theorem dX5_sampled_8 : decode cX5_sampled 8 = .ok (.iconst 0, 1) := by decide +kernel
theorem dX5_sampled_9 : decode cX5_sampled 9 = .ok (.goto 4, 3) := by decide +kernel
theorem dX5_sampled_12 : decode cX5_sampled 12 = .ok (.iconst 1, 1) := by decide +kernel
theorem dX5_sampled_13 : decode cX5_sampled 13 = .ok (.invokevirtual 68, 3) := by decide +kernel
theorem dX5_sampled_16 : decode cX5_sampled 16 = .ok (.ifCond .eq 16, 3) := by decide +kernel
theorem dX5_sampled_19 : decode cX5_sampled 19 = .ok (.aload_n 0, 1) := by decide +kernel
theorem dX5_sampled_20 : decode cX5_sampled 20 = .ok (.iload_n 1, 1) := by decide +kernel
theorem dX5_sampled_21 : decode cX5_sampled 21 = .ok (.aload_n 0, 1) := by decide +kernel
theorem dX5_sampled_22 : decode cX5_sampled 22 = .ok (.iload_n 1, 1) := by decide +kernel
theorem dX5_sampled_23 : decode cX5_sampled 23 = .ok (.invokevirtual 135, 3) := by decide +kernel
theorem dX5_sampled_26 : decode cX5_sampled 26 = .ok (.invokevirtual 132, 3) := by decide +kernel
theorem dX5_sampled_29 : decode cX5_sampled 29 = .ok (.goto 4, 3) := by decide +kernel
theorem dX5_sampled_32 : decode cX5_sampled 32 = .ok (.iconst 0, 1) := by decide +kernel
theorem dX5_sampled_33 : decode cX5_sampled 33 = .ok (.ireturn, 1) := by decide +kernel
set_option maxRecDepth 20000 in
theorem ggX5_sampledAt_X5_isBasket : GoodIn wsX5_sampledAt wsX5_isBasket := goodIn_r _ [4] (by decide +kernel) (by decide +kernel)
set_option maxRecDepth 20000 in
theorem gX5_sampledAt_X5_isBasket : GoodIn wsX5_sampledAt (va_wsS RX5 61 yX5_isBasket wsX5_isBasket) := goodIn_app (goodIn_of _ (by decide +kernel)) ggX5_sampledAt_X5_isBasket
set_option maxRecDepth 20000 in
theorem ggX5_sampledAt_X5_levelOf : GoodIn wsX5_sampledAt wsX5_levelOf := goodIn_r _ [8, 9, 10, 11, 3, 12, 13, 14, 15, 16, 17, 18, 19, 20, 21, 22, 23, 24, 25, 26, 27, 33, 34, 35, 36, 37, 38, 39, 40, 41, 42, 43, 44, 45, 46] (by decide +kernel) (by decide +kernel)
set_option maxRecDepth 20000 in
theorem gX5_sampledAt_X5_levelOf : GoodIn wsX5_sampledAt (wsV RX5 135 RX5 yX5_levelOf wsX5_levelOf) := goodIn_app (goodIn_of _ (by decide +kernel)) ggX5_sampledAt_X5_levelOf
set_option maxRecDepth 20000 in
theorem ggX5_sampledAt_X5_countAt : GoodIn wsX5_sampledAt wsX5_countAt := goodIn_r _ [12, 13, 14, 15, 16, 17, 3, 18, 19, 20, 21, 22, 23, 24, 25, 26, 27, 33, 34, 35, 36, 37, 38, 39, 40, 41, 42, 43, 44, 45, 46] (by decide +kernel) (by decide +kernel)
set_option maxRecDepth 20000 in
theorem gX5_sampledAt_X5_countAt : GoodIn wsX5_sampledAt (wsV RX5 132 RX5 yX5_countAt wsX5_countAt) := goodIn_app (goodIn_of _ (by decide +kernel)) ggX5_sampledAt_X5_countAt
set_option maxRecDepth 20000 in
theorem ggX5_sampledAt_X5_goesWell : GoodIn wsX5_sampledAt wsX5_goesWell := goodIn_r _ [31, 32, 33, 34, 35, 36, 37, 38, 39, 40, 41, 42, 43, 44, 45, 46] (by decide +kernel) (by decide +kernel)
set_option maxRecDepth 20000 in
theorem gX5_sampledAt_X5_goesWell : GoodIn wsX5_sampledAt (wsV RX5 68 RX5 yX5_goesWell wsX5_goesWell) := goodIn_app (goodIn_of _ (by decide +kernel)) ggX5_sampledAt_X5_goesWell
set_option maxRecDepth 20000 in
theorem ggX5_sampledAt_X5_has : GoodIn wsX5_sampledAt wsX5_has := goodIn_r _ [18, 19, 20, 33, 34, 35, 36, 37, 38, 39, 40, 41, 42, 43, 44, 45, 46] (by decide +kernel) (by decide +kernel)
set_option maxRecDepth 20000 in
theorem gX5_sampledAt_X5_has : GoodIn wsX5_sampledAt (wsV RX5 54 RX5 yX5_has wsX5_has) := goodIn_app (goodIn_of _ (by decide +kernel)) ggX5_sampledAt_X5_has
set_option maxRecDepth 20000 in
theorem ggX5_sampledAt_X5_hashOf : GoodIn wsX5_sampledAt wsX5_hashOf := goodIn_r _ [23, 24, 25, 26, 27] (by decide +kernel) (by decide +kernel)
set_option maxRecDepth 20000 in
theorem gX5_sampledAt_X5_hashOf : GoodIn wsX5_sampledAt (va_wsS RX5 82 yX5_hashOf wsX5_hashOf) := goodIn_app (goodIn_of _ (by decide +kernel)) ggX5_sampledAt_X5_hashOf
theorem dX5_sampledAt_0 : decode cX5_sampledAt 0 = .ok (.iload_n 1, 1) := by decide +kernel
theorem dX5_sampledAt_1 : decode cX5_sampledAt 1 = .ok (.invokestatic 61, 3) := by decide +kernel
theorem dX5_sampledAt_4 : decode cX5_sampledAt 4 = .ok (.ifCond .eq 11, 3) := by decide +kernel
theorem dX5_sampledAt_7 : decode cX5_sampledAt 7 = .ok (.aload_n 0, 1) := by decide +kernel
theorem dX5_sampledAt_8 : decode cX5_sampledAt 8 = .ok (.iload_n 1, 1) := by decide +kernel
theorem dX5_sampledAt_9 : decode cX5_sampledAt 9 = .ok (.invokevirtual 135, 3) := by decide +kernel
theorem dX5_sampledAt_12 : decode cX5_sampledAt 12 = .ok (.goto 4, 3) := by decide +kernel
theorem dX5_sampledAt_15 : decode cX5_sampledAt 15 = .ok (.iconst 0, 1) := by decide +kernel
theorem dX5_sampledAt_16 : decode cX5_sampledAt 16 = .ok (.istore_n 3, 1) := by decide +kernel
theorem dX5_sampledAt_17 : decode cX5_sampledAt 17 = .ok (.iload_n 1, 1) := by decide +kernel
theorem dX5_sampledAt_18 : decode cX5_sampledAt 18 = .ok (.invokestatic 61, 3) := by decide +kernel
theorem dX5_sampledAt_21 : decode cX5_sampledAt 21 = .ok (.ifCond .eq 12, 3) := by decide +kernel
theorem dX5_sampledAt_24 : decode cX5_sampledAt 24 = .ok (.aload_n 0, 1) := by decide +kernel
theorem dX5_sampledAt_25 : decode cX5_sampledAt 25 = .ok (.iload_n 1, 1) := by decide +kernel
theorem dX5_sampledAt_26 : decode cX5_sampledAt 26 = .ok (.iload_n 3, 1) := by decide +kernel
theorem dX5_sampledAt_27 : decode cX5_sampledAt 27 = .ok (.invokevirtual 132, 3) := by decide +kernel
theorem dX5_sampledAt_30 : decode cX5_sampledAt 30 = .ok (.goto 4, 3) := by decide +kernel
theorem dX5_sampledAt_33 : decode cX5_sampledAt 33 = .ok (.iconst 0, 1) := by decide +kernel
theorem dX5_sampledAt_34 : decode cX5_sampledAt 34 = .ok (.istore 4, 2) := by decide +kernel
theorem dX5_sampledAt_36 : decode cX5_sampledAt 36 = .ok (.aload_n 0, 1) := by decide +kernel
theorem dX5_sampledAt_37 : decode cX5_sampledAt 37 = .ok (.iload_n 2, 1) := by decide +kernel
theorem dX5_sampledAt_38 : decode cX5_sampledAt 38 = .ok (.ifCond .lt 13, 3) := by decide +kernel
theorem dX5_sampledAt_41 : decode cX5_sampledAt 41 = .ok (.iload_n 2, 1) := by decide +kernel
theorem dX5_sampledAt_42 : decode cX5_sampledAt 42 = .ok (.iload 4, 2) := by decide +kernel
theorem dX5_sampledAt_44 : decode cX5_sampledAt 44 = .ok (.if_icmp .ge 7, 3) := by decide +kernel
theorem dX5_sampledAt_47 : decode cX5_sampledAt 47 = .ok (.iconst 0, 1) := by decide +kernel
theorem dX5_sampledAt_48 : decode cX5_sampledAt 48 = .ok (.goto 4, 3) := by decide +kernel
theorem dX5_sampledAt_51 : decode cX5_sampledAt 51 = .ok (.iconst 1, 1) := by decide +kernel
theorem dX5_sampledAt_52 : decode cX5_sampledAt 52 = .ok (.invokevirtual 68, 3) := by decide +kernel
theorem dX5_sampledAt_55 : decode cX5_sampledAt 55 = .ok (.ifCond .ne 5, 3) := by decide +kernel
theorem dX5_sampledAt_58 : decode cX5_sampledAt 58 = .ok (.iconst 0, 1) := by decide +kernel
theorem dX5_sampledAt_59 : decode cX5_sampledAt 59 = .ok (.ireturn, 1) := by decide +kernel
theorem dX5_sampledAt_60 : decode cX5_sampledAt 60 = .ok (.iconst 0, 1) := by decide +kernel
theorem dX5_sampledAt_61 : decode cX5_sampledAt 61 = .ok (.istore 5, 2) := by decide +kernel
theorem dX5_sampledAt_63 : decode cX5_sampledAt 63 = .ok (.iload_n 2, 1) := by decide +kernel
theorem dX5_sampledAt_64 : decode cX5_sampledAt 64 = .ok (.istore 6, 2) := by decide +kernel
theorem dX5_sampledAt_66 : decode cX5_sampledAt 66 = .ok (.iload 6, 2) := by decide +kernel
theorem dX5_sampledAt_68 : decode cX5_sampledAt 68 = .ok (.ifCond .gt 25, 3) := by decide +kernel
theorem dX5_sampledAt_71 : decode cX5_sampledAt 71 = .ok (.aload_n 0, 1) := by decide +kernel
theorem dX5_sampledAt_72 : decode cX5_sampledAt 72 = .ok (.iload_n 1, 1) := by decide +kernel
theorem dX5_sampledAt_73 : decode cX5_sampledAt 73 = .ok (.iload 5, 2) := by decide +kernel
theorem dX5_sampledAt_75 : decode cX5_sampledAt 75 = .ok (.invokevirtual 54, 3) := by decide +kernel
theorem dX5_sampledAt_78 : decode cX5_sampledAt 78 = .ok (.ifCond .eq 15, 3) := by decide +kernel
theorem dX5_sampledAt_81 : decode cX5_sampledAt 81 = .ok (.iload 5, 2) := by decide +kernel
theorem dX5_sampledAt_83 : decode cX5_sampledAt 83 = .ok (.invokestatic 82, 3) := by decide +kernel
theorem dX5_sampledAt_86 : decode cX5_sampledAt 86 = .ok (.iconst 1, 1) := by decide +kernel
theorem dX5_sampledAt_87 : decode cX5_sampledAt 87 = .ok (.iload_n 3, 1) := by decide +kernel
theorem dX5_sampledAt_88 : decode cX5_sampledAt 88 = .ok (.ishl, 1) := by decide +kernel
theorem dX5_sampledAt_89 : decode cX5_sampledAt 89 = .ok (.irem, 1) := by decide +kernel
theorem dX5_sampledAt_90 : decode cX5_sampledAt 90 = .ok (.ifCond .eq 41, 3) := by decide +kernel
theorem dX5_sampledAt_93 : decode cX5_sampledAt 93 = .ok (.iload 6, 2) := by decide +kernel
theorem dX5_sampledAt_95 : decode cX5_sampledAt 95 = .ok (.aload_n 0, 1) := by decide +kernel
theorem dX5_sampledAt_96 : decode cX5_sampledAt 96 = .ok (.iload_n 1, 1) := by decide +kernel
theorem dX5_sampledAt_97 : decode cX5_sampledAt 97 = .ok (.iload 5, 2) := by decide +kernel
theorem dX5_sampledAt_99 : decode cX5_sampledAt 99 = .ok (.invokevirtual 54, 3) := by decide +kernel
theorem dX5_sampledAt_102 : decode cX5_sampledAt 102 = .ok (.ifCond .eq 19, 3) := by decide +kernel
theorem dX5_sampledAt_105 : decode cX5_sampledAt 105 = .ok (.iload 5, 2) := by decide +kernel
theorem dX5_sampledAt_107 : decode cX5_sampledAt 107 = .ok (.invokestatic 82, 3) := by decide +kernel
theorem dX5_sampledAt_110 : decode cX5_sampledAt 110 = .ok (.iconst 1, 1) := by decide +kernel
theorem dX5_sampledAt_111 : decode cX5_sampledAt 111 = .ok (.iload_n 3, 1) := by decide +kernel
theorem dX5_sampledAt_112 : decode cX5_sampledAt 112 = .ok (.ishl, 1) := by decide +kernel
theorem dX5_sampledAt_113 : decode cX5_sampledAt 113 = .ok (.irem, 1) := by decide +kernel
theorem dX5_sampledAt_114 : decode cX5_sampledAt 114 = .ok (.ifCond .ne 7, 3) := by decide +kernel
theorem dX5_sampledAt_117 : decode cX5_sampledAt 117 = .ok (.iconst 1, 1) := by decide +kernel
theorem dX5_sampledAt_118 : decode cX5_sampledAt 118 = .ok (.goto 4, 3) := by decide +kernel
theorem dX5_sampledAt_121 : decode cX5_sampledAt 121 = .ok (.iconst 0, 1) := by decide +kernel
theorem dX5_sampledAt_122 : decode cX5_sampledAt 122 = .ok (.isub, 1) := by decide +kernel
theorem dX5_sampledAt_123 : decode cX5_sampledAt 123 = .ok (.istore 6, 2) := by decide +kernel
theorem dX5_sampledAt_125 : decode cX5_sampledAt 125 = .ok (.iinc 5 1, 3) := by decide +kernel
theorem dX5_sampledAt_128 : decode cX5_sampledAt 128 = .ok (.goto (-62), 3) := by decide +kernel
theorem dX5_sampledAt_131 : decode cX5_sampledAt 131 = .ok (.iload 5, 2) := by decide +kernel
theorem dX5_sampledAt_133 : decode cX5_sampledAt 133 = .ok (.ireturn, 1) := by decide +kernel
set_option maxRecDepth 20000 in
theorem ggX5_bySample_X5_isBasket : GoodIn wsX5_bySample wsX5_isBasket := goodIn_r _ [4] (by decide +kernel) (by decide +kernel)
set_option maxRecDepth 20000 in
theorem gX5_bySample_X5_isBasket : GoodIn wsX5_bySample (va_wsS RX5 61 yX5_isBasket wsX5_isBasket) := goodIn_app (goodIn_of _ (by decide +kernel)) ggX5_bySample_X5_isBasket
set_option maxRecDepth 20000 in
theorem ggX5_bySample_X5_goesWell : GoodIn wsX5_bySample wsX5_goesWell := goodIn_r _ [8, 9, 33, 34, 35, 36, 37, 38, 39, 40, 41, 42, 43, 44, 45, 46] (by decide +kernel) (by decide +kernel)
set_option maxRecDepth 20000 in
theorem gX5_bySample_X5_goesWell : GoodIn wsX5_bySample (wsV RX5 68 RX5 yX5_goesWell wsX5_goesWell) := goodIn_app (goodIn_of _ (by decide +kernel)) ggX5_bySample_X5_goesWell
set_option maxRecDepth 20000 in
theorem ggX5_bySample_X5_levelOf : GoodIn wsX5_bySample wsX5_levelOf := goodIn_r _ [13, 14, 15, 16, 3, 17, 18, 19, 20, 21, 22, 23, 24, 25, 26, 27, 28, 29, 30, 31, 32, 33, 34, 35, 36, 37, 38, 39, 40, 41, 42, 43, 44, 45, 46] (by decide +kernel) (by decide +kernel)
set_option maxRecDepth 20000 in
theorem gX5_bySample_X5_levelOf : GoodIn wsX5_bySample (wsV RX5 135 RX5 yX5_levelOf wsX5_levelOf) := goodIn_app (goodIn_of _ (by decide +kernel)) ggX5_bySample_X5_levelOf
set_option maxRecDepth 20000 in
theorem ggX5_bySample_X5_countAt : GoodIn wsX5_bySample wsX5_countAt := goodIn_r _ [17, 18, 19, 20, 21, 22, 3, 23, 24, 25, 26, 27, 28, 29, 30, 31, 32, 33, 34, 35, 36, 37, 38, 39, 40, 41, 42, 43, 44, 45, 46] (by decide +kernel) (by decide +kernel)
set_option maxRecDepth 20000 in
theorem gX5_bySample_X5_countAt : GoodIn wsX5_bySample (wsV RX5 132 RX5 yX5_countAt wsX5_countAt) := goodIn_app (goodIn_of _ (by decide +kernel)) ggX5_bySample_X5_countAt
theorem dX5_bySample_0 : decode cX5_bySample 0 = .ok (.aload_n 0, 1) := by decide +kernel
theorem dX5_bySample_1 : decode cX5_bySample 1 = .ok (.iload_n 1, 1) := by decide +kernel
theorem dX5_bySample_2 : decode cX5_bySample 2 = .ok (.invokestatic 61, 3) := by decide +kernel
theorem dX5_bySample_5 : decode cX5_bySample 5 = .ok (.ifCond .eq 7, 3) := by decide +kernel
theorem dX5_bySample_8 : decode cX5_bySample 8 = .ok (.iconst 0, 1) := by decide +kernel
theorem dX5_bySample_9 : decode cX5_bySample 9 = .ok (.goto 4, 3) := by decide +kernel
theorem dX5_bySample_12 : decode cX5_bySample 12 = .ok (.iconst 1, 1) := by decide +kernel
theorem dX5_bySample_13 : decode cX5_bySample 13 = .ok (.invokevirtual 68, 3) := by decide +kernel
theorem dX5_bySample_16 : decode cX5_bySample 16 = .ok (.ifCond .ne 5, 3) := by decide +kernel
theorem dX5_bySample_19 : decode cX5_bySample 19 = .ok (.iconst 0, 1) := by decide +kernel
theorem dX5_bySample_20 : decode cX5_bySample 20 = .ok (.ireturn, 1) := by decide +kernel
theorem dX5_bySample_21 : decode cX5_bySample 21 = .ok (.aload_n 0, 1) := by decide +kernel
theorem dX5_bySample_22 : decode cX5_bySample 22 = .ok (.iload_n 1, 1) := by decide +kernel
theorem dX5_bySample_23 : decode cX5_bySample 23 = .ok (.invokevirtual 135, 3) := by decide +kernel
theorem dX5_bySample_26 : decode cX5_bySample 26 = .ok (.istore_n 2, 1) := by decide +kernel
theorem dX5_bySample_27 : decode cX5_bySample 27 = .ok (.aload_n 0, 1) := by decide +kernel
theorem dX5_bySample_28 : decode cX5_bySample 28 = .ok (.iload_n 1, 1) := by decide +kernel
theorem dX5_bySample_29 : decode cX5_bySample 29 = .ok (.iload_n 2, 1) := by decide +kernel
theorem dX5_bySample_30 : decode cX5_bySample 30 = .ok (.invokevirtual 132, 3) := by decide +kernel
theorem dX5_bySample_33 : decode cX5_bySample 33 = .ok (.iload_n 2, 1) := by decide +kernel
theorem dX5_bySample_34 : decode cX5_bySample 34 = .ok (.ishl, 1) := by decide +kernel
theorem dX5_bySample_35 : decode cX5_bySample 35 = .ok (.ireturn, 1) := by decide +kernel
theorem dJ9_max_7cf53_0 : decode cJ9_max_7cf53 0 = .ok (.iload_n 0, 1) := by decide +kernel
theorem dJ9_max_7cf53_1 : decode cJ9_max_7cf53 1 = .ok (.iload_n 1, 1) := by decide +kernel
theorem dJ9_max_7cf53_2 : decode cJ9_max_7cf53 2 = .ok (.if_icmp .lt 7, 3) := by decide +kernel
theorem dJ9_max_7cf53_5 : decode cJ9_max_7cf53 5 = .ok (.iload_n 0, 1) := by decide +kernel
theorem dJ9_max_7cf53_6 : decode cJ9_max_7cf53 6 = .ok (.goto 4, 3) := by decide +kernel
theorem dJ9_max_7cf53_9 : decode cJ9_max_7cf53 9 = .ok (.iload_n 1, 1) := by decide +kernel
theorem dJ9_max_7cf53_10 : decode cJ9_max_7cf53 10 = .ok (.ireturn, 1) := by decide +kernel
theorem dJ9_min_7cf53_0 : decode cJ9_min_7cf53 0 = .ok (.iload_n 0, 1) := by decide +kernel
theorem dJ9_min_7cf53_1 : decode cJ9_min_7cf53 1 = .ok (.iload_n 1, 1) := by decide +kernel
theorem dJ9_min_7cf53_2 : decode cJ9_min_7cf53 2 = .ok (.if_icmp .gt 7, 3) := by decide +kernel
theorem dJ9_min_7cf53_5 : decode cJ9_min_7cf53 5 = .ok (.iload_n 0, 1) := by decide +kernel
theorem dJ9_min_7cf53_6 : decode cJ9_min_7cf53 6 = .ok (.goto 4, 3) := by decide +kernel
theorem dJ9_min_7cf53_9 : decode cJ9_min_7cf53 9 = .ok (.iload_n 1, 1) := by decide +kernel
theorem dJ9_min_7cf53_10 : decode cJ9_min_7cf53 10 = .ok (.ireturn, 1) := by decide +kernel
theorem dJ7_copyOf_59c91_0 : decode cJ7_copyOf_59c91 0 = .ok (.iload_n 1, 1) := by decide +kernel
theorem dJ7_copyOf_59c91_1 : decode cJ7_copyOf_59c91 1 = .ok (.aload_n 0, 1) := by decide +kernel
theorem dJ7_copyOf_59c91_2 : decode cJ7_copyOf_59c91 2 = .ok (.arraylength, 1) := by decide +kernel
theorem dJ7_copyOf_59c91_3 : decode cJ7_copyOf_59c91 3 = .ok (.if_icmp .ne 11, 3) := by decide +kernel
theorem dJ7_copyOf_59c91_6 : decode cJ7_copyOf_59c91 6 = .ok (.aload_n 0, 1) := by decide +kernel
theorem dJ7_copyOf_59c91_7 : decode cJ7_copyOf_59c91 7 = .ok (.invokevirtual 316, 3) := by decide +kernel
theorem dJ7_copyOf_59c91_10 : decode cJ7_copyOf_59c91 10 = .ok (.checkcast 317, 3) := by decide +kernel
theorem dJ7_copyOf_59c91_13 : decode cJ7_copyOf_59c91 13 = .ok (.areturn, 1) := by decide +kernel
theorem dJ7_copyOf_59c91_14 : decode cJ7_copyOf_59c91 14 = .ok (.iload_n 1, 1) := by decide +kernel
theorem dJ7_copyOf_59c91_15 : decode cJ7_copyOf_59c91 15 = .ok (.newarray .int, 2) := by decide +kernel
theorem dJ7_copyOf_59c91_17 : decode cJ7_copyOf_59c91 17 = .ok (.astore_n 2, 1) := by decide +kernel
theorem dJ7_copyOf_59c91_18 : decode cJ7_copyOf_59c91 18 = .ok (.aload_n 0, 1) := by decide +kernel
theorem dJ7_copyOf_59c91_19 : decode cJ7_copyOf_59c91 19 = .ok (.iconst 0, 1) := by decide +kernel
theorem dJ7_copyOf_59c91_20 : decode cJ7_copyOf_59c91 20 = .ok (.aload_n 2, 1) := by decide +kernel
theorem dJ7_copyOf_59c91_21 : decode cJ7_copyOf_59c91 21 = .ok (.iconst 0, 1) := by decide +kernel
theorem dJ7_copyOf_59c91_22 : decode cJ7_copyOf_59c91 22 = .ok (.aload_n 0, 1) := by decide +kernel
theorem dJ7_copyOf_59c91_23 : decode cJ7_copyOf_59c91 23 = .ok (.arraylength, 1) := by decide +kernel
theorem dJ7_copyOf_59c91_24 : decode cJ7_copyOf_59c91 24 = .ok (.iload_n 1, 1) := by decide +kernel
theorem dJ7_copyOf_59c91_25 : decode cJ7_copyOf_59c91 25 = .ok (.invokestatic 304, 3) := by decide +kernel
theorem dJ7_copyOf_59c91_28 : decode cJ7_copyOf_59c91 28 = .ok (.invokestatic 150, 3) := by decide +kernel
theorem dJ7_copyOf_59c91_31 : decode cJ7_copyOf_59c91 31 = .ok (.aload_n 2, 1) := by decide +kernel
theorem dJ7_copyOf_59c91_32 : decode cJ7_copyOf_59c91 32 = .ok (.areturn, 1) := by decide +kernel
end
section
section XBASE
/-! the worlds of this claim: arrays of four kinds, the words of nest mates and of throws, the static table -/
abbrev xTY (cy : Nat → ClassId) : List (ClassId × FieldType) := [(cy 0, .int), (cy 1, .boolean), (cy 2, .long), (cy 3, .object RX0)]
abbrev xP (D : va_G) (ws : va_W) (H : Heap) : Prop := va_P D vwCl ws H
abbrev xK (D : va_G) (cy : Nat → ClassId) (U : State) : Prop := va_K D vwCl (xTY cy) U
abbrev xI (cy : Nat → ClassId) (n : Nat) (f : Nat → Int32) : va_E := .inl (cy 0, n, .inl f)
abbrev xZ (cy : Nat → ClassId) (n : Nat) (f : Nat → Int32) : va_E := .inl (cy 1, n, .inl f)
abbrev xL (cy : Nat → ClassId) (n : Nat) (f : Nat → Int64) : va_E := .inl (cy 2, n, .inr (.inl f))
abbrev xB (cy : Nat → ClassId) (n : Nat) (f : Nat → Option Nat) : va_E := .inl (cy 3, n, .inr (.inr (.inr (.inr f))))
def xnM : List (String × Nat × MethodName) := [(RX4, 28, yX0_init), (RX4, 31, yX2_init), (RX4, 38, yX3_init), (RX0, 30, yX4_at), (RX0, 39, yX4_put), (RX1, 31, yX4_at), (RX1, 35, yX4_hashFor), (RX1, 48, yX4_put), (RX2, 19, yX4_put), (RX2, 32, yX4_at), (RX2, 39, yX4_hashFor), (RX2, 55, yX4_lowZeros), (RX3, 22, yX4_put), (RX3, 32, yX4_at), (RX3, 40, yX4_hashFor), (RX3, 43, yX4_lowZeros)]
def xN (U : State) : Prop := ∀ q ∈ xnM, va_Nw (.methodLinkNest q.1 q.2.1 q.2.2 RX4) U
abbrev xIO : String := "java/lang/IndexOutOfBoundsException"
abbrev xIA : String := "java/lang/IllegalArgumentException"
def xdM : List MethodName := [Bundle.initS "java/lang/RuntimeException", Bundle.initS "java/lang/Exception", Bundle.initS Bundle.tN]
def xsM : List (Nat × String) := [(119, "the basket does not keep so many"), (143, "no such register"), (166, "the sample has not so many"), (172, "no such basket"), (176, "an argument is out of range")]
def xX (U : State) : Prop := (∀ q ∈ xdM, va_Nw (.declares q) U) ∧ (va_Nw (.castable xIO xIO) U ∧ va_Nw (.castable xIA xIA) U) ∧ ∀ q ∈ xsM, ∃ sa : Nat, vk_R RX4 q.1 q.2 sa U
def xTab : List Int32 := [0, 44361, 33271, 26784, 22181, 18610, 15693, 13227, 11090, 9206, 7520, 5995, 4603, 3322, 2137, 1033, 0]
def xH (t0 : Nat) (A : Nat → Prop) (U : State) (H : Heap) : Prop := (vx_Zq Bundle.tN "UNASSIGNED_STACK" Bundle.steD A U H ∧ vx_Zq Bundle.tN "SUPPRESSED_SENTINEL" Bundle.listD A U H) ∧ va_Z RX2 "ESTIMATE_BY_ZEROS" "[I" (.ref t0) A U H ∧ va_T .int t0 17 (fun j => .int (xTab.getD j 0)) A U H
def xE (D : va_G) (cy : Nat → ClassId) (t0 : Nat) (A : Nat → Prop) (U : State) (H : Heap) : Prop := xK D cy U ∧ (xN U ∧ xX U) ∧ xH t0 A U H
theorem xN.same {u U : State} (h : u.vm = U.vm) (hN : xN u) : xN U := fun q hq => va_Nw.same rfl h (hN q hq)
theorem xN.warm {u U : State} (h : u.WarmedH U.vm) (hN : xN u) : xN U := fun q hq => va_Nw.warmM h (hN q hq)
theorem xX.same {u U : State} (h : u.vm = U.vm) (hN : xX u) : xX U := ⟨fun q hq => va_Nw.same rfl h (hN.1 q hq), ⟨va_Nw.same rfl h hN.2.1.1, va_Nw.same rfl h hN.2.1.2⟩, fun q hq => by
  obtain ⟨sa, hs⟩ := hN.2.2 q hq
  exact ⟨sa, vk_R.same h.symm hs⟩⟩
theorem xX.warm {u U : State} (h : u.WarmedH U.vm) (hN : xX u) : xX U := ⟨fun q hq => va_Nw.warmD h (hN.1 q hq), ⟨va_Nw.warmC h hN.2.1.1, va_Nw.warmC h hN.2.1.2⟩, fun q hq => by
  obtain ⟨sa, hs⟩ := hN.2.2 q hq
  exact ⟨sa, vk_R.warm h hs⟩⟩
theorem xH.moved {t0 : Nat} {A : Nat → Prop} {u U : State} {H : Heap} (hvm : u.vm.Alike U.vm) (h : xH t0 A u H) : xH t0 A U H := ⟨⟨vx_Zq.moved hvm h.1.1, vx_Zq.moved hvm h.1.2⟩, va_Z.moved hvm h.2.1, va_T.moved hvm h.2.2⟩
theorem xH.kept {t0 : Nat} {A : Nat → Prop} {U : State} {H H1 : Heap} (h : xH t0 A U H) (hq : ∀ a : Nat, a < H.size → ¬ A a → H1[a]? = H[a]?) : xH t0 A U H1 := ⟨⟨vx_Zq.kept h.1.1 hq, vx_Zq.kept h.1.2 hq⟩, va_Z.kept h.2.1 hq, va_T.kept h.2.2 hq⟩
theorem xH.narrow {t0 : Nat} {A B : Nat → Prop} {U : State} {H : Heap} (h : xH t0 A U H) (hAB : ∀ q, B q → A q) : xH t0 B U H := ⟨⟨vx_Zq.narrow h.1.1 hAB, vx_Zq.narrow h.1.2 hAB⟩, va_Z.narrow h.2.1 hAB, va_T.narrow h.2.2 hAB⟩
theorem xE.call {D : va_G} {cy : Nat → ClassId} {t0 : Nat} {A B : Nat → Prop} {s U : State} {H : Heap} {locs : List Loc} (h : xE D cy t0 A s s.heap) (hS : va_S A s.heap H locs) (hAB : ∀ q, B q → A q) (hU : U.heap = H) (hW : s.WarmedH U.vm) : xE D cy t0 B U U.heap := by
  refine ⟨va_K.moved hW.alike h.1, ⟨h.2.1.1.warm hW, h.2.1.2.warm hW⟩, ?_⟩
  rw [hU]
  exact ((h.2.2.kept hS.2.1).narrow hAB).moved hW.alike
/-! contracts -/
def xPw (D : va_G) (cy : Nat → ClassId) (t0 : Nat) (as : List Value) (ws : va_W) (sz : Nat) : Array Value → State → Prop := va_Pc as (fun U => U.heap.size = sz ∧ xP D ws U.heap ∧ va_D (fun _ => True) ws ∧ xE D cy t0 (va_A ws sz) U U.heap)
def xPr (D : va_G) (cy : Nat → ClassId) (t0 : Nat) (as : List Value) (ws : va_W) : Array Value → State → Prop := va_Pc as (fun U => xP D ws U.heap ∧ xE D cy t0 (fun _ => False) U U.heap)
def xBw {S : Type} (D : va_G) (w1 : S → va_W) (A : Nat → Prop) : S → State → Prop := fun u t => xP D (w1 u) t.heap ∧ va_D A (w1 u)
def xBx {S : Type} (D : va_G) (pE : String → S → Prop) (wx : S → va_W) (A : Nat → Prop) : String → S → State → Prop := fun E u t => pE E u ∧ xP D (wx u) t.heap ∧ va_D A (wx u)
def xWi {S : Type} (l : Launch) (y : MethodName) (wl : List Cond) (rm : Room) (D : va_G) (cy : Nat → ClassId) (t0 : Nat) (as : List Value) (ws : va_W) (post : Int32 → S → Prop) (w1 : S → va_W) (mc ms : Nat) : Prop := ∀ sz : Nat, Met l y wl rm (xPw D cy t0 as ws sz) (va_Qi post (xBw D w1 (va_A ws sz)) (va_A ws sz)) mc ms (va_A ws sz)
def xWl {S : Type} (l : Launch) (y : MethodName) (wl : List Cond) (rm : Room) (D : va_G) (cy : Nat → ClassId) (t0 : Nat) (as : List Value) (ws : va_W) (post : Int64 → S → Prop) (w1 : S → va_W) (mc ms : Nat) : Prop := ∀ sz : Nat, Met l y wl rm (xPw D cy t0 as ws sz) (va_Ql post (xBw D w1 (va_A ws sz)) (va_A ws sz)) mc ms (va_A ws sz)
def xWv {S : Type} (l : Launch) (y : MethodName) (wl : List Cond) (rm : Room) (D : va_G) (cy : Nat → ClassId) (t0 : Nat) (as : List Value) (ws : va_W) (post : S → Prop) (w1 : S → va_W) (mc ms : Nat) : Prop := ∀ sz : Nat, Met l y wl rm (xPw D cy t0 as ws sz) (va_Qv post (xBw D w1 (va_A ws sz)) (va_A ws sz)) mc ms (va_A ws sz)
def xWr {S : Type} (l : Launch) (y : MethodName) (wl : List Cond) (rm : Room) (D : va_G) (cy : Nat → ClassId) (t0 : Nat) (as : List Value) (ws : va_W) (post : S → Prop) (w1 : S → Nat → va_W) (mc ms : Nat) : Prop := ∀ sz : Nat, Met l y wl rm (xPw D cy t0 as ws sz) (va_Qr post (fun u a t => xP D (w1 u a) t.heap ∧ va_D (va_A ws sz) (w1 u a)) (va_A ws sz)) mc ms (va_A ws sz)
def xRi (l : Launch) (y : MethodName) (wl : List Cond) (rm : Room) (D : va_G) (cy : Nat → ClassId) (t0 : Nat) (as : List Value) (ws : va_W) (post : Int32 → Prop) : Prop := Met l y wl rm (xPr D cy t0 as ws) (vp_Si post) 0 0 (fun _ => False)
def xRl (l : Launch) (y : MethodName) (wl : List Cond) (rm : Room) (D : va_G) (cy : Nat → ClassId) (t0 : Nat) (as : List Value) (ws : va_W) (post : Int64 → Prop) : Prop := Met l y wl rm (xPr D cy t0 as ws) (vp_Sl post) 0 0 (fun _ => False)
/-! .. that may throw: a name E with pE, the cells wx -/
def xXi {S SX : Type} (l : Launch) (y : MethodName) (wl : List Cond) (rm : Room) (D : va_G) (cy : Nat → ClassId) (t0 : Nat) (as : List Value) (ws : va_W) (post : Int32 → S → Prop) (w1 : S → va_W) (pE : String → SX → Prop) (wx : SX → va_W) (mc ms : Nat) : Prop := ∀ sz : Nat, vx_Met l y wl rm (xPw D cy t0 as ws sz) (va_Qi post (xBw D w1 (va_A ws sz)) (va_A ws sz)) (vx_X (fun _ : SX => True) (xBx D pE wx (va_A ws sz)) (va_A ws sz)) mc ms (va_A ws sz)
def xXl {S SX : Type} (l : Launch) (y : MethodName) (wl : List Cond) (rm : Room) (D : va_G) (cy : Nat → ClassId) (t0 : Nat) (as : List Value) (ws : va_W) (post : Int64 → S → Prop) (w1 : S → va_W) (pE : String → SX → Prop) (wx : SX → va_W) (mc ms : Nat) : Prop := ∀ sz : Nat, vx_Met l y wl rm (xPw D cy t0 as ws sz) (va_Ql post (xBw D w1 (va_A ws sz)) (va_A ws sz)) (vx_X (fun _ : SX => True) (xBx D pE wx (va_A ws sz)) (va_A ws sz)) mc ms (va_A ws sz)
def xXv {S SX : Type} (l : Launch) (y : MethodName) (wl : List Cond) (rm : Room) (D : va_G) (cy : Nat → ClassId) (t0 : Nat) (as : List Value) (ws : va_W) (post : S → Prop) (w1 : S → va_W) (pE : String → SX → Prop) (wx : SX → va_W) (mc ms : Nat) : Prop := ∀ sz : Nat, vx_Met l y wl rm (xPw D cy t0 as ws sz) (va_Qv post (xBw D w1 (va_A ws sz)) (va_A ws sz)) (vx_X (fun _ : SX => True) (xBx D pE wx (va_A ws sz)) (va_A ws sz)) mc ms (va_A ws sz)
def xXq {S SX : Type} (l : Launch) (y : MethodName) (wl : List Cond) (rm : Room) (D : va_G) (cy : Nat → ClassId) (t0 : Nat) (as : List Value) (ws : va_W) (post : Option Nat → S → Prop) (w1 : S → va_W) (pE : String → SX → Prop) (wx : SX → va_W) (mc ms : Nat) : Prop := ∀ sz : Nat, vx_Met l y wl rm (xPw D cy t0 as ws sz) (va_Qq post (xBw D w1 (va_A ws sz)) (va_A ws sz)) (vx_X (fun _ : SX => True) (xBx D pE wx (va_A ws sz)) (va_A ws sz)) mc ms (va_A ws sz)
theorem xE.same {D : va_G} {cy : Nat → ClassId} {t0 : Nat} {A : Nat → Prop} {u U : State} {H : Heap} (e : u.vm = U.vm) (h : xE D cy t0 A u H) : xE D cy t0 A U H := by
  have hA : u.vm.Alike U.vm := by rw [e]; exact Vm.Alike.refl _
  exact ⟨va_K.moved hA h.1, ⟨h.2.1.1.same e, h.2.1.2.same e⟩, h.2.2.moved hA⟩
theorem xPw.blind {D : va_G} {cy : Nat → ClassId} {t0 : Nat} {as : List Value} {ws : va_W} {sz : Nat} : FrameBlind (xPw D cy t0 as ws sz) := fun a U g mk q => by
  obtain ⟨q0, q1, qP, qD, qE⟩ := q
  exact ⟨q0, q1, qP, qD, xE.same (u := U) (U := U.calling g mk a) rfl qE⟩
theorem xPr.blind {D : va_G} {cy : Nat → ClassId} {t0 : Nat} {as : List Value} {ws : va_W} : FrameBlind (xPr D cy t0 as ws) := fun a U g mk q => by
  obtain ⟨q0, qP, qE⟩ := q
  exact ⟨q0, qP, xE.same (u := U) (U := U.calling g mk a) rfl qE⟩
/-- what a callee that changes its world is given -/
theorem xPw.give {D : va_G} {cy : Nat → ClassId} {t0 : Nat} {A : Nat → Prop} {s : State} {H : Heap} {locs : List Loc} {as : List Value} {ws wc : va_W} (hE : xE D cy t0 A s s.heap) (hS : va_S A s.heap H locs) (hA : ∀ q, s.heap.size ≤ q → A q) (hP : xP D ws H) (hD : va_D A ws) (isC : List Nat) (hn : va_nd isC = true) (hC : isC.map (fun i => ws[i]?) = wc.map some) : FrameBlind (xPw D cy t0 as wc H.size) ∧ ∀ U : State, U.heap = H → s.WarmedH U.vm → xPw D cy t0 as wc H.size as.toArray U := by
  refine ⟨xPw.blind, fun U hU hW => ⟨rfl, by rw [hU], ?_, ?_, ?_⟩⟩
  · rw [hU]
    intro k q hk
    have h1 : (isC.map (fun i => ws[i]?))[k]? = some (some q) := by rw [hC, List.getElem?_map, hk]; rfl
    rw [List.getElem?_map] at h1
    cases hi : isC[k]? with
    | none => rw [hi] at h1; cases h1
    | some i => rw [hi] at h1; exact hP i q (Option.some.inj h1)
  · exact (hD.sub isC hn hC).weaken (fun _ _ _ _ => trivial)
  · exact hE.call hS (va_free hD hS hA isC hC) hU hW
theorem xPr.give {D : va_G} {cy : Nat → ClassId} {t0 : Nat} {A : Nat → Prop} {s : State} {H : Heap} {locs : List Loc} {as : List Value} {ws wc : va_W} (hE : xE D cy t0 A s s.heap) (hS : va_S A s.heap H locs) (hP : xP D ws H) (isC : List Nat) (hC : isC.filterMap (fun i => ws[i]?) = wc) : FrameBlind (xPr D cy t0 as wc) ∧ ∀ U : State, U.heap = H → s.WarmedH U.vm → xPr D cy t0 as wc as.toArray U := by
  refine ⟨xPr.blind, fun U hU hW => ⟨rfl, ?_, ?_⟩⟩
  · rw [hU]; exact hP.sub isC hC
  · exact hE.call hS (fun _ h => h.elim) hU hW
theorem xPw.giveV {D : va_G} {cy : Nat → ClassId} {t0 : Nat} {A : Nat → Prop} {s : State} {H : Heap} {locs : List Loc} {b : Addr} {As : List Value} {ws wc : va_W} (hE : xE D cy t0 A s s.heap) (hS : va_S A s.heap H locs) (hA : ∀ q, s.heap.size ≤ q → A q) (hP : xP D ws H) (hD : va_D A ws) (isC : List Nat) (hn : va_nd isC = true) (hC : isC.map (fun i => ws[i]?) = wc.map some) (k ci : Nat) {q : vw_C} {fs : List Value} (hc : vwCl[ci]? = some q) (he : ws[k]? = some (b, .inr (ci, fs))) : PreV s H q.1 b (xPw D cy t0 (.ref b :: As) wc H.size) As :=
  ⟨xPw.blind, va_recv hE.1 hP hc he, (xPw.give hE hS hA hP hD isC hn hC).2⟩
theorem xPr.giveV {D : va_G} {cy : Nat → ClassId} {t0 : Nat} {A : Nat → Prop} {s : State} {H : Heap} {locs : List Loc} {b : Addr} {As : List Value} {ws wc : va_W} (hE : xE D cy t0 A s s.heap) (hS : va_S A s.heap H locs) (hP : xP D ws H) (isC : List Nat) (hC : isC.filterMap (fun i => ws[i]?) = wc) (k ci : Nat) {q : vw_C} {fs : List Value} (hc : vwCl[ci]? = some q) (he : ws[k]? = some (b, .inr (ci, fs))) : PreV s H q.1 b (xPr D cy t0 (.ref b :: As) wc) As :=
  ⟨xPr.blind, va_recv hE.1 hP hc he, (xPr.give hE hS hP isC hC).2⟩
section XC
variable {p : Program} {l : Launch} {e : Env} {R : Room} {s : State} {m : MethodId} {args : Array Value} {below : List Frame} {meth : Method} {c : Code} {H : Heap} {locs : List Loc} {cells slots : Nat} {Q : State → Prop}
variable {pc : Nat} {ls : Array Slot} {rest st0 : List Value} {a : Array Value} {A : Nat → Prop} {H0 : Heap} {mc ms : Nat} {D : va_G} {ws wc wr : va_W}
theorem xcRi {post : Int32 → Prop} (hr : va_Run p l e R s m args below meth c H locs cells slots 0 0 (F0 m pc ls st0) rest (vp_Si post a) (fun _ => False))
    (kk : ∀ r : Int32, post r → W p l e R s m args below meth c H locs cells slots Q (F0 m (pc + 3) ls (.int r :: rest))) : W p l e R s m args below meth c H locs cells slots Q (F0 m pc ls st0) := vp_callSi hr.run kk
theorem xcRl {post : Int64 → Prop} (hr : va_Run p l e R s m args below meth c H locs cells slots 0 0 (F0 m pc ls st0) rest (vp_Sl post a) (fun _ => False))
    (kk : ∀ r : Int64, post r → W p l e R s m args below meth c H locs cells slots Q (F0 m (pc + 3) ls (.long r :: rest))) : W p l e R s m args below meth c H locs cells slots Q (F0 m pc ls st0) := vp_callSl hr.run kk
theorem xJ {w1 : va_W} {H1 : Heap} (hP : xP D ws H) (hD : va_D A ws) (hS : va_S A H0 H locs) (hA : ∀ q, H0.size ≤ q → A q) (isC isR : List Nat) (hC : isC.map (fun i => ws[i]?) = wc.map some) (hR : isR.map (fun i => ws[i]?) = wr.map some) (hn : va_nd isR = true) (hdis : ∀ i ∈ isR, i ∉ isC) (hk : ∀ q : Nat, q < H.size → ¬ va_A wc H.size q → H1[q]? = H[q]?) (hP1 : xP D w1 H1) (hD1 : va_D (va_A wc H.size) w1) : xP D (wr ++ w1) H1 ∧ va_D A (wr ++ w1) := va_join hP hD isC isR hC hR hn hdis hk (va_free hD hS hA isC hC) hP1 hD1
theorem xcWi {S : Type} {post : Int32 → S → Prop} {w1 : S → va_W} (hr : va_Run p l e R s m args below meth c H locs cells slots mc ms (F0 m pc ls st0) rest (va_Qi post (xBw D w1 (va_A wc H.size)) (va_A wc H.size) a) (va_A wc H.size)) (hP : xP D ws H) (hD : va_D A ws) (hS : va_S A H0 H locs) (hA : ∀ q, H0.size ≤ q → A q) (isC isR : List Nat) (hC : isC.map (fun i => ws[i]?) = wc.map some) (hR : isR.map (fun i => ws[i]?) = wr.map some) (hn : va_nd isR = true) (hdis : ∀ i ∈ isR, i ∉ isC)
    (kk : ∀ (r : Int32) (u : S) (H1 : Heap) (locs1 : List Loc), post r u → xP D (wr ++ w1 u) H1 → va_D A (wr ++ w1 u) → va_S A H0 H1 locs1 → W p l e R s m args below meth c H1 locs1 (cells + mc) (slots + ms) Q (F0 m (pc + 3) ls (.int r :: rest))) : W p l e R s m args below meth c H locs cells slots Q (F0 m pc ls st0) :=
  va_calli hr hS (fun q _ h => va_free hD hS hA isC hC q h) (va_free hD hS hA isC hC) (fun r u t H1 locs1 ht hvm hw hB hz hk1 hS1 => by
    have hB2 : xP D (w1 u) H1 := by rw [← ht]; exact hB.1
    obtain ⟨j1, j2⟩ := xJ hP hD hS hA isC isR hC hR hn hdis hk1 hB2 hB.2
    exact kk r u H1 locs1 hw j1 j2 hS1)
theorem xcWl {S : Type} {post : Int64 → S → Prop} {w1 : S → va_W} (hr : va_Run p l e R s m args below meth c H locs cells slots mc ms (F0 m pc ls st0) rest (va_Ql post (xBw D w1 (va_A wc H.size)) (va_A wc H.size) a) (va_A wc H.size)) (hP : xP D ws H) (hD : va_D A ws) (hS : va_S A H0 H locs) (hA : ∀ q, H0.size ≤ q → A q) (isC isR : List Nat) (hC : isC.map (fun i => ws[i]?) = wc.map some) (hR : isR.map (fun i => ws[i]?) = wr.map some) (hn : va_nd isR = true) (hdis : ∀ i ∈ isR, i ∉ isC)
    (kk : ∀ (r : Int64) (u : S) (H1 : Heap) (locs1 : List Loc), post r u → xP D (wr ++ w1 u) H1 → va_D A (wr ++ w1 u) → va_S A H0 H1 locs1 → W p l e R s m args below meth c H1 locs1 (cells + mc) (slots + ms) Q (F0 m (pc + 3) ls (.long r :: rest))) : W p l e R s m args below meth c H locs cells slots Q (F0 m pc ls st0) :=
  va_calll hr hS (fun q _ h => va_free hD hS hA isC hC q h) (va_free hD hS hA isC hC) (fun r u t H1 locs1 ht hvm hw hB hz hk1 hS1 => by
    have hB2 : xP D (w1 u) H1 := by rw [← ht]; exact hB.1
    obtain ⟨j1, j2⟩ := xJ hP hD hS hA isC isR hC hR hn hdis hk1 hB2 hB.2
    exact kk r u H1 locs1 hw j1 j2 hS1)
theorem xcWv {S : Type} {post : S → Prop} {w1 : S → va_W} (hr : va_Run p l e R s m args below meth c H locs cells slots mc ms (F0 m pc ls st0) rest (va_Qv post (xBw D w1 (va_A wc H.size)) (va_A wc H.size) a) (va_A wc H.size)) (hP : xP D ws H) (hD : va_D A ws) (hS : va_S A H0 H locs) (hA : ∀ q, H0.size ≤ q → A q) (isC isR : List Nat) (hC : isC.map (fun i => ws[i]?) = wc.map some) (hR : isR.map (fun i => ws[i]?) = wr.map some) (hn : va_nd isR = true) (hdis : ∀ i ∈ isR, i ∉ isC)
    (kk : ∀ (u : S) (H1 : Heap) (locs1 : List Loc), post u → xP D (wr ++ w1 u) H1 → va_D A (wr ++ w1 u) → va_S A H0 H1 locs1 → W p l e R s m args below meth c H1 locs1 (cells + mc) (slots + ms) Q (F0 m (pc + 3) ls rest)) : W p l e R s m args below meth c H locs cells slots Q (F0 m pc ls st0) :=
  va_callv hr hS (fun q _ h => va_free hD hS hA isC hC q h) (va_free hD hS hA isC hC) (fun u t H1 locs1 ht hvm hw hB hz hk1 hS1 => by
    have hB2 : xP D (w1 u) H1 := by rw [← ht]; exact hB.1
    obtain ⟨j1, j2⟩ := xJ hP hD hS hA isC isR hC hR hn hdis hk1 hB2 hB.2
    exact kk u H1 locs1 hw j1 j2 hS1)
theorem xcWr {S : Type} {post : S → Prop} {w1 : S → Nat → va_W} (hr : va_Run p l e R s m args below meth c H locs cells slots mc ms (F0 m pc ls st0) rest (va_Qr post (fun u a t => xP D (w1 u a) t.heap ∧ va_D (va_A wc H.size) (w1 u a)) (va_A wc H.size) a) (va_A wc H.size)) (hP : xP D ws H) (hD : va_D A ws) (hS : va_S A H0 H locs) (hA : ∀ q, H0.size ≤ q → A q) (isC isR : List Nat) (hC : isC.map (fun i => ws[i]?) = wc.map some) (hR : isR.map (fun i => ws[i]?) = wr.map some) (hn : va_nd isR = true) (hdis : ∀ i ∈ isR, i ∉ isC)
    (kk : ∀ (u : S) (q : Nat) (H1 : Heap) (locs1 : List Loc), post u → xP D (wr ++ w1 u q) H1 → va_D A (wr ++ w1 u q) → va_S A H0 H1 locs1 → W p l e R s m args below meth c H1 locs1 (cells + mc) (slots + ms) Q (F0 m (pc + 3) ls (.ref q :: rest))) : W p l e R s m args below meth c H locs cells slots Q (F0 m pc ls st0) :=
  va_callr hr hS (fun q _ h => va_free hD hS hA isC hC q h) (va_free hD hS hA isC hC) (fun u q t H1 locs1 ht hvm hw hB hz hk1 hS1 => by
    have hB2 : xP D (w1 u q) H1 := by rw [← ht]; exact hB.1
    obtain ⟨j1, j2⟩ := xJ hP hD hS hA isC isR hC hR hn hdis hk1 hB2 hB.2
    exact kk u q H1 locs1 hw j1 j2 hS1)
end XC
end XBASE
end
section
section XROWS
/-! rows over numbers: nI a, lN a, and 0 or 1 out of a Bool -/
def xb (b : Bool) : Int32 := if b then 1 else 0
theorem xb_t : xb true = 1 := rfl
theorem xb_f : xb false = 0 := rfl
theorem xb_nar (b : Bool) : narrow .boolean (.int (xb b)) = .int (xb b) := by cases b <;> rfl
section XR
variable {p : Program} {l : Launch} {e : Env} {R : Room} {s : State} {m : MethodId} {args : Array Value} {below : List Frame} {meth : Method} {c : Code} {H : Heap} {locs : List Loc} {cells slots : Nat} {Q : State → Prop}
variable {cc : ByteArray} {pc : Nat} {ls : Array Slot} {rest : List Value}
theorem lv_eqi {x z : Int32} (ez : x = z) (k : W p l e R s m args below meth c H locs cells slots Q (F0 m pc ls (.int z :: rest))) : W p l e R s m args below meth c H locs cells slots Q (F0 m pc ls (.int x :: rest)) := by subst ez; exact k
theorem lv_eql {x z : Int64} (ez : x = z) (k : W p l e R s m args below meth c H locs cells slots Q (F0 m pc ls (.long z :: rest))) : W p l e R s m args below meth c H locs cells slots Q (F0 m pc ls (.long x :: rest)) := by subst ez; exact k
theorem xb_icmp_eq {a b : Nat} {off : Int} {tgt : Nat} (ha : a < 2 ^ 31) (hb2 : b < 2 ^ 31) (hexec : p.tables.exec = Jvm.exec) (hb : c.code = cc) (hdg : decode cc pc = .ok (.if_icmp .eq off, 3)) (ht : (pc : Int) + off = (tgt : Int)) (kt : a = b → W p l e R s m args below meth c H locs cells slots Q (F0 m tgt ls rest)) (kf : a ≠ b → W p l e R s m args below meth c H locs cells slots Q (F0 m (pc + 3) ls rest)) : W p l e R s m args below meth c H locs cells slots Q (F0 m pc ls (.int (nI b) :: .int (nI a) :: rest)) := lv_icmp_eq hexec hb hdg ht (fun h => kt ((nI_eq ha hb2).mp h)) (fun h => kf (fun q => h ((nI_eq ha hb2).mpr q)))
theorem xb_icmp_ne {a b : Nat} {off : Int} {tgt : Nat} (ha : a < 2 ^ 31) (hb2 : b < 2 ^ 31) (hexec : p.tables.exec = Jvm.exec) (hb : c.code = cc) (hdg : decode cc pc = .ok (.if_icmp .ne off, 3)) (ht : (pc : Int) + off = (tgt : Int)) (kt : a ≠ b → W p l e R s m args below meth c H locs cells slots Q (F0 m tgt ls rest)) (kf : a = b → W p l e R s m args below meth c H locs cells slots Q (F0 m (pc + 3) ls rest)) : W p l e R s m args below meth c H locs cells slots Q (F0 m pc ls (.int (nI b) :: .int (nI a) :: rest)) := lv_icmp_ne hexec hb hdg ht (fun h => kt (fun q => h ((nI_eq ha hb2).mpr q))) (fun h => kf ((nI_eq ha hb2).mp h))
theorem xb_icmp_lt {a b : Nat} {off : Int} {tgt : Nat} (ha : a < 2 ^ 31) (hb2 : b < 2 ^ 31) (hexec : p.tables.exec = Jvm.exec) (hb : c.code = cc) (hdg : decode cc pc = .ok (.if_icmp .lt off, 3)) (ht : (pc : Int) + off = (tgt : Int)) (kt : a < b → W p l e R s m args below meth c H locs cells slots Q (F0 m tgt ls rest)) (kf : b ≤ a → W p l e R s m args below meth c H locs cells slots Q (F0 m (pc + 3) ls rest)) : W p l e R s m args below meth c H locs cells slots Q (F0 m pc ls (.int (nI b) :: .int (nI a) :: rest)) := lv_icmp_lt hexec hb hdg ht (fun h => kt ((nI_ltI ha hb2).mp h)) (fun h => kf (Nat.le_of_not_lt (fun q => h ((nI_ltI ha hb2).mpr q))))
theorem xb_icmp_ge {a b : Nat} {off : Int} {tgt : Nat} (ha : a < 2 ^ 31) (hb2 : b < 2 ^ 31) (hexec : p.tables.exec = Jvm.exec) (hb : c.code = cc) (hdg : decode cc pc = .ok (.if_icmp .ge off, 3)) (ht : (pc : Int) + off = (tgt : Int)) (kt : b ≤ a → W p l e R s m args below meth c H locs cells slots Q (F0 m tgt ls rest)) (kf : a < b → W p l e R s m args below meth c H locs cells slots Q (F0 m (pc + 3) ls rest)) : W p l e R s m args below meth c H locs cells slots Q (F0 m pc ls (.int (nI b) :: .int (nI a) :: rest)) := lv_icmp_ge hexec hb hdg ht (fun h => kt ((nI_leI hb2 ha).mp h)) (fun h => kf (Nat.lt_of_not_le (fun q => h ((nI_leI hb2 ha).mpr q))))
theorem xb_icmp_gt {a b : Nat} {off : Int} {tgt : Nat} (ha : a < 2 ^ 31) (hb2 : b < 2 ^ 31) (hexec : p.tables.exec = Jvm.exec) (hb : c.code = cc) (hdg : decode cc pc = .ok (.if_icmp .gt off, 3)) (ht : (pc : Int) + off = (tgt : Int)) (kt : b < a → W p l e R s m args below meth c H locs cells slots Q (F0 m tgt ls rest)) (kf : a ≤ b → W p l e R s m args below meth c H locs cells slots Q (F0 m (pc + 3) ls rest)) : W p l e R s m args below meth c H locs cells slots Q (F0 m pc ls (.int (nI b) :: .int (nI a) :: rest)) := lv_icmp_gt hexec hb hdg ht (fun h => kt ((nI_ltI hb2 ha).mp h)) (fun h => kf (Nat.le_of_not_lt (fun q => h ((nI_ltI hb2 ha).mpr q))))
theorem xb_icmp_le {a b : Nat} {off : Int} {tgt : Nat} (ha : a < 2 ^ 31) (hb2 : b < 2 ^ 31) (hexec : p.tables.exec = Jvm.exec) (hb : c.code = cc) (hdg : decode cc pc = .ok (.if_icmp .le off, 3)) (ht : (pc : Int) + off = (tgt : Int)) (kt : a ≤ b → W p l e R s m args below meth c H locs cells slots Q (F0 m tgt ls rest)) (kf : b < a → W p l e R s m args below meth c H locs cells slots Q (F0 m (pc + 3) ls rest)) : W p l e R s m args below meth c H locs cells slots Q (F0 m pc ls (.int (nI b) :: .int (nI a) :: rest)) := lv_icmp_le hexec hb hdg ht (fun h => kt ((nI_leI ha hb2).mp h)) (fun h => kf (Nat.lt_of_not_le (fun q => h ((nI_leI ha hb2).mpr q))))
theorem xb_if_eq {a : Nat} {off : Int} {tgt : Nat} (ha : a < 2 ^ 31) (hexec : p.tables.exec = Jvm.exec) (hb : c.code = cc) (hdg : decode cc pc = .ok (.ifCond .eq off, 3)) (ht : (pc : Int) + off = (tgt : Int)) (kt : a = 0 → W p l e R s m args below meth c H locs cells slots Q (F0 m tgt ls rest)) (kf : a ≠ 0 → W p l e R s m args below meth c H locs cells slots Q (F0 m (pc + 3) ls rest)) : W p l e R s m args below meth c H locs cells slots Q (F0 m pc ls (.int (nI a) :: rest)) := lv_if_eq (x := nI a) hexec hb hdg ht (fun h => kt ((nI_eq ha (Nat.two_pow_pos 31)).mp h)) (fun h => kf (fun q => h ((nI_eq ha (Nat.two_pow_pos 31)).mpr q)))
theorem xb_if_ne {a : Nat} {off : Int} {tgt : Nat} (ha : a < 2 ^ 31) (hexec : p.tables.exec = Jvm.exec) (hb : c.code = cc) (hdg : decode cc pc = .ok (.ifCond .ne off, 3)) (ht : (pc : Int) + off = (tgt : Int)) (kt : a ≠ 0 → W p l e R s m args below meth c H locs cells slots Q (F0 m tgt ls rest)) (kf : a = 0 → W p l e R s m args below meth c H locs cells slots Q (F0 m (pc + 3) ls rest)) : W p l e R s m args below meth c H locs cells slots Q (F0 m pc ls (.int (nI a) :: rest)) := lv_if_ne (x := nI a) hexec hb hdg ht (fun h => kt (fun q => h ((nI_eq ha (Nat.two_pow_pos 31)).mpr q))) (fun h => kf ((nI_eq ha (Nat.two_pow_pos 31)).mp h))
theorem xb_if_lt {a : Nat} {off : Int} {tgt : Nat} (ha : a < 2 ^ 31) (hexec : p.tables.exec = Jvm.exec) (hb : c.code = cc) (hdg : decode cc pc = .ok (.ifCond .lt off, 3)) (ht : (pc : Int) + off = (tgt : Int)) (kt : False → W p l e R s m args below meth c H locs cells slots Q (F0 m tgt ls rest)) (kf : True → W p l e R s m args below meth c H locs cells slots Q (F0 m (pc + 3) ls rest)) : W p l e R s m args below meth c H locs cells slots Q (F0 m pc ls (.int (nI a) :: rest)) := lv_if_lt (x := nI a) hexec hb hdg ht (fun h => kt (absurd ((nI_ltI ha (Nat.two_pow_pos 31)).mp h) (Nat.not_lt_zero _))) (fun h => kf trivial)
theorem xb_if_ge {a : Nat} {off : Int} {tgt : Nat} (ha : a < 2 ^ 31) (hexec : p.tables.exec = Jvm.exec) (hb : c.code = cc) (hdg : decode cc pc = .ok (.ifCond .ge off, 3)) (ht : (pc : Int) + off = (tgt : Int)) (kt : True → W p l e R s m args below meth c H locs cells slots Q (F0 m tgt ls rest)) (kf : False → W p l e R s m args below meth c H locs cells slots Q (F0 m (pc + 3) ls rest)) : W p l e R s m args below meth c H locs cells slots Q (F0 m pc ls (.int (nI a) :: rest)) := lv_if_ge (x := nI a) hexec hb hdg ht (fun h => kt trivial) (fun h => kf (h ((nI_leI (Nat.two_pow_pos 31) ha).mpr (Nat.zero_le _))))
theorem xb_if_gt {a : Nat} {off : Int} {tgt : Nat} (ha : a < 2 ^ 31) (hexec : p.tables.exec = Jvm.exec) (hb : c.code = cc) (hdg : decode cc pc = .ok (.ifCond .gt off, 3)) (ht : (pc : Int) + off = (tgt : Int)) (kt : 0 < a → W p l e R s m args below meth c H locs cells slots Q (F0 m tgt ls rest)) (kf : a = 0 → W p l e R s m args below meth c H locs cells slots Q (F0 m (pc + 3) ls rest)) : W p l e R s m args below meth c H locs cells slots Q (F0 m pc ls (.int (nI a) :: rest)) := lv_if_gt (x := nI a) hexec hb hdg ht (fun h => kt ((nI_ltI (Nat.two_pow_pos 31) ha).mp h)) (fun h => kf (Nat.eq_zero_of_not_pos (fun q => h ((nI_ltI (Nat.two_pow_pos 31) ha).mpr q))))
theorem xb_if_le {a : Nat} {off : Int} {tgt : Nat} (ha : a < 2 ^ 31) (hexec : p.tables.exec = Jvm.exec) (hb : c.code = cc) (hdg : decode cc pc = .ok (.ifCond .le off, 3)) (ht : (pc : Int) + off = (tgt : Int)) (kt : a = 0 → W p l e R s m args below meth c H locs cells slots Q (F0 m tgt ls rest)) (kf : 0 < a → W p l e R s m args below meth c H locs cells slots Q (F0 m (pc + 3) ls rest)) : W p l e R s m args below meth c H locs cells slots Q (F0 m pc ls (.int (nI a) :: rest)) := lv_if_le (x := nI a) hexec hb hdg ht (fun h => kt (Nat.le_zero.mp ((nI_leI ha (Nat.two_pow_pos 31)).mp h))) (fun h => kf (Nat.pos_of_ne_zero (fun q => h ((nI_leI ha (Nat.two_pow_pos 31)).mpr (Nat.le_of_eq q)))))
theorem xb_beq {b : Bool} {off : Int} {tgt : Nat} (hexec : p.tables.exec = Jvm.exec) (hb : c.code = cc) (hdg : decode cc pc = .ok (.ifCond .eq off, 3)) (ht : (pc : Int) + off = (tgt : Int)) (kt : b = false → W p l e R s m args below meth c H locs cells slots Q (F0 m tgt ls rest)) (kf : b = true → W p l e R s m args below meth c H locs cells slots Q (F0 m (pc + 3) ls rest)) : W p l e R s m args below meth c H locs cells slots Q (F0 m pc ls (.int (xb b) :: rest)) := by
  refine lv_if_eq hexec hb hdg ht (fun h => kt ?_) (fun h => kf ?_) <;> cases b <;> first | rfl | exact absurd h (by decide) | exact absurd rfl h
theorem xb_bne {b : Bool} {off : Int} {tgt : Nat} (hexec : p.tables.exec = Jvm.exec) (hb : c.code = cc) (hdg : decode cc pc = .ok (.ifCond .ne off, 3)) (ht : (pc : Int) + off = (tgt : Int)) (kt : b = true → W p l e R s m args below meth c H locs cells slots Q (F0 m tgt ls rest)) (kf : b = false → W p l e R s m args below meth c H locs cells slots Q (F0 m (pc + 3) ls rest)) : W p l e R s m args below meth c H locs cells slots Q (F0 m pc ls (.int (xb b) :: rest)) := by
  refine lv_if_ne hexec hb hdg ht (fun h => kt ?_) (fun h => kf ?_) <;> cases b <;> first | rfl | exact absurd h (by decide) | exact absurd rfl h
end XR
theorem xmax_nI {a b : Nat} (ha : a < 2 ^ 31) (hb : b < 2 ^ 31) : (if nI a < nI b then nI b else nI a) = nI (max a b) := by
  by_cases h : a < b
  · rw [if_pos ((nI_ltI ha hb).mpr h), Nat.max_eq_right (Nat.le_of_lt h)]
  · rw [if_neg (fun q => h ((nI_ltI ha hb).mp q)), Nat.max_eq_left (by omega)]
theorem xmin_nI {a b : Nat} (ha : a < 2 ^ 31) (hb : b < 2 ^ 31) : (if nI b < nI a then nI b else nI a) = nI (min a b) := by
  by_cases h : b < a
  · rw [if_pos ((nI_ltI hb ha).mpr h), Nat.min_eq_right (Nat.le_of_lt h)]
  · rw [if_neg (fun q => h ((nI_ltI hb ha).mp q)), Nat.min_eq_left (by omega)]
theorem xN_sub {a b : Nat} (h : b ≤ a) : nI a - nI b = nI (a - b) := pk_sub h
theorem xneg1 {n : Nat} (hn : n < 2 ^ 31) : (nI n = -1) = False := by
  apply eq_false
  intro h
  have h1 := congrArg Int32.toInt h
  rw [nI_toInt hn] at h1
  have h2 : (-1 : Int32).toInt = -1 := by decide
  omega
end XROWS
section XNEW
variable {p : Program} {l : Launch} {e : Env} {R : Room} {s : State} {m : MethodId} {args : Array Value} {below : List Frame} {meth : Method} {c : Code} {H : Heap} {locs : List Loc} {cells slots : Nat} {Q : State → Prop}
variable {cc : ByteArray} {pc : Nat} {ls : Array Slot} {rest : List Value} {D : va_G} {cy : Nat → ClassId} {A : Nat → Prop} {ws : va_W} {H0 : Heap}
theorem xcls {k : Nat} {ty : FieldType} {cA : ClassId} (hk : (xTY cy)[k]? = some (cy k, ty)) (ht : ∀ C, ty ≠ .object C) (hK : xK D cy s) (hK2 : va_K D vwCl (xTY cy ++ [(cA, ty)]) s) : cA = cy k := by
  have h1 := (hK.2 k _ hk).2
  have h2 := (hK2.2 4 (cA, ty) rfl).2
  cases ty with
  | object C => exact absurd rfl (ht C)
  | _ => exact Option.some.inj (h2.symm.trans h1)
theorem xnewI {n : Int32} {N : Nat} (hexec : p.tables.exec = Jvm.exec) (hb : c.code = cc) (harr : (Cond.arrayClass .int).before args s = true) (hK : xK D cy s) (hP : xP D ws H) (hD : va_D A ws) (hS : va_S A H0 H locs) (hA : ∀ q, H0.size ≤ q → A q) (hn : n = nI N) (hN : N ≤ 1000000) (hcells : cells + 1 ≤ R.cells) (hslots : slots + N ≤ R.slots) (hdg : decode cc pc = .ok (.newarray .int, 2))
    (kk : ∀ (q : Nat) (H1 : Heap), xP D (ws ++ [(q, xI cy N (fun _ => 0))]) H1 → va_D A (ws ++ [(q, xI cy N (fun _ => 0))]) → va_S A H0 H1 locs → W p l e R s m args below meth c H1 locs (cells + 1) (slots + N) Q (F0 m (pc + 2) ls (.ref q :: rest))) : W p l e R s m args below meth c H locs cells slots Q (F0 m pc ls (.int n :: rest)) := by
  subst hn
  refine va_newa (atype := .int) (ty := .int) (a0 := (N, .inl (fun _ => 0))) hexec hb harr rfl hK hP hD hS hA (fun _ => rfl) (nI_pos (by omega)) (nI_clamp (by omega)) (by show N * 4 ≤ 536870912; omega) hcells hslots hdg (fun q cA H1 hK2 hP1 hD1 hS1 => ?_)
  obtain rfl : cA = cy 0 := xcls (k := 0) rfl (fun C h => by cases h) hK hK2
  exact kk q H1 hP1 hD1 hS1
theorem xnewZ {n : Int32} {N : Nat} (hexec : p.tables.exec = Jvm.exec) (hb : c.code = cc) (harr : (Cond.arrayClass .boolean).before args s = true) (hK : xK D cy s) (hP : xP D ws H) (hD : va_D A ws) (hS : va_S A H0 H locs) (hA : ∀ q, H0.size ≤ q → A q) (hn : n = nI N) (hN : N ≤ 1000000) (hcells : cells + 1 ≤ R.cells) (hslots : slots + N ≤ R.slots) (hdg : decode cc pc = .ok (.newarray .boolean, 2))
    (kk : ∀ (q : Nat) (H1 : Heap), xP D (ws ++ [(q, xZ cy N (fun _ => 0))]) H1 → va_D A (ws ++ [(q, xZ cy N (fun _ => 0))]) → va_S A H0 H1 locs → W p l e R s m args below meth c H1 locs (cells + 1) (slots + N) Q (F0 m (pc + 2) ls (.ref q :: rest))) : W p l e R s m args below meth c H locs cells slots Q (F0 m pc ls (.int n :: rest)) := by
  subst hn
  refine va_newa (atype := .boolean) (ty := .boolean) (a0 := (N, .inl (fun _ => 0))) hexec hb harr rfl hK hP hD hS hA (fun _ => rfl) (nI_pos (by omega)) (nI_clamp (by omega)) (by show N * 1 ≤ 536870912; omega) hcells hslots hdg (fun q cA H1 hK2 hP1 hD1 hS1 => ?_)
  obtain rfl : cA = cy 1 := xcls (k := 1) rfl (fun C h => by cases h) hK hK2
  exact kk q H1 hP1 hD1 hS1
theorem xnewL {n : Int32} {N : Nat} (hexec : p.tables.exec = Jvm.exec) (hb : c.code = cc) (harr : (Cond.arrayClass .long).before args s = true) (hK : xK D cy s) (hP : xP D ws H) (hD : va_D A ws) (hS : va_S A H0 H locs) (hA : ∀ q, H0.size ≤ q → A q) (hn : n = nI N) (hN : N ≤ 1000000) (hcells : cells + 1 ≤ R.cells) (hslots : slots + N ≤ R.slots) (hdg : decode cc pc = .ok (.newarray .long, 2))
    (kk : ∀ (q : Nat) (H1 : Heap), xP D (ws ++ [(q, xL cy N (fun _ => 0))]) H1 → va_D A (ws ++ [(q, xL cy N (fun _ => 0))]) → va_S A H0 H1 locs → W p l e R s m args below meth c H1 locs (cells + 1) (slots + N) Q (F0 m (pc + 2) ls (.ref q :: rest))) : W p l e R s m args below meth c H locs cells slots Q (F0 m pc ls (.int n :: rest)) := by
  subst hn
  refine va_newa (atype := .long) (ty := .long) (a0 := (N, .inr (.inl (fun _ => 0)))) hexec hb harr rfl hK hP hD hS hA (fun _ => rfl) (nI_pos (by omega)) (nI_clamp (by omega)) (by show N * 8 ≤ 536870912; omega) hcells hslots hdg (fun q cA H1 hK2 hP1 hD1 hS1 => ?_)
  obtain rfl : cA = cy 2 := xcls (k := 2) rfl (fun C h => by cases h) hK hK2
  exact kk q H1 hP1 hD1 hS1
end XNEW
end
section
section XWRAP
/-! a method's contract out of the walk of its body (the walk gets: the machine, its words, its world, and kret: what its return needs) -/
section XW
variable {l : Launch} {y : MethodName} {wl wl' : List Cond} {rm : Room} {D : va_G} {cy : Nat → ClassId} {t0 : Nat} {as : List Value} {ws : va_W} {mc ms : Nat} {cc : ByteArray} {maxL : Nat}
theorem xofWi {S : Type} {ret : FieldType} {post : Int32 → S → Prop} {w1 : S → va_W} (hy : plainName y.cls = true) (hw : wl = Cond.code y cc maxL (some ret) :: wl') (hL : (lg_sl as).length ≤ maxL) (hn : ∀ r u, post r u → narrow ret (.int r) = .int r)
    (body : ∀ (p : Program) (e : Env) (s : State) (m : MethodId) (below : List Frame) (meth : Method) (c : Code) (Q : State → Prop) (A : Nat → Prop) (ls : Array Slot), p.tables.exec = Jvm.exec → c.code = cc → c.maxLocals = maxL → (∀ w ∈ wl, w.before as.toArray s = true) → s.vm.findClass y.cls = some m.cls → xE D cy t0 A s s.heap → (∀ q, s.heap.size ≤ q → A q) → ∀ (H : Heap) (locs : List Loc), xP D ws H → va_D A ws → lv_has ls maxL (lv_args 0 as) → va_S A s.heap H locs →
      (∀ (r : Int32) (u : S) (H : Heap) (locs : List Loc) (pc : Nat) (ls : Array Slot) (cells slots : Nat), decode cc pc = .ok (.ireturn, 1) → post r u → xP D (w1 u) H → va_D A (w1 u) → va_S A s.heap H locs → cells ≤ mc → slots ≤ ms → W p l e rm s m as.toArray below meth c H locs cells slots Q (F0 m pc ls [.int r])) →
      W p l e rm s m as.toArray below meth c H locs 0 0 Q (F0 m 0 ls [])) : xWi l y wl rm D cy t0 as ws post w1 mc ms := by
  intro sz
  refine Met.ofW (cc := cc) (maxL := maxL) (ret := some ret) hy hw ?_
  intro p e s m args below meth c s₁ B hml hv
  obtain ⟨rfl, hsz, hP, hD0, hE⟩ := hv
  subst hsz
  rw [lg_entry_eq]
  refine body p e s m below meth c _ (va_A ws s.heap.size) _ B.exec B.bytes hml (atoms_spec (ws := wl) B.pre) (findClass_of_methodNamed B.named) hE (fun q h => Or.inr h) s.heap [] hP hD0.self (lv_entry as hL) va_S.rf (fun r u H locs pc ls cells slots hd hp hP1 hD1 hS1 h1 h2 => ?_)
  exact W.widen h1 h2 (W.zret B.exec B.bytes B.returns (hn r u hp) (fun t ht hW => ⟨⟨r, u, rfl, hp, by rw [ht]; exact hP1, hD1⟩, hS1.F ht⟩) hS1.2.2 hd (hlocks := B.notSynchronized))
theorem xofWl {S : Type} {post : Int64 → S → Prop} {w1 : S → va_W} (hy : plainName y.cls = true) (hw : wl = Cond.code y cc maxL (some .long) :: wl') (hL : (lg_sl as).length ≤ maxL)
    (body : ∀ (p : Program) (e : Env) (s : State) (m : MethodId) (below : List Frame) (meth : Method) (c : Code) (Q : State → Prop) (A : Nat → Prop) (ls : Array Slot), p.tables.exec = Jvm.exec → c.code = cc → c.maxLocals = maxL → (∀ w ∈ wl, w.before as.toArray s = true) → s.vm.findClass y.cls = some m.cls → xE D cy t0 A s s.heap → (∀ q, s.heap.size ≤ q → A q) → ∀ (H : Heap) (locs : List Loc), xP D ws H → va_D A ws → lv_has ls maxL (lv_args 0 as) → va_S A s.heap H locs →
      (∀ (r : Int64) (u : S) (H : Heap) (locs : List Loc) (pc : Nat) (ls : Array Slot) (cells slots : Nat), decode cc pc = .ok (.lreturn, 1) → post r u → xP D (w1 u) H → va_D A (w1 u) → va_S A s.heap H locs → cells ≤ mc → slots ≤ ms → W p l e rm s m as.toArray below meth c H locs cells slots Q (F0 m pc ls [.long r])) →
      W p l e rm s m as.toArray below meth c H locs 0 0 Q (F0 m 0 ls [])) : xWl l y wl rm D cy t0 as ws post w1 mc ms := by
  intro sz
  refine Met.ofW (cc := cc) (maxL := maxL) (ret := some .long) hy hw ?_
  intro p e s m args below meth c s₁ B hml hv
  obtain ⟨rfl, hsz, hP, hD0, hE⟩ := hv
  subst hsz
  rw [lg_entry_eq]
  refine body p e s m below meth c _ (va_A ws s.heap.size) _ B.exec B.bytes hml (atoms_spec (ws := wl) B.pre) (findClass_of_methodNamed B.named) hE (fun q h => Or.inr h) s.heap [] hP hD0.self (lv_entry as hL) va_S.rf (fun r u H locs pc ls cells slots hd hp hP1 hD1 hS1 h1 h2 => ?_)
  exact W.widen h1 h2 (W.lret B.exec B.bytes B.returns (fun t ht hW => ⟨⟨r, u, rfl, hp, by rw [ht]; exact hP1, hD1⟩, hS1.F ht⟩) hS1.2.2 hd (hlocks := B.notSynchronized))
theorem xofWv {S : Type} {post : S → Prop} {w1 : S → va_W} (hy : plainName y.cls = true) (hw : wl = Cond.code y cc maxL none :: wl') (hL : (lg_sl as).length ≤ maxL)
    (body : ∀ (p : Program) (e : Env) (s : State) (m : MethodId) (below : List Frame) (meth : Method) (c : Code) (Q : State → Prop) (A : Nat → Prop) (ls : Array Slot), p.tables.exec = Jvm.exec → c.code = cc → c.maxLocals = maxL → (∀ w ∈ wl, w.before as.toArray s = true) → s.vm.findClass y.cls = some m.cls → meth.name = y.name → xE D cy t0 A s s.heap → (∀ q, s.heap.size ≤ q → A q) → ∀ (H : Heap) (locs : List Loc), xP D ws H → va_D A ws → lv_has ls maxL (lv_args 0 as) → va_S A s.heap H locs →
      (∀ (u : S) (H : Heap) (locs : List Loc) (pc : Nat) (ls : Array Slot) (cells slots : Nat), decode cc pc = .ok (.return_, 1) → post u → xP D (w1 u) H → va_D A (w1 u) → va_S A s.heap H locs → cells ≤ mc → slots ≤ ms → W p l e rm s m as.toArray below meth c H locs cells slots Q (F0 m pc ls [])) →
      W p l e rm s m as.toArray below meth c H locs 0 0 Q (F0 m 0 ls [])) : xWv l y wl rm D cy t0 as ws post w1 mc ms := by
  intro sz
  refine Met.ofW (cc := cc) (maxL := maxL) (ret := none) hy hw ?_
  intro p e s m args below meth c s₁ B hml hv
  obtain ⟨rfl, hsz, hP, hD0, hE⟩ := hv
  subst hsz
  rw [lg_entry_eq]
  refine body p e s m below meth c _ (va_A ws s.heap.size) _ B.exec B.bytes hml (atoms_spec (ws := wl) B.pre) (findClass_of_methodNamed B.named) (name_of_methodNamed B.named B.method).1 hE (fun q h => Or.inr h) s.heap [] hP hD0.self (lv_entry as hL) va_S.rf (fun u H locs pc ls cells slots hd hp hP1 hD1 hS1 h1 h2 => ?_)
  exact W.widen h1 h2 (W.vret B.exec B.bytes B.returns (fun t ht hW => ⟨⟨u, rfl, hp, by rw [ht]; exact hP1, hD1⟩, hS1.F ht⟩) hS1.2.2 hd (hlocks := B.notSynchronized))
theorem xofWr {S : Type} {ret : FieldType} {post : S → Prop} {w1 : S → Nat → va_W} (hy : plainName y.cls = true) (hw : wl = Cond.code y cc maxL (some ret) :: wl') (hL : (lg_sl as).length ≤ maxL) (hret : (∃ n, ret = .object n) ∨ ∃ t, ret = .array t)
    (body : ∀ (p : Program) (e : Env) (s : State) (m : MethodId) (below : List Frame) (meth : Method) (c : Code) (Q : State → Prop) (A : Nat → Prop) (ls : Array Slot), p.tables.exec = Jvm.exec → c.code = cc → c.maxLocals = maxL → (∀ w ∈ wl, w.before as.toArray s = true) → s.vm.findClass y.cls = some m.cls → xE D cy t0 A s s.heap → (∀ q, s.heap.size ≤ q → A q) → ∀ (H : Heap) (locs : List Loc), xP D ws H → va_D A ws → lv_has ls maxL (lv_args 0 as) → va_S A s.heap H locs →
      (∀ (u : S) (q : Nat) (H : Heap) (locs : List Loc) (pc : Nat) (ls : Array Slot) (cells slots : Nat), decode cc pc = .ok (.areturn, 1) → post u → xP D (w1 u q) H → va_D A (w1 u q) → va_S A s.heap H locs → cells ≤ mc → slots ≤ ms → W p l e rm s m as.toArray below meth c H locs cells slots Q (F0 m pc ls [.ref q])) →
      W p l e rm s m as.toArray below meth c H locs 0 0 Q (F0 m 0 ls [])) : xWr l y wl rm D cy t0 as ws post w1 mc ms := by
  intro sz
  refine Met.ofW (cc := cc) (maxL := maxL) (ret := some ret) hy hw ?_
  intro p e s m args below meth c s₁ B hml hv
  obtain ⟨rfl, hsz, hP, hD0, hE⟩ := hv
  subst hsz
  rw [lg_entry_eq]
  refine body p e s m below meth c _ (va_A ws s.heap.size) _ B.exec B.bytes hml (atoms_spec (ws := wl) B.pre) (findClass_of_methodNamed B.named) hE (fun q h => Or.inr h) s.heap [] hP hD0.self (lv_entry as hL) va_S.rf (fun u q H locs pc ls cells slots hd hp hP1 hD1 hS1 h1 h2 => ?_)
  exact W.widen h1 h2 (W.aret B.exec B.bytes B.returns hret (Or.inr ⟨q, rfl⟩) (fun t ht hW => ⟨⟨u, q, rfl, hp, by rw [ht]; exact hP1, hD1⟩, hS1.F ht⟩) hS1.2.2 hd (hlocks := B.notSynchronized))
theorem xofRi {ret : FieldType} {post : Int32 → Prop} (hy : plainName y.cls = true) (hw : wl = Cond.code y cc maxL (some ret) :: wl') (hL : (lg_sl as).length ≤ maxL) (hn : ∀ r, post r → narrow ret (.int r) = .int r)
    (body : ∀ (p : Program) (e : Env) (s : State) (m : MethodId) (below : List Frame) (meth : Method) (c : Code) (Q : State → Prop) (ls : Array Slot), p.tables.exec = Jvm.exec → c.code = cc → c.maxLocals = maxL → (∀ w ∈ wl, w.before as.toArray s = true) → s.vm.findClass y.cls = some m.cls → xE D cy t0 (fun _ => False) s s.heap → xP D ws s.heap → lv_has ls maxL (lv_args 0 as) → va_S (fun _ => False) s.heap s.heap [] →
      (∀ (r : Int32) (pc : Nat) (ls : Array Slot), decode cc pc = .ok (.ireturn, 1) → post r → W p l e rm s m as.toArray below meth c s.heap [] 0 0 Q (F0 m pc ls [.int r])) →
      W p l e rm s m as.toArray below meth c s.heap [] 0 0 Q (F0 m 0 ls [])) : xRi l y wl rm D cy t0 as ws post := by
  refine Met.ofW (cc := cc) (maxL := maxL) (ret := some ret) hy hw ?_
  intro p e s m args below meth c s₁ B hml hv
  obtain ⟨rfl, hP, hE⟩ := hv
  rw [lg_entry_eq]
  refine body p e s m below meth c _ _ B.exec B.bytes hml (atoms_spec (ws := wl) B.pre) (findClass_of_methodNamed B.named) hE hP (lv_entry as hL) va_S.rf (fun r pc ls hd hp => ?_)
  exact W.zret B.exec B.bytes B.returns (hn r hp) (fun t ht hW => ⟨r, rfl, hp, ht⟩) (fun _ h => by cases h) hd (hlocks := B.notSynchronized)
theorem xofRl {post : Int64 → Prop} (hy : plainName y.cls = true) (hw : wl = Cond.code y cc maxL (some .long) :: wl') (hL : (lg_sl as).length ≤ maxL)
    (body : ∀ (p : Program) (e : Env) (s : State) (m : MethodId) (below : List Frame) (meth : Method) (c : Code) (Q : State → Prop) (ls : Array Slot), p.tables.exec = Jvm.exec → c.code = cc → c.maxLocals = maxL → (∀ w ∈ wl, w.before as.toArray s = true) → s.vm.findClass y.cls = some m.cls → xE D cy t0 (fun _ => False) s s.heap → xP D ws s.heap → lv_has ls maxL (lv_args 0 as) → va_S (fun _ => False) s.heap s.heap [] →
      (∀ (r : Int64) (pc : Nat) (ls : Array Slot), decode cc pc = .ok (.lreturn, 1) → post r → W p l e rm s m as.toArray below meth c s.heap [] 0 0 Q (F0 m pc ls [.long r])) →
      W p l e rm s m as.toArray below meth c s.heap [] 0 0 Q (F0 m 0 ls [])) : xRl l y wl rm D cy t0 as ws post := by
  refine Met.ofW (cc := cc) (maxL := maxL) (ret := some .long) hy hw ?_
  intro p e s m args below meth c s₁ B hml hv
  obtain ⟨rfl, hP, hE⟩ := hv
  rw [lg_entry_eq]
  refine body p e s m below meth c _ _ B.exec B.bytes hml (atoms_spec (ws := wl) B.pre) (findClass_of_methodNamed B.named) hE hP (lv_entry as hL) va_S.rf (fun r pc ls hd hp => ?_)
  exact W.lret B.exec B.bytes B.returns (fun t ht hW => ⟨r, rfl, hp, ht⟩) (fun _ h => by cases h) hd (hlocks := B.notSynchronized)
end XW
end XWRAP
end
section
section XNEST
theorem xN0 {U : State} (h : xN U) : va_Nw (.methodLinkNest RX4 28 yX0_init RX4) U := h (RX4, 28, yX0_init) (List.mem_of_getElem? (i := 0) (show xnM[0]? = some (RX4, 28, yX0_init) from rfl))
theorem xN1 {U : State} (h : xN U) : va_Nw (.methodLinkNest RX4 31 yX2_init RX4) U := h (RX4, 31, yX2_init) (List.mem_of_getElem? (i := 1) (show xnM[1]? = some (RX4, 31, yX2_init) from rfl))
theorem xN2 {U : State} (h : xN U) : va_Nw (.methodLinkNest RX4 38 yX3_init RX4) U := h (RX4, 38, yX3_init) (List.mem_of_getElem? (i := 2) (show xnM[2]? = some (RX4, 38, yX3_init) from rfl))
theorem xN3 {U : State} (h : xN U) : va_Nw (.methodLinkNest RX0 30 yX4_at RX4) U := h (RX0, 30, yX4_at) (List.mem_of_getElem? (i := 3) (show xnM[3]? = some (RX0, 30, yX4_at) from rfl))
theorem xN4 {U : State} (h : xN U) : va_Nw (.methodLinkNest RX0 39 yX4_put RX4) U := h (RX0, 39, yX4_put) (List.mem_of_getElem? (i := 4) (show xnM[4]? = some (RX0, 39, yX4_put) from rfl))
theorem xN5 {U : State} (h : xN U) : va_Nw (.methodLinkNest RX1 31 yX4_at RX4) U := h (RX1, 31, yX4_at) (List.mem_of_getElem? (i := 5) (show xnM[5]? = some (RX1, 31, yX4_at) from rfl))
theorem xN6 {U : State} (h : xN U) : va_Nw (.methodLinkNest RX1 35 yX4_hashFor RX4) U := h (RX1, 35, yX4_hashFor) (List.mem_of_getElem? (i := 6) (show xnM[6]? = some (RX1, 35, yX4_hashFor) from rfl))
theorem xN7 {U : State} (h : xN U) : va_Nw (.methodLinkNest RX1 48 yX4_put RX4) U := h (RX1, 48, yX4_put) (List.mem_of_getElem? (i := 7) (show xnM[7]? = some (RX1, 48, yX4_put) from rfl))
theorem xN8 {U : State} (h : xN U) : va_Nw (.methodLinkNest RX2 19 yX4_put RX4) U := h (RX2, 19, yX4_put) (List.mem_of_getElem? (i := 8) (show xnM[8]? = some (RX2, 19, yX4_put) from rfl))
theorem xN9 {U : State} (h : xN U) : va_Nw (.methodLinkNest RX2 32 yX4_at RX4) U := h (RX2, 32, yX4_at) (List.mem_of_getElem? (i := 9) (show xnM[9]? = some (RX2, 32, yX4_at) from rfl))
theorem xN10 {U : State} (h : xN U) : va_Nw (.methodLinkNest RX2 39 yX4_hashFor RX4) U := h (RX2, 39, yX4_hashFor) (List.mem_of_getElem? (i := 10) (show xnM[10]? = some (RX2, 39, yX4_hashFor) from rfl))
theorem xN11 {U : State} (h : xN U) : va_Nw (.methodLinkNest RX2 55 yX4_lowZeros RX4) U := h (RX2, 55, yX4_lowZeros) (List.mem_of_getElem? (i := 11) (show xnM[11]? = some (RX2, 55, yX4_lowZeros) from rfl))
theorem xN12 {U : State} (h : xN U) : va_Nw (.methodLinkNest RX3 22 yX4_put RX4) U := h (RX3, 22, yX4_put) (List.mem_of_getElem? (i := 12) (show xnM[12]? = some (RX3, 22, yX4_put) from rfl))
theorem xN13 {U : State} (h : xN U) : va_Nw (.methodLinkNest RX3 32 yX4_at RX4) U := h (RX3, 32, yX4_at) (List.mem_of_getElem? (i := 13) (show xnM[13]? = some (RX3, 32, yX4_at) from rfl))
theorem xN14 {U : State} (h : xN U) : va_Nw (.methodLinkNest RX3 40 yX4_hashFor RX4) U := h (RX3, 40, yX4_hashFor) (List.mem_of_getElem? (i := 14) (show xnM[14]? = some (RX3, 40, yX4_hashFor) from rfl))
theorem xN15 {U : State} (h : xN U) : va_Nw (.methodLinkNest RX3 43 yX4_lowZeros RX4) U := h (RX3, 43, yX4_lowZeros) (List.mem_of_getElem? (i := 15) (show xnM[15]? = some (RX3, 43, yX4_lowZeros) from rfl))
end XNEST
end
section
section XMATH
def xat (f : Nat → Int32) (n : Nat) (i : Int32) : Int32 := if i < 0 ∨ n ≤ i.toNatClampNeg then -1 else f i.toNatClampNeg
def xput (f : Nat → Int32) (n : Nat) (i : Int32) (x : Int32) : Nat → Int32 := if i < 0 ∨ n ≤ i.toNatClampNeg then f else upd f i.toNatClampNeg x
theorem xat_neg {f : Nat → Int32} {n : Nat} {i : Int32} (h : i < 0) : xat f n i = -1 := if_pos (Or.inl h)
theorem xat_m1 {f : Nat → Int32} {n : Nat} : xat f n (-1) = -1 := xat_neg (by decide)
theorem xat_in {f : Nat → Int32} {n j : Nat} (h : j < n) (hn : n < 2 ^ 31) : xat f n (nI j) = f j := by
  unfold xat
  rw [if_neg (nI_in h hn), nI_clamp (by omega)]
theorem xat_out {f : Nat → Int32} {n j : Nat} (h : n ≤ j) (hj : j < 2 ^ 31) : xat f n (nI j) = -1 := by
  unfold xat
  rw [if_pos (Or.inr (by rw [nI_clamp hj]; exact h))]
theorem xput_in {f : Nat → Int32} {n j : Nat} {x : Int32} (h : j < n) (hn : n < 2 ^ 31) : xput f n (nI j) x = upd f j x := by
  unfold xput
  rw [if_neg (nI_in h hn), nI_clamp (by omega)]
theorem xput_neg {f : Nat → Int32} {n : Nat} {i x : Int32} (h : i < 0) : xput f n i x = f := if_pos (Or.inl h)
theorem xput_out {f : Nat → Int32} {n j : Nat} {x : Int32} (h : n ≤ j) (hj : j < 2 ^ 31) : xput f n (nI j) x = f := by
  unfold xput
  rw [if_pos (Or.inr (by rw [nI_clamp hj]; exact h))]
theorem upd_s {f : Nat → Int32} {k : Nat} {x : Int32} : upd f k x k = x := pk_us
theorem upd_n {f : Nat → Int32} {k j : Nat} {x : Int32} (h : j ≠ k) : upd f k x j = f j := pk_un h
/-- the hash of an item -/
def hsh (i : Nat) : Nat := (69 * i * i + 48271 * i + 101) % 16777213
theorem hsh_lt (i : Nat) : hsh i < 16777213 := Nat.mod_lt _ (Nat.le_of_ble_eq_true rfl)
theorem hsh_sq {i : Nat} (h : i < 100000) : 69 * i * i + 48271 * i + 101 < 2 ^ 62 := by
  have h1 : i * i ≤ 100000 * 100000 := Nat.mul_le_mul (Nat.le_of_lt h) (Nat.le_of_lt h)
  rw [Nat.mul_assoc]
  omega
/-- zeros at the low end -/
def lz (v : Nat) : Nat → Nat → Nat
  | 0, z => z
  | f + 1, z => if v / 2 ^ z % 2 = 1 then z else lz v f (z + 1)
theorem sh31 : ∀ z, z < 32 → ((nI z &&& 31).toBitVec.smod 32).toNat = z := by decide +kernel
theorem shrz {v z : Nat} (hv : v < 2 ^ 31) (hz : z < 32) : nI v >>> (nI z &&& 31) = nI (v / 2 ^ z) := pk_shrN hv _ z (sh31 z hz)
theorem shlz {v z : Nat} (hz : z < 32) (hv : v * 2 ^ z < 2 ^ 32) : nI v <<< (nI z &&& 31) = nI (v * 2 ^ z) := pk_shlN _ z (sh31 z hz) hv
theorem and1 {v : Nat} (hv : v < 2 ^ 32) : nI v &&& nI 1 = nI (v % 2) := pk_andN hv 1 (by decide)
/-- an int in a range is a number -/
theorem xrng {x : Int32} {n : Nat} (hn : n < 2 ^ 31) (h0 : ¬ x < 0) (h1 : ¬ nI n ≤ x) : ∃ j, j < n ∧ x = nI j := by
  obtain ⟨j, hj, rfl⟩ := nI_of h0
  exact ⟨j, Nat.lt_of_not_le (fun q => h1 ((nI_leI hn hj).mpr q)), rfl⟩
def isIt (x : Int32) : Bool := decide (¬ x < 0 ∧ x < 100000)
theorem isIt_neg {x : Int32} (h : x < 0) : isIt x = false := decide_eq_false (fun q => q.1 h)
theorem isIt_ge {j : Nat} (h : 100000 ≤ j) (hj : j < 2 ^ 31) : isIt (nI j) = false := decide_eq_false (fun q => absurd ((nI_ltI (b := 100000) hj (Nat.le_of_ble_eq_true rfl)).mp q.2) (by omega))
theorem isIt_lt {j : Nat} (h : j < 100000) : isIt (nI j) = true := decide_eq_true ⟨nI_pos (by omega), (nI_ltI (b := 100000) (by omega) (Nat.le_of_ble_eq_true rfl)).mpr h⟩
theorem lz_step {v k z : Nat} (h : z < k) (hb : ¬ v / 2 ^ z % 2 = 1) : lz v (k - z) z = lz v (k - (z + 1)) (z + 1) := by
  rw [show k - z = (k - (z + 1)) + 1 by omega]
  exact if_neg hb
theorem lz_hit {v k z : Nat} (h : z < k) (hb : v / 2 ^ z % 2 = 1) : lz v (k - z) z = z := by
  rw [show k - z = (k - (z + 1)) + 1 by omega]
  exact if_pos hb
theorem lz_end {v k z : Nat} (h : k = z) : lz v (k - z) z = k := by
  subst h
  rw [Nat.sub_self]
  rfl
end XMATH
end
section
section XRANK
/-! counts: cb P n is how many below n have P; it is also the place of n among them -/
def cb (P : Nat → Bool) : Nat → Nat
  | 0 => 0
  | n + 1 => cb P n + (if P n then 1 else 0)
theorem cb_t {P : Nat → Bool} {n : Nat} (h : P n = true) : cb P (n + 1) = cb P n + 1 := by simp [cb, h]
theorem cb_f {P : Nat → Bool} {n : Nat} (h : P n = false) : cb P (n + 1) = cb P n := by simp [cb, h]
theorem cb_mono {P : Nat → Bool} {a b : Nat} (h : a ≤ b) : cb P a ≤ cb P b := by
  induction b with
  | zero => rw [Nat.le_zero.mp h]; exact Nat.le_refl _
  | succ b ih =>
    rcases Nat.lt_or_ge a (b + 1) with q | q
    · exact Nat.le_trans (ih (by omega)) (Nat.le_add_right _ _)
    · rw [show a = b + 1 by omega]; exact Nat.le_refl _
theorem cb_le {P : Nat → Bool} {n : Nat} : cb P n ≤ n := by
  induction n with
  | zero => exact Nat.le_refl _
  | succ n ih => simp only [cb]; split <;> omega
theorem cb_lt {P : Nat → Bool} {a b : Nat} (h : a < b) (hP : P a = true) : cb P a < cb P b := by
  have h1 : cb P (a + 1) ≤ cb P b := cb_mono h
  rw [cb_t hP] at h1
  omega
theorem cb_inj {P : Nat → Bool} {a b : Nat} (ha : P a = true) (hb : P b = true) (h : cb P a = cb P b) : a = b := by
  rcases Nat.lt_trichotomy a b with q | q | q
  · have := cb_lt q ha; omega
  · exact q
  · have := cb_lt q hb; omega
theorem cb_lt_rev {P : Nat → Bool} {a b : Nat} (h : cb P a < cb P b) : a < b := by
  rcases Nat.lt_or_ge a b with q | q
  · exact q
  · have := cb_mono (P := P) q; omega
theorem cb_none {P : Nat → Bool} {a b : Nat} (h : a ≤ b) (hn : ∀ x, a ≤ x → x < b → P x = false) : cb P b = cb P a := by
  induction b with
  | zero => rw [Nat.le_zero.mp h]
  | succ b ih =>
    rcases Nat.lt_or_ge a (b + 1) with q | q
    · rw [cb_f (hn b (by omega) (by omega))]; exact ih (by omega) (fun x h1 h2 => hn x h1 (by omega))
    · rw [show a = b + 1 by omega]
/-- the one at a place -/
theorem cb_at {P : Nat → Bool} {n j : Nat} (h : j < cb P n) : ∃ x, x < n ∧ P x = true ∧ cb P x = j := by
  induction n with
  | zero => simp [cb] at h
  | succ n ih =>
    by_cases hP : P n = true
    · rw [cb_t hP] at h
      rcases Nat.lt_or_ge j (cb P n) with q | q
      · obtain ⟨x, h1, h2, h3⟩ := ih q; exact ⟨x, by omega, h2, h3⟩
      · exact ⟨n, by omega, hP, by omega⟩
    · have hP : P n = false := by simpa using hP
      rw [cb_f hP] at h
      obtain ⟨x, h1, h2, h3⟩ := ih h; exact ⟨x, by omega, h2, h3⟩
/-- the greatest below a bound -/
theorem cb_top {P : Nat → Bool} {n : Nat} (h : 0 < cb P n) : ∃ x, x < n ∧ P x = true ∧ cb P x + 1 = cb P n ∧ ∀ y, x < y → y < n → P y = false := by
  obtain ⟨x, h1, h2, h3⟩ := cb_at (P := P) (n := n) (j := cb P n - 1) (by omega)
  refine ⟨x, h1, h2, by omega, fun y h4 h5 => ?_⟩
  cases hy : P y with
  | false => rfl
  | true =>
    have := cb_lt h4 h2
    have := cb_lt h5 hy
    omega
/-- the next one from a bound on -/
theorem cb_next {P : Nat → Bool} {a n : Nat} (ha : a ≤ n) (h : cb P a < cb P n) : ∃ x, a ≤ x ∧ x < n ∧ P x = true ∧ cb P x = cb P a ∧ ∀ y, a ≤ y → y < x → P y = false := by
  obtain ⟨x, h1, h2, h3⟩ := cb_at (P := P) (n := n) (j := cb P a) h
  have hx : a ≤ x := by
    rcases Nat.lt_or_ge x a with q | q
    · have := cb_lt q h2; omega
    · exact q
  refine ⟨x, hx, h1, h2, h3, fun y h4 h5 => ?_⟩
  cases hy : P y with
  | false => rfl
  | true =>
    have := cb_lt h5 hy
    have := cb_mono (P := P) h4
    omega
theorem cb_congr {P R : Nat → Bool} {n : Nat} (h : ∀ x, x < n → P x = R x) : cb P n = cb R n := by
  induction n with
  | zero => rfl
  | succ n ih => simp only [cb]; rw [ih (fun x q => h x (by omega)), h n (by omega)]
theorem cb_sub {P R : Nat → Bool} {n : Nat} (h : ∀ x, x < n → P x = true → R x = true) : cb P n ≤ cb R n := by
  induction n with
  | zero => exact Nat.le_refl _
  | succ n ih =>
    have h1 := ih (fun x q => h x (by omega))
    cases hp : P n with
    | false => rw [cb_f hp]; exact Nat.le_trans h1 (cb_mono (by omega))
    | true => rw [cb_t hp, cb_t (h n (by omega) hp)]; omega
theorem cb_uni (P R : Nat → Bool) (n : Nat) : cb (fun x => P x || R x) n + cb (fun x => P x && R x) n = cb P n + cb R n := by
  induction n with
  | zero => rfl
  | succ n ih =>
    simp only [cb]
    rcases Bool.eq_false_or_eq_true (P n) with hp | hp <;> rcases Bool.eq_false_or_eq_true (R n) with hr | hr <;> simp [hp, hr] <;> omega
theorem cb_diff (P R : Nat → Bool) (n : Nat) : cb (fun x => P x && !R x) n + cb (fun x => P x && R x) n = cb P n := by
  induction n with
  | zero => rfl
  | succ n ih =>
    simp only [cb]
    rcases Bool.eq_false_or_eq_true (P n) with hp | hp <;> rcases Bool.eq_false_or_eq_true (R n) with hr | hr <;> simp [hp, hr] <;> omega
theorem cb_zero {P : Nat → Bool} {n : Nat} (h : ∀ x, x < n → P x = false) : cb P n = 0 := by
  induction n with
  | zero => rfl
  | succ n ih => rw [cb_f (h n (by omega)), ih (fun x q => h x (by omega))]
/-- one more -/
theorem cb_ins {P R : Nat → Bool} {a n : Nat} (ha : a < n) (hP : P a = false) (hR : R a = true) (h : ∀ x, x ≠ a → R x = P x) : cb R n = cb P n + 1 := by
  induction n with
  | zero => omega
  | succ n ih =>
    rcases Nat.lt_or_ge a n with q | q
    · simp only [cb]; rw [ih q, h n (by omega)]; omega
    · have e : a = n := by omega
      subst e
      rw [cb_t hR, cb_f hP, cb_congr (fun x hx => h x (by omega))]
theorem cb_ins_lo {P R : Nat → Bool} {a n : Nat} (ha : n ≤ a) (h : ∀ x, x ≠ a → R x = P x) : cb R n = cb P n := cb_congr (fun x hx => h x (by omega))
/-- a list without doubles -/
def memb (f : Nat → Nat) : Nat → Nat → Bool
  | 0, _ => false
  | n + 1, x => (f n == x) || memb f n x
theorem memb_iff {f : Nat → Nat} {n x : Nat} : memb f n x = true ↔ ∃ j, j < n ∧ f j = x := by
  induction n with
  | zero => simp [memb]
  | succ n ih =>
    simp only [memb, Bool.or_eq_true, beq_iff_eq, ih]
    constructor
    · rintro (h | ⟨j, h1, h2⟩)
      · exact ⟨n, by omega, h⟩
      · exact ⟨j, by omega, h2⟩
    · rintro ⟨j, h1, h2⟩
      rcases Nat.lt_or_ge j n with q | q
      · exact Or.inr ⟨j, q, h2⟩
      · exact Or.inl (by rw [← h2]; congr 1; omega)
theorem memb_congr {f g : Nat → Nat} {n x : Nat} (h : ∀ j, j < n → f j = g j) : memb f n x = memb g n x := by
  induction n with
  | zero => rfl
  | succ n ih => simp only [memb]; rw [ih (fun j q => h j (by omega)), h n (by omega)]
/-- a sum over a list is a sum over what it lists -/
theorem cb_list {f : Nat → Nat} {P : Nat → Bool} {N : Nat} : ∀ n : Nat, (∀ j, j < n → f j < N) → (∀ i j, i < n → j < n → f i = f j → i = j) → cb (fun j => P (f j)) n = cb (fun x => P x && memb f n x) N := by
  intro n
  induction n with
  | zero =>
    intro _ _
    exact (cb_zero (fun x _ => by simp [memb])).symm
  | succ n ih =>
    intro h1 h2
    have e := ih (fun j q => h1 j (by omega)) (fun i j q r z => h2 i j (by omega) (by omega) z)
    have hno : memb f n (f n) = false := by
      cases hm : memb f n (f n) with
      | false => rfl
      | true =>
        obtain ⟨j, q, r⟩ := memb_iff.mp hm
        have := h2 j n (by omega) (by omega) r
        omega
    cases hp : P (f n) with
    | false =>
      rw [cb_f (P := fun j => P (f j)) hp, e]
      refine cb_congr (fun x _ => ?_)
      simp only [memb]
      by_cases hx : f n = x
      · subst hx; simp [hp]
      · have hq : (f n == x) = false := by simp; exact hx
        rw [hq, Bool.false_or]
    | true =>
      rw [cb_t (P := fun j => P (f j)) hp, e]
      refine (cb_ins (a := f n) (h1 n (by omega)) (by simp [hno]) (by simp [memb, hp]) (fun x hx => ?_)).symm
      simp only [memb]
      have : (f n == x) = false := by simp; exact fun q => hx q.symm
      rw [this, Bool.false_or]
end XRANK
end
section
section XBK
theorem cb_stop {P R : Nat → Bool} {a N : Nat} (ha : a ≤ N) (h : cb P N ≤ cb P a) (hs : ∀ x, R x = true → P x = true) : cb R N = cb R a := by
  refine cb_none ha (fun x h1 h2 => ?_)
  cases hr : R x with
  | false => rfl
  | true =>
    have h3 := cb_lt h2 (hs x hr)
    have h4 := cb_mono (P := P) h1
    omega
theorem cb_to {P R : Nat → Bool} {a x : Nat} (ha : a ≤ x) (hn : ∀ y, a ≤ y → y < x → P y = false) (hs : ∀ x, R x = true → P x = true) : cb R x = cb R a := by
  refine cb_none ha (fun y h1 h2 => ?_)
  cases hr : R y with
  | false => rfl
  | true => have := hn y h1 h2; rw [hs y hr] at this; cases this
/-- a row that lists those with P, rising -/
def RW (P : Nat → Bool) (N n : Nat) (f : Nat → Int32) : Prop := n = cb P N ∧ ∀ x, x < N → P x = true → f (cb P x) = nI x
theorem RW.at {P : Nat → Bool} {N n : Nat} {f : Nat → Int32} (h : RW P N n f) {j : Nat} (hj : j < n) : ∃ x, x < N ∧ P x = true ∧ cb P x = j ∧ f j = nI x := by
  obtain ⟨x, h1, h2, h3⟩ := cb_at (P := P) (n := N) (j := j) (by rw [← h.1]; exact hj)
  exact ⟨x, h1, h2, h3, by rw [← h3]; exact h.2 x h1 h2⟩
theorem RW.next {P : Nat → Bool} {N n : Nat} {f : Nat → Int32} (h : RW P N n f) {a : Nat} (ha : a ≤ N) (hj : cb P a < n) : ∃ x, a ≤ x ∧ x < N ∧ P x = true ∧ cb P x = cb P a ∧ (∀ y, a ≤ y → y < x → P y = false) ∧ f (cb P a) = nI x := by
  obtain ⟨x, h1, h2, h3, h4, h5⟩ := cb_next ha (by rw [← h.1]; exact hj)
  exact ⟨x, h1, h2, h3, h4, h5, by rw [← h4]; exact h.2 x h2 h3⟩
end XBK
section XBK2
theorem bs_step {s e b r : Nat} (hs : s = 2 ^ e) (he : e ≤ 16) (h1 : b ≤ r) (h2 : r < b + s) : (s / 2 = 0 ∧ r = b) ∨ ∃ e', e' ≤ 16 ∧ s / 2 = 2 ^ e' ∧ b ≤ r ∧ r < b + 2 * 2 ^ e' := by
  cases e with
  | zero => left; simp at hs; subst hs; exact ⟨rfl, by omega⟩
  | succ e =>
    right
    have h3 : s = 2 * 2 ^ e := by rw [hs, Nat.pow_succ]; omega
    exact ⟨e, by omega, by omega, h1, by omega⟩
/-- the items of a map of dates: -1 for none -/
def Sm (M : Nat → Int32) : Nat → Bool := fun x => decide (M x ≠ -1)
theorem Sm_t {M : Nat → Int32} {x : Nat} : Sm M x = true ↔ M x ≠ -1 := by simp [Sm]
theorem Sm_f {M : Nat → Int32} {x : Nat} : Sm M x = false ↔ M x = -1 := by simp [Sm]
def mrgI (a b : Int32) : Int32 := if a < b then b else a
def mrg (M1 M2 : Nat → Int32) : Nat → Int32 := fun x => mrgI (M1 x) (M2 x)
def MV (M : Nat → Int32) : Prop := ∀ x, M x = -1 ∨ 0 ≤ M x
theorem neg1lt {a : Int32} (h : 0 ≤ a) : (-1 : Int32) < a := by
  rw [Int32.lt_iff_toInt_lt]
  rw [Int32.le_iff_toInt_le] at h
  have e1 : (-1 : Int32).toInt = -1 := by decide
  have e2 : (0 : Int32).toInt = 0 := by decide
  omega
theorem nneg1 {a : Int32} (h : 0 ≤ a) : a ≠ -1 := by
  intro q
  subst q
  exact absurd h (by decide)
theorem mrgI_l {a : Int32} (h : a = -1 ∨ 0 ≤ a) : mrgI a (-1) = a := by
  unfold mrgI
  rcases h with rfl | h
  · rfl
  · rw [if_neg (fun q => ?_)]
    have := neg1lt h
    rw [Int32.lt_iff_toInt_lt] at this q
    omega
theorem mrgI_r {a : Int32} (h : a = -1 ∨ 0 ≤ a) : mrgI (-1) a = a := by
  unfold mrgI
  rcases h with rfl | h
  · rfl
  · rw [if_pos (neg1lt h)]
theorem mrgI_self {a : Int32} : mrgI a a = a := by unfold mrgI; split <;> rfl
theorem mrgI_v {a b : Int32} (ha : a = -1 ∨ 0 ≤ a) (hb : b = -1 ∨ 0 ≤ b) : mrgI a b = -1 ∨ 0 ≤ mrgI a b := by unfold mrgI; split; exact hb; exact ha
theorem mrg_MV {M1 M2 : Nat → Int32} (h1 : MV M1) (h2 : MV M2) : MV (mrg M1 M2) := fun x => mrgI_v (h1 x) (h2 x)
theorem Sm_mrg {M1 M2 : Nat → Int32} (h1 : MV M1) (h2 : MV M2) (x : Nat) : Sm (mrg M1 M2) x = (Sm M1 x || Sm M2 x) := by
  have h3 := h1 x
  have h4 := h2 x
  unfold mrg Sm
  simp only
  rcases h3 with e1 | e1
  · simp [e1, mrgI_r h4]
  · have n1 := nneg1 e1
    rcases h4 with e2 | e2
    · simp [e2, mrgI_l (Or.inr e1)]
    · have n2 := nneg1 e2
      have n3 : mrgI (M1 x) (M2 x) ≠ -1 := by unfold mrgI; split; exact n2; exact n1
      simp [n1, n2, n3]
/-- a basket: n items of the map M in rows of cap places -/
def BR (M : Nat → Int32) (n cap : Nat) (fi fd : Nat → Int32) : Prop := RW (Sm M) 100000 n fi ∧ (∀ x, x < 100000 → Sm M x = true → fd (cb (Sm M) x) = M x) ∧ n ≤ cap ∧ cap ≤ 100000
def capR (w cap : Nat) : Nat := if w ≤ cap then cap else min 100000 (max w (2 * cap))
def mcR (w cap : Nat) : Nat := if w ≤ cap then 0 else 2
def msR (w cap : Nat) : Nat := if w ≤ cap then 0 else 2 * capR w cap
theorem capR_no {w cap : Nat} (h : w ≤ cap) : capR w cap = cap := if_pos h
theorem capR_yes {w cap : Nat} (h : cap < w) : capR w cap = min 100000 (max w (2 * cap)) := if_neg (by omega)
theorem mcR_yes {w cap : Nat} (h : cap < w) : mcR w cap = 2 := if_neg (by omega)
theorem msR_yes {w cap : Nat} (h : cap < w) : msR w cap = 2 * capR w cap := if_neg (by omega)
theorem capR_le {w cap : Nat} (hw : w ≤ 100000) (hc : cap ≤ 100000) : w ≤ capR w cap ∧ cap ≤ capR w cap ∧ capR w cap ≤ 100000 := by
  unfold capR; split <;> omega
theorem cpy_lt {f g : Nat → Int32} {n j : Nat} (h : j < n) : va_cpy f g 0 0 n j = f j := by rw [pk_cpy_in (Nat.zero_le _) (by omega)]; congr 1; omega
/-- the merging of two rows, from the top down to hi -/
def TI (U S1 : Nat → Bool) (g1 G : Nat → Int32) (hi : Nat) (f : Nat → Int32) : Prop := (∀ j, j < cb S1 hi → f j = g1 j) ∧ ∀ x, hi ≤ x → x < 100000 → U x = true → f (cb U x) = G x
theorem TI.step {U S1 : Nat → Bool} {g1 G f : Nat → Int32} {hi z : Nat} (h : TI U S1 g1 G hi f) (hz : z < hi) (hU : U z = true) (hn : ∀ y, z < y → y < hi → U y = false) (hs : ∀ x, S1 x = true → U x = true) {v : Int32} (hv : v = G z) : TI U S1 g1 G z (upd f (cb U z) v) := by
  have h0 : cb S1 z ≤ cb U z := cb_sub (fun x _ hx => hs x hx)
  refine ⟨fun j hj => ?_, fun x h1 h2 h3 => ?_⟩
  · rw [upd_n (by omega)]
    exact h.1 j (Nat.lt_of_lt_of_le hj (cb_mono (by omega)))
  · rcases Nat.lt_or_ge z x with q | q
    · have h4 : hi ≤ x := by
        rcases Nat.lt_or_ge x hi with r | r
        · have := hn x q r; rw [h3] at this; cases this
        · exact r
      have h5 : cb U z < cb U hi := cb_lt hz hU
      have h6 : cb U hi ≤ cb U x := cb_mono h4
      rw [upd_n (by omega)]
      exact h.2 x h4 h2 h3
    · have e : x = z := by omega
      subst e
      rw [upd_s]; exact hv
theorem TI.done {U S1 S2 : Nat → Bool} {g1 G f : Nat → Int32} {hi : Nat} (h : TI U S1 g1 G hi f) (hU : ∀ x, U x = (S1 x || S2 x)) (h2 : cb S2 hi = 0) (hG : ∀ x, x < 100000 → S1 x = true → S2 x = false → g1 (cb S1 x) = G x) : ∀ x, x < 100000 → U x = true → f (cb U x) = G x := by
  intro x hx hu
  rcases Nat.lt_or_ge x hi with q | q
  · have hno : ∀ y, y < hi → S2 y = false := fun y hy => by
      cases hs : S2 y with
      | false => rfl
      | true => have := cb_lt hy hs; omega
    have e1 : cb U x = cb S1 x := cb_congr (fun y hy => by rw [hU y, hno y (by omega), Bool.or_false])
    have e2 : S1 x = true := by rw [hU x, hno x q, Bool.or_false] at hu; exact hu
    rw [e1, h.1 _ (cb_lt q e2)]
    exact hG x hx e2 (hno x q)
  · exact h.2 x q hx hu
theorem m1lt {p : Nat} (hp : p < 2 ^ 31) : (nI p - nI 1 < 0) ↔ p = 0 := by
  constructor
  · intro h
    rcases Nat.eq_zero_or_pos p with q | q
    · exact q
    · rw [pk_sub q] at h
      exact absurd h (nI_pos (by omega))
  · rintro rfl
    decide
theorem m1_sub (p : Nat) (hp : 0 < p) : nI p - nI 1 = nI (p - 1) := pk_sub hp
theorem m1_inc {p q : Nat} (h : q + 1 = p) : nI p - nI 1 + (-1) = nI q - nI 1 := by
  subst h
  rw [pk_sub (by omega), Nat.add_sub_cancel]
  have e : (-1 : Int32) = -(nI 1) := by decide
  rw [e, ← Int32.sub_eq_add_neg]
theorem m1_s0 {x : Int32} : x - nI 0 = x := by show x - 0 = x; simp
theorem m1_s1 {p q : Nat} (h : q + 1 = p) : nI p - nI 1 - nI 1 = nI q - nI 1 := by
  subst h
  rw [pk_sub (by omega), Nat.add_sub_cancel]
theorem ifneg1 {y : Nat} (hy : y < 2 ^ 31) : (if (-1 : Int32) < nI y then nI y else (-1)) = nI y := if_pos (neg1lt (nI_pos' hy))
end XBK2
end
section
section XLEAF
set_option maxHeartbeats 4000000 in
set_option maxRecDepth 100000 in
theorem c_at (l : Launch) (D : va_G) (cy : Nat → ClassId) (t0 : Nat) (q n : Nat) (f : Nat → Int32) (i : Int32) (hn : n < 2 ^ 31) : xRi l yX4_at wsX4_at ({ frames := 0, cells := 0, slots := 0, locals := 0 } : Room) D cy t0 ([.ref q, .int i]) ([(q, xI cy n f)]) (fun r => r = xat f n i) := by
  refine xofRi (cc := cX4_at) (maxL := 2) (by decide) rfl (Nat.le_of_ble_eq_true rfl) (fun _ _ => rfl) ?_
  intro p e s m below meth c Q ls hx hb hml hts hown hE hP hl hS kret
  have hl : lv_has ls 2 [(0, .ref q), (1, .int i)] := hl
  refine lv_aload_n hx hb dX4_at_0 rfl (lv_at hl 0 rfl) ?_
  refine lv_ifnull hx hb dX4_at_1 ?_
  refine lv_iload_n hx hb dX4_at_4 rfl (lv_at hl 1 rfl) ?_
  refine lv_if_lt (tgt := 20) hx hb dX4_at_5 (by decide) (fun c_1 => ?_) (fun c_1 => ?_)
  · refine lv_iconst (v := (-1)) hx hb dX4_at_20 (by decide) ?_
    exact kret _ _ _ dX4_at_21 (by rw [xat_neg c_1])
  · obtain ⟨j, hj, ej⟩ := nI_of c_1
    rw [ej] at hl
    refine lv_iload_n hx hb dX4_at_8 rfl (lv_at hl 1 rfl) ?_
    refine lv_aload_n hx hb dX4_at_9 rfl (lv_at hl 0 rfl) ?_
    refine va_alen (D := D) (v := nI n) hx hb hE.1 hP 0 0 rfl rfl rfl dX4_at_10 ?_
    refine xb_icmp_ge (tgt := 20) (a := j) (b := n) (by omega) (by omega) hx hb dX4_at_11 (by decide) (fun c_2 => ?_) (fun c_2 => ?_)
    · refine lv_iconst (v := (-1)) hx hb dX4_at_20 (by decide) ?_
      exact kret _ _ _ dX4_at_21 (by rw [ej, xat_out c_2 hj])
    · refine lv_aload_n hx hb dX4_at_14 rfl (lv_at hl 0 rfl) ?_
      refine lv_iload_n hx hb dX4_at_15 rfl (lv_at hl 1 rfl) ?_
      refine va_iald (D := D) hx hb hE.1 hP 0 0 rfl rfl (vp_in_nI (by omega) (by omega)) dX4_at_16 ?_
      rw [nI_clamp (by omega)]
      refine lv_goto (tgt := 21) hx hb dX4_at_17 (by decide) ?_
      exact kret _ _ _ dX4_at_21 (by rw [ej, xat_in (by omega) hn])
set_option maxHeartbeats 4000000 in
set_option maxRecDepth 100000 in
theorem c_put (l : Launch) (D : va_G) (cy : Nat → ClassId) (t0 : Nat) (q n : Nat) (f : Nat → Int32) (i x : Int32) (hn : n < 2 ^ 31) : xWv (S := Nat → Int32) l yX4_put wsX4_put ({ frames := 0, cells := 0, slots := 0, locals := 0 } : Room) D cy t0 ([.ref q, .int i, .int x]) ([(q, xI cy n f)]) (fun u => u = xput f n i x) (fun u => [(q, xI cy n u)]) 0 0 := by
  refine xofWv (cc := cX4_put) (maxL := 3) (by decide) rfl (Nat.le_of_ble_eq_true rfl) ?_
  intro p e s m below meth c Q A ls hx hb hml hts hown hin hE hA H locs hP hD hl hS kret
  have hl : lv_has ls 3 [(0, .ref q), (1, .int i), (2, .int x)] := hl
  refine lv_aload_n hx hb dX4_put_0 rfl (lv_at hl 0 rfl) ?_
  refine lv_ifnull hx hb dX4_put_1 ?_
  refine lv_iload_n hx hb dX4_put_4 rfl (lv_at hl 1 rfl) ?_
  refine lv_if_lt (tgt := 18) hx hb dX4_put_5 (by decide) (fun c_1 => ?_) (fun c_1 => ?_)
  · exact kret f _ _ _ _ _ _ dX4_put_18 (by rw [xput_neg c_1]) hP hD hS (Nat.le_of_ble_eq_true rfl) (Nat.le_of_ble_eq_true rfl)
  · obtain ⟨j, hj, ej⟩ := nI_of c_1
    rw [ej] at hl
    refine lv_iload_n hx hb dX4_put_8 rfl (lv_at hl 1 rfl) ?_
    refine lv_aload_n hx hb dX4_put_9 rfl (lv_at hl 0 rfl) ?_
    refine va_alen (D := D) (v := nI n) hx hb hE.1 hP 0 0 rfl rfl rfl dX4_put_10 ?_
    refine xb_icmp_ge (tgt := 18) (a := j) (b := n) (by omega) (by omega) hx hb dX4_put_11 (by decide) (fun c_2 => ?_) (fun c_2 => ?_)
    · exact kret f _ _ _ _ _ _ dX4_put_18 (by rw [ej, xput_out c_2 hj]) hP hD hS (Nat.le_of_ble_eq_true rfl) (Nat.le_of_ble_eq_true rfl)
    · refine lv_aload_n hx hb dX4_put_14 rfl (lv_at hl 0 rfl) ?_
      refine lv_iload_n hx hb dX4_put_15 rfl (lv_at hl 1 rfl) ?_
      refine lv_iload_n hx hb dX4_put_16 rfl (lv_at hl 2 rfl) ?_
      refine va_iast (D := D) hx hb hE.1 hP hD hS 0 0 rfl rfl (vp_in_nI (by omega) (by omega)) dX4_put_17 (fun H locs hP hD hS => ?_)
      rw [nI_clamp (by omega)] at hP hD
      have hP : xP D [(q, xI cy n (upd f j x))] H := hP
      have hD : va_D A [(q, xI cy n (upd f j x))] := hD
      exact kret (upd f j x) _ _ _ _ _ _ dX4_put_18 (by rw [ej, xput_in (by omega) hn]) hP hD hS (Nat.le_of_ble_eq_true rfl) (Nat.le_of_ble_eq_true rfl)
set_option maxHeartbeats 4000000 in
set_option maxRecDepth 100000 in
theorem c_isItem (l : Launch) (D : va_G) (cy : Nat → ClassId) (t0 : Nat) (x : Int32) : xRi l yX4_isItem wsX4_isItem ({ frames := 0, cells := 0, slots := 0, locals := 0 } : Room) D cy t0 ([.int x]) ([]) (fun r => r = xb (isIt x)) := by
  refine xofRi (cc := cX4_isItem) (maxL := 1) (by decide) rfl (Nat.le_of_ble_eq_true rfl) (fun r h => by rw [h]; exact xb_nar _) ?_
  intro p e s m below meth c Q ls hx hb hml hts hown hE hP hl hS kret
  have hl : lv_has ls 1 [(0, .int x)] := hl
  refine lv_iload_n hx hb dX4_isItem_0 rfl (lv_at hl 0 rfl) ?_
  refine lv_if_lt (tgt := 14) hx hb dX4_isItem_1 (by decide) (fun c_1 => ?_) (fun c_1 => ?_)
  · refine lv_iconst (v := nI 0) hx hb dX4_isItem_14 (by decide) ?_
    exact kret _ _ _ dX4_isItem_15 (by rw [isIt_neg c_1]; rfl)
  · obtain ⟨j, hj, ej⟩ := nI_of c_1
    rw [ej] at hl
    refine lv_iload_n hx hb dX4_isItem_4 rfl (lv_at hl 0 rfl) ?_
    refine lv_ldc (v := nI 100000) hx hb hown (hts (.constant RX4 154 (100000)) (by decide +kernel)) dX4_isItem_5 ?_
    refine xb_icmp_ge (tgt := 14) (a := j) (b := 100000) (by omega) (by omega) hx hb dX4_isItem_7 (by decide) (fun c_2 => ?_) (fun c_2 => ?_)
    · refine lv_iconst (v := nI 0) hx hb dX4_isItem_14 (by decide) ?_
      exact kret _ _ _ dX4_isItem_15 (by rw [ej, isIt_ge c_2 hj]; rfl)
    · refine lv_iconst (v := nI 1) hx hb dX4_isItem_10 (by decide) ?_
      refine lv_goto (tgt := 15) hx hb dX4_isItem_11 (by decide) ?_
      exact kret _ _ _ dX4_isItem_15 (by rw [ej, isIt_lt c_2]; rfl)
set_option maxHeartbeats 4000000 in
set_option maxRecDepth 100000 in
theorem c_hashFor (l : Launch) (D : va_G) (cy : Nat → ClassId) (t0 : Nat) (i : Nat) (hi : i < 100000) : xRi l yX4_hashFor wsX4_hashFor ({ frames := 0, cells := 0, slots := 0, locals := 0 } : Room) D cy t0 ([.int (nI i)]) ([]) (fun r => r = nI (hsh i)) := by
  refine xofRi (cc := cX4_hashFor) (maxL := 3) (by decide) rfl (Nat.le_of_ble_eq_true rfl) (fun _ _ => rfl) ?_
  intro p e s m below meth c Q ls hx hb hml hts hown hE hP hl hS kret
  have hl : lv_has ls 3 [(0, .int (nI i))] := hl
  refine lv_iload_n hx hb dX4_hashFor_0 rfl (lv_at hl 0 rfl) ?_
  refine lv_i2l (v := lN i) hx hb dX4_hashFor_1 (nI_l (by omega)) ?_
  refine lv_lstore_n (lv' := [(1, .long (lN i)), (0, .int (nI i))]) hx hb dX4_hashFor_2 rfl hl (by decide) rfl (fun ls hl => ?_)
  refine lv_ldc2 (v := lN 69) hx hb hown (hts (.constantLong RX4 190 (69)) (by decide +kernel)) dX4_hashFor_3 ?_
  refine lv_lload_n hx hb dX4_hashFor_6 rfl (lv_at hl 0 rfl) ?_
  refine lv_lmul hx hb dX4_hashFor_7 ?_
  refine lv_eql (z := lN (69 * i)) (lN_mul _ _) ?_
  refine lv_lload_n hx hb dX4_hashFor_8 rfl (lv_at hl 0 rfl) ?_
  refine lv_lmul hx hb dX4_hashFor_9 ?_
  refine lv_eql (z := lN ((69 * i) * i)) (lN_mul _ _) ?_
  refine lv_ldc2 (v := lN 48271) hx hb hown (hts (.constantLong RX4 192 (48271)) (by decide +kernel)) dX4_hashFor_10 ?_
  refine lv_lload_n hx hb dX4_hashFor_13 rfl (lv_at hl 0 rfl) ?_
  refine lv_lmul hx hb dX4_hashFor_14 ?_
  refine lv_eql (z := lN (48271 * i)) (lN_mul _ _) ?_
  refine lv_ladd hx hb dX4_hashFor_15 ?_
  refine lv_eql (z := lN (((69 * i) * i) + (48271 * i))) (lN_add _ _) ?_
  refine lv_ldc2 (v := lN 101) hx hb hown (hts (.constantLong RX4 194 (101)) (by decide +kernel)) dX4_hashFor_16 ?_
  refine lv_ladd hx hb dX4_hashFor_19 ?_
  refine lv_eql (z := lN ((((69 * i) * i) + (48271 * i)) + 101)) (lN_add _ _) ?_
  refine lv_ldc2 (v := lN 16777213) hx hb hown (hts (.constantLong RX4 196 (16777213)) (by decide +kernel)) dX4_hashFor_20 ?_
  refine lv_lrem hx hb dX4_hashFor_23 (by decide) ?_
  refine lv_eql (z := lN (hsh i)) (pk_lRem (by have := hsh_sq hi; omega) (by omega) (by omega)) ?_
  refine lv_l2i (v := nI (hsh i)) hx hb dX4_hashFor_24 (lN_i _) ?_
  exact kret _ _ _ dX4_hashFor_25 rfl
set_option maxHeartbeats 4000000 in
set_option maxRecDepth 100000 in
theorem c_lowZeros (l : Launch) (D : va_G) (cy : Nat → ClassId) (t0 : Nat) (v k : Nat) (hv : v < 2 ^ 31) (hk : k ≤ 31) : xRi l yX4_lowZeros wsX4_lowZeros ({ frames := 0, cells := 0, slots := 0, locals := 0 } : Room) D cy t0 ([.int (nI v), .int (nI k)]) ([]) (fun r => r = nI (lz v k 0)) := by
  refine xofRi (cc := cX4_lowZeros) (maxL := 3) (by decide) rfl (Nat.le_of_ble_eq_true rfl) (fun _ _ => rfl) ?_
  intro p e s m below meth c Q ls hx hb hml hts hown hE hP hl hS kret
  have hl : lv_has ls 3 [(0, .int (nI v)), (1, .int (nI k))] := hl
  refine lv_iconst (v := nI 0) hx hb dX4_lowZeros_0 (by decide) ?_
  refine lv_istore_n (lv' := [(2, .int (nI 0)), (0, .int (nI v)), (1, .int (nI k))]) hx hb dX4_lowZeros_1 rfl hl (by decide) rfl (fun ls hl => ?_)
  have lp : ∀ (n9 : Nat), ∀ (z : Nat), (hz : z ≤ k) → (hr : lz v k 0 = lz v (k - z) z) → k - z < n9 → ∀ (ls : Array Slot), lv_has ls 3 [(2, .int (nI z)), (0, .int (nI v)), (1, .int (nI k))] → W p l e ({ frames := 0, cells := 0, slots := 0, locals := 0 } : Room) s m [.int (nI v), .int (nI k)].toArray below meth c s.heap [] 0 0 Q (F0 m 2 ls []) := by
    intro n9
    induction n9 with
    | zero => intro z hz hr hm; exact absurd hm (Nat.not_lt_zero _)
    | succ n9 ih_lp =>
      intro z hz hr hm ls hl
      refine lv_iload_n hx hb dX4_lowZeros_2 rfl (lv_at hl 0 rfl) ?_
      refine lv_iload_n hx hb dX4_lowZeros_3 rfl (lv_at hl 2 rfl) ?_
      refine xb_icmp_ge (tgt := 24) (a := z) (b := k) (by omega) (by omega) hx hb dX4_lowZeros_4 (by decide) (fun c_1 => ?_) (fun c_1 => ?_)
      · refine lv_iload_n hx hb dX4_lowZeros_24 rfl (lv_at hl 2 rfl) ?_
        exact kret _ _ _ dX4_lowZeros_25 (by rw [hr]; exact (congrArg nI (lz_end (by omega))).symm)
      · refine lv_iload_n hx hb dX4_lowZeros_7 rfl (lv_at hl 1 rfl) ?_
        refine lv_iload_n hx hb dX4_lowZeros_8 rfl (lv_at hl 0 rfl) ?_
        refine lv_ishr hx hb dX4_lowZeros_9 ?_
        refine lv_eqi (z := nI (v / 2 ^ z)) (shrz hv (by omega)) ?_
        refine lv_iconst (v := nI 1) hx hb dX4_lowZeros_10 (by decide) ?_
        refine lv_iand hx hb dX4_lowZeros_11 ?_
        refine lv_eqi (z := nI (v / 2 ^ z % 2)) (and1 (Nat.lt_of_le_of_lt (Nat.div_le_self _ _) (by omega))) ?_
        refine lv_iconst (v := nI 1) hx hb dX4_lowZeros_12 (by decide) ?_
        refine xb_icmp_ne (tgt := 18) (a := v / 2 ^ z % 2) (b := 1) (by omega) (by omega) hx hb dX4_lowZeros_13 (by decide) (fun c_2 => ?_) (fun c_2 => ?_)
        · refine lv_iinc (v := nI (z + 1)) (lv' := [(2, .int (nI (z + 1))), (0, .int (nI v)), (1, .int (nI k))]) hx hb dX4_lowZeros_18 hl (k := 0) rfl (nI_add _ 1) (by decide) rfl (fun ls hl => ?_)
          refine lv_goto (tgt := 2) hx hb dX4_lowZeros_21 (by decide) ?_
          exact ih_lp (z + 1) (by omega) (by rw [hr]; exact lz_step (by omega) (by omega)) (by omega) _ (lv_sub hl [0, 1, 2] rfl)
        · refine lv_iload_n hx hb dX4_lowZeros_16 rfl (lv_at hl 0 rfl) ?_
          exact kret _ _ _ dX4_lowZeros_17 (by rw [hr]; exact (congrArg nI (lz_hit (by omega) c_2)).symm)
  exact lp (k + 1) 0 (Nat.zero_le _) rfl (by omega) _ (lv_sub hl [0, 1, 2] rfl)
end XLEAF
end
section
section XBKR
set_option maxHeartbeats 4000000 in
set_option maxRecDepth 100000 in
theorem c_countShared (l : Launch) (D : va_G) (cy : Nat → ClassId) (t0 : Nat) (P R : Nat → Bool) (h0 qi qd qo n no cap capo : Nat) (fi gi : Nat → Int32) (hA : RW P 100000 n fi) (hB : RW R 100000 no gi) (hn : n ≤ cap) (hno : no ≤ capo) (hcap : cap ≤ 100000) (hcapo : capo ≤ 100000) : xRi l yX0_countShared wsX0_countShared ({ frames := 1, cells := 0, slots := 0, locals := 21 } : Room) D cy t0 ([.ref h0, .ref qo, .int (nI no)]) ([(h0, .inr (0, [.ref qi, .ref qd, .int (nI n)])), (qi, xI cy cap fi), (qo, xI cy capo gi)]) (fun r => r = nI (cb (fun x => P x && R x) 100000)) := by
  refine xofRi (cc := cX0_countShared) (maxL := 7) (by decide) rfl (Nat.le_of_ble_eq_true rfl) (fun _ _ => rfl) ?_
  intro p e s m below meth c Q ls hx hb hml hts hown hE hP hl hS kret
  have hl : lv_has ls 7 [(0, .ref h0), (1, .ref qo), (2, .int (nI no))] := hl
  have hsub : ∀ x, (fun x => P x && R x) x = true → P x = true := fun x h => by simp at h; exact h.1
  have hA1 := hA.1
  have hB1 := hB.1
  refine lv_iconst (v := nI 0) hx hb dX0_countShared_0 (by decide) ?_
  refine lv_istore_n (lv' := [(3, .int (nI 0)), (0, .ref h0), (1, .ref qo), (2, .int (nI no))]) hx hb dX0_countShared_1 rfl hl (by decide) rfl (fun ls hl => ?_)
  refine lv_iconst (v := nI 0) hx hb dX0_countShared_2 (by decide) ?_
  refine lv_istore (lv' := [(4, .int (nI 0)), (3, .int (nI 0)), (0, .ref h0), (1, .ref qo), (2, .int (nI no))]) hx hb dX0_countShared_3 hl (by decide) rfl (fun ls hl => ?_)
  refine lv_iconst (v := nI 0) hx hb dX0_countShared_5 (by decide) ?_
  refine lv_istore (lv' := [(5, .int (nI 0)), (4, .int (nI 0)), (3, .int (nI 0)), (0, .ref h0), (1, .ref qo), (2, .int (nI no))]) hx hb dX0_countShared_6 hl (by decide) rfl (fun ls hl => ?_)
  have lo1 : ∀ (n9 : Nat), ∀ (lo : Nat) (o : Nat), (hlo : lo ≤ 100000) → (ho : o ≤ cb R lo) → cb P 100000 - cb P lo < n9 → ∀ (ls : Array Slot), lv_has ls 7 [(0, .ref h0), (1, .ref qo), (2, .int (nI no)), (3, .int (nI (cb (fun x => P x && R x) lo))), (4, .int (nI o)), (5, .int (nI (cb P lo)))] → W p l e ({ frames := 1, cells := 0, slots := 0, locals := 21 } : Room) s m [.ref h0, .ref qo, .int (nI no)].toArray below meth c s.heap [] 0 0 Q (F0 m 8 ls []) := by
    intro n9
    induction n9 with
    | zero => intro lo o hlo ho hm; exact absurd hm (Nat.not_lt_zero _)
    | succ n9 ih_lo1 =>
      intro lo o hlo ho hm ls hl
      have hl1 : cb P lo ≤ cb P 100000 := cb_mono hlo
      have hl2 : cb R lo ≤ cb R 100000 := cb_mono hlo
      have hl3 : cb (fun x => P x && R x) lo ≤ lo := cb_le
      refine lv_iload hx hb dX0_countShared_8 (lv_at hl 5 rfl) ?_
      refine lv_aload_n hx hb dX0_countShared_10 rfl (lv_at hl 0 rfl) ?_
      refine va_get (D := D) (ci := 0) (v := .int (nI n)) (C := RX0) (T := TX0) (N := 3) hx hb hts (by decide +kernel) hown hE.1 hP 0 rfl rfl 2 (by decide) (hts (.fieldLink RX0 18 "DistinctDale$Basket" "size" "I") (by decide +kernel)) (fun _ h9 => h9) rfl dX0_countShared_11 ?_
      refine xb_icmp_ge (tgt := 77) (a := cb P lo) (b := n) (by omega) (by omega) hx hb dX0_countShared_14 (by decide) (fun c_1 => ?_) (fun c_1 => ?_)
      · refine lv_iload_n hx hb dX0_countShared_77 rfl (lv_at hl 3 rfl) ?_
        exact kret _ _ _ dX0_countShared_78 (congrArg nI (cb_stop hlo (by omega) hsub).symm)
      · refine lv_aload_n hx hb dX0_countShared_17 rfl (lv_at hl 0 rfl) ?_
        refine va_get (D := D) (ci := 0) (v := .ref qi) (C := RX0) (T := TX0) (N := 3) hx hb hts (by decide +kernel) hown hE.1 hP 0 rfl rfl 0 (by decide) (hts (.fieldLink RX0 11 "DistinctDale$Basket" "items" "[I") (by decide +kernel)) (fun _ h9 => h9) rfl dX0_countShared_18 ?_
        refine lv_iload hx hb dX0_countShared_21 (lv_at hl 5 rfl) ?_
        refine xcRi (va_runSN (As := [.ref qi, .int (nI (cb P lo))]) (rest := []) ⟨hx, hb, hml, hown, hts⟩ (c_at l D cy t0 qi cap fi (nI (cb P lo)) (by omega)) ⟨va_cnB 2 hts ggX0_countShared_X4_at rfl rfl rfl (xN3 hE.2.1.1) (hts (.initialized RX4) (by decide +kernel)) (by decide +kernel) ⟨Nat.le_of_ble_eq_true rfl, Nat.le_of_ble_eq_true rfl⟩, (hts (.static yX4_at) (by decide +kernel)), trivial⟩ (xPr.give (wc := [(qi, xI cy cap fi)]) hE hS hP [1] rfl) rfl rfl hl.1 rfl (lv_room (Nat.le_of_ble_eq_true rfl)) dX0_countShared_23 ⟨(Nat.zero_le _), (Nat.zero_le _)⟩) (fun r_2 hr_3 => ?_)
        obtain ⟨x, hx1, hx2, hx3, hx4, hx5, hx6⟩ := hA.next hlo (by omega)
        obtain rfl : r_2 = nI x := by rw [hr_3, xat_in (by omega) (by omega), hx6]
        have hRx2 : cb R x ≤ cb R 100000 := cb_mono (by omega)
        refine lv_istore (lv' := [(6, .int (nI x)), (0, .ref h0), (1, .ref qo), (2, .int (nI no)), (3, .int (nI (cb (fun x => P x && R x) lo))), (4, .int (nI o)), (5, .int (nI (cb P lo)))]) hx hb dX0_countShared_26 hl (by decide) rfl (fun ls hl => ?_)
        have j51 : ∀ (ls : Array Slot), lv_has ls 7 [(0, .ref h0), (1, .ref qo), (2, .int (nI no)), (3, .int (nI (cb (fun x => P x && R x) lo))), (4, .int (nI (cb R x))), (5, .int (nI (cb P lo))), (6, .int (nI x))] → W p l e ({ frames := 1, cells := 0, slots := 0, locals := 21 } : Room) s m [.ref h0, .ref qo, .int (nI no)].toArray below meth c s.heap [] 0 0 Q (F0 m 51 ls []) := by
          intro ls hl
          refine lv_iload hx hb dX0_countShared_51 (lv_at hl 4 rfl) ?_
          refine lv_iload_n hx hb dX0_countShared_53 rfl (lv_at hl 2 rfl) ?_
          refine xb_icmp_ge (tgt := 71) (a := cb R x) (b := no) (by omega) (by omega) hx hb dX0_countShared_54 (by decide) (fun c_4 => ?_) (fun c_4 => ?_)
          · have hRx : R x = false := by
              cases hq : R x with
              | false => rfl
              | true => have := cb_lt (P := R) hx2 hq; omega
            refine lv_iinc (v := nI (cb P lo + 1)) (lv' := [(5, .int (nI (cb P lo + 1))), (0, .ref h0), (1, .ref qo), (2, .int (nI no)), (3, .int (nI (cb (fun x => P x && R x) lo))), (4, .int (nI (cb R x))), (6, .int (nI x))]) hx hb dX0_countShared_71 hl (k := 5) rfl (nI_add _ 1) (by decide) rfl (fun ls hl => ?_)
            refine lv_goto (tgt := 8) hx hb dX0_countShared_74 (by decide) ?_
            have e1 : cb P lo + 1 = cb P (x + 1) := by rw [cb_t hx3]; omega
            have hms : cb P 100000 - cb P (x + 1) < n9 := by omega
            have e2 : cb (fun x => P x && R x) lo = cb (fun x => P x && R x) (x + 1) := by rw [cb_f (by simp [hRx])]; rw [cb_to hx1 hx5 hsub]
            rw [e1, e2] at hl
            exact ih_lo1 (x + 1) (cb R x) (by omega) (cb_mono (by omega)) hms _ (lv_sub hl [1, 2, 3, 4, 5, 0] rfl)
          · refine lv_aload_n hx hb dX0_countShared_57 rfl (lv_at hl 1 rfl) ?_
            refine lv_iload hx hb dX0_countShared_58 (lv_at hl 4 rfl) ?_
            refine xcRi (va_runSN (As := [.ref qo, .int (nI (cb R x))]) (rest := []) ⟨hx, hb, hml, hown, hts⟩ (c_at l D cy t0 qo capo gi (nI (cb R x)) (by omega)) ⟨va_cnB 2 hts ggX0_countShared_X4_at rfl rfl rfl (xN3 hE.2.1.1) (hts (.initialized RX4) (by decide +kernel)) (by decide +kernel) ⟨Nat.le_of_ble_eq_true rfl, Nat.le_of_ble_eq_true rfl⟩, (hts (.static yX4_at) (by decide +kernel)), trivial⟩ (xPr.give (wc := [(qo, xI cy capo gi)]) hE hS hP [2] rfl) rfl rfl hl.1 rfl (lv_room (Nat.le_of_ble_eq_true rfl)) dX0_countShared_60 ⟨(Nat.zero_le _), (Nat.zero_le _)⟩) (fun r_5 hr_6 => ?_)
            obtain ⟨y, hy1, hy2, hy3, hy4⟩ := hB.at (j := cb R x) (by omega)
            obtain rfl : r_5 = nI y := by rw [hr_6, xat_in (by omega) (by omega), hy4]
            refine lv_iload hx hb dX0_countShared_63 (lv_at hl 6 rfl) ?_
            refine xb_icmp_ne (tgt := 71) (a := y) (b := x) (by omega) (by omega) hx hb dX0_countShared_65 (by decide) (fun c_7 => ?_) (fun c_7 => ?_)
            · have hRx : R x = false := by
                cases hq : R x with
                | false => rfl
                | true => exact absurd (cb_inj hy2 hq hy3) c_7
              refine lv_iinc (v := nI (cb P lo + 1)) (lv' := [(5, .int (nI (cb P lo + 1))), (0, .ref h0), (1, .ref qo), (2, .int (nI no)), (3, .int (nI (cb (fun x => P x && R x) lo))), (4, .int (nI (cb R x))), (6, .int (nI x))]) hx hb dX0_countShared_71 hl (k := 5) rfl (nI_add _ 1) (by decide) rfl (fun ls hl => ?_)
              refine lv_goto (tgt := 8) hx hb dX0_countShared_74 (by decide) ?_
              have e1 : cb P lo + 1 = cb P (x + 1) := by rw [cb_t hx3]; omega
              have hms : cb P 100000 - cb P (x + 1) < n9 := by omega
              have e2 : cb (fun x => P x && R x) lo = cb (fun x => P x && R x) (x + 1) := by rw [cb_f (by simp [hRx])]; rw [cb_to hx1 hx5 hsub]
              rw [e1, e2] at hl
              exact ih_lo1 (x + 1) (cb R x) (by omega) (cb_mono (by omega)) hms _ (lv_sub hl [1, 2, 3, 4, 5, 0] rfl)
            · have hRx : R x = true := by rw [← c_7]; exact hy2
              refine lv_iinc (v := nI (cb (fun x => P x && R x) lo + 1)) (lv' := [(3, .int (nI (cb (fun x => P x && R x) lo + 1))), (0, .ref h0), (1, .ref qo), (2, .int (nI no)), (4, .int (nI (cb R x))), (5, .int (nI (cb P lo))), (6, .int (nI x))]) hx hb dX0_countShared_68 hl (k := 3) rfl (nI_add _ 1) (by decide) rfl (fun ls hl => ?_)
              refine lv_iinc (v := nI (cb P lo + 1)) (lv' := [(5, .int (nI (cb P lo + 1))), (3, .int (nI (cb (fun x => P x && R x) lo + 1))), (0, .ref h0), (1, .ref qo), (2, .int (nI no)), (4, .int (nI (cb R x))), (6, .int (nI x))]) hx hb dX0_countShared_71 hl (k := 5) rfl (nI_add _ 1) (by decide) rfl (fun ls hl => ?_)
              refine lv_goto (tgt := 8) hx hb dX0_countShared_74 (by decide) ?_
              have e1 : cb P lo + 1 = cb P (x + 1) := by rw [cb_t hx3]; omega
              have hms : cb P 100000 - cb P (x + 1) < n9 := by omega
              have e2 : cb (fun x => P x && R x) lo + 1 = cb (fun x => P x && R x) (x + 1) := by rw [cb_t (by simp [hx3, hRx])]; rw [cb_to hx1 hx5 hsub]
              rw [e1, e2] at hl
              exact ih_lo1 (x + 1) (cb R x) (by omega) (cb_mono (by omega)) hms _ (lv_sub hl [2, 3, 4, 1, 5, 0] rfl)
        have lo2 : ∀ (n9 : Nat), ∀ (o2 : Nat), (ho2 : o2 ≤ cb R x) → cb R x - o2 < n9 → ∀ (ls : Array Slot), lv_has ls 7 [(0, .ref h0), (1, .ref qo), (2, .int (nI no)), (3, .int (nI (cb (fun x => P x && R x) lo))), (4, .int (nI o2)), (5, .int (nI (cb P lo))), (6, .int (nI x))] → W p l e ({ frames := 1, cells := 0, slots := 0, locals := 21 } : Room) s m [.ref h0, .ref qo, .int (nI no)].toArray below meth c s.heap [] 0 0 Q (F0 m 28 ls []) := by
          intro n9
          induction n9 with
          | zero => intro o2 ho2 hm; exact absurd hm (Nat.not_lt_zero _)
          | succ n9 ih_lo2 =>
            intro o2 ho2 hm ls hl
            refine lv_iload hx hb dX0_countShared_28 (lv_at hl 4 rfl) ?_
            refine lv_iload_n hx hb dX0_countShared_30 rfl (lv_at hl 2 rfl) ?_
            refine xb_icmp_ge (tgt := 51) (a := o2) (b := no) (by omega) (by omega) hx hb dX0_countShared_31 (by decide) (fun c_8 => ?_) (fun c_8 => ?_)
            · have eo : o2 = cb R x := by omega
              rw [eo] at hl
              exact j51    _ (lv_sub hl [0, 1, 2, 3, 4, 5, 6] rfl)
            · refine lv_aload_n hx hb dX0_countShared_34 rfl (lv_at hl 1 rfl) ?_
              refine lv_iload hx hb dX0_countShared_35 (lv_at hl 4 rfl) ?_
              refine xcRi (va_runSN (As := [.ref qo, .int (nI o2)]) (rest := []) ⟨hx, hb, hml, hown, hts⟩ (c_at l D cy t0 qo capo gi (nI o2) (by omega)) ⟨va_cnB 2 hts ggX0_countShared_X4_at rfl rfl rfl (xN3 hE.2.1.1) (hts (.initialized RX4) (by decide +kernel)) (by decide +kernel) ⟨Nat.le_of_ble_eq_true rfl, Nat.le_of_ble_eq_true rfl⟩, (hts (.static yX4_at) (by decide +kernel)), trivial⟩ (xPr.give (wc := [(qo, xI cy capo gi)]) hE hS hP [2] rfl) rfl rfl hl.1 rfl (lv_room (Nat.le_of_ble_eq_true rfl)) dX0_countShared_37 ⟨(Nat.zero_le _), (Nat.zero_le _)⟩) (fun r_9 hr_10 => ?_)
              obtain ⟨y, hy1, hy2, hy3, hy4⟩ := hB.at (j := o2) (by omega)
              obtain rfl : r_9 = nI y := by rw [hr_10, xat_in (by omega) (by omega), hy4]
              refine lv_iload hx hb dX0_countShared_40 (lv_at hl 6 rfl) ?_
              refine xb_icmp_ge (tgt := 51) (a := y) (b := x) (by omega) (by omega) hx hb dX0_countShared_42 (by decide) (fun c_11 => ?_) (fun c_11 => ?_)
              · have eo : o2 = cb R x := by
                  have := cb_mono (P := R) c_11
                  omega
                rw [eo] at hl
                exact j51    _ (lv_sub hl [0, 1, 2, 3, 4, 5, 6] rfl)
              · refine lv_iinc (v := nI (o2 + 1)) (lv' := [(4, .int (nI (o2 + 1))), (0, .ref h0), (1, .ref qo), (2, .int (nI no)), (3, .int (nI (cb (fun x => P x && R x) lo))), (5, .int (nI (cb P lo))), (6, .int (nI x))]) hx hb dX0_countShared_45 hl (k := 4) rfl (nI_add _ 1) (by decide) rfl (fun ls hl => ?_)
                refine lv_goto (tgt := 28) hx hb dX0_countShared_48 (by decide) ?_
                have hnx : o2 + 1 ≤ cb R x := by
                  have := cb_lt c_11 hy2
                  omega
                exact ih_lo2 (o2 + 1) hnx (by omega) _ (lv_sub hl [1, 2, 3, 4, 0, 5, 6] rfl)
        exact lo2 (cb R x + 1) o (Nat.le_trans ho (cb_mono hx1)) (by omega) _ (lv_sub hl [1, 2, 3, 4, 5, 6, 0] rfl)
  exact lo1 (cb P 100000 + 1) 0 0 (Nat.zero_le _) (Nat.zero_le _) (by omega) _ (lv_sub hl [3, 4, 5, 2, 1, 0] rfl)
end XBKR
end
section
section XBKW
set_option maxHeartbeats 4000000 in
set_option maxRecDepth 100000 in
theorem c_dateFor (l : Launch) (D : va_G) (cy : Nat → ClassId) (t0 : Nat) (M : Nat → Int32) (h0 qi qd n cap x : Nat) (fi fd : Nat → Int32) (hA : BR M n cap fi fd) (hxN : x < 100000) : xRi l yX0_dateFor wsX0_dateFor ({ frames := 1, cells := 0, slots := 0, locals := 21 } : Room) D cy t0 ([.ref h0, .int (nI x)]) ([(h0, .inr (0, [.ref qi, .ref qd, .int (nI n)])), (qi, xI cy cap fi), (qd, xI cy cap fd)]) (fun r => r = M x) := by
  refine xofRi (cc := cX0_dateFor) (maxL := 4) (by decide) rfl (Nat.le_of_ble_eq_true rfl) (fun _ _ => rfl) ?_
  intro p e s m below meth c Q ls hx hb hml hts hown hE hP hl hS kret
  have hl : lv_has ls 4 [(0, .ref h0), (1, .int (nI x))] := hl
  refine lv_iconst (v := nI 0) hx hb dX0_dateFor_0 (by decide) ?_
  refine lv_istore_n (lv' := [(2, .int (nI 0)), (0, .ref h0), (1, .int (nI x))]) hx hb dX0_dateFor_1 rfl hl (by decide) rfl (fun ls hl => ?_)
  refine lv_ldc (v := nI 65536) hx hb hown (hts (.constant RX0 43 (65536)) (by decide +kernel)) dX0_dateFor_2 ?_
  refine lv_istore_n (lv' := [(3, .int (nI 65536)), (2, .int (nI 0)), (0, .ref h0), (1, .int (nI x))]) hx hb dX0_dateFor_4 rfl hl (by decide) rfl (fun ls hl => ?_)
  have lp : ∀ (n9 : Nat), ∀ (b : Nat) (s2 : Nat), (hs2 : s2 ≤ 65536) → (hs : (s2 = 0 ∧ cb (Sm M) x = b) ∨ ∃ e9, e9 ≤ 16 ∧ s2 = 2 ^ e9 ∧ b ≤ cb (Sm M) x ∧ cb (Sm M) x < b + 2 * 2 ^ e9) → s2 < n9 → ∀ (ls : Array Slot), lv_has ls 4 [(0, .ref h0), (1, .int (nI x)), (2, .int (nI b)), (3, .int (nI s2))] → W p l e ({ frames := 1, cells := 0, slots := 0, locals := 21 } : Room) s m [.ref h0, .int (nI x)].toArray below meth c s.heap [] 0 0 Q (F0 m 5 ls []) := by
    intro n9
    induction n9 with
    | zero => intro b s2 hs2 hs hm; exact absurd hm (Nat.not_lt_zero _)
    | succ n9 ih_lp =>
      intro b s2 hs2 hs hm ls hl
      have hbx : b ≤ cb (Sm M) x := by
        rcases hs with q | ⟨e9, q⟩ <;> omega
      have hxn : cb (Sm M) x ≤ cb (Sm M) 100000 := cb_mono (by omega)
      have hA1 := hA.1.1
      have hA3 := hA.2.2.1
      have hA4 := hA.2.2.2
      refine lv_iload_n hx hb dX0_dateFor_5 rfl (lv_at hl 3 rfl) ?_
      refine xb_if_le (tgt := 46) (a := s2) (by omega) hx hb dX0_dateFor_6 (by decide) (fun c_1 => ?_) (fun c_1 => ?_)
      · have hbq : cb (Sm M) x = b := by
          rcases hs with q | ⟨e9, _, q, _⟩
          · exact q.2
          · have := Nat.two_pow_pos e9; omega
        refine lv_iload_n hx hb dX0_dateFor_46 rfl (lv_at hl 2 rfl) ?_
        refine lv_aload_n hx hb dX0_dateFor_47 rfl (lv_at hl 0 rfl) ?_
        refine va_get (D := D) (ci := 0) (v := .int (nI n)) (C := RX0) (T := TX0) (N := 3) hx hb hts (by decide +kernel) hown hE.1 hP 0 rfl rfl 2 (by decide) (hts (.fieldLink RX0 18 "DistinctDale$Basket" "size" "I") (by decide +kernel)) (fun _ h9 => h9) rfl dX0_dateFor_48 ?_
        refine xb_icmp_ge (tgt := 77) (a := b) (b := n) (by omega) (by omega) hx hb dX0_dateFor_51 (by decide) (fun c_2 => ?_) (fun c_2 => ?_)
        · refine lv_iconst (v := (-1)) hx hb dX0_dateFor_77 (by decide) ?_
          have hno : M x = -1 := by
            apply Sm_f.mp
            cases hq : Sm M x with
            | false => rfl
            | true => have := cb_lt hxN hq; omega
          exact kret _ _ _ dX0_dateFor_78 hno.symm
        · refine lv_aload_n hx hb dX0_dateFor_54 rfl (lv_at hl 0 rfl) ?_
          refine va_get (D := D) (ci := 0) (v := .ref qi) (C := RX0) (T := TX0) (N := 3) hx hb hts (by decide +kernel) hown hE.1 hP 0 rfl rfl 0 (by decide) (hts (.fieldLink RX0 11 "DistinctDale$Basket" "items" "[I") (by decide +kernel)) (fun _ h9 => h9) rfl dX0_dateFor_55 ?_
          refine lv_iload_n hx hb dX0_dateFor_58 rfl (lv_at hl 2 rfl) ?_
          refine xcRi (va_runSN (As := [.ref qi, .int (nI b)]) (rest := []) ⟨hx, hb, hml, hown, hts⟩ (c_at l D cy t0 qi cap fi (nI b) (by omega)) ⟨va_cnB 2 hts ggX0_dateFor_X4_at rfl rfl rfl (xN3 hE.2.1.1) (hts (.initialized RX4) (by decide +kernel)) (by decide +kernel) ⟨Nat.le_of_ble_eq_true rfl, Nat.le_of_ble_eq_true rfl⟩, (hts (.static yX4_at) (by decide +kernel)), trivial⟩ (xPr.give (wc := [(qi, xI cy cap fi)]) hE hS hP [1] rfl) rfl rfl hl.1 rfl (lv_room (Nat.le_of_ble_eq_true rfl)) dX0_dateFor_59 ⟨(Nat.zero_le _), (Nat.zero_le _)⟩) (fun r_3 hr_4 => ?_)
          obtain ⟨y, hy1, hy2, hy3, hy4⟩ := hA.1.at (j := b) (by omega)
          obtain rfl : r_3 = nI y := by rw [hr_4, xat_in (by omega) (by omega), hy4]
          refine lv_iload_n hx hb dX0_dateFor_62 rfl (lv_at hl 1 rfl) ?_
          refine xb_icmp_ne (tgt := 77) (a := y) (b := x) (by omega) (by omega) hx hb dX0_dateFor_63 (by decide) (fun c_5 => ?_) (fun c_5 => ?_)
          · refine lv_iconst (v := (-1)) hx hb dX0_dateFor_77 (by decide) ?_
            have hno : M x = -1 := by
              apply Sm_f.mp
              cases hq : Sm M x with
              | false => rfl
              | true => exact absurd (cb_inj hy2 hq (by omega)) c_5
            exact kret _ _ _ dX0_dateFor_78 hno.symm
          · refine lv_aload_n hx hb dX0_dateFor_66 rfl (lv_at hl 0 rfl) ?_
            refine va_get (D := D) (ci := 0) (v := .ref qd) (C := RX0) (T := TX0) (N := 3) hx hb hts (by decide +kernel) hown hE.1 hP 0 rfl rfl 1 (by decide) (hts (.fieldLink RX0 15 "DistinctDale$Basket" "dates" "[I") (by decide +kernel)) (fun _ h9 => h9) rfl dX0_dateFor_67 ?_
            refine lv_iload_n hx hb dX0_dateFor_70 rfl (lv_at hl 2 rfl) ?_
            refine xcRi (va_runSN (As := [.ref qd, .int (nI b)]) (rest := []) ⟨hx, hb, hml, hown, hts⟩ (c_at l D cy t0 qd cap fd (nI b) (by omega)) ⟨va_cnB 2 hts ggX0_dateFor_X4_at rfl rfl rfl (xN3 hE.2.1.1) (hts (.initialized RX4) (by decide +kernel)) (by decide +kernel) ⟨Nat.le_of_ble_eq_true rfl, Nat.le_of_ble_eq_true rfl⟩, (hts (.static yX4_at) (by decide +kernel)), trivial⟩ (xPr.give (wc := [(qd, xI cy cap fd)]) hE hS hP [2] rfl) rfl rfl hl.1 rfl (lv_room (Nat.le_of_ble_eq_true rfl)) dX0_dateFor_71 ⟨(Nat.zero_le _), (Nat.zero_le _)⟩) (fun r_6 hr_7 => ?_)
            obtain rfl : r_6 = fd b := by rw [hr_7, xat_in (by omega) (by omega)]
            refine lv_goto (tgt := 78) hx hb dX0_dateFor_74 (by decide) ?_
            have hyes : fd b = M x := by
              rw [← hbq]
              exact hA.2.1 x hxN (by rw [← c_5]; exact hy2)
            exact kret _ _ _ dX0_dateFor_78 hyes
      · obtain ⟨e9, he, hse, hb1, hb2⟩ := hs.resolve_left (by omega)
        refine lv_iload_n hx hb dX0_dateFor_9 rfl (lv_at hl 2 rfl) ?_
        refine lv_iload_n hx hb dX0_dateFor_10 rfl (lv_at hl 3 rfl) ?_
        refine lv_iadd hx hb dX0_dateFor_11 ?_
        refine lv_eqi (z := nI (b + s2)) (nI_add _ _) ?_
        refine lv_aload_n hx hb dX0_dateFor_12 rfl (lv_at hl 0 rfl) ?_
        refine va_get (D := D) (ci := 0) (v := .int (nI n)) (C := RX0) (T := TX0) (N := 3) hx hb hts (by decide +kernel) hown hE.1 hP 0 rfl rfl 2 (by decide) (hts (.fieldLink RX0 18 "DistinctDale$Basket" "size" "I") (by decide +kernel)) (fun _ h9 => h9) rfl dX0_dateFor_13 ?_
        refine xb_icmp_gt (tgt := 39) (a := b + s2) (b := n) (by omega) (by omega) hx hb dX0_dateFor_16 (by decide) (fun c_8 => ?_) (fun c_8 => ?_)
        · refine lv_iload_n hx hb dX0_dateFor_39 rfl (lv_at hl 3 rfl) ?_
          refine lv_iconst (v := nI 2) hx hb dX0_dateFor_40 (by decide) ?_
          refine lv_idiv hx hb dX0_dateFor_41 (by decide) ?_
          refine lv_eqi (z := nI (s2 / 2)) (pk_div (by omega) (by omega) (by omega)) ?_
          refine lv_istore_n (lv' := [(3, .int (nI (s2 / 2))), (0, .ref h0), (1, .int (nI x)), (2, .int (nI b))]) hx hb dX0_dateFor_42 rfl hl (by decide) rfl (fun ls hl => ?_)
          refine lv_goto (tgt := 5) hx hb dX0_dateFor_43 (by decide) ?_
          have hq1 := hbx
          exact ih_lp b (s2 / 2) (by omega) (bs_step hse he hbx (by omega)) (by omega) _ (lv_sub hl [1, 2, 3, 0] rfl)
        · refine lv_aload_n hx hb dX0_dateFor_19 rfl (lv_at hl 0 rfl) ?_
          refine va_get (D := D) (ci := 0) (v := .ref qi) (C := RX0) (T := TX0) (N := 3) hx hb hts (by decide +kernel) hown hE.1 hP 0 rfl rfl 0 (by decide) (hts (.fieldLink RX0 11 "DistinctDale$Basket" "items" "[I") (by decide +kernel)) (fun _ h9 => h9) rfl dX0_dateFor_20 ?_
          refine lv_iload_n hx hb dX0_dateFor_23 rfl (lv_at hl 2 rfl) ?_
          refine lv_iload_n hx hb dX0_dateFor_24 rfl (lv_at hl 3 rfl) ?_
          refine lv_iadd hx hb dX0_dateFor_25 ?_
          refine lv_eqi (z := nI (b + s2)) (nI_add _ _) ?_
          refine lv_iconst (v := nI 1) hx hb dX0_dateFor_26 (by decide) ?_
          refine lv_isub hx hb dX0_dateFor_27 ?_
          refine lv_eqi (z := nI (b + s2 - 1)) (pk_sub (by omega)) ?_
          refine xcRi (va_runSN (As := [.ref qi, .int (nI (b + s2 - 1))]) (rest := []) ⟨hx, hb, hml, hown, hts⟩ (c_at l D cy t0 qi cap fi (nI (b + s2 - 1)) (by omega)) ⟨va_cnB 2 hts ggX0_dateFor_X4_at rfl rfl rfl (xN3 hE.2.1.1) (hts (.initialized RX4) (by decide +kernel)) (by decide +kernel) ⟨Nat.le_of_ble_eq_true rfl, Nat.le_of_ble_eq_true rfl⟩, (hts (.static yX4_at) (by decide +kernel)), trivial⟩ (xPr.give (wc := [(qi, xI cy cap fi)]) hE hS hP [1] rfl) rfl rfl hl.1 rfl (lv_room (Nat.le_of_ble_eq_true rfl)) dX0_dateFor_28 ⟨(Nat.zero_le _), (Nat.zero_le _)⟩) (fun r_9 hr_10 => ?_)
          obtain ⟨y, hy1, hy2, hy3, hy4⟩ := hA.1.at (j := b + s2 - 1) (by omega)
          obtain rfl : r_9 = nI y := by rw [hr_10, xat_in (by omega) (by omega), hy4]
          refine lv_iload_n hx hb dX0_dateFor_31 rfl (lv_at hl 1 rfl) ?_
          refine xb_icmp_ge (tgt := 39) (a := y) (b := x) (by omega) (by omega) hx hb dX0_dateFor_32 (by decide) (fun c_11 => ?_) (fun c_11 => ?_)
          · refine lv_iload_n hx hb dX0_dateFor_39 rfl (lv_at hl 3 rfl) ?_
            refine lv_iconst (v := nI 2) hx hb dX0_dateFor_40 (by decide) ?_
            refine lv_idiv hx hb dX0_dateFor_41 (by decide) ?_
            refine lv_eqi (z := nI (s2 / 2)) (pk_div (by omega) (by omega) (by omega)) ?_
            refine lv_istore_n (lv' := [(3, .int (nI (s2 / 2))), (0, .ref h0), (1, .int (nI x)), (2, .int (nI b))]) hx hb dX0_dateFor_42 rfl hl (by decide) rfl (fun ls hl => ?_)
            refine lv_goto (tgt := 5) hx hb dX0_dateFor_43 (by decide) ?_
            have hq1 := cb_mono (P := Sm M) c_11
            exact ih_lp b (s2 / 2) (by omega) (bs_step hse he hbx (by omega)) (by omega) _ (lv_sub hl [1, 2, 3, 0] rfl)
          · refine lv_iload_n hx hb dX0_dateFor_35 rfl (lv_at hl 2 rfl) ?_
            refine lv_iload_n hx hb dX0_dateFor_36 rfl (lv_at hl 3 rfl) ?_
            refine lv_iadd hx hb dX0_dateFor_37 ?_
            refine lv_eqi (z := nI (b + s2)) (nI_add _ _) ?_
            refine lv_istore_n (lv' := [(2, .int (nI (b + s2))), (0, .ref h0), (1, .int (nI x)), (3, .int (nI s2))]) hx hb dX0_dateFor_38 rfl hl (by decide) rfl (fun ls hl => ?_)
            refine lv_iload_n hx hb dX0_dateFor_39 rfl (lv_at hl 3 rfl) ?_
            refine lv_iconst (v := nI 2) hx hb dX0_dateFor_40 (by decide) ?_
            refine lv_idiv hx hb dX0_dateFor_41 (by decide) ?_
            refine lv_eqi (z := nI (s2 / 2)) (pk_div (by omega) (by omega) (by omega)) ?_
            refine lv_istore_n (lv' := [(3, .int (nI (s2 / 2))), (2, .int (nI (b + s2))), (0, .ref h0), (1, .int (nI x))]) hx hb dX0_dateFor_42 rfl hl (by decide) rfl (fun ls hl => ?_)
            refine lv_goto (tgt := 5) hx hb dX0_dateFor_43 (by decide) ?_
            have hq1 := cb_lt c_11 hy2
            exact ih_lp (b + s2) (s2 / 2) (by omega) (bs_step hse he (by omega) (by omega)) (by omega) _ (lv_sub hl [2, 3, 1, 0] rfl)
  exact lp 65537 0 65536 (by omega) (Or.inr ⟨16, by omega, by decide, by omega, by have := cb_le (P := Sm M) (n := x); omega⟩) (by omega) _ (lv_sub hl [2, 3, 1, 0] rfl)
set_option maxHeartbeats 4000000 in
set_option maxRecDepth 100000 in
theorem c_copyOf (l : Launch) (D : va_G) (cy : Nat → ClassId) (t0 : Nat) (q n r : Nat) (f : Nat → Int32) (hnr : n < r) (hr : r ≤ 100000) : xWr (S := Nat → Int32) l yJ7_copyOf_59c91 wsJ7_copyOf_59c91 ({ frames := 1, cells := 1, slots := r, locals := 60 } : Room) D cy t0 ([.ref q, .int (nI r)]) ([(q, xI cy n f)]) (fun u => ∀ j, j < n → u j = f j) (fun u a => [(q, xI cy n f), (a, xI cy r u)]) 1 r := by
  refine xofWr (cc := cJ7_copyOf_59c91) (maxL := 3) (by decide) rfl (Nat.le_of_ble_eq_true rfl) (Or.inr ⟨_, rfl⟩) ?_
  intro p e s m below meth c Q A ls hx hb hml hts hown hE hA H locs hP hD hl hS kret
  have hl : lv_has ls 3 [(0, .ref q), (1, .int (nI r))] := hl
  refine lv_iload_n hx hb dJ7_copyOf_59c91_0 rfl (lv_at hl 1 rfl) ?_
  refine lv_aload_n hx hb dJ7_copyOf_59c91_1 rfl (lv_at hl 0 rfl) ?_
  refine va_alen (D := D) (v := nI n) hx hb hE.1 hP 0 0 rfl rfl rfl dJ7_copyOf_59c91_2 ?_
  refine xb_icmp_ne (tgt := 14) (a := r) (b := n) (by omega) (by omega) hx hb dJ7_copyOf_59c91_3 (by decide) (fun c_1 => ?_) (fun c_1 => ?_)
  · refine lv_iload_n hx hb dJ7_copyOf_59c91_14 rfl (lv_at hl 1 rfl) ?_
    refine xnewI (N := r) hx hb (hts (.arrayClass .int) (by decide +kernel)) hE.1 hP hD hS hA rfl (by omega) (Nat.le_of_ble_eq_true rfl) (by show 0 + r ≤ r; omega) dJ7_copyOf_59c91_15 (fun q2 H hP hD hS => ?_)
    have hP : xP D [(q, xI cy n f), (q2, xI cy r (fun _ => 0))] H := hP
    have hD : va_D A [(q, xI cy n f), (q2, xI cy r (fun _ => 0))] := hD
    refine lv_astore_n (lv' := [(2, .ref q2), (0, .ref q), (1, .int (nI r))]) hx hb dJ7_copyOf_59c91_17 rfl hl (by decide) rfl (fun ls hl => ?_)
    refine lv_aload_n hx hb dJ7_copyOf_59c91_18 rfl (lv_at hl 1 rfl) ?_
    refine lv_iconst (v := nI 0) hx hb dJ7_copyOf_59c91_19 (by decide) ?_
    refine lv_aload_n hx hb dJ7_copyOf_59c91_20 rfl (lv_at hl 0 rfl) ?_
    refine lv_iconst (v := nI 0) hx hb dJ7_copyOf_59c91_21 (by decide) ?_
    refine lv_aload_n hx hb dJ7_copyOf_59c91_22 rfl (lv_at hl 1 rfl) ?_
    refine va_alen (D := D) (v := nI n) hx hb hE.1 hP 0 0 rfl rfl rfl dJ7_copyOf_59c91_23 ?_
    refine lv_iload_n hx hb dJ7_copyOf_59c91_24 rfl (lv_at hl 2 rfl) ?_
    refine va_mmin hx hb (hml.trans hl.1.symm) hown (hts (.methodLink RJ7 304 Lib.Math.min.name) (by decide +kernel)) (hts (.static Lib.Math.min.name) (by decide +kernel)) (hts (.initialized "java/lang/Math") (by decide +kernel)) (hts (.code Lib.Math.min.name Lib.Math.min.code 2 (some .int)) (by decide +kernel)) (Nat.le_of_ble_eq_true rfl) (Nat.le_of_ble_eq_true rfl) (Nat.le_of_ble_eq_true rfl) (by show 0 + r ≤ r; omega) dJ7_copyOf_59c91_25 ?_
    refine lv_eqi (z := nI n) ((xmin_nI (by omega) (by omega)).trans (congrArg nI (Nat.min_eq_left (by omega)))) ?_
    refine va_copyi (D := D) hx hb (hml.trans hl.1.symm) hown (hts (.methodLink RJ7 150 arraycopyName) (by decide +kernel)) (hts (.native arraycopyName) (by decide +kernel)) (hts (.static arraycopyName) (by decide +kernel)) (hts (.initialized "java/lang/System") (by decide +kernel)) hE.1 hP hD hS 0 1 0 0 rfl rfl rfl rfl rfl (by decide) (by decide) (nI_pos (by omega)) (by rw [nI_clamp (n := 0) (by omega), nI_clamp (n := n) (by omega)]; omega) (by rw [nI_clamp (n := 0) (by omega), nI_clamp (n := n) (by omega)]; omega) (fun _ _ => rfl) (Nat.le_of_ble_eq_true rfl) (Nat.le_of_ble_eq_true rfl) dJ7_copyOf_59c91_28 (fun H locs hP hD hS => ?_)
    have hP : xP D [(q, xI cy n f), (q2, xI cy r (va_cpy f (fun _ => 0) (nI 0).toNatClampNeg (nI 0).toNatClampNeg (nI n).toNatClampNeg))] H := hP
    have hD : va_D A [(q, xI cy n f), (q2, xI cy r (va_cpy f (fun _ => 0) (nI 0).toNatClampNeg (nI 0).toNatClampNeg (nI n).toNatClampNeg))] := hD
    refine lv_aload_n hx hb dJ7_copyOf_59c91_31 rfl (lv_at hl 0 rfl) ?_
    exact kret (va_cpy f (fun _ => 0) (nI 0).toNatClampNeg (nI 0).toNatClampNeg (nI n).toNatClampNeg) _ _ _ _ _ _ _ dJ7_copyOf_59c91_32 (fun j hj => by rw [nI_clamp (n := 0) (by omega), nI_clamp (n := n) (by omega)]; exact cpy_lt hj) hP hD hS (Nat.le_of_ble_eq_true rfl) (by omega)
  · exact absurd c_1 (by omega)
set_option maxHeartbeats 4000000 in
set_option maxRecDepth 100000 in
theorem c_makeRoom (l : Launch) (D : va_G) (cy : Nat → ClassId) (t0 : Nat) (h0 qi qd n cap w : Nat) (fi fd : Nat → Int32) (hcap : cap ≤ 100000) (hw : w ≤ 100000) : xWv (S := Nat × Nat × (Nat → Int32) × (Nat → Int32)) l yX0_makeRoomFor wsX0_makeRoomFor ({ frames := 2, cells := mcR w cap, slots := msR w cap, locals := 90 } : Room) D cy t0 ([.ref h0, .int (nI w)]) ([(h0, .inr (0, [.ref qi, .ref qd, .int (nI n)])), (qi, xI cy cap fi), (qd, xI cy cap fd)]) (fun u => (∀ j, j < cap → u.2.2.1 j = fi j) ∧ ∀ j, j < cap → u.2.2.2 j = fd j) (fun u => [(h0, .inr (0, [.ref u.1, .ref u.2.1, .int (nI n)])), (u.1, xI cy (capR w cap) u.2.2.1), (u.2.1, xI cy (capR w cap) u.2.2.2)]) (mcR w cap) (msR w cap) := by
  refine xofWv (cc := cX0_makeRoomFor) (maxL := 3) (by decide) rfl (Nat.le_of_ble_eq_true rfl) ?_
  intro p e s m below meth c Q A ls hx hb hml hts hown hin hE hA H locs hP hD hl hS kret
  have hl : lv_has ls 3 [(0, .ref h0), (1, .int (nI w))] := hl
  refine lv_ldc (v := nI 100000) hx hb hown (hts (.constant RX0 44 (100000)) (by decide +kernel)) dX0_makeRoomFor_0 ?_
  refine lv_iload_n hx hb dX0_makeRoomFor_2 rfl (lv_at hl 1 rfl) ?_
  refine lv_iconst (v := nI 2) hx hb dX0_makeRoomFor_3 (by decide) ?_
  refine lv_aload_n hx hb dX0_makeRoomFor_4 rfl (lv_at hl 0 rfl) ?_
  refine va_get (D := D) (ci := 0) (v := .ref qi) (C := RX0) (T := TX0) (N := 3) hx hb hts (by decide +kernel) hown hE.1 hP 0 rfl rfl 0 (by decide) (hts (.fieldLink RX0 11 "DistinctDale$Basket" "items" "[I") (by decide +kernel)) (fun _ h9 => h9) rfl dX0_makeRoomFor_5 ?_
  refine va_alen (D := D) (v := nI cap) hx hb hE.1 hP 1 0 rfl rfl rfl dX0_makeRoomFor_8 ?_
  refine lv_imul hx hb dX0_makeRoomFor_9 ?_
  refine lv_eqi (z := nI (2 * cap)) (pk_mul _ _) ?_
  refine va_mmax hx hb (hml.trans hl.1.symm) hown (hts (.methodLink RX0 33 Lib.Math.max.name) (by decide +kernel)) (hts (.static Lib.Math.max.name) (by decide +kernel)) (hts (.initialized "java/lang/Math") (by decide +kernel)) (hts (.code Lib.Math.max.name Lib.Math.max.code 2 (some .int)) (by decide +kernel)) (Nat.le_of_ble_eq_true rfl) (Nat.le_of_ble_eq_true rfl) (Nat.zero_le _) (Nat.zero_le _) dX0_makeRoomFor_10 ?_
  refine lv_eqi (z := nI (max w (2 * cap))) (xmax_nI (by omega) (by omega)) ?_
  refine va_mmin hx hb (hml.trans hl.1.symm) hown (hts (.methodLink RX0 45 Lib.Math.min.name) (by decide +kernel)) (hts (.static Lib.Math.min.name) (by decide +kernel)) (hts (.initialized "java/lang/Math") (by decide +kernel)) (hts (.code Lib.Math.min.name Lib.Math.min.code 2 (some .int)) (by decide +kernel)) (Nat.le_of_ble_eq_true rfl) (Nat.le_of_ble_eq_true rfl) (Nat.zero_le _) (Nat.zero_le _) dX0_makeRoomFor_13 ?_
  refine lv_eqi (z := nI (min 100000 (max w (2 * cap)))) (xmin_nI (by omega) (by omega)) ?_
  refine lv_istore_n (lv' := [(2, .int (nI (min 100000 (max w (2 * cap))))), (0, .ref h0), (1, .int (nI w))]) hx hb dX0_makeRoomFor_16 rfl hl (by decide) rfl (fun ls hl => ?_)
  refine lv_iload_n hx hb dX0_makeRoomFor_17 rfl (lv_at hl 2 rfl) ?_
  refine lv_aload_n hx hb dX0_makeRoomFor_18 rfl (lv_at hl 1 rfl) ?_
  refine va_get (D := D) (ci := 0) (v := .ref qi) (C := RX0) (T := TX0) (N := 3) hx hb hts (by decide +kernel) hown hE.1 hP 0 rfl rfl 0 (by decide) (hts (.fieldLink RX0 11 "DistinctDale$Basket" "items" "[I") (by decide +kernel)) (fun _ h9 => h9) rfl dX0_makeRoomFor_19 ?_
  refine va_alen (D := D) (v := nI cap) hx hb hE.1 hP 1 0 rfl rfl rfl dX0_makeRoomFor_22 ?_
  refine xb_icmp_le (tgt := 59) (a := w) (b := cap) (by omega) (by omega) hx hb dX0_makeRoomFor_23 (by decide) (fun c_1 => ?_) (fun c_1 => ?_)
  · have ecap : capR w cap = cap := capR_no (by omega)
    have hP : xP D [(h0, .inr (0, [.ref qi, .ref qd, .int (nI n)])), (qi, xI cy (capR w cap) fi), (qd, xI cy (capR w cap) fd)] H := by rw [ecap]; exact hP
    have hD : va_D A [(h0, .inr (0, [.ref qi, .ref qd, .int (nI n)])), (qi, xI cy (capR w cap) fi), (qd, xI cy (capR w cap) fd)] := by rw [ecap]; exact hD
    exact kret (qi, qd, fi, fd) _ _ _ _ _ _ dX0_makeRoomFor_59 ⟨fun _ _ => rfl, fun _ _ => rfl⟩ hP hD hS (Nat.zero_le _) (Nat.zero_le _)
  · refine lv_iload_n hx hb dX0_makeRoomFor_26 rfl (lv_at hl 0 rfl) ?_
    refine lv_aload_n hx hb dX0_makeRoomFor_27 rfl (lv_at hl 1 rfl) ?_
    refine va_get (D := D) (ci := 0) (v := .ref qi) (C := RX0) (T := TX0) (N := 3) hx hb hts (by decide +kernel) hown hE.1 hP 0 rfl rfl 0 (by decide) (hts (.fieldLink RX0 11 "DistinctDale$Basket" "items" "[I") (by decide +kernel)) (fun _ h9 => h9) rfl dX0_makeRoomFor_28 ?_
    refine va_alen (D := D) (v := nI cap) hx hb hE.1 hP 1 0 rfl rfl rfl dX0_makeRoomFor_31 ?_
    refine xb_icmp_le (tgt := 59) (a := min 100000 (max w (2 * cap))) (b := cap) (by omega) (by omega) hx hb dX0_makeRoomFor_32 (by decide) (fun c_2 => ?_) (fun c_2 => ?_)
    · exact absurd c_2 (by omega)
    · refine lv_aload_n hx hb dX0_makeRoomFor_35 rfl (lv_at hl 1 rfl) ?_
      refine lv_aload_n hx hb dX0_makeRoomFor_36 rfl (lv_at hl 1 rfl) ?_
      refine va_get (D := D) (ci := 0) (v := .ref qi) (C := RX0) (T := TX0) (N := 3) hx hb hts (by decide +kernel) hown hE.1 hP 0 rfl rfl 0 (by decide) (hts (.fieldLink RX0 11 "DistinctDale$Basket" "items" "[I") (by decide +kernel)) (fun _ h9 => h9) rfl dX0_makeRoomFor_37 ?_
      refine lv_iload_n hx hb dX0_makeRoomFor_40 rfl (lv_at hl 0 rfl) ?_
      refine xcWr (wr := [(h0, .inr (0, [.ref qi, .ref qd, .int (nI n)])), (qd, xI cy cap fd)]) (va_runS (As := [.ref qi, .int (nI (min 100000 (max w (2 * cap))))]) (rest := [.ref h0]) ⟨hx, hb, hml, hown, hts⟩ ((c_copyOf l D cy t0 qi cap (min 100000 (max w (2 * cap))) fi (by omega) (by omega)) H.size) (va_cwS 2 hts gX0_makeRoomFor_J7_copyOf_59c91 rfl rfl rfl (by decide +kernel) ⟨Nat.le_of_ble_eq_true rfl, Nat.le_of_ble_eq_true rfl⟩) (xPw.give (wc := [(qi, xI cy cap fi)]) hE hS hA hP hD [1] (by decide) rfl) rfl rfl hl.1 rfl (lv_room (Nat.le_of_ble_eq_true rfl)) dX0_makeRoomFor_41 ⟨(by show 0 + 1 ≤ mcR w cap; rw [mcR_yes (by omega)]; omega), (by show 0 + min 100000 (max w (2 * cap)) ≤ msR w cap; rw [msR_yes (by omega), capR_yes (by omega)]; omega)⟩) hP hD hS hA [1] [0, 2] rfl rfl (by decide) (by decide) (fun f1 q1 H locs hf1 hP hD hS => ?_)
      have hP := hP.sub (ws' := [(h0, .inr (0, [.ref qi, .ref qd, .int (nI n)])), (qi, xI cy cap fi), (qd, xI cy cap fd), (q1, xI cy (min 100000 (max w (2 * cap))) f1)]) [0, 2, 1, 3] rfl
      have hD := hD.sub (ws' := [(h0, .inr (0, [.ref qi, .ref qd, .int (nI n)])), (qi, xI cy cap fi), (qd, xI cy cap fd), (q1, xI cy (min 100000 (max w (2 * cap))) f1)]) [0, 2, 1, 3] (by decide) rfl
      refine va_put (D := D) (ci := 0) (v := .ref q1) (ty := .array .int) (C := RX0) (T := TX0) (N := 3) hx hb hts (by decide +kernel) tyX0 tyX0_ok nmX0 hown hE.1 hP hD hS 0 rfl rfl 0 (by decide) (hts (.fieldLink RX0 11 "DistinctDale$Basket" "items" "[I") (by decide +kernel)) (fun _ h9 => h9) rfl (by decide +kernel) rfl rfl (Nat.le_of_ble_eq_true rfl) dX0_makeRoomFor_44 (fun H locs hP hD hS => ?_)
      have hP : xP D [(h0, .inr (0, [.ref q1, .ref qd, .int (nI n)])), (qi, xI cy cap fi), (qd, xI cy cap fd), (q1, xI cy (min 100000 (max w (2 * cap))) f1)] H := hP
      have hD : va_D A [(h0, .inr (0, [.ref q1, .ref qd, .int (nI n)])), (qi, xI cy cap fi), (qd, xI cy cap fd), (q1, xI cy (min 100000 (max w (2 * cap))) f1)] := hD
      refine lv_aload_n hx hb dX0_makeRoomFor_47 rfl (lv_at hl 1 rfl) ?_
      refine lv_aload_n hx hb dX0_makeRoomFor_48 rfl (lv_at hl 1 rfl) ?_
      refine va_get (D := D) (ci := 0) (v := .ref qd) (C := RX0) (T := TX0) (N := 3) hx hb hts (by decide +kernel) hown hE.1 hP 0 rfl rfl 1 (by decide) (hts (.fieldLink RX0 15 "DistinctDale$Basket" "dates" "[I") (by decide +kernel)) (fun _ h9 => h9) rfl dX0_makeRoomFor_49 ?_
      refine lv_iload_n hx hb dX0_makeRoomFor_52 rfl (lv_at hl 0 rfl) ?_
      refine xcWr (wr := [(h0, .inr (0, [.ref q1, .ref qd, .int (nI n)])), (qi, xI cy cap fi), (q1, xI cy (min 100000 (max w (2 * cap))) f1)]) (va_runS (As := [.ref qd, .int (nI (min 100000 (max w (2 * cap))))]) (rest := [.ref h0]) ⟨hx, hb, hml, hown, hts⟩ ((c_copyOf l D cy t0 qd cap (min 100000 (max w (2 * cap))) fd (by omega) (by omega)) H.size) (va_cwS 2 hts gX0_makeRoomFor_J7_copyOf_59c91 rfl rfl rfl (by decide +kernel) ⟨Nat.le_of_ble_eq_true rfl, Nat.le_of_ble_eq_true rfl⟩) (xPw.give (wc := [(qd, xI cy cap fd)]) hE hS hA hP hD [2] (by decide) rfl) rfl rfl hl.1 rfl (lv_room (Nat.le_of_ble_eq_true rfl)) dX0_makeRoomFor_53 ⟨(by show 0 + 1 + 1 ≤ mcR w cap; rw [mcR_yes (by omega)]; omega), (by show 0 + min 100000 (max w (2 * cap)) + min 100000 (max w (2 * cap)) ≤ msR w cap; rw [msR_yes (by omega), capR_yes (by omega)]; omega)⟩) hP hD hS hA [2] [0, 1, 3] rfl rfl (by decide) (by decide) (fun f2 q2 H locs hf2 hP hD hS => ?_)
      have hP := hP.sub (ws' := [(h0, .inr (0, [.ref q1, .ref qd, .int (nI n)])), (qi, xI cy cap fi), (qd, xI cy cap fd), (q1, xI cy (min 100000 (max w (2 * cap))) f1), (q2, xI cy (min 100000 (max w (2 * cap))) f2)]) [0, 1, 3, 2, 4] rfl
      have hD := hD.sub (ws' := [(h0, .inr (0, [.ref q1, .ref qd, .int (nI n)])), (qi, xI cy cap fi), (qd, xI cy cap fd), (q1, xI cy (min 100000 (max w (2 * cap))) f1), (q2, xI cy (min 100000 (max w (2 * cap))) f2)]) [0, 1, 3, 2, 4] (by decide) rfl
      refine va_put (D := D) (ci := 0) (v := .ref q2) (ty := .array .int) (C := RX0) (T := TX0) (N := 3) hx hb hts (by decide +kernel) tyX0 tyX0_ok nmX0 hown hE.1 hP hD hS 0 rfl rfl 1 (by decide) (hts (.fieldLink RX0 15 "DistinctDale$Basket" "dates" "[I") (by decide +kernel)) (fun _ h9 => h9) rfl (by decide +kernel) rfl rfl (Nat.le_of_ble_eq_true rfl) dX0_makeRoomFor_56 (fun H locs hP hD hS => ?_)
      have hP : xP D [(h0, .inr (0, [.ref q1, .ref q2, .int (nI n)])), (qi, xI cy cap fi), (qd, xI cy cap fd), (q1, xI cy (min 100000 (max w (2 * cap))) f1), (q2, xI cy (min 100000 (max w (2 * cap))) f2)] H := hP
      have hD : va_D A [(h0, .inr (0, [.ref q1, .ref q2, .int (nI n)])), (qi, xI cy cap fi), (qd, xI cy cap fd), (q1, xI cy (min 100000 (max w (2 * cap))) f1), (q2, xI cy (min 100000 (max w (2 * cap))) f2)] := hD
      have hP := hP.sub (ws' := [(h0, .inr (0, [.ref q1, .ref q2, .int (nI n)])), (q1, xI cy (min 100000 (max w (2 * cap))) f1), (q2, xI cy (min 100000 (max w (2 * cap))) f2)]) [0, 3, 4] rfl
      have hD := hD.sub (ws' := [(h0, .inr (0, [.ref q1, .ref q2, .int (nI n)])), (q1, xI cy (min 100000 (max w (2 * cap))) f1), (q2, xI cy (min 100000 (max w (2 * cap))) f2)]) [0, 3, 4] (by decide) rfl
      have ecap : capR w cap = min 100000 (max w (2 * cap)) := capR_yes (by omega)
      rw [← ecap] at hP hD
      exact kret (q1, q2, f1, f2) _ _ _ _ _ _ dX0_makeRoomFor_59 ⟨hf1, hf2⟩ hP hD hS (by rw [mcR_yes (by omega)]; omega) (by rw [msR_yes (by omega), capR_yes (by omega)]; omega)
set_option maxHeartbeats 4000000 in
set_option maxRecDepth 100000 in
theorem c_drain (l : Launch) (D : va_G) (cy : Nat → ClassId) (t0 : Nat) (h0 qi qd n : Nat) : xWi (S := Unit) l yX0_drain wsX0_drain ({ frames := 0, cells := 0, slots := 0, locals := 0 } : Room) D cy t0 ([.ref h0]) ([(h0, .inr (0, [.ref qi, .ref qd, .int (nI n)]))]) (fun r _ => r = nI n) (fun _ => [(h0, .inr (0, [.ref qi, .ref qd, .int (nI 0)]))]) 0 0 := by
  refine xofWi (cc := cX0_drain) (maxL := 2) (by decide) rfl (Nat.le_of_ble_eq_true rfl) (fun _ _ _ => rfl) ?_
  intro p e s m below meth c Q A ls hx hb hml hts hown hE hA H locs hP hD hl hS kret
  have hl : lv_has ls 2 [(0, .ref h0)] := hl
  refine lv_aload_n hx hb dX0_drain_0 rfl (lv_at hl 0 rfl) ?_
  refine va_get (D := D) (ci := 0) (v := .int (nI n)) (C := RX0) (T := TX0) (N := 3) hx hb hts (by decide +kernel) hown hE.1 hP 0 rfl rfl 2 (by decide) (hts (.fieldLink RX0 18 "DistinctDale$Basket" "size" "I") (by decide +kernel)) (fun _ h9 => h9) rfl dX0_drain_1 ?_
  refine lv_istore_n (lv' := [(1, .int (nI n)), (0, .ref h0)]) hx hb dX0_drain_4 rfl hl (by decide) rfl (fun ls hl => ?_)
  refine lv_aload_n hx hb dX0_drain_5 rfl (lv_at hl 1 rfl) ?_
  refine lv_iconst (v := nI 0) hx hb dX0_drain_6 (by decide) ?_
  refine va_put (D := D) (ci := 0) (v := .int (nI 0)) (ty := .int) (C := RX0) (T := TX0) (N := 3) hx hb hts (by decide +kernel) tyX0 tyX0_ok nmX0 hown hE.1 hP hD hS 0 rfl rfl 2 (by decide) (hts (.fieldLink RX0 18 "DistinctDale$Basket" "size" "I") (by decide +kernel)) (fun _ h9 => h9) rfl (by decide +kernel) rfl rfl (Nat.le_of_ble_eq_true rfl) dX0_drain_7 (fun H locs hP hD hS => ?_)
  have hP : xP D [(h0, .inr (0, [.ref qi, .ref qd, .int (nI 0)]))] H := hP
  have hD : va_D A [(h0, .inr (0, [.ref qi, .ref qd, .int (nI 0)]))] := hD
  refine lv_iload_n hx hb dX0_drain_10 rfl (lv_at hl 0 rfl) ?_
  exact kret _ () _ _ _ _ _ _ dX0_drain_11 rfl hP hD hS (Nat.le_of_ble_eq_true rfl) (Nat.le_of_ble_eq_true rfl)
end XBKW
end
section
section XTK
def uS (M1 M2 : Nat → Int32) : Nat → Bool := fun x => Sm M1 x || Sm M2 x
def nwK (M1 M2 : Nat → Int32) : Nat := cb (fun x => Sm M2 x && !Sm M1 x) 100000
theorem cb_last {P : Nat → Bool} {z hi : Nat} (hz : P z = true) (h : z < hi) (hn : ∀ w, z < w → w < hi → P w = false) : cb P z + 1 = cb P hi := by
  rw [← cb_t hz]
  exact (cb_none (by omega) (fun x h1 h2 => hn x (by omega) h2)).symm
theorem tk_cnt {M1 M2 : Nat → Int32} : nwK M1 M2 + cb (fun x => Sm M1 x && Sm M2 x) 100000 = cb (Sm M2) 100000 ∧ cb (Sm M1) 100000 + nwK M1 M2 = cb (uS M1 M2) 100000 := by
  have h1 := cb_diff (Sm M2) (Sm M1) 100000
  have h2 := cb_uni (Sm M1) (Sm M2) 100000
  have h3 : cb (fun x => Sm M2 x && Sm M1 x) 100000 = cb (fun x => Sm M1 x && Sm M2 x) 100000 := cb_congr (fun x _ => Bool.and_comm _ _)
  rw [h3] at h1
  have h4 : nwK M1 M2 = cb (fun x => Sm M2 x && !Sm M1 x) 100000 := rfl
  have h5 : cb (uS M1 M2) 100000 = cb (fun x => Sm M1 x || Sm M2 x) 100000 := rfl
  omega
theorem uS_none {M1 M2 : Nat → Int32} {w : Nat} (h1 : Sm M1 w = false) (h2 : Sm M2 w = false) : uS M1 M2 w = false := by simp [uS, h1, h2]
theorem tk_y {M1 M2 : Nat → Int32} {hi y : Nat} (hy1 : y < hi) (hy2 : Sm M2 y = true) (hy4 : ∀ w, y < w → w < hi → Sm M2 w = false) (hn : ∀ w, y ≤ w → w < hi → Sm M1 w = false) :
    uS M1 M2 y = true ∧ (∀ w, y < w → w < hi → uS M1 M2 w = false) ∧ cb (Sm M1) y = cb (Sm M1) hi ∧ cb (Sm M2) y + 1 = cb (Sm M2) hi ∧ cb (uS M1 M2) y + 1 = cb (uS M1 M2) hi ∧ M1 y = -1 := by
  have hu : uS M1 M2 y = true := by simp [uS, hy2]
  have hn2 : ∀ w, y < w → w < hi → uS M1 M2 w = false := fun w h1 h2 => uS_none (hn w (by omega) h2) (hy4 w h1 h2)
  exact ⟨hu, hn2, (cb_none (by omega) hn).symm, cb_last hy2 hy1 hy4, cb_last hu hy1 hn2, Sm_f.mp (hn y (Nat.le_refl _) hy1)⟩
theorem tk_x {M1 M2 : Nat → Int32} {hi x : Nat} (hx1 : x < hi) (hx2 : Sm M1 x = true) (hx4 : ∀ w, x < w → w < hi → Sm M1 w = false) (hn : ∀ w, x ≤ w → w < hi → Sm M2 w = false) :
    uS M1 M2 x = true ∧ (∀ w, x < w → w < hi → uS M1 M2 w = false) ∧ cb (Sm M1) x + 1 = cb (Sm M1) hi ∧ cb (Sm M2) x = cb (Sm M2) hi ∧ cb (uS M1 M2) x + 1 = cb (uS M1 M2) hi ∧ M2 x = -1 := by
  have hu : uS M1 M2 x = true := by simp [uS, hx2]
  have hn2 : ∀ w, x < w → w < hi → uS M1 M2 w = false := fun w h1 h2 => uS_none (hx4 w h1 h2) (hn w (by omega) h2)
  exact ⟨hu, hn2, cb_last hx2 hx1 hx4, (cb_none (by omega) hn).symm, cb_last hu hx1 hn2, Sm_f.mp (hn x (Nat.le_refl _) hx1)⟩
theorem tk_e {M1 M2 : Nat → Int32} {hi y : Nat} (hy1 : y < hi) (hx2 : Sm M1 y = true) (hx4 : ∀ w, y < w → w < hi → Sm M1 w = false) (hy2 : Sm M2 y = true) (hy4 : ∀ w, y < w → w < hi → Sm M2 w = false) :
    uS M1 M2 y = true ∧ (∀ w, y < w → w < hi → uS M1 M2 w = false) ∧ cb (Sm M1) y + 1 = cb (Sm M1) hi ∧ cb (Sm M2) y + 1 = cb (Sm M2) hi ∧ cb (uS M1 M2) y + 1 = cb (uS M1 M2) hi := by
  have hu : uS M1 M2 y = true := by simp [uS, hy2]
  have hn2 : ∀ w, y < w → w < hi → uS M1 M2 w = false := fun w h1 h2 => uS_none (hx4 w h1 h2) (hy4 w h1 h2)
  exact ⟨hu, hn2, cb_last hx2 hy1 hx4, cb_last hy2 hy1 hy4, cb_last hu hy1 hn2⟩
theorem cb0_none {P : Nat → Bool} {hi : Nat} (h : cb P hi = 0) (y : Nat) : ∀ w, y ≤ w → w < hi → P w = false := fun w _ h2 => by
  cases hs : P w with
  | false => rfl
  | true => have := cb_lt h2 hs; omega
theorem xat_mm0 {f : Nat → Int32} {n m : Nat} (h : m = 0) : xat f n (nI m - nI 1) = -1 := by subst h; exact xat_neg (by decide)
theorem xat_mm {f : Nat → Int32} {n m j : Nat} (h : j + 1 = m) (hm : m ≤ n) (hn : n < 2 ^ 31) : xat f n (nI m - nI 1) = f j := by
  rw [m1_sub m (by omega), xat_in (by omega) hn]
  congr 1; omega
theorem xput_mm {f : Nat → Int32} {n m j : Nat} {v : Int32} (h : j + 1 = m) (hm : m ≤ n) (hn : n < 2 ^ 31) : xput f n (nI m - nI 1) v = upd f j v := by
  rw [m1_sub m (by omega), xput_in (by omega) hn]
  congr 1; omega
theorem nlt_neg1 {y : Nat} (hy : y < 2 ^ 31) : ¬ nI y < (-1 : Int32) := fun q => by
  have h := neg1lt (nI_pos' hy)
  rw [Int32.lt_iff_toInt_lt] at h q
  omega
theorem TI0 {U S1 : Nat → Bool} {g1 G : Nat → Int32} : TI U S1 g1 G 100000 g1 := ⟨fun _ _ => rfl, fun x h1 h2 _ => absurd h2 (by omega)⟩
theorem BR_mrg {M1 M2 : Nat → Int32} {f d fi fd : Nat → Int32} {n cap hi : Nat} (h1 : MV M1) (h2 : MV M2) (hn : n = cb (Sm M1) 100000) (hfi : ∀ x, x < 100000 → Sm M1 x = true → fi (cb (Sm M1) x) = nI x) (hfd : ∀ x, x < 100000 → Sm M1 x = true → fd (cb (Sm M1) x) = M1 x) (hc : n + nwK M1 M2 ≤ cap) (hcap : cap ≤ 100000) (ht : cb (Sm M2) hi = 0)
    (t1 : TI (uS M1 M2) (Sm M1) fi (fun x => nI x) hi f) (t2 : TI (uS M1 M2) (Sm M1) fd (mrg M1 M2) hi d) : BR (mrg M1 M2) (n + nwK M1 M2) cap f d := by
  have eU : ∀ x, Sm (mrg M1 M2) x = uS M1 M2 x := fun x => Sm_mrg h1 h2 x
  have eF : Sm (mrg M1 M2) = uS M1 M2 := funext eU
  have e1 := (tk_cnt (M1 := M1) (M2 := M2)).2
  refine ⟨⟨by rw [eF, ← e1, hn], ?_⟩, ?_, hc, hcap⟩
  · rw [eF]
    exact t1.done (fun x => rfl) ht (fun x hx h3 _ => hfi x hx h3)
  · rw [eF]
    refine t2.done (fun x => rfl) ht (fun x hx h3 h4 => ?_)
    rw [hfd x hx h3]
    unfold mrg
    rw [Sm_f.mp h4, mrgI_l (h1 x)]
end XTK
end
section
section XTAKE
set_option maxHeartbeats 4000000 in
set_option maxRecDepth 100000 in
theorem c_take (l : Launch) (D : va_G) (cy : Nat → ClassId) (t0 : Nat) (M1 M2 : Nat → Int32) (h0 qi qd q1 q2 n cap many len1 len2 : Nat) (fi fd gi gd : Nat → Int32) (hM1 : MV M1) (hM2 : MV M2) (hV : BR M1 n cap fi fd) (hB : RW (Sm M2) 100000 many gi) (hBd : ∀ x, x < 100000 → Sm M2 x = true → gd (cb (Sm M2) x) = M2 x) (hlen1 : many ≤ len1) (hlen2 : many ≤ len2) (hl1 : len1 ≤ 100000) (hl2 : len2 ≤ 100000) : xWi (S := Nat × Nat × (Nat → Int32) × (Nat → Int32)) l yX0_take wsX0_take ({ frames := 3, cells := mcR (n + nwK M1 M2) cap, slots := msR (n + nwK M1 M2) cap, locals := 113 } : Room) D cy t0 ([.ref h0, .ref q1, .ref q2, .int (nI many)]) ([(h0, .inr (0, [.ref qi, .ref qd, .int (nI n)])), (qi, xI cy cap fi), (qd, xI cy cap fd), (q1, xI cy len1 gi), (q2, xI cy len2 gd)]) (fun r u => r = nI (nwK M1 M2) ∧ BR (mrg M1 M2) (n + nwK M1 M2) (capR (n + nwK M1 M2) cap) u.2.2.1 u.2.2.2) (fun u => [(h0, .inr (0, [.ref u.1, .ref u.2.1, .int (nI (n + nwK M1 M2))])), (u.1, xI cy (capR (n + nwK M1 M2) cap) u.2.2.1), (u.2.1, xI cy (capR (n + nwK M1 M2) cap) u.2.2.2), (q1, xI cy len1 gi), (q2, xI cy len2 gd)]) (mcR (n + nwK M1 M2) cap) (msR (n + nwK M1 M2) cap) := by
  refine xofWi (cc := cX0_take) (maxL := 12) (by decide) rfl (Nat.le_of_ble_eq_true rfl) (fun _ _ _ => rfl) ?_
  intro p e s m below meth c Q A ls hx hb hml hts hown hE hA H locs hP hD hl hS kret
  have hl : lv_has ls 12 [(0, .ref h0), (1, .ref q1), (2, .ref q2), (3, .int (nI many))] := hl
  have hA1 := hV.1.1
  have hB1 := hB.1
  obtain ⟨hK, hU⟩ := tk_cnt (M1 := M1) (M2 := M2)
  have hUN := cb_le (P := uS M1 M2) (n := 100000)
  have hA3 := hV.2.2.1
  have hA4 := hV.2.2.2
  have hsub : ∀ x, Sm M1 x = true → uS M1 M2 x = true := fun x h => by simp [uS, h]
  refine lv_iload_n hx hb dX0_take_0 rfl (lv_at hl 3 rfl) ?_
  refine lv_aload_n hx hb dX0_take_1 rfl (lv_at hl 0 rfl) ?_
  refine lv_aload_n hx hb dX0_take_2 rfl (lv_at hl 1 rfl) ?_
  refine lv_iload_n hx hb dX0_take_3 rfl (lv_at hl 3 rfl) ?_
  refine xcRi (va_runV (As := [.ref q1, .int (nI many)]) (rest := [.int (nI many)]) ⟨hx, hb, hml, hown, hts⟩ (c_countShared l D cy t0 (Sm M1) (Sm M2) h0 qi qd q1 n many cap len1 fi gi hV.1 hB hV.2.2.1 hlen1 hV.2.2.2 hl1) (cwV 2 hts gX0_take_X0_countShared rfl rfl rfl (by decide +kernel) ⟨Nat.le_of_ble_eq_true rfl, Nat.le_of_ble_eq_true rfl⟩) (xPr.giveV (wc := [(h0, .inr (0, [.ref qi, .ref qd, .int (nI n)])), (qi, xI cy cap fi), (q1, xI cy len1 gi)]) hE hS hP [0, 1, 3] rfl 0 0 rfl rfl) rfl rfl hl.1 rfl (lv_room (Nat.le_of_ble_eq_true rfl)) dX0_take_4 ⟨(Nat.zero_le _), (Nat.zero_le _)⟩) (fun r_1 hr_2 => ?_)
  obtain rfl : r_1 = nI (cb (fun x => Sm M1 x && Sm M2 x) 100000) := hr_2
  refine lv_isub hx hb dX0_take_7 ?_
  refine lv_eqi (z := nI (nwK M1 M2)) ((pk_sub (by omega)).trans (congrArg nI (by omega))) ?_
  refine lv_istore (lv' := [(4, .int (nI (nwK M1 M2))), (0, .ref h0), (1, .ref q1), (2, .ref q2), (3, .int (nI many))]) hx hb dX0_take_8 hl (by decide) rfl (fun ls hl => ?_)
  refine lv_aload_n hx hb dX0_take_10 rfl (lv_at hl 1 rfl) ?_
  refine lv_aload_n hx hb dX0_take_11 rfl (lv_at hl 1 rfl) ?_
  refine va_get (D := D) (ci := 0) (v := .int (nI n)) (C := RX0) (T := TX0) (N := 3) hx hb hts (by decide +kernel) hown hE.1 hP 0 rfl rfl 2 (by decide) (hts (.fieldLink RX0 18 "DistinctDale$Basket" "size" "I") (by decide +kernel)) (fun _ h9 => h9) rfl dX0_take_12 ?_
  refine lv_iload hx hb dX0_take_15 (lv_at hl 0 rfl) ?_
  refine lv_iadd hx hb dX0_take_17 ?_
  refine lv_eqi (z := nI (n + nwK M1 M2)) (nI_add _ _) ?_
  refine xcWv (wr := [(q1, xI cy len1 gi), (q2, xI cy len2 gd)]) (va_runV (As := [.int (nI (n + nwK M1 M2))]) (rest := []) ⟨hx, hb, hml, hown, hts⟩ ((c_makeRoom l D cy t0 h0 qi qd n cap (n + nwK M1 M2) fi fd hV.2.2.2 (by omega)) H.size) (cwV 1 hts gX0_take_X0_makeRoomFor rfl rfl rfl (by decide +kernel) ⟨Nat.le_of_ble_eq_true rfl, Nat.le_of_ble_eq_true rfl⟩) (xPw.giveV (wc := [(h0, .inr (0, [.ref qi, .ref qd, .int (nI n)])), (qi, xI cy cap fi), (qd, xI cy cap fd)]) hE hS hA hP hD [0, 1, 2] (by decide) rfl 0 0 rfl rfl) rfl rfl hl.1 rfl (lv_room (Nat.le_of_ble_eq_true rfl)) dX0_take_18 ⟨(Nat.le_of_eq (Nat.zero_add _)), (Nat.le_of_eq (Nat.zero_add _))⟩) hP hD hS hA [0, 1, 2] [3, 4] rfl rfl (by decide) (by decide) (fun u_5 H locs hr_4 hP hD hS => ?_)
  obtain ⟨qi2, qd2, fi2, fd2⟩ := u_5
  have hf1 : ∀ j, j < cap → fi2 j = fi j := hr_4.1
  have hf2 : ∀ j, j < cap → fd2 j = fd j := hr_4.2
  obtain ⟨hc1, hc2, hc3⟩ := capR_le (w := n + nwK M1 M2) (cap := cap) (by omega) hV.2.2.2
  have hfi2 : ∀ x, x < 100000 → Sm M1 x = true → fi2 (cb (Sm M1) x) = nI x := fun x hx hs => by
    have := cb_lt hx hs
    rw [hf1 _ (by omega)]; exact hV.1.2 x hx hs
  have hfd2 : ∀ x, x < 100000 → Sm M1 x = true → fd2 (cb (Sm M1) x) = M1 x := fun x hx hs => by
    have := cb_lt hx hs
    rw [hf2 _ (by omega)]; exact hV.2.1 x hx hs
  have hP := hP.sub (ws' := [(h0, .inr (0, [.ref qi2, .ref qd2, .int (nI n)])), (qi2, xI cy (capR (n + nwK M1 M2) cap) fi2), (qd2, xI cy (capR (n + nwK M1 M2) cap) fd2), (q1, xI cy len1 gi), (q2, xI cy len2 gd)]) [2, 3, 4, 0, 1] rfl
  have hD := hD.sub (ws' := [(h0, .inr (0, [.ref qi2, .ref qd2, .int (nI n)])), (qi2, xI cy (capR (n + nwK M1 M2) cap) fi2), (qd2, xI cy (capR (n + nwK M1 M2) cap) fd2), (q1, xI cy len1 gi), (q2, xI cy len2 gd)]) [2, 3, 4, 0, 1] (by decide) rfl
  refine lv_aload_n hx hb dX0_take_21 rfl (lv_at hl 1 rfl) ?_
  refine va_get (D := D) (ci := 0) (v := .int (nI n)) (C := RX0) (T := TX0) (N := 3) hx hb hts (by decide +kernel) hown hE.1 hP 0 rfl rfl 2 (by decide) (hts (.fieldLink RX0 18 "DistinctDale$Basket" "size" "I") (by decide +kernel)) (fun _ h9 => h9) rfl dX0_take_22 ?_
  refine lv_iconst (v := nI 1) hx hb dX0_take_25 (by decide) ?_
  refine lv_isub hx hb dX0_take_26 ?_
  refine lv_eqi (z := nI (cb (Sm M1) 100000) - nI 1) (by rw [← hA1]) ?_
  refine lv_istore (lv' := [(5, .int (nI (cb (Sm M1) 100000) - nI 1)), (4, .int (nI (nwK M1 M2))), (0, .ref h0), (1, .ref q1), (2, .ref q2), (3, .int (nI many))]) hx hb dX0_take_27 hl (by decide) rfl (fun ls hl => ?_)
  refine lv_iload_n hx hb dX0_take_29 rfl (lv_at hl 5 rfl) ?_
  refine lv_iconst (v := nI 1) hx hb dX0_take_30 (by decide) ?_
  refine lv_isub hx hb dX0_take_31 ?_
  refine lv_eqi (z := nI (cb (Sm M2) 100000) - nI 1) (by rw [← hB1]) ?_
  refine lv_istore (lv' := [(6, .int (nI (cb (Sm M2) 100000) - nI 1)), (5, .int (nI (cb (Sm M1) 100000) - nI 1)), (4, .int (nI (nwK M1 M2))), (0, .ref h0), (1, .ref q1), (2, .ref q2), (3, .int (nI many))]) hx hb dX0_take_32 hl (by decide) rfl (fun ls hl => ?_)
  refine lv_aload_n hx hb dX0_take_34 rfl (lv_at hl 3 rfl) ?_
  refine va_get (D := D) (ci := 0) (v := .int (nI n)) (C := RX0) (T := TX0) (N := 3) hx hb hts (by decide +kernel) hown hE.1 hP 0 rfl rfl 2 (by decide) (hts (.fieldLink RX0 18 "DistinctDale$Basket" "size" "I") (by decide +kernel)) (fun _ h9 => h9) rfl dX0_take_35 ?_
  refine lv_iload hx hb dX0_take_38 (lv_at hl 2 rfl) ?_
  refine lv_iadd hx hb dX0_take_40 ?_
  refine lv_eqi (z := nI (n + nwK M1 M2)) (nI_add _ _) ?_
  refine lv_iconst (v := nI 1) hx hb dX0_take_41 (by decide) ?_
  refine lv_isub hx hb dX0_take_42 ?_
  refine lv_eqi (z := nI (cb (uS M1 M2) 100000) - nI 1) (by rw [← hU, ← hA1]) ?_
  refine lv_istore (lv' := [(7, .int (nI (cb (uS M1 M2) 100000) - nI 1)), (6, .int (nI (cb (Sm M2) 100000) - nI 1)), (5, .int (nI (cb (Sm M1) 100000) - nI 1)), (4, .int (nI (nwK M1 M2))), (0, .ref h0), (1, .ref q1), (2, .ref q2), (3, .int (nI many))]) hx hb dX0_take_43 hl (by decide) rfl (fun ls hl => ?_)
  have lp : ∀ (n9 : Nat), ∀ (hi : Nat) (f : Nat → Int32) (d : Nat → Int32), (hhi : hi ≤ 100000) → (ht1 : TI (uS M1 M2) (Sm M1) fi2 (fun x => nI x) hi f) → (ht2 : TI (uS M1 M2) (Sm M1) fd2 (mrg M1 M2) hi d) → cb (uS M1 M2) hi < n9 → ∀ (H : Heap) (locs : List Loc), xP D [(h0, .inr (0, [.ref qi2, .ref qd2, .int (nI n)])), (qi2, xI cy (capR (n + nwK M1 M2) cap) f), (qd2, xI cy (capR (n + nwK M1 M2) cap) d), (q1, xI cy len1 gi), (q2, xI cy len2 gd)] H → va_D A [(h0, .inr (0, [.ref qi2, .ref qd2, .int (nI n)])), (qi2, xI cy (capR (n + nwK M1 M2) cap) f), (qd2, xI cy (capR (n + nwK M1 M2) cap) d), (q1, xI cy len1 gi), (q2, xI cy len2 gd)] → va_S A s.heap H locs → ∀ (ls : Array Slot), lv_has ls 12 [(0, .ref h0), (1, .ref q1), (2, .ref q2), (3, .int (nI many)), (4, .int (nI (nwK M1 M2))), (5, .int (nI (cb (Sm M1) hi) - nI 1)), (6, .int (nI (cb (Sm M2) hi) - nI 1)), (7, .int (nI (cb (uS M1 M2) hi) - nI 1))] → W p l e ({ frames := 3, cells := mcR (n + nwK M1 M2) cap, slots := msR (n + nwK M1 M2) cap, locals := 113 } : Room) s m [.ref h0, .ref q1, .ref q2, .int (nI many)].toArray below meth c H locs (0 + mcR (n + nwK M1 M2) cap) (0 + msR (n + nwK M1 M2) cap) Q (F0 m 45 ls []) := by
    intro n9
    induction n9 with
    | zero => intro hi f d hhi ht1 ht2 hm; exact absurd hm (Nat.not_lt_zero _)
    | succ n9 ih_lp =>
      intro hi f d hhi ht1 ht2 hm H locs hP hD hS ls hl
      have hm1 : cb (Sm M1) hi ≤ cb (Sm M1) 100000 := cb_mono hhi
      have hm2 : cb (Sm M2) hi ≤ cb (Sm M2) 100000 := cb_mono hhi
      have hm3 : cb (uS M1 M2) hi ≤ cb (uS M1 M2) 100000 := cb_mono hhi
      refine lv_iload hx hb dX0_take_45 (lv_at hl 7 rfl) ?_
      refine lv_if_lt (tgt := 187) hx hb dX0_take_47 (by decide) (fun c_6 => ?_) (fun c_6 => ?_)
      · have cp := (m1lt (by omega)).mp c_6
        have ht0 : cb (Sm M2) hi = 0 := by
          have := cb_sub (P := (Sm M2)) (R := (uS M1 M2)) (n := hi) (fun x _ h => by simp [uS, h])
          omega
        refine lv_aload_n hx hb dX0_take_187 rfl (lv_at hl 0 rfl) ?_
        refine lv_dup hx hb dX0_take_188 rfl ?_
        refine va_get (D := D) (ci := 0) (v := .int (nI n)) (C := RX0) (T := TX0) (N := 3) hx hb hts (by decide +kernel) hown hE.1 hP 0 rfl rfl 2 (by decide) (hts (.fieldLink RX0 18 "DistinctDale$Basket" "size" "I") (by decide +kernel)) (fun _ h9 => h9) rfl dX0_take_189 ?_
        refine lv_iload hx hb dX0_take_192 (lv_at hl 4 rfl) ?_
        refine lv_iadd hx hb dX0_take_194 ?_
        refine lv_eqi (z := nI (n + nwK M1 M2)) (nI_add _ _) ?_
        refine va_put (D := D) (ci := 0) (v := .int (nI (n + nwK M1 M2))) (ty := .int) (C := RX0) (T := TX0) (N := 3) hx hb hts (by decide +kernel) tyX0 tyX0_ok nmX0 hown hE.1 hP hD hS 0 rfl rfl 2 (by decide) (hts (.fieldLink RX0 18 "DistinctDale$Basket" "size" "I") (by decide +kernel)) (fun _ h9 => h9) rfl (by decide +kernel) rfl rfl (Nat.le_of_ble_eq_true rfl) dX0_take_195 (fun H locs hP hD hS => ?_)
        have hP : xP D [(h0, .inr (0, [.ref qi2, .ref qd2, .int (nI (n + nwK M1 M2))])), (qi2, xI cy (capR (n + nwK M1 M2) cap) f), (qd2, xI cy (capR (n + nwK M1 M2) cap) d), (q1, xI cy len1 gi), (q2, xI cy len2 gd)] H := hP
        have hD : va_D A [(h0, .inr (0, [.ref qi2, .ref qd2, .int (nI (n + nwK M1 M2))])), (qi2, xI cy (capR (n + nwK M1 M2) cap) f), (qd2, xI cy (capR (n + nwK M1 M2) cap) d), (q1, xI cy len1 gi), (q2, xI cy len2 gd)] := hD
        refine lv_iload hx hb dX0_take_198 (lv_at hl 4 rfl) ?_
        exact kret _ (qi2, qd2, f, d) _ _ _ _ _ _ dX0_take_200 ⟨rfl, BR_mrg hM1 hM2 hA1 hfi2 hfd2 hc1 hc3 ht0 ht1 ht2⟩ hP hD hS (Nat.le_of_eq (Nat.zero_add _)) (Nat.le_of_eq (Nat.zero_add _))
      · have cp := fun q => c_6 ((m1lt (by omega)).mpr q)
        refine lv_iload hx hb dX0_take_50 (lv_at hl 6 rfl) ?_
        refine lv_if_lt (tgt := 187) hx hb dX0_take_52 (by decide) (fun c_7 => ?_) (fun c_7 => ?_)
        · have ht0 := (m1lt (by omega)).mp c_7
          refine lv_aload_n hx hb dX0_take_187 rfl (lv_at hl 0 rfl) ?_
          refine lv_dup hx hb dX0_take_188 rfl ?_
          refine va_get (D := D) (ci := 0) (v := .int (nI n)) (C := RX0) (T := TX0) (N := 3) hx hb hts (by decide +kernel) hown hE.1 hP 0 rfl rfl 2 (by decide) (hts (.fieldLink RX0 18 "DistinctDale$Basket" "size" "I") (by decide +kernel)) (fun _ h9 => h9) rfl dX0_take_189 ?_
          refine lv_iload hx hb dX0_take_192 (lv_at hl 4 rfl) ?_
          refine lv_iadd hx hb dX0_take_194 ?_
          refine lv_eqi (z := nI (n + nwK M1 M2)) (nI_add _ _) ?_
          refine va_put (D := D) (ci := 0) (v := .int (nI (n + nwK M1 M2))) (ty := .int) (C := RX0) (T := TX0) (N := 3) hx hb hts (by decide +kernel) tyX0 tyX0_ok nmX0 hown hE.1 hP hD hS 0 rfl rfl 2 (by decide) (hts (.fieldLink RX0 18 "DistinctDale$Basket" "size" "I") (by decide +kernel)) (fun _ h9 => h9) rfl (by decide +kernel) rfl rfl (Nat.le_of_ble_eq_true rfl) dX0_take_195 (fun H locs hP hD hS => ?_)
          have hP : xP D [(h0, .inr (0, [.ref qi2, .ref qd2, .int (nI (n + nwK M1 M2))])), (qi2, xI cy (capR (n + nwK M1 M2) cap) f), (qd2, xI cy (capR (n + nwK M1 M2) cap) d), (q1, xI cy len1 gi), (q2, xI cy len2 gd)] H := hP
          have hD : va_D A [(h0, .inr (0, [.ref qi2, .ref qd2, .int (nI (n + nwK M1 M2))])), (qi2, xI cy (capR (n + nwK M1 M2) cap) f), (qd2, xI cy (capR (n + nwK M1 M2) cap) d), (q1, xI cy len1 gi), (q2, xI cy len2 gd)] := hD
          refine lv_iload hx hb dX0_take_198 (lv_at hl 4 rfl) ?_
          exact kret _ (qi2, qd2, f, d) _ _ _ _ _ _ dX0_take_200 ⟨rfl, BR_mrg hM1 hM2 hA1 hfi2 hfd2 hc1 hc3 ht0 ht1 ht2⟩ hP hD hS (Nat.le_of_eq (Nat.zero_add _)) (Nat.le_of_eq (Nat.zero_add _))
        · have ct := fun q => c_7 ((m1lt (by omega)).mpr q)
          obtain ⟨y, hy1, hy2, hy3, hy4⟩ := cb_top (P := (Sm M2)) (n := hi) (Nat.pos_of_ne_zero ct)
          have hyg : gi (cb (Sm M2) y) = nI y := hB.2 y (by omega) hy2
          have hyd : gd (cb (Sm M2) y) = M2 y := hBd y (by omega) hy2
          rcases Nat.eq_zero_or_pos (cb (Sm M1) hi) with hm | hm
          · obtain ⟨hz1, hz2, hz3, hz4, hz5, hz6⟩ := tk_y hy1 hy2 hy4 (cb0_none hm y)
            refine lv_aload_n hx hb dX0_take_55 rfl (lv_at hl 0 rfl) ?_
            refine va_get (D := D) (ci := 0) (v := .ref qi2) (C := RX0) (T := TX0) (N := 3) hx hb hts (by decide +kernel) hown hE.1 hP 0 rfl rfl 0 (by decide) (hts (.fieldLink RX0 11 "DistinctDale$Basket" "items" "[I") (by decide +kernel)) (fun _ h9 => h9) rfl dX0_take_56 ?_
            refine lv_iload hx hb dX0_take_59 (lv_at hl 5 rfl) ?_
            refine xcRi (va_runSN (As := [.ref qi2, .int (nI (cb (Sm M1) hi) - nI 1)]) (rest := []) ⟨hx, hb, hml, hown, hts⟩ (c_at l D cy t0 qi2 (capR (n + nwK M1 M2) cap) f (nI (cb (Sm M1) hi) - nI 1) (by omega)) ⟨va_cnB 2 hts ggX0_take_X4_at rfl rfl rfl (xN3 hE.2.1.1) (hts (.initialized RX4) (by decide +kernel)) (by decide +kernel) ⟨Nat.le_of_ble_eq_true rfl, Nat.le_of_ble_eq_true rfl⟩, (hts (.static yX4_at) (by decide +kernel)), trivial⟩ (xPr.give (wc := [(qi2, xI cy (capR (n + nwK M1 M2) cap) f)]) hE hS hP [1] rfl) rfl rfl hl.1 rfl (lv_room (Nat.le_of_ble_eq_true rfl)) dX0_take_61 ⟨(Nat.le_of_eq (by rw [Nat.zero_add]; rfl)), (Nat.le_of_eq (by rw [Nat.zero_add]; rfl))⟩) (fun r_8 hr_9 => ?_)
            obtain rfl : r_8 = -1 := by rw [hr_9, xat_mm0 hm]
            refine lv_istore (lv' := [(8, .int (-1)), (0, .ref h0), (1, .ref q1), (2, .ref q2), (3, .int (nI many)), (4, .int (nI (nwK M1 M2))), (5, .int (nI (cb (Sm M1) hi) - nI 1)), (6, .int (nI (cb (Sm M2) hi) - nI 1)), (7, .int (nI (cb (uS M1 M2) hi) - nI 1))]) hx hb dX0_take_64 hl (by decide) rfl (fun ls hl => ?_)
            refine lv_aload_n hx hb dX0_take_66 rfl (lv_at hl 2 rfl) ?_
            refine lv_iload hx hb dX0_take_67 (lv_at hl 7 rfl) ?_
            refine xcRi (va_runSN (As := [.ref q1, .int (nI (cb (Sm M2) hi) - nI 1)]) (rest := []) ⟨hx, hb, hml, hown, hts⟩ (c_at l D cy t0 q1 len1 gi (nI (cb (Sm M2) hi) - nI 1) (by omega)) ⟨va_cnB 2 hts ggX0_take_X4_at rfl rfl rfl (xN3 hE.2.1.1) (hts (.initialized RX4) (by decide +kernel)) (by decide +kernel) ⟨Nat.le_of_ble_eq_true rfl, Nat.le_of_ble_eq_true rfl⟩, (hts (.static yX4_at) (by decide +kernel)), trivial⟩ (xPr.give (wc := [(q1, xI cy len1 gi)]) hE hS hP [3] rfl) rfl rfl hl.1 rfl (lv_room (Nat.le_of_ble_eq_true rfl)) dX0_take_69 ⟨(Nat.le_of_eq (by rw [Nat.zero_add]; rfl)), (Nat.le_of_eq (by rw [Nat.zero_add]; rfl))⟩) (fun r_10 hr_11 => ?_)
            obtain rfl : r_10 = nI y := by rw [hr_11, xat_mm hy3 (by omega) (by omega), hyg]
            refine lv_istore (lv' := [(9, .int (nI y)), (8, .int (-1)), (0, .ref h0), (1, .ref q1), (2, .ref q2), (3, .int (nI many)), (4, .int (nI (nwK M1 M2))), (5, .int (nI (cb (Sm M1) hi) - nI 1)), (6, .int (nI (cb (Sm M2) hi) - nI 1)), (7, .int (nI (cb (uS M1 M2) hi) - nI 1))]) hx hb dX0_take_72 hl (by decide) rfl (fun ls hl => ?_)
            refine lv_iload hx hb dX0_take_74 (lv_at hl 1 rfl) ?_
            refine lv_iload hx hb dX0_take_76 (lv_at hl 0 rfl) ?_
            refine lv_icmp_lt (tgt := 93) hx hb dX0_take_78 (by decide) (fun c_12 => ?_) (fun c_12 => ?_)
            · refine lv_iconst (v := (-1)) hx hb dX0_take_93 (by decide) ?_
              refine lv_istore (lv' := [(10, .int (-1)), (9, .int (nI y)), (8, .int (-1)), (0, .ref h0), (1, .ref q1), (2, .ref q2), (3, .int (nI many)), (4, .int (nI (nwK M1 M2))), (5, .int (nI (cb (Sm M1) hi) - nI 1)), (6, .int (nI (cb (Sm M2) hi) - nI 1)), (7, .int (nI (cb (uS M1 M2) hi) - nI 1))]) hx hb dX0_take_94 hl (by decide) rfl (fun ls hl => ?_)
              refine lv_iload hx hb dX0_take_96 (lv_at hl 1 rfl) ?_
              refine lv_iload hx hb dX0_take_98 (lv_at hl 2 rfl) ?_
              refine lv_icmp_lt (tgt := 112) hx hb dX0_take_100 (by decide) (fun c_13 => ?_) (fun c_13 => ?_)
              · exact absurd c_13 (nlt_neg1 (by omega))
              · refine lv_aload_n hx hb dX0_take_103 rfl (lv_at hl 5 rfl) ?_
                refine lv_iload hx hb dX0_take_104 (lv_at hl 9 rfl) ?_
                refine xcRi (va_runSN (As := [.ref q2, .int (nI (cb (Sm M2) hi) - nI 1)]) (rest := []) ⟨hx, hb, hml, hown, hts⟩ (c_at l D cy t0 q2 len2 gd (nI (cb (Sm M2) hi) - nI 1) (by omega)) ⟨va_cnB 2 hts ggX0_take_X4_at rfl rfl rfl (xN3 hE.2.1.1) (hts (.initialized RX4) (by decide +kernel)) (by decide +kernel) ⟨Nat.le_of_ble_eq_true rfl, Nat.le_of_ble_eq_true rfl⟩, (hts (.static yX4_at) (by decide +kernel)), trivial⟩ (xPr.give (wc := [(q2, xI cy len2 gd)]) hE hS hP [4] rfl) rfl rfl hl.1 rfl (lv_room (Nat.le_of_ble_eq_true rfl)) dX0_take_106 ⟨(Nat.le_of_eq (by rw [Nat.zero_add]; rfl)), (Nat.le_of_eq (by rw [Nat.zero_add]; rfl))⟩) (fun r_14 hr_15 => ?_)
                obtain rfl : r_14 = M2 y := by rw [hr_15, xat_mm hy3 (by omega) (by omega), hyd]
                refine lv_goto (tgt := 113) hx hb dX0_take_109 (by decide) ?_
                refine lv_istore (lv' := [(11, .int (M2 y)), (10, .int (-1)), (9, .int (nI y)), (8, .int (-1)), (0, .ref h0), (1, .ref q1), (2, .ref q2), (3, .int (nI many)), (4, .int (nI (nwK M1 M2))), (5, .int (nI (cb (Sm M1) hi) - nI 1)), (6, .int (nI (cb (Sm M2) hi) - nI 1)), (7, .int (nI (cb (uS M1 M2) hi) - nI 1))]) hx hb dX0_take_113 hl (by decide) rfl (fun ls hl => ?_)
                refine lv_iload hx hb dX0_take_115 (lv_at hl 9 rfl) ?_
                refine lv_iload hx hb dX0_take_117 (lv_at hl 3 rfl) ?_
                refine lv_iload hx hb dX0_take_119 (lv_at hl 2 rfl) ?_
                refine lv_icmp_lt (tgt := 128) hx hb dX0_take_121 (by decide) (fun c_16 => ?_) (fun c_16 => ?_)
                · refine lv_iconst (v := nI 0) hx hb dX0_take_128 (by decide) ?_
                  refine lv_isub hx hb dX0_take_129 ?_
                  refine lv_eqi (z := nI (cb (Sm M1) y) - nI 1) (by rw [m1_s0, hz3]) ?_
                  refine lv_istore (lv' := [(5, .int (nI (cb (Sm M1) y) - nI 1)), (11, .int (M2 y)), (10, .int (-1)), (9, .int (nI y)), (8, .int (-1)), (0, .ref h0), (1, .ref q1), (2, .ref q2), (3, .int (nI many)), (4, .int (nI (nwK M1 M2))), (6, .int (nI (cb (Sm M2) hi) - nI 1)), (7, .int (nI (cb (uS M1 M2) hi) - nI 1))]) hx hb dX0_take_130 hl (by decide) rfl (fun ls hl => ?_)
                  refine lv_iload hx hb dX0_take_132 (lv_at hl 10 rfl) ?_
                  refine lv_iload hx hb dX0_take_134 (lv_at hl 3 rfl) ?_
                  refine lv_iload hx hb dX0_take_136 (lv_at hl 4 rfl) ?_
                  refine lv_icmp_lt (tgt := 145) hx hb dX0_take_138 (by decide) (fun c_17 => ?_) (fun c_17 => ?_)
                  · exact absurd c_17 (nlt_neg1 (by omega))
                  · refine lv_iconst (v := nI 1) hx hb dX0_take_141 (by decide) ?_
                    refine lv_goto (tgt := 146) hx hb dX0_take_142 (by decide) ?_
                    refine lv_isub hx hb dX0_take_146 ?_
                    refine lv_eqi (z := nI (cb (Sm M2) y) - nI 1) (m1_s1 hz4) ?_
                    refine lv_istore (lv' := [(6, .int (nI (cb (Sm M2) y) - nI 1)), (5, .int (nI (cb (Sm M1) y) - nI 1)), (11, .int (M2 y)), (10, .int (-1)), (9, .int (nI y)), (8, .int (-1)), (0, .ref h0), (1, .ref q1), (2, .ref q2), (3, .int (nI many)), (4, .int (nI (nwK M1 M2))), (7, .int (nI (cb (uS M1 M2) hi) - nI 1))]) hx hb dX0_take_147 hl (by decide) rfl (fun ls hl => ?_)
                    refine lv_aload_n hx hb dX0_take_149 rfl (lv_at hl 6 rfl) ?_
                    refine va_get (D := D) (ci := 0) (v := .ref qi2) (C := RX0) (T := TX0) (N := 3) hx hb hts (by decide +kernel) hown hE.1 hP 0 rfl rfl 0 (by decide) (hts (.fieldLink RX0 11 "DistinctDale$Basket" "items" "[I") (by decide +kernel)) (fun _ h9 => h9) rfl dX0_take_150 ?_
                    refine lv_iload hx hb dX0_take_153 (lv_at hl 11 rfl) ?_
                    refine lv_iload hx hb dX0_take_155 (lv_at hl 5 rfl) ?_
                    refine lv_iload hx hb dX0_take_157 (lv_at hl 4 rfl) ?_
                    refine va_mmax hx hb (hml.trans hl.1.symm) hown (hts (.methodLink RX0 33 Lib.Math.max.name) (by decide +kernel)) (hts (.static Lib.Math.max.name) (by decide +kernel)) (hts (.initialized "java/lang/Math") (by decide +kernel)) (hts (.code Lib.Math.max.name Lib.Math.max.code 2 (some .int)) (by decide +kernel)) (Nat.le_of_ble_eq_true rfl) (Nat.le_of_ble_eq_true rfl) (Nat.le_of_eq (Nat.zero_add _)) (Nat.le_of_eq (Nat.zero_add _)) dX0_take_159 ?_
                    refine lv_eqi (z := nI y) (ifneg1 (by omega)) ?_
                    refine xcWv (wr := [(h0, .inr (0, [.ref qi2, .ref qd2, .int (nI n)])), (qd2, xI cy (capR (n + nwK M1 M2) cap) d), (q1, xI cy len1 gi), (q2, xI cy len2 gd)]) (va_runSN (As := [.ref qi2, .int (nI (cb (uS M1 M2) hi) - nI 1), .int (nI y)]) (rest := []) ⟨hx, hb, hml, hown, hts⟩ ((c_put l D cy t0 qi2 (capR (n + nwK M1 M2) cap) f (nI (cb (uS M1 M2) hi) - nI 1) (nI y) (by omega)) H.size) ⟨va_cnB 3 hts ggX0_take_X4_put rfl rfl rfl (xN4 hE.2.1.1) (hts (.initialized RX4) (by decide +kernel)) (by decide +kernel) ⟨Nat.le_of_ble_eq_true rfl, Nat.le_of_ble_eq_true rfl⟩, (hts (.static yX4_put) (by decide +kernel)), trivial⟩ (xPw.give (wc := [(qi2, xI cy (capR (n + nwK M1 M2) cap) f)]) hE hS hA hP hD [1] (by decide) rfl) rfl rfl hl.1 rfl (lv_room (Nat.le_of_ble_eq_true rfl)) dX0_take_162 ⟨(Nat.le_of_eq (by rw [Nat.zero_add]; rfl)), (Nat.le_of_eq (by rw [Nat.zero_add]; rfl))⟩) hP hD hS hA [1] [0, 2, 3, 4] rfl rfl (by decide) (by decide) (fun u_20 H locs hr_19 hP hD hS => ?_)
                    obtain rfl : u_20 = upd f (cb (uS M1 M2) y) (nI y) := by rw [hr_19, xput_mm hz5 (by omega) (by omega)]
                    have hP := hP.sub (ws' := [(h0, .inr (0, [.ref qi2, .ref qd2, .int (nI n)])), (qi2, xI cy (capR (n + nwK M1 M2) cap) (upd f (cb (uS M1 M2) y) (nI y))), (qd2, xI cy (capR (n + nwK M1 M2) cap) d), (q1, xI cy len1 gi), (q2, xI cy len2 gd)]) [0, 4, 1, 2, 3] rfl
                    have hD := hD.sub (ws' := [(h0, .inr (0, [.ref qi2, .ref qd2, .int (nI n)])), (qi2, xI cy (capR (n + nwK M1 M2) cap) (upd f (cb (uS M1 M2) y) (nI y))), (qd2, xI cy (capR (n + nwK M1 M2) cap) d), (q1, xI cy len1 gi), (q2, xI cy len2 gd)]) [0, 4, 1, 2, 3] (by decide) rfl
                    refine lv_aload_n hx hb dX0_take_165 rfl (lv_at hl 6 rfl) ?_
                    refine va_get (D := D) (ci := 0) (v := .ref qd2) (C := RX0) (T := TX0) (N := 3) hx hb hts (by decide +kernel) hown hE.1 hP 0 rfl rfl 1 (by decide) (hts (.fieldLink RX0 15 "DistinctDale$Basket" "dates" "[I") (by decide +kernel)) (fun _ h9 => h9) rfl dX0_take_166 ?_
                    refine lv_iload hx hb dX0_take_169 (lv_at hl 11 rfl) ?_
                    refine lv_iload hx hb dX0_take_171 (lv_at hl 3 rfl) ?_
                    refine lv_iload hx hb dX0_take_173 (lv_at hl 2 rfl) ?_
                    refine va_mmax hx hb (hml.trans hl.1.symm) hown (hts (.methodLink RX0 33 Lib.Math.max.name) (by decide +kernel)) (hts (.static Lib.Math.max.name) (by decide +kernel)) (hts (.initialized "java/lang/Math") (by decide +kernel)) (hts (.code Lib.Math.max.name Lib.Math.max.code 2 (some .int)) (by decide +kernel)) (Nat.le_of_ble_eq_true rfl) (Nat.le_of_ble_eq_true rfl) (Nat.le_of_eq (Nat.zero_add _)) (Nat.le_of_eq (Nat.zero_add _)) dX0_take_175 ?_
                    refine lv_eqi (z := mrg M1 M2 y) (by show mrgI (-1) (M2 y) = mrgI (M1 y) (M2 y); rw [hz6]) ?_
                    refine xcWv (wr := [(h0, .inr (0, [.ref qi2, .ref qd2, .int (nI n)])), (qi2, xI cy (capR (n + nwK M1 M2) cap) (upd f (cb (uS M1 M2) y) (nI y))), (q1, xI cy len1 gi), (q2, xI cy len2 gd)]) (va_runSN (As := [.ref qd2, .int (nI (cb (uS M1 M2) hi) - nI 1), .int (mrg M1 M2 y)]) (rest := []) ⟨hx, hb, hml, hown, hts⟩ ((c_put l D cy t0 qd2 (capR (n + nwK M1 M2) cap) d (nI (cb (uS M1 M2) hi) - nI 1) (mrg M1 M2 y) (by omega)) H.size) ⟨va_cnB 3 hts ggX0_take_X4_put rfl rfl rfl (xN4 hE.2.1.1) (hts (.initialized RX4) (by decide +kernel)) (by decide +kernel) ⟨Nat.le_of_ble_eq_true rfl, Nat.le_of_ble_eq_true rfl⟩, (hts (.static yX4_put) (by decide +kernel)), trivial⟩ (xPw.give (wc := [(qd2, xI cy (capR (n + nwK M1 M2) cap) d)]) hE hS hA hP hD [2] (by decide) rfl) rfl rfl hl.1 rfl (lv_room (Nat.le_of_ble_eq_true rfl)) dX0_take_178 ⟨(Nat.le_of_eq (by rw [Nat.zero_add]; rfl)), (Nat.le_of_eq (by rw [Nat.zero_add]; rfl))⟩) hP hD hS hA [2] [0, 1, 3, 4] rfl rfl (by decide) (by decide) (fun u_23 H locs hr_22 hP hD hS => ?_)
                    obtain rfl : u_23 = upd d (cb (uS M1 M2) y) (mrg M1 M2 y) := by rw [hr_22, xput_mm hz5 (by omega) (by omega)]
                    have hP := hP.sub (ws' := [(h0, .inr (0, [.ref qi2, .ref qd2, .int (nI n)])), (qi2, xI cy (capR (n + nwK M1 M2) cap) (upd f (cb (uS M1 M2) y) (nI y))), (qd2, xI cy (capR (n + nwK M1 M2) cap) (upd d (cb (uS M1 M2) y) (mrg M1 M2 y))), (q1, xI cy len1 gi), (q2, xI cy len2 gd)]) [0, 1, 4, 2, 3] rfl
                    have hD := hD.sub (ws' := [(h0, .inr (0, [.ref qi2, .ref qd2, .int (nI n)])), (qi2, xI cy (capR (n + nwK M1 M2) cap) (upd f (cb (uS M1 M2) y) (nI y))), (qd2, xI cy (capR (n + nwK M1 M2) cap) (upd d (cb (uS M1 M2) y) (mrg M1 M2 y))), (q1, xI cy len1 gi), (q2, xI cy len2 gd)]) [0, 1, 4, 2, 3] (by decide) rfl
                    refine lv_iinc (v := nI (cb (uS M1 M2) y) - nI 1) (lv' := [(7, .int (nI (cb (uS M1 M2) y) - nI 1)), (6, .int (nI (cb (Sm M2) y) - nI 1)), (5, .int (nI (cb (Sm M1) y) - nI 1)), (11, .int (M2 y)), (10, .int (-1)), (9, .int (nI y)), (8, .int (-1)), (0, .ref h0), (1, .ref q1), (2, .ref q2), (3, .int (nI many)), (4, .int (nI (nwK M1 M2)))]) hx hb dX0_take_181 hl (k := 11) rfl (m1_inc hz5) (by decide) rfl (fun ls hl => ?_)
                    refine lv_goto (tgt := 45) hx hb dX0_take_184 (by decide) ?_
                    exact ih_lp y (upd f (cb (uS M1 M2) y) (nI y)) (upd d (cb (uS M1 M2) y) (mrg M1 M2 y)) (by omega) (ht1.step (by omega) hz1 hz2 hsub rfl) (ht2.step (by omega) hz1 hz2 hsub rfl) (by omega) _ _ hP hD hS _ (lv_sub hl [7, 8, 9, 10, 11, 2, 1, 0] rfl)
                · exact absurd (neg1lt (nI_pos' (by omega))) c_16
            · exact absurd (neg1lt (nI_pos' (by omega))) c_12
          · obtain ⟨x, hx1, hx2, hx3, hx4⟩ := cb_top (P := (Sm M1)) (n := hi) hm
            have hxf : f (cb (Sm M1) x) = nI x := by rw [ht1.1 _ (by omega)]; exact hfi2 x (by omega) hx2
            have hxd : d (cb (Sm M1) x) = M1 x := by rw [ht2.1 _ (by omega)]; exact hfd2 x (by omega) hx2
            rcases Nat.lt_trichotomy x y with hxy | hxy | hxy
            · obtain ⟨hz1, hz2, hz3, hz4, hz5, hz6⟩ := tk_y hy1 hy2 hy4 (fun w h1 h2 => hx4 w (by omega) h2)
              refine lv_aload_n hx hb dX0_take_55 rfl (lv_at hl 0 rfl) ?_
              refine va_get (D := D) (ci := 0) (v := .ref qi2) (C := RX0) (T := TX0) (N := 3) hx hb hts (by decide +kernel) hown hE.1 hP 0 rfl rfl 0 (by decide) (hts (.fieldLink RX0 11 "DistinctDale$Basket" "items" "[I") (by decide +kernel)) (fun _ h9 => h9) rfl dX0_take_56 ?_
              refine lv_iload hx hb dX0_take_59 (lv_at hl 5 rfl) ?_
              refine xcRi (va_runSN (As := [.ref qi2, .int (nI (cb (Sm M1) hi) - nI 1)]) (rest := []) ⟨hx, hb, hml, hown, hts⟩ (c_at l D cy t0 qi2 (capR (n + nwK M1 M2) cap) f (nI (cb (Sm M1) hi) - nI 1) (by omega)) ⟨va_cnB 2 hts ggX0_take_X4_at rfl rfl rfl (xN3 hE.2.1.1) (hts (.initialized RX4) (by decide +kernel)) (by decide +kernel) ⟨Nat.le_of_ble_eq_true rfl, Nat.le_of_ble_eq_true rfl⟩, (hts (.static yX4_at) (by decide +kernel)), trivial⟩ (xPr.give (wc := [(qi2, xI cy (capR (n + nwK M1 M2) cap) f)]) hE hS hP [1] rfl) rfl rfl hl.1 rfl (lv_room (Nat.le_of_ble_eq_true rfl)) dX0_take_61 ⟨(Nat.le_of_eq (by rw [Nat.zero_add]; rfl)), (Nat.le_of_eq (by rw [Nat.zero_add]; rfl))⟩) (fun r_24 hr_25 => ?_)
              obtain rfl : r_24 = nI x := by rw [hr_25, xat_mm hx3 (by omega) (by omega), hxf]
              refine lv_istore (lv' := [(8, .int (nI x)), (0, .ref h0), (1, .ref q1), (2, .ref q2), (3, .int (nI many)), (4, .int (nI (nwK M1 M2))), (5, .int (nI (cb (Sm M1) hi) - nI 1)), (6, .int (nI (cb (Sm M2) hi) - nI 1)), (7, .int (nI (cb (uS M1 M2) hi) - nI 1))]) hx hb dX0_take_64 hl (by decide) rfl (fun ls hl => ?_)
              refine lv_aload_n hx hb dX0_take_66 rfl (lv_at hl 2 rfl) ?_
              refine lv_iload hx hb dX0_take_67 (lv_at hl 7 rfl) ?_
              refine xcRi (va_runSN (As := [.ref q1, .int (nI (cb (Sm M2) hi) - nI 1)]) (rest := []) ⟨hx, hb, hml, hown, hts⟩ (c_at l D cy t0 q1 len1 gi (nI (cb (Sm M2) hi) - nI 1) (by omega)) ⟨va_cnB 2 hts ggX0_take_X4_at rfl rfl rfl (xN3 hE.2.1.1) (hts (.initialized RX4) (by decide +kernel)) (by decide +kernel) ⟨Nat.le_of_ble_eq_true rfl, Nat.le_of_ble_eq_true rfl⟩, (hts (.static yX4_at) (by decide +kernel)), trivial⟩ (xPr.give (wc := [(q1, xI cy len1 gi)]) hE hS hP [3] rfl) rfl rfl hl.1 rfl (lv_room (Nat.le_of_ble_eq_true rfl)) dX0_take_69 ⟨(Nat.le_of_eq (by rw [Nat.zero_add]; rfl)), (Nat.le_of_eq (by rw [Nat.zero_add]; rfl))⟩) (fun r_26 hr_27 => ?_)
              obtain rfl : r_26 = nI y := by rw [hr_27, xat_mm hy3 (by omega) (by omega), hyg]
              refine lv_istore (lv' := [(9, .int (nI y)), (8, .int (nI x)), (0, .ref h0), (1, .ref q1), (2, .ref q2), (3, .int (nI many)), (4, .int (nI (nwK M1 M2))), (5, .int (nI (cb (Sm M1) hi) - nI 1)), (6, .int (nI (cb (Sm M2) hi) - nI 1)), (7, .int (nI (cb (uS M1 M2) hi) - nI 1))]) hx hb dX0_take_72 hl (by decide) rfl (fun ls hl => ?_)
              refine lv_iload hx hb dX0_take_74 (lv_at hl 1 rfl) ?_
              refine lv_iload hx hb dX0_take_76 (lv_at hl 0 rfl) ?_
              refine xb_icmp_lt (tgt := 93) (a := x) (b := y) (by omega) (by omega) hx hb dX0_take_78 (by decide) (fun c_28 => ?_) (fun c_28 => ?_)
              · refine lv_iconst (v := (-1)) hx hb dX0_take_93 (by decide) ?_
                refine lv_istore (lv' := [(10, .int (-1)), (9, .int (nI y)), (8, .int (nI x)), (0, .ref h0), (1, .ref q1), (2, .ref q2), (3, .int (nI many)), (4, .int (nI (nwK M1 M2))), (5, .int (nI (cb (Sm M1) hi) - nI 1)), (6, .int (nI (cb (Sm M2) hi) - nI 1)), (7, .int (nI (cb (uS M1 M2) hi) - nI 1))]) hx hb dX0_take_94 hl (by decide) rfl (fun ls hl => ?_)
                refine lv_iload hx hb dX0_take_96 (lv_at hl 1 rfl) ?_
                refine lv_iload hx hb dX0_take_98 (lv_at hl 2 rfl) ?_
                refine xb_icmp_lt (tgt := 112) (a := y) (b := x) (by omega) (by omega) hx hb dX0_take_100 (by decide) (fun c_29 => ?_) (fun c_29 => ?_)
                · exact absurd c_29 (by omega)
                · refine lv_aload_n hx hb dX0_take_103 rfl (lv_at hl 5 rfl) ?_
                  refine lv_iload hx hb dX0_take_104 (lv_at hl 9 rfl) ?_
                  refine xcRi (va_runSN (As := [.ref q2, .int (nI (cb (Sm M2) hi) - nI 1)]) (rest := []) ⟨hx, hb, hml, hown, hts⟩ (c_at l D cy t0 q2 len2 gd (nI (cb (Sm M2) hi) - nI 1) (by omega)) ⟨va_cnB 2 hts ggX0_take_X4_at rfl rfl rfl (xN3 hE.2.1.1) (hts (.initialized RX4) (by decide +kernel)) (by decide +kernel) ⟨Nat.le_of_ble_eq_true rfl, Nat.le_of_ble_eq_true rfl⟩, (hts (.static yX4_at) (by decide +kernel)), trivial⟩ (xPr.give (wc := [(q2, xI cy len2 gd)]) hE hS hP [4] rfl) rfl rfl hl.1 rfl (lv_room (Nat.le_of_ble_eq_true rfl)) dX0_take_106 ⟨(Nat.le_of_eq (by rw [Nat.zero_add]; rfl)), (Nat.le_of_eq (by rw [Nat.zero_add]; rfl))⟩) (fun r_30 hr_31 => ?_)
                  obtain rfl : r_30 = M2 y := by rw [hr_31, xat_mm hy3 (by omega) (by omega), hyd]
                  refine lv_goto (tgt := 113) hx hb dX0_take_109 (by decide) ?_
                  refine lv_istore (lv' := [(11, .int (M2 y)), (10, .int (-1)), (9, .int (nI y)), (8, .int (nI x)), (0, .ref h0), (1, .ref q1), (2, .ref q2), (3, .int (nI many)), (4, .int (nI (nwK M1 M2))), (5, .int (nI (cb (Sm M1) hi) - nI 1)), (6, .int (nI (cb (Sm M2) hi) - nI 1)), (7, .int (nI (cb (uS M1 M2) hi) - nI 1))]) hx hb dX0_take_113 hl (by decide) rfl (fun ls hl => ?_)
                  refine lv_iload hx hb dX0_take_115 (lv_at hl 9 rfl) ?_
                  refine lv_iload hx hb dX0_take_117 (lv_at hl 3 rfl) ?_
                  refine lv_iload hx hb dX0_take_119 (lv_at hl 2 rfl) ?_
                  refine xb_icmp_lt (tgt := 128) (a := x) (b := y) (by omega) (by omega) hx hb dX0_take_121 (by decide) (fun c_32 => ?_) (fun c_32 => ?_)
                  · refine lv_iconst (v := nI 0) hx hb dX0_take_128 (by decide) ?_
                    refine lv_isub hx hb dX0_take_129 ?_
                    refine lv_eqi (z := nI (cb (Sm M1) y) - nI 1) (by rw [m1_s0, hz3]) ?_
                    refine lv_istore (lv' := [(5, .int (nI (cb (Sm M1) y) - nI 1)), (11, .int (M2 y)), (10, .int (-1)), (9, .int (nI y)), (8, .int (nI x)), (0, .ref h0), (1, .ref q1), (2, .ref q2), (3, .int (nI many)), (4, .int (nI (nwK M1 M2))), (6, .int (nI (cb (Sm M2) hi) - nI 1)), (7, .int (nI (cb (uS M1 M2) hi) - nI 1))]) hx hb dX0_take_130 hl (by decide) rfl (fun ls hl => ?_)
                    refine lv_iload hx hb dX0_take_132 (lv_at hl 10 rfl) ?_
                    refine lv_iload hx hb dX0_take_134 (lv_at hl 3 rfl) ?_
                    refine lv_iload hx hb dX0_take_136 (lv_at hl 4 rfl) ?_
                    refine xb_icmp_lt (tgt := 145) (a := y) (b := x) (by omega) (by omega) hx hb dX0_take_138 (by decide) (fun c_33 => ?_) (fun c_33 => ?_)
                    · exact absurd c_33 (by omega)
                    · refine lv_iconst (v := nI 1) hx hb dX0_take_141 (by decide) ?_
                      refine lv_goto (tgt := 146) hx hb dX0_take_142 (by decide) ?_
                      refine lv_isub hx hb dX0_take_146 ?_
                      refine lv_eqi (z := nI (cb (Sm M2) y) - nI 1) (m1_s1 hz4) ?_
                      refine lv_istore (lv' := [(6, .int (nI (cb (Sm M2) y) - nI 1)), (5, .int (nI (cb (Sm M1) y) - nI 1)), (11, .int (M2 y)), (10, .int (-1)), (9, .int (nI y)), (8, .int (nI x)), (0, .ref h0), (1, .ref q1), (2, .ref q2), (3, .int (nI many)), (4, .int (nI (nwK M1 M2))), (7, .int (nI (cb (uS M1 M2) hi) - nI 1))]) hx hb dX0_take_147 hl (by decide) rfl (fun ls hl => ?_)
                      refine lv_aload_n hx hb dX0_take_149 rfl (lv_at hl 6 rfl) ?_
                      refine va_get (D := D) (ci := 0) (v := .ref qi2) (C := RX0) (T := TX0) (N := 3) hx hb hts (by decide +kernel) hown hE.1 hP 0 rfl rfl 0 (by decide) (hts (.fieldLink RX0 11 "DistinctDale$Basket" "items" "[I") (by decide +kernel)) (fun _ h9 => h9) rfl dX0_take_150 ?_
                      refine lv_iload hx hb dX0_take_153 (lv_at hl 11 rfl) ?_
                      refine lv_iload hx hb dX0_take_155 (lv_at hl 5 rfl) ?_
                      refine lv_iload hx hb dX0_take_157 (lv_at hl 4 rfl) ?_
                      refine va_mmax hx hb (hml.trans hl.1.symm) hown (hts (.methodLink RX0 33 Lib.Math.max.name) (by decide +kernel)) (hts (.static Lib.Math.max.name) (by decide +kernel)) (hts (.initialized "java/lang/Math") (by decide +kernel)) (hts (.code Lib.Math.max.name Lib.Math.max.code 2 (some .int)) (by decide +kernel)) (Nat.le_of_ble_eq_true rfl) (Nat.le_of_ble_eq_true rfl) (Nat.le_of_eq (Nat.zero_add _)) (Nat.le_of_eq (Nat.zero_add _)) dX0_take_159 ?_
                      refine lv_eqi (z := nI y) ((xmax_nI (by omega) (by omega)).trans (congrArg nI (Nat.max_eq_right (by omega)))) ?_
                      refine xcWv (wr := [(h0, .inr (0, [.ref qi2, .ref qd2, .int (nI n)])), (qd2, xI cy (capR (n + nwK M1 M2) cap) d), (q1, xI cy len1 gi), (q2, xI cy len2 gd)]) (va_runSN (As := [.ref qi2, .int (nI (cb (uS M1 M2) hi) - nI 1), .int (nI y)]) (rest := []) ⟨hx, hb, hml, hown, hts⟩ ((c_put l D cy t0 qi2 (capR (n + nwK M1 M2) cap) f (nI (cb (uS M1 M2) hi) - nI 1) (nI y) (by omega)) H.size) ⟨va_cnB 3 hts ggX0_take_X4_put rfl rfl rfl (xN4 hE.2.1.1) (hts (.initialized RX4) (by decide +kernel)) (by decide +kernel) ⟨Nat.le_of_ble_eq_true rfl, Nat.le_of_ble_eq_true rfl⟩, (hts (.static yX4_put) (by decide +kernel)), trivial⟩ (xPw.give (wc := [(qi2, xI cy (capR (n + nwK M1 M2) cap) f)]) hE hS hA hP hD [1] (by decide) rfl) rfl rfl hl.1 rfl (lv_room (Nat.le_of_ble_eq_true rfl)) dX0_take_162 ⟨(Nat.le_of_eq (by rw [Nat.zero_add]; rfl)), (Nat.le_of_eq (by rw [Nat.zero_add]; rfl))⟩) hP hD hS hA [1] [0, 2, 3, 4] rfl rfl (by decide) (by decide) (fun u_36 H locs hr_35 hP hD hS => ?_)
                      obtain rfl : u_36 = upd f (cb (uS M1 M2) y) (nI y) := by rw [hr_35, xput_mm hz5 (by omega) (by omega)]
                      have hP := hP.sub (ws' := [(h0, .inr (0, [.ref qi2, .ref qd2, .int (nI n)])), (qi2, xI cy (capR (n + nwK M1 M2) cap) (upd f (cb (uS M1 M2) y) (nI y))), (qd2, xI cy (capR (n + nwK M1 M2) cap) d), (q1, xI cy len1 gi), (q2, xI cy len2 gd)]) [0, 4, 1, 2, 3] rfl
                      have hD := hD.sub (ws' := [(h0, .inr (0, [.ref qi2, .ref qd2, .int (nI n)])), (qi2, xI cy (capR (n + nwK M1 M2) cap) (upd f (cb (uS M1 M2) y) (nI y))), (qd2, xI cy (capR (n + nwK M1 M2) cap) d), (q1, xI cy len1 gi), (q2, xI cy len2 gd)]) [0, 4, 1, 2, 3] (by decide) rfl
                      refine lv_aload_n hx hb dX0_take_165 rfl (lv_at hl 6 rfl) ?_
                      refine va_get (D := D) (ci := 0) (v := .ref qd2) (C := RX0) (T := TX0) (N := 3) hx hb hts (by decide +kernel) hown hE.1 hP 0 rfl rfl 1 (by decide) (hts (.fieldLink RX0 15 "DistinctDale$Basket" "dates" "[I") (by decide +kernel)) (fun _ h9 => h9) rfl dX0_take_166 ?_
                      refine lv_iload hx hb dX0_take_169 (lv_at hl 11 rfl) ?_
                      refine lv_iload hx hb dX0_take_171 (lv_at hl 3 rfl) ?_
                      refine lv_iload hx hb dX0_take_173 (lv_at hl 2 rfl) ?_
                      refine va_mmax hx hb (hml.trans hl.1.symm) hown (hts (.methodLink RX0 33 Lib.Math.max.name) (by decide +kernel)) (hts (.static Lib.Math.max.name) (by decide +kernel)) (hts (.initialized "java/lang/Math") (by decide +kernel)) (hts (.code Lib.Math.max.name Lib.Math.max.code 2 (some .int)) (by decide +kernel)) (Nat.le_of_ble_eq_true rfl) (Nat.le_of_ble_eq_true rfl) (Nat.le_of_eq (Nat.zero_add _)) (Nat.le_of_eq (Nat.zero_add _)) dX0_take_175 ?_
                      refine lv_eqi (z := mrg M1 M2 y) (by show mrgI (-1) (M2 y) = mrgI (M1 y) (M2 y); rw [hz6]) ?_
                      refine xcWv (wr := [(h0, .inr (0, [.ref qi2, .ref qd2, .int (nI n)])), (qi2, xI cy (capR (n + nwK M1 M2) cap) (upd f (cb (uS M1 M2) y) (nI y))), (q1, xI cy len1 gi), (q2, xI cy len2 gd)]) (va_runSN (As := [.ref qd2, .int (nI (cb (uS M1 M2) hi) - nI 1), .int (mrg M1 M2 y)]) (rest := []) ⟨hx, hb, hml, hown, hts⟩ ((c_put l D cy t0 qd2 (capR (n + nwK M1 M2) cap) d (nI (cb (uS M1 M2) hi) - nI 1) (mrg M1 M2 y) (by omega)) H.size) ⟨va_cnB 3 hts ggX0_take_X4_put rfl rfl rfl (xN4 hE.2.1.1) (hts (.initialized RX4) (by decide +kernel)) (by decide +kernel) ⟨Nat.le_of_ble_eq_true rfl, Nat.le_of_ble_eq_true rfl⟩, (hts (.static yX4_put) (by decide +kernel)), trivial⟩ (xPw.give (wc := [(qd2, xI cy (capR (n + nwK M1 M2) cap) d)]) hE hS hA hP hD [2] (by decide) rfl) rfl rfl hl.1 rfl (lv_room (Nat.le_of_ble_eq_true rfl)) dX0_take_178 ⟨(Nat.le_of_eq (by rw [Nat.zero_add]; rfl)), (Nat.le_of_eq (by rw [Nat.zero_add]; rfl))⟩) hP hD hS hA [2] [0, 1, 3, 4] rfl rfl (by decide) (by decide) (fun u_39 H locs hr_38 hP hD hS => ?_)
                      obtain rfl : u_39 = upd d (cb (uS M1 M2) y) (mrg M1 M2 y) := by rw [hr_38, xput_mm hz5 (by omega) (by omega)]
                      have hP := hP.sub (ws' := [(h0, .inr (0, [.ref qi2, .ref qd2, .int (nI n)])), (qi2, xI cy (capR (n + nwK M1 M2) cap) (upd f (cb (uS M1 M2) y) (nI y))), (qd2, xI cy (capR (n + nwK M1 M2) cap) (upd d (cb (uS M1 M2) y) (mrg M1 M2 y))), (q1, xI cy len1 gi), (q2, xI cy len2 gd)]) [0, 1, 4, 2, 3] rfl
                      have hD := hD.sub (ws' := [(h0, .inr (0, [.ref qi2, .ref qd2, .int (nI n)])), (qi2, xI cy (capR (n + nwK M1 M2) cap) (upd f (cb (uS M1 M2) y) (nI y))), (qd2, xI cy (capR (n + nwK M1 M2) cap) (upd d (cb (uS M1 M2) y) (mrg M1 M2 y))), (q1, xI cy len1 gi), (q2, xI cy len2 gd)]) [0, 1, 4, 2, 3] (by decide) rfl
                      refine lv_iinc (v := nI (cb (uS M1 M2) y) - nI 1) (lv' := [(7, .int (nI (cb (uS M1 M2) y) - nI 1)), (6, .int (nI (cb (Sm M2) y) - nI 1)), (5, .int (nI (cb (Sm M1) y) - nI 1)), (11, .int (M2 y)), (10, .int (-1)), (9, .int (nI y)), (8, .int (nI x)), (0, .ref h0), (1, .ref q1), (2, .ref q2), (3, .int (nI many)), (4, .int (nI (nwK M1 M2)))]) hx hb dX0_take_181 hl (k := 11) rfl (m1_inc hz5) (by decide) rfl (fun ls hl => ?_)
                      refine lv_goto (tgt := 45) hx hb dX0_take_184 (by decide) ?_
                      exact ih_lp y (upd f (cb (uS M1 M2) y) (nI y)) (upd d (cb (uS M1 M2) y) (mrg M1 M2 y)) (by omega) (ht1.step (by omega) hz1 hz2 hsub rfl) (ht2.step (by omega) hz1 hz2 hsub rfl) (by omega) _ _ hP hD hS _ (lv_sub hl [7, 8, 9, 10, 11, 2, 1, 0] rfl)
                  · exact absurd c_32 (by omega)
              · exact absurd c_28 (by omega)
            · obtain ⟨hz1, hz2, hz3, hz4, hz5⟩ := tk_e hy1 (by rw [← hxy]; exact hx2) (fun w h1 h2 => hx4 w (by omega) h2) hy2 hy4
              refine lv_aload_n hx hb dX0_take_55 rfl (lv_at hl 0 rfl) ?_
              refine va_get (D := D) (ci := 0) (v := .ref qi2) (C := RX0) (T := TX0) (N := 3) hx hb hts (by decide +kernel) hown hE.1 hP 0 rfl rfl 0 (by decide) (hts (.fieldLink RX0 11 "DistinctDale$Basket" "items" "[I") (by decide +kernel)) (fun _ h9 => h9) rfl dX0_take_56 ?_
              refine lv_iload hx hb dX0_take_59 (lv_at hl 5 rfl) ?_
              refine xcRi (va_runSN (As := [.ref qi2, .int (nI (cb (Sm M1) hi) - nI 1)]) (rest := []) ⟨hx, hb, hml, hown, hts⟩ (c_at l D cy t0 qi2 (capR (n + nwK M1 M2) cap) f (nI (cb (Sm M1) hi) - nI 1) (by omega)) ⟨va_cnB 2 hts ggX0_take_X4_at rfl rfl rfl (xN3 hE.2.1.1) (hts (.initialized RX4) (by decide +kernel)) (by decide +kernel) ⟨Nat.le_of_ble_eq_true rfl, Nat.le_of_ble_eq_true rfl⟩, (hts (.static yX4_at) (by decide +kernel)), trivial⟩ (xPr.give (wc := [(qi2, xI cy (capR (n + nwK M1 M2) cap) f)]) hE hS hP [1] rfl) rfl rfl hl.1 rfl (lv_room (Nat.le_of_ble_eq_true rfl)) dX0_take_61 ⟨(Nat.le_of_eq (by rw [Nat.zero_add]; rfl)), (Nat.le_of_eq (by rw [Nat.zero_add]; rfl))⟩) (fun r_40 hr_41 => ?_)
              obtain rfl : r_40 = nI y := by rw [hr_41, xat_mm hx3 (by omega) (by omega), hxf, hxy]
              refine lv_istore (lv' := [(8, .int (nI y)), (0, .ref h0), (1, .ref q1), (2, .ref q2), (3, .int (nI many)), (4, .int (nI (nwK M1 M2))), (5, .int (nI (cb (Sm M1) hi) - nI 1)), (6, .int (nI (cb (Sm M2) hi) - nI 1)), (7, .int (nI (cb (uS M1 M2) hi) - nI 1))]) hx hb dX0_take_64 hl (by decide) rfl (fun ls hl => ?_)
              refine lv_aload_n hx hb dX0_take_66 rfl (lv_at hl 2 rfl) ?_
              refine lv_iload hx hb dX0_take_67 (lv_at hl 7 rfl) ?_
              refine xcRi (va_runSN (As := [.ref q1, .int (nI (cb (Sm M2) hi) - nI 1)]) (rest := []) ⟨hx, hb, hml, hown, hts⟩ (c_at l D cy t0 q1 len1 gi (nI (cb (Sm M2) hi) - nI 1) (by omega)) ⟨va_cnB 2 hts ggX0_take_X4_at rfl rfl rfl (xN3 hE.2.1.1) (hts (.initialized RX4) (by decide +kernel)) (by decide +kernel) ⟨Nat.le_of_ble_eq_true rfl, Nat.le_of_ble_eq_true rfl⟩, (hts (.static yX4_at) (by decide +kernel)), trivial⟩ (xPr.give (wc := [(q1, xI cy len1 gi)]) hE hS hP [3] rfl) rfl rfl hl.1 rfl (lv_room (Nat.le_of_ble_eq_true rfl)) dX0_take_69 ⟨(Nat.le_of_eq (by rw [Nat.zero_add]; rfl)), (Nat.le_of_eq (by rw [Nat.zero_add]; rfl))⟩) (fun r_42 hr_43 => ?_)
              obtain rfl : r_42 = nI y := by rw [hr_43, xat_mm hy3 (by omega) (by omega), hyg]
              refine lv_istore (lv' := [(9, .int (nI y)), (8, .int (nI y)), (0, .ref h0), (1, .ref q1), (2, .ref q2), (3, .int (nI many)), (4, .int (nI (nwK M1 M2))), (5, .int (nI (cb (Sm M1) hi) - nI 1)), (6, .int (nI (cb (Sm M2) hi) - nI 1)), (7, .int (nI (cb (uS M1 M2) hi) - nI 1))]) hx hb dX0_take_72 hl (by decide) rfl (fun ls hl => ?_)
              refine lv_iload hx hb dX0_take_74 (lv_at hl 1 rfl) ?_
              refine lv_iload hx hb dX0_take_76 (lv_at hl 0 rfl) ?_
              refine xb_icmp_lt (tgt := 93) (a := y) (b := y) (by omega) (by omega) hx hb dX0_take_78 (by decide) (fun c_44 => ?_) (fun c_44 => ?_)
              · exact absurd c_44 (by omega)
              · refine lv_aload_n hx hb dX0_take_81 rfl (lv_at hl 2 rfl) ?_
                refine va_get (D := D) (ci := 0) (v := .ref qd2) (C := RX0) (T := TX0) (N := 3) hx hb hts (by decide +kernel) hown hE.1 hP 0 rfl rfl 1 (by decide) (hts (.fieldLink RX0 15 "DistinctDale$Basket" "dates" "[I") (by decide +kernel)) (fun _ h9 => h9) rfl dX0_take_82 ?_
                refine lv_iload hx hb dX0_take_85 (lv_at hl 7 rfl) ?_
                refine xcRi (va_runSN (As := [.ref qd2, .int (nI (cb (Sm M1) hi) - nI 1)]) (rest := []) ⟨hx, hb, hml, hown, hts⟩ (c_at l D cy t0 qd2 (capR (n + nwK M1 M2) cap) d (nI (cb (Sm M1) hi) - nI 1) (by omega)) ⟨va_cnB 2 hts ggX0_take_X4_at rfl rfl rfl (xN3 hE.2.1.1) (hts (.initialized RX4) (by decide +kernel)) (by decide +kernel) ⟨Nat.le_of_ble_eq_true rfl, Nat.le_of_ble_eq_true rfl⟩, (hts (.static yX4_at) (by decide +kernel)), trivial⟩ (xPr.give (wc := [(qd2, xI cy (capR (n + nwK M1 M2) cap) d)]) hE hS hP [2] rfl) rfl rfl hl.1 rfl (lv_room (Nat.le_of_ble_eq_true rfl)) dX0_take_87 ⟨(Nat.le_of_eq (by rw [Nat.zero_add]; rfl)), (Nat.le_of_eq (by rw [Nat.zero_add]; rfl))⟩) (fun r_45 hr_46 => ?_)
                obtain rfl : r_45 = M1 y := by rw [hr_46, xat_mm hx3 (by omega) (by omega), hxd, hxy]
                refine lv_goto (tgt := 94) hx hb dX0_take_90 (by decide) ?_
                refine lv_istore (lv' := [(10, .int (M1 y)), (9, .int (nI y)), (8, .int (nI y)), (0, .ref h0), (1, .ref q1), (2, .ref q2), (3, .int (nI many)), (4, .int (nI (nwK M1 M2))), (5, .int (nI (cb (Sm M1) hi) - nI 1)), (6, .int (nI (cb (Sm M2) hi) - nI 1)), (7, .int (nI (cb (uS M1 M2) hi) - nI 1))]) hx hb dX0_take_94 hl (by decide) rfl (fun ls hl => ?_)
                refine lv_iload hx hb dX0_take_96 (lv_at hl 1 rfl) ?_
                refine lv_iload hx hb dX0_take_98 (lv_at hl 2 rfl) ?_
                refine xb_icmp_lt (tgt := 112) (a := y) (b := y) (by omega) (by omega) hx hb dX0_take_100 (by decide) (fun c_47 => ?_) (fun c_47 => ?_)
                · exact absurd c_47 (by omega)
                · refine lv_aload_n hx hb dX0_take_103 rfl (lv_at hl 5 rfl) ?_
                  refine lv_iload hx hb dX0_take_104 (lv_at hl 9 rfl) ?_
                  refine xcRi (va_runSN (As := [.ref q2, .int (nI (cb (Sm M2) hi) - nI 1)]) (rest := []) ⟨hx, hb, hml, hown, hts⟩ (c_at l D cy t0 q2 len2 gd (nI (cb (Sm M2) hi) - nI 1) (by omega)) ⟨va_cnB 2 hts ggX0_take_X4_at rfl rfl rfl (xN3 hE.2.1.1) (hts (.initialized RX4) (by decide +kernel)) (by decide +kernel) ⟨Nat.le_of_ble_eq_true rfl, Nat.le_of_ble_eq_true rfl⟩, (hts (.static yX4_at) (by decide +kernel)), trivial⟩ (xPr.give (wc := [(q2, xI cy len2 gd)]) hE hS hP [4] rfl) rfl rfl hl.1 rfl (lv_room (Nat.le_of_ble_eq_true rfl)) dX0_take_106 ⟨(Nat.le_of_eq (by rw [Nat.zero_add]; rfl)), (Nat.le_of_eq (by rw [Nat.zero_add]; rfl))⟩) (fun r_48 hr_49 => ?_)
                  obtain rfl : r_48 = M2 y := by rw [hr_49, xat_mm hy3 (by omega) (by omega), hyd]
                  refine lv_goto (tgt := 113) hx hb dX0_take_109 (by decide) ?_
                  refine lv_istore (lv' := [(11, .int (M2 y)), (10, .int (M1 y)), (9, .int (nI y)), (8, .int (nI y)), (0, .ref h0), (1, .ref q1), (2, .ref q2), (3, .int (nI many)), (4, .int (nI (nwK M1 M2))), (5, .int (nI (cb (Sm M1) hi) - nI 1)), (6, .int (nI (cb (Sm M2) hi) - nI 1)), (7, .int (nI (cb (uS M1 M2) hi) - nI 1))]) hx hb dX0_take_113 hl (by decide) rfl (fun ls hl => ?_)
                  refine lv_iload hx hb dX0_take_115 (lv_at hl 9 rfl) ?_
                  refine lv_iload hx hb dX0_take_117 (lv_at hl 3 rfl) ?_
                  refine lv_iload hx hb dX0_take_119 (lv_at hl 2 rfl) ?_
                  refine xb_icmp_lt (tgt := 128) (a := y) (b := y) (by omega) (by omega) hx hb dX0_take_121 (by decide) (fun c_50 => ?_) (fun c_50 => ?_)
                  · exact absurd c_50 (by omega)
                  · refine lv_iconst (v := nI 1) hx hb dX0_take_124 (by decide) ?_
                    refine lv_goto (tgt := 129) hx hb dX0_take_125 (by decide) ?_
                    refine lv_isub hx hb dX0_take_129 ?_
                    refine lv_eqi (z := nI (cb (Sm M1) y) - nI 1) (m1_s1 hz3) ?_
                    refine lv_istore (lv' := [(5, .int (nI (cb (Sm M1) y) - nI 1)), (11, .int (M2 y)), (10, .int (M1 y)), (9, .int (nI y)), (8, .int (nI y)), (0, .ref h0), (1, .ref q1), (2, .ref q2), (3, .int (nI many)), (4, .int (nI (nwK M1 M2))), (6, .int (nI (cb (Sm M2) hi) - nI 1)), (7, .int (nI (cb (uS M1 M2) hi) - nI 1))]) hx hb dX0_take_130 hl (by decide) rfl (fun ls hl => ?_)
                    refine lv_iload hx hb dX0_take_132 (lv_at hl 10 rfl) ?_
                    refine lv_iload hx hb dX0_take_134 (lv_at hl 3 rfl) ?_
                    refine lv_iload hx hb dX0_take_136 (lv_at hl 4 rfl) ?_
                    refine xb_icmp_lt (tgt := 145) (a := y) (b := y) (by omega) (by omega) hx hb dX0_take_138 (by decide) (fun c_51 => ?_) (fun c_51 => ?_)
                    · exact absurd c_51 (by omega)
                    · refine lv_iconst (v := nI 1) hx hb dX0_take_141 (by decide) ?_
                      refine lv_goto (tgt := 146) hx hb dX0_take_142 (by decide) ?_
                      refine lv_isub hx hb dX0_take_146 ?_
                      refine lv_eqi (z := nI (cb (Sm M2) y) - nI 1) (m1_s1 hz4) ?_
                      refine lv_istore (lv' := [(6, .int (nI (cb (Sm M2) y) - nI 1)), (5, .int (nI (cb (Sm M1) y) - nI 1)), (11, .int (M2 y)), (10, .int (M1 y)), (9, .int (nI y)), (8, .int (nI y)), (0, .ref h0), (1, .ref q1), (2, .ref q2), (3, .int (nI many)), (4, .int (nI (nwK M1 M2))), (7, .int (nI (cb (uS M1 M2) hi) - nI 1))]) hx hb dX0_take_147 hl (by decide) rfl (fun ls hl => ?_)
                      refine lv_aload_n hx hb dX0_take_149 rfl (lv_at hl 6 rfl) ?_
                      refine va_get (D := D) (ci := 0) (v := .ref qi2) (C := RX0) (T := TX0) (N := 3) hx hb hts (by decide +kernel) hown hE.1 hP 0 rfl rfl 0 (by decide) (hts (.fieldLink RX0 11 "DistinctDale$Basket" "items" "[I") (by decide +kernel)) (fun _ h9 => h9) rfl dX0_take_150 ?_
                      refine lv_iload hx hb dX0_take_153 (lv_at hl 11 rfl) ?_
                      refine lv_iload hx hb dX0_take_155 (lv_at hl 5 rfl) ?_
                      refine lv_iload hx hb dX0_take_157 (lv_at hl 4 rfl) ?_
                      refine va_mmax hx hb (hml.trans hl.1.symm) hown (hts (.methodLink RX0 33 Lib.Math.max.name) (by decide +kernel)) (hts (.static Lib.Math.max.name) (by decide +kernel)) (hts (.initialized "java/lang/Math") (by decide +kernel)) (hts (.code Lib.Math.max.name Lib.Math.max.code 2 (some .int)) (by decide +kernel)) (Nat.le_of_ble_eq_true rfl) (Nat.le_of_ble_eq_true rfl) (Nat.le_of_eq (Nat.zero_add _)) (Nat.le_of_eq (Nat.zero_add _)) dX0_take_159 ?_
                      refine lv_eqi (z := nI y) ((xmax_nI (by omega) (by omega)).trans (congrArg nI (Nat.max_self _))) ?_
                      refine xcWv (wr := [(h0, .inr (0, [.ref qi2, .ref qd2, .int (nI n)])), (qd2, xI cy (capR (n + nwK M1 M2) cap) d), (q1, xI cy len1 gi), (q2, xI cy len2 gd)]) (va_runSN (As := [.ref qi2, .int (nI (cb (uS M1 M2) hi) - nI 1), .int (nI y)]) (rest := []) ⟨hx, hb, hml, hown, hts⟩ ((c_put l D cy t0 qi2 (capR (n + nwK M1 M2) cap) f (nI (cb (uS M1 M2) hi) - nI 1) (nI y) (by omega)) H.size) ⟨va_cnB 3 hts ggX0_take_X4_put rfl rfl rfl (xN4 hE.2.1.1) (hts (.initialized RX4) (by decide +kernel)) (by decide +kernel) ⟨Nat.le_of_ble_eq_true rfl, Nat.le_of_ble_eq_true rfl⟩, (hts (.static yX4_put) (by decide +kernel)), trivial⟩ (xPw.give (wc := [(qi2, xI cy (capR (n + nwK M1 M2) cap) f)]) hE hS hA hP hD [1] (by decide) rfl) rfl rfl hl.1 rfl (lv_room (Nat.le_of_ble_eq_true rfl)) dX0_take_162 ⟨(Nat.le_of_eq (by rw [Nat.zero_add]; rfl)), (Nat.le_of_eq (by rw [Nat.zero_add]; rfl))⟩) hP hD hS hA [1] [0, 2, 3, 4] rfl rfl (by decide) (by decide) (fun u_54 H locs hr_53 hP hD hS => ?_)
                      obtain rfl : u_54 = upd f (cb (uS M1 M2) y) (nI y) := by rw [hr_53, xput_mm hz5 (by omega) (by omega)]
                      have hP := hP.sub (ws' := [(h0, .inr (0, [.ref qi2, .ref qd2, .int (nI n)])), (qi2, xI cy (capR (n + nwK M1 M2) cap) (upd f (cb (uS M1 M2) y) (nI y))), (qd2, xI cy (capR (n + nwK M1 M2) cap) d), (q1, xI cy len1 gi), (q2, xI cy len2 gd)]) [0, 4, 1, 2, 3] rfl
                      have hD := hD.sub (ws' := [(h0, .inr (0, [.ref qi2, .ref qd2, .int (nI n)])), (qi2, xI cy (capR (n + nwK M1 M2) cap) (upd f (cb (uS M1 M2) y) (nI y))), (qd2, xI cy (capR (n + nwK M1 M2) cap) d), (q1, xI cy len1 gi), (q2, xI cy len2 gd)]) [0, 4, 1, 2, 3] (by decide) rfl
                      refine lv_aload_n hx hb dX0_take_165 rfl (lv_at hl 6 rfl) ?_
                      refine va_get (D := D) (ci := 0) (v := .ref qd2) (C := RX0) (T := TX0) (N := 3) hx hb hts (by decide +kernel) hown hE.1 hP 0 rfl rfl 1 (by decide) (hts (.fieldLink RX0 15 "DistinctDale$Basket" "dates" "[I") (by decide +kernel)) (fun _ h9 => h9) rfl dX0_take_166 ?_
                      refine lv_iload hx hb dX0_take_169 (lv_at hl 11 rfl) ?_
                      refine lv_iload hx hb dX0_take_171 (lv_at hl 3 rfl) ?_
                      refine lv_iload hx hb dX0_take_173 (lv_at hl 2 rfl) ?_
                      refine va_mmax hx hb (hml.trans hl.1.symm) hown (hts (.methodLink RX0 33 Lib.Math.max.name) (by decide +kernel)) (hts (.static Lib.Math.max.name) (by decide +kernel)) (hts (.initialized "java/lang/Math") (by decide +kernel)) (hts (.code Lib.Math.max.name Lib.Math.max.code 2 (some .int)) (by decide +kernel)) (Nat.le_of_ble_eq_true rfl) (Nat.le_of_ble_eq_true rfl) (Nat.le_of_eq (Nat.zero_add _)) (Nat.le_of_eq (Nat.zero_add _)) dX0_take_175 ?_
                      refine lv_eqi (z := mrg M1 M2 y) rfl ?_
                      refine xcWv (wr := [(h0, .inr (0, [.ref qi2, .ref qd2, .int (nI n)])), (qi2, xI cy (capR (n + nwK M1 M2) cap) (upd f (cb (uS M1 M2) y) (nI y))), (q1, xI cy len1 gi), (q2, xI cy len2 gd)]) (va_runSN (As := [.ref qd2, .int (nI (cb (uS M1 M2) hi) - nI 1), .int (mrg M1 M2 y)]) (rest := []) ⟨hx, hb, hml, hown, hts⟩ ((c_put l D cy t0 qd2 (capR (n + nwK M1 M2) cap) d (nI (cb (uS M1 M2) hi) - nI 1) (mrg M1 M2 y) (by omega)) H.size) ⟨va_cnB 3 hts ggX0_take_X4_put rfl rfl rfl (xN4 hE.2.1.1) (hts (.initialized RX4) (by decide +kernel)) (by decide +kernel) ⟨Nat.le_of_ble_eq_true rfl, Nat.le_of_ble_eq_true rfl⟩, (hts (.static yX4_put) (by decide +kernel)), trivial⟩ (xPw.give (wc := [(qd2, xI cy (capR (n + nwK M1 M2) cap) d)]) hE hS hA hP hD [2] (by decide) rfl) rfl rfl hl.1 rfl (lv_room (Nat.le_of_ble_eq_true rfl)) dX0_take_178 ⟨(Nat.le_of_eq (by rw [Nat.zero_add]; rfl)), (Nat.le_of_eq (by rw [Nat.zero_add]; rfl))⟩) hP hD hS hA [2] [0, 1, 3, 4] rfl rfl (by decide) (by decide) (fun u_57 H locs hr_56 hP hD hS => ?_)
                      obtain rfl : u_57 = upd d (cb (uS M1 M2) y) (mrg M1 M2 y) := by rw [hr_56, xput_mm hz5 (by omega) (by omega)]
                      have hP := hP.sub (ws' := [(h0, .inr (0, [.ref qi2, .ref qd2, .int (nI n)])), (qi2, xI cy (capR (n + nwK M1 M2) cap) (upd f (cb (uS M1 M2) y) (nI y))), (qd2, xI cy (capR (n + nwK M1 M2) cap) (upd d (cb (uS M1 M2) y) (mrg M1 M2 y))), (q1, xI cy len1 gi), (q2, xI cy len2 gd)]) [0, 1, 4, 2, 3] rfl
                      have hD := hD.sub (ws' := [(h0, .inr (0, [.ref qi2, .ref qd2, .int (nI n)])), (qi2, xI cy (capR (n + nwK M1 M2) cap) (upd f (cb (uS M1 M2) y) (nI y))), (qd2, xI cy (capR (n + nwK M1 M2) cap) (upd d (cb (uS M1 M2) y) (mrg M1 M2 y))), (q1, xI cy len1 gi), (q2, xI cy len2 gd)]) [0, 1, 4, 2, 3] (by decide) rfl
                      refine lv_iinc (v := nI (cb (uS M1 M2) y) - nI 1) (lv' := [(7, .int (nI (cb (uS M1 M2) y) - nI 1)), (6, .int (nI (cb (Sm M2) y) - nI 1)), (5, .int (nI (cb (Sm M1) y) - nI 1)), (11, .int (M2 y)), (10, .int (M1 y)), (9, .int (nI y)), (8, .int (nI y)), (0, .ref h0), (1, .ref q1), (2, .ref q2), (3, .int (nI many)), (4, .int (nI (nwK M1 M2)))]) hx hb dX0_take_181 hl (k := 11) rfl (m1_inc hz5) (by decide) rfl (fun ls hl => ?_)
                      refine lv_goto (tgt := 45) hx hb dX0_take_184 (by decide) ?_
                      exact ih_lp y (upd f (cb (uS M1 M2) y) (nI y)) (upd d (cb (uS M1 M2) y) (mrg M1 M2 y)) (by omega) (ht1.step (by omega) hz1 hz2 hsub rfl) (ht2.step (by omega) hz1 hz2 hsub rfl) (by omega) _ _ hP hD hS _ (lv_sub hl [7, 8, 9, 10, 11, 2, 1, 0] rfl)
            · obtain ⟨hz1, hz2, hz3, hz4, hz5, hz6⟩ := tk_x hx1 hx2 hx4 (fun w h1 h2 => hy4 w (by omega) h2)
              refine lv_aload_n hx hb dX0_take_55 rfl (lv_at hl 0 rfl) ?_
              refine va_get (D := D) (ci := 0) (v := .ref qi2) (C := RX0) (T := TX0) (N := 3) hx hb hts (by decide +kernel) hown hE.1 hP 0 rfl rfl 0 (by decide) (hts (.fieldLink RX0 11 "DistinctDale$Basket" "items" "[I") (by decide +kernel)) (fun _ h9 => h9) rfl dX0_take_56 ?_
              refine lv_iload hx hb dX0_take_59 (lv_at hl 5 rfl) ?_
              refine xcRi (va_runSN (As := [.ref qi2, .int (nI (cb (Sm M1) hi) - nI 1)]) (rest := []) ⟨hx, hb, hml, hown, hts⟩ (c_at l D cy t0 qi2 (capR (n + nwK M1 M2) cap) f (nI (cb (Sm M1) hi) - nI 1) (by omega)) ⟨va_cnB 2 hts ggX0_take_X4_at rfl rfl rfl (xN3 hE.2.1.1) (hts (.initialized RX4) (by decide +kernel)) (by decide +kernel) ⟨Nat.le_of_ble_eq_true rfl, Nat.le_of_ble_eq_true rfl⟩, (hts (.static yX4_at) (by decide +kernel)), trivial⟩ (xPr.give (wc := [(qi2, xI cy (capR (n + nwK M1 M2) cap) f)]) hE hS hP [1] rfl) rfl rfl hl.1 rfl (lv_room (Nat.le_of_ble_eq_true rfl)) dX0_take_61 ⟨(Nat.le_of_eq (by rw [Nat.zero_add]; rfl)), (Nat.le_of_eq (by rw [Nat.zero_add]; rfl))⟩) (fun r_58 hr_59 => ?_)
              obtain rfl : r_58 = nI x := by rw [hr_59, xat_mm hx3 (by omega) (by omega), hxf]
              refine lv_istore (lv' := [(8, .int (nI x)), (0, .ref h0), (1, .ref q1), (2, .ref q2), (3, .int (nI many)), (4, .int (nI (nwK M1 M2))), (5, .int (nI (cb (Sm M1) hi) - nI 1)), (6, .int (nI (cb (Sm M2) hi) - nI 1)), (7, .int (nI (cb (uS M1 M2) hi) - nI 1))]) hx hb dX0_take_64 hl (by decide) rfl (fun ls hl => ?_)
              refine lv_aload_n hx hb dX0_take_66 rfl (lv_at hl 2 rfl) ?_
              refine lv_iload hx hb dX0_take_67 (lv_at hl 7 rfl) ?_
              refine xcRi (va_runSN (As := [.ref q1, .int (nI (cb (Sm M2) hi) - nI 1)]) (rest := []) ⟨hx, hb, hml, hown, hts⟩ (c_at l D cy t0 q1 len1 gi (nI (cb (Sm M2) hi) - nI 1) (by omega)) ⟨va_cnB 2 hts ggX0_take_X4_at rfl rfl rfl (xN3 hE.2.1.1) (hts (.initialized RX4) (by decide +kernel)) (by decide +kernel) ⟨Nat.le_of_ble_eq_true rfl, Nat.le_of_ble_eq_true rfl⟩, (hts (.static yX4_at) (by decide +kernel)), trivial⟩ (xPr.give (wc := [(q1, xI cy len1 gi)]) hE hS hP [3] rfl) rfl rfl hl.1 rfl (lv_room (Nat.le_of_ble_eq_true rfl)) dX0_take_69 ⟨(Nat.le_of_eq (by rw [Nat.zero_add]; rfl)), (Nat.le_of_eq (by rw [Nat.zero_add]; rfl))⟩) (fun r_60 hr_61 => ?_)
              obtain rfl : r_60 = nI y := by rw [hr_61, xat_mm hy3 (by omega) (by omega), hyg]
              refine lv_istore (lv' := [(9, .int (nI y)), (8, .int (nI x)), (0, .ref h0), (1, .ref q1), (2, .ref q2), (3, .int (nI many)), (4, .int (nI (nwK M1 M2))), (5, .int (nI (cb (Sm M1) hi) - nI 1)), (6, .int (nI (cb (Sm M2) hi) - nI 1)), (7, .int (nI (cb (uS M1 M2) hi) - nI 1))]) hx hb dX0_take_72 hl (by decide) rfl (fun ls hl => ?_)
              refine lv_iload hx hb dX0_take_74 (lv_at hl 1 rfl) ?_
              refine lv_iload hx hb dX0_take_76 (lv_at hl 0 rfl) ?_
              refine xb_icmp_lt (tgt := 93) (a := x) (b := y) (by omega) (by omega) hx hb dX0_take_78 (by decide) (fun c_62 => ?_) (fun c_62 => ?_)
              · exact absurd c_62 (by omega)
              · refine lv_aload_n hx hb dX0_take_81 rfl (lv_at hl 2 rfl) ?_
                refine va_get (D := D) (ci := 0) (v := .ref qd2) (C := RX0) (T := TX0) (N := 3) hx hb hts (by decide +kernel) hown hE.1 hP 0 rfl rfl 1 (by decide) (hts (.fieldLink RX0 15 "DistinctDale$Basket" "dates" "[I") (by decide +kernel)) (fun _ h9 => h9) rfl dX0_take_82 ?_
                refine lv_iload hx hb dX0_take_85 (lv_at hl 7 rfl) ?_
                refine xcRi (va_runSN (As := [.ref qd2, .int (nI (cb (Sm M1) hi) - nI 1)]) (rest := []) ⟨hx, hb, hml, hown, hts⟩ (c_at l D cy t0 qd2 (capR (n + nwK M1 M2) cap) d (nI (cb (Sm M1) hi) - nI 1) (by omega)) ⟨va_cnB 2 hts ggX0_take_X4_at rfl rfl rfl (xN3 hE.2.1.1) (hts (.initialized RX4) (by decide +kernel)) (by decide +kernel) ⟨Nat.le_of_ble_eq_true rfl, Nat.le_of_ble_eq_true rfl⟩, (hts (.static yX4_at) (by decide +kernel)), trivial⟩ (xPr.give (wc := [(qd2, xI cy (capR (n + nwK M1 M2) cap) d)]) hE hS hP [2] rfl) rfl rfl hl.1 rfl (lv_room (Nat.le_of_ble_eq_true rfl)) dX0_take_87 ⟨(Nat.le_of_eq (by rw [Nat.zero_add]; rfl)), (Nat.le_of_eq (by rw [Nat.zero_add]; rfl))⟩) (fun r_63 hr_64 => ?_)
                obtain rfl : r_63 = M1 x := by rw [hr_64, xat_mm hx3 (by omega) (by omega), hxd]
                refine lv_goto (tgt := 94) hx hb dX0_take_90 (by decide) ?_
                refine lv_istore (lv' := [(10, .int (M1 x)), (9, .int (nI y)), (8, .int (nI x)), (0, .ref h0), (1, .ref q1), (2, .ref q2), (3, .int (nI many)), (4, .int (nI (nwK M1 M2))), (5, .int (nI (cb (Sm M1) hi) - nI 1)), (6, .int (nI (cb (Sm M2) hi) - nI 1)), (7, .int (nI (cb (uS M1 M2) hi) - nI 1))]) hx hb dX0_take_94 hl (by decide) rfl (fun ls hl => ?_)
                refine lv_iload hx hb dX0_take_96 (lv_at hl 1 rfl) ?_
                refine lv_iload hx hb dX0_take_98 (lv_at hl 2 rfl) ?_
                refine xb_icmp_lt (tgt := 112) (a := y) (b := x) (by omega) (by omega) hx hb dX0_take_100 (by decide) (fun c_65 => ?_) (fun c_65 => ?_)
                · refine lv_iconst (v := (-1)) hx hb dX0_take_112 (by decide) ?_
                  refine lv_istore (lv' := [(11, .int (-1)), (10, .int (M1 x)), (9, .int (nI y)), (8, .int (nI x)), (0, .ref h0), (1, .ref q1), (2, .ref q2), (3, .int (nI many)), (4, .int (nI (nwK M1 M2))), (5, .int (nI (cb (Sm M1) hi) - nI 1)), (6, .int (nI (cb (Sm M2) hi) - nI 1)), (7, .int (nI (cb (uS M1 M2) hi) - nI 1))]) hx hb dX0_take_113 hl (by decide) rfl (fun ls hl => ?_)
                  refine lv_iload hx hb dX0_take_115 (lv_at hl 9 rfl) ?_
                  refine lv_iload hx hb dX0_take_117 (lv_at hl 3 rfl) ?_
                  refine lv_iload hx hb dX0_take_119 (lv_at hl 2 rfl) ?_
                  refine xb_icmp_lt (tgt := 128) (a := x) (b := y) (by omega) (by omega) hx hb dX0_take_121 (by decide) (fun c_66 => ?_) (fun c_66 => ?_)
                  · exact absurd c_66 (by omega)
                  · refine lv_iconst (v := nI 1) hx hb dX0_take_124 (by decide) ?_
                    refine lv_goto (tgt := 129) hx hb dX0_take_125 (by decide) ?_
                    refine lv_isub hx hb dX0_take_129 ?_
                    refine lv_eqi (z := nI (cb (Sm M1) x) - nI 1) (m1_s1 hz3) ?_
                    refine lv_istore (lv' := [(5, .int (nI (cb (Sm M1) x) - nI 1)), (11, .int (-1)), (10, .int (M1 x)), (9, .int (nI y)), (8, .int (nI x)), (0, .ref h0), (1, .ref q1), (2, .ref q2), (3, .int (nI many)), (4, .int (nI (nwK M1 M2))), (6, .int (nI (cb (Sm M2) hi) - nI 1)), (7, .int (nI (cb (uS M1 M2) hi) - nI 1))]) hx hb dX0_take_130 hl (by decide) rfl (fun ls hl => ?_)
                    refine lv_iload hx hb dX0_take_132 (lv_at hl 10 rfl) ?_
                    refine lv_iload hx hb dX0_take_134 (lv_at hl 3 rfl) ?_
                    refine lv_iload hx hb dX0_take_136 (lv_at hl 4 rfl) ?_
                    refine xb_icmp_lt (tgt := 145) (a := y) (b := x) (by omega) (by omega) hx hb dX0_take_138 (by decide) (fun c_67 => ?_) (fun c_67 => ?_)
                    · refine lv_iconst (v := nI 0) hx hb dX0_take_145 (by decide) ?_
                      refine lv_isub hx hb dX0_take_146 ?_
                      refine lv_eqi (z := nI (cb (Sm M2) x) - nI 1) (by rw [m1_s0, hz4]) ?_
                      refine lv_istore (lv' := [(6, .int (nI (cb (Sm M2) x) - nI 1)), (5, .int (nI (cb (Sm M1) x) - nI 1)), (11, .int (-1)), (10, .int (M1 x)), (9, .int (nI y)), (8, .int (nI x)), (0, .ref h0), (1, .ref q1), (2, .ref q2), (3, .int (nI many)), (4, .int (nI (nwK M1 M2))), (7, .int (nI (cb (uS M1 M2) hi) - nI 1))]) hx hb dX0_take_147 hl (by decide) rfl (fun ls hl => ?_)
                      refine lv_aload_n hx hb dX0_take_149 rfl (lv_at hl 6 rfl) ?_
                      refine va_get (D := D) (ci := 0) (v := .ref qi2) (C := RX0) (T := TX0) (N := 3) hx hb hts (by decide +kernel) hown hE.1 hP 0 rfl rfl 0 (by decide) (hts (.fieldLink RX0 11 "DistinctDale$Basket" "items" "[I") (by decide +kernel)) (fun _ h9 => h9) rfl dX0_take_150 ?_
                      refine lv_iload hx hb dX0_take_153 (lv_at hl 11 rfl) ?_
                      refine lv_iload hx hb dX0_take_155 (lv_at hl 5 rfl) ?_
                      refine lv_iload hx hb dX0_take_157 (lv_at hl 4 rfl) ?_
                      refine va_mmax hx hb (hml.trans hl.1.symm) hown (hts (.methodLink RX0 33 Lib.Math.max.name) (by decide +kernel)) (hts (.static Lib.Math.max.name) (by decide +kernel)) (hts (.initialized "java/lang/Math") (by decide +kernel)) (hts (.code Lib.Math.max.name Lib.Math.max.code 2 (some .int)) (by decide +kernel)) (Nat.le_of_ble_eq_true rfl) (Nat.le_of_ble_eq_true rfl) (Nat.le_of_eq (Nat.zero_add _)) (Nat.le_of_eq (Nat.zero_add _)) dX0_take_159 ?_
                      refine lv_eqi (z := nI x) ((xmax_nI (by omega) (by omega)).trans (congrArg nI (Nat.max_eq_left (by omega)))) ?_
                      refine xcWv (wr := [(h0, .inr (0, [.ref qi2, .ref qd2, .int (nI n)])), (qd2, xI cy (capR (n + nwK M1 M2) cap) d), (q1, xI cy len1 gi), (q2, xI cy len2 gd)]) (va_runSN (As := [.ref qi2, .int (nI (cb (uS M1 M2) hi) - nI 1), .int (nI x)]) (rest := []) ⟨hx, hb, hml, hown, hts⟩ ((c_put l D cy t0 qi2 (capR (n + nwK M1 M2) cap) f (nI (cb (uS M1 M2) hi) - nI 1) (nI x) (by omega)) H.size) ⟨va_cnB 3 hts ggX0_take_X4_put rfl rfl rfl (xN4 hE.2.1.1) (hts (.initialized RX4) (by decide +kernel)) (by decide +kernel) ⟨Nat.le_of_ble_eq_true rfl, Nat.le_of_ble_eq_true rfl⟩, (hts (.static yX4_put) (by decide +kernel)), trivial⟩ (xPw.give (wc := [(qi2, xI cy (capR (n + nwK M1 M2) cap) f)]) hE hS hA hP hD [1] (by decide) rfl) rfl rfl hl.1 rfl (lv_room (Nat.le_of_ble_eq_true rfl)) dX0_take_162 ⟨(Nat.le_of_eq (by rw [Nat.zero_add]; rfl)), (Nat.le_of_eq (by rw [Nat.zero_add]; rfl))⟩) hP hD hS hA [1] [0, 2, 3, 4] rfl rfl (by decide) (by decide) (fun u_70 H locs hr_69 hP hD hS => ?_)
                      obtain rfl : u_70 = upd f (cb (uS M1 M2) x) (nI x) := by rw [hr_69, xput_mm hz5 (by omega) (by omega)]
                      have hP := hP.sub (ws' := [(h0, .inr (0, [.ref qi2, .ref qd2, .int (nI n)])), (qi2, xI cy (capR (n + nwK M1 M2) cap) (upd f (cb (uS M1 M2) x) (nI x))), (qd2, xI cy (capR (n + nwK M1 M2) cap) d), (q1, xI cy len1 gi), (q2, xI cy len2 gd)]) [0, 4, 1, 2, 3] rfl
                      have hD := hD.sub (ws' := [(h0, .inr (0, [.ref qi2, .ref qd2, .int (nI n)])), (qi2, xI cy (capR (n + nwK M1 M2) cap) (upd f (cb (uS M1 M2) x) (nI x))), (qd2, xI cy (capR (n + nwK M1 M2) cap) d), (q1, xI cy len1 gi), (q2, xI cy len2 gd)]) [0, 4, 1, 2, 3] (by decide) rfl
                      refine lv_aload_n hx hb dX0_take_165 rfl (lv_at hl 6 rfl) ?_
                      refine va_get (D := D) (ci := 0) (v := .ref qd2) (C := RX0) (T := TX0) (N := 3) hx hb hts (by decide +kernel) hown hE.1 hP 0 rfl rfl 1 (by decide) (hts (.fieldLink RX0 15 "DistinctDale$Basket" "dates" "[I") (by decide +kernel)) (fun _ h9 => h9) rfl dX0_take_166 ?_
                      refine lv_iload hx hb dX0_take_169 (lv_at hl 11 rfl) ?_
                      refine lv_iload hx hb dX0_take_171 (lv_at hl 3 rfl) ?_
                      refine lv_iload hx hb dX0_take_173 (lv_at hl 2 rfl) ?_
                      refine va_mmax hx hb (hml.trans hl.1.symm) hown (hts (.methodLink RX0 33 Lib.Math.max.name) (by decide +kernel)) (hts (.static Lib.Math.max.name) (by decide +kernel)) (hts (.initialized "java/lang/Math") (by decide +kernel)) (hts (.code Lib.Math.max.name Lib.Math.max.code 2 (some .int)) (by decide +kernel)) (Nat.le_of_ble_eq_true rfl) (Nat.le_of_ble_eq_true rfl) (Nat.le_of_eq (Nat.zero_add _)) (Nat.le_of_eq (Nat.zero_add _)) dX0_take_175 ?_
                      refine lv_eqi (z := mrg M1 M2 x) (by show mrgI (M1 x) (-1) = mrgI (M1 x) (M2 x); rw [hz6]) ?_
                      refine xcWv (wr := [(h0, .inr (0, [.ref qi2, .ref qd2, .int (nI n)])), (qi2, xI cy (capR (n + nwK M1 M2) cap) (upd f (cb (uS M1 M2) x) (nI x))), (q1, xI cy len1 gi), (q2, xI cy len2 gd)]) (va_runSN (As := [.ref qd2, .int (nI (cb (uS M1 M2) hi) - nI 1), .int (mrg M1 M2 x)]) (rest := []) ⟨hx, hb, hml, hown, hts⟩ ((c_put l D cy t0 qd2 (capR (n + nwK M1 M2) cap) d (nI (cb (uS M1 M2) hi) - nI 1) (mrg M1 M2 x) (by omega)) H.size) ⟨va_cnB 3 hts ggX0_take_X4_put rfl rfl rfl (xN4 hE.2.1.1) (hts (.initialized RX4) (by decide +kernel)) (by decide +kernel) ⟨Nat.le_of_ble_eq_true rfl, Nat.le_of_ble_eq_true rfl⟩, (hts (.static yX4_put) (by decide +kernel)), trivial⟩ (xPw.give (wc := [(qd2, xI cy (capR (n + nwK M1 M2) cap) d)]) hE hS hA hP hD [2] (by decide) rfl) rfl rfl hl.1 rfl (lv_room (Nat.le_of_ble_eq_true rfl)) dX0_take_178 ⟨(Nat.le_of_eq (by rw [Nat.zero_add]; rfl)), (Nat.le_of_eq (by rw [Nat.zero_add]; rfl))⟩) hP hD hS hA [2] [0, 1, 3, 4] rfl rfl (by decide) (by decide) (fun u_73 H locs hr_72 hP hD hS => ?_)
                      obtain rfl : u_73 = upd d (cb (uS M1 M2) x) (mrg M1 M2 x) := by rw [hr_72, xput_mm hz5 (by omega) (by omega)]
                      have hP := hP.sub (ws' := [(h0, .inr (0, [.ref qi2, .ref qd2, .int (nI n)])), (qi2, xI cy (capR (n + nwK M1 M2) cap) (upd f (cb (uS M1 M2) x) (nI x))), (qd2, xI cy (capR (n + nwK M1 M2) cap) (upd d (cb (uS M1 M2) x) (mrg M1 M2 x))), (q1, xI cy len1 gi), (q2, xI cy len2 gd)]) [0, 1, 4, 2, 3] rfl
                      have hD := hD.sub (ws' := [(h0, .inr (0, [.ref qi2, .ref qd2, .int (nI n)])), (qi2, xI cy (capR (n + nwK M1 M2) cap) (upd f (cb (uS M1 M2) x) (nI x))), (qd2, xI cy (capR (n + nwK M1 M2) cap) (upd d (cb (uS M1 M2) x) (mrg M1 M2 x))), (q1, xI cy len1 gi), (q2, xI cy len2 gd)]) [0, 1, 4, 2, 3] (by decide) rfl
                      refine lv_iinc (v := nI (cb (uS M1 M2) x) - nI 1) (lv' := [(7, .int (nI (cb (uS M1 M2) x) - nI 1)), (6, .int (nI (cb (Sm M2) x) - nI 1)), (5, .int (nI (cb (Sm M1) x) - nI 1)), (11, .int (-1)), (10, .int (M1 x)), (9, .int (nI y)), (8, .int (nI x)), (0, .ref h0), (1, .ref q1), (2, .ref q2), (3, .int (nI many)), (4, .int (nI (nwK M1 M2)))]) hx hb dX0_take_181 hl (k := 11) rfl (m1_inc hz5) (by decide) rfl (fun ls hl => ?_)
                      refine lv_goto (tgt := 45) hx hb dX0_take_184 (by decide) ?_
                      exact ih_lp x (upd f (cb (uS M1 M2) x) (nI x)) (upd d (cb (uS M1 M2) x) (mrg M1 M2 x)) (by omega) (ht1.step (by omega) hz1 hz2 hsub rfl) (ht2.step (by omega) hz1 hz2 hsub rfl) (by omega) _ _ hP hD hS _ (lv_sub hl [7, 8, 9, 10, 11, 2, 1, 0] rfl)
                    · exact absurd c_67 (by omega)
                · exact absurd c_65 (by omega)
  exact lp (100000 + 1) 100000 fi2 fd2 (Nat.le_refl _) TI0 TI0 (by have := cb_le (P := (uS M1 M2)) (n := 100000); omega) _ _ hP hD hS _ (lv_sub hl [4, 5, 6, 7, 3, 2, 1, 0] rfl)
end XTAKE
end
section
section XLH
/-! least hashes: the least k of a set of hashes, rising -/
def insS (Hs : Nat → Bool) (h : Nat) : Nat → Bool := fun x => Hs x || decide (x = h)
def kS (k : Nat) (Hs : Nat → Bool) : Nat → Bool := fun x => Hs x && decide (cb Hs x < k)
def orS (A B : Nat → Bool) : Nat → Bool := fun x => A x || B x
def LH (k : Nat) (Hs : Nat → Bool) (z : Nat) (g : Nat → Int32) : Prop := z = min k (cb Hs 16777213) ∧ ∀ h, h < 16777213 → Hs h = true → cb Hs h < k → g (cb Hs h) = nI h
theorem LH.at {k z : Nat} {Hs : Nat → Bool} {g : Nat → Int32} (h : LH k Hs z g) {j : Nat} (hj : j < z) : ∃ t, t < 16777213 ∧ Hs t = true ∧ cb Hs t = j ∧ g j = nI t := by
  have h1 := h.1
  obtain ⟨t, a, b, c⟩ := cb_at (P := Hs) (n := 16777213) (j := j) (by omega)
  exact ⟨t, a, b, c, by rw [← c]; exact h.2 t a b (by omega)⟩
theorem LH.congr {k z : Nat} {Hs Hs' : Nat → Bool} {g : Nat → Int32} (h : LH k Hs z g) (e : ∀ x, Hs' x = Hs x) : LH k Hs' z g := by
  have : Hs' = Hs := funext e
  rw [this]; exact h
theorem insS_in {Hs : Nat → Bool} {h : Nat} (hh : Hs h = true) (x : Nat) : insS Hs h x = Hs x := by
  unfold insS
  by_cases e : x = h
  · subst e; simp [hh]
  · simp [e]
theorem insS_ne {Hs : Nat → Bool} {h x : Nat} (hx : x ≠ h) : insS Hs h x = Hs x := by simp [insS, hx]
theorem insS_lo {Hs : Nat → Bool} {h a : Nat} (ha : a ≤ h) : cb (insS Hs h) a = cb Hs a := cb_congr (fun x hx => insS_ne (by omega))
theorem insS_hi {Hs : Nat → Bool} {h a : Nat} (hh : Hs h = false) (ha : h < a) : cb (insS Hs h) a = cb Hs a + 1 := cb_ins (a := h) ha hh (by simp [insS]) (fun x hx => by simp [insS, hx])
theorem LH0 {k : Nat} {g : Nat → Int32} {Hs : Nat → Bool} (h : ∀ x, Hs x = false) : LH k Hs 0 g := ⟨by rw [cb_zero (fun x _ => h x)]; omega, fun x _ h1 _ => by rw [h x] at h1; cases h1⟩
theorem LH.skip {k z h t : Nat} {Hs : Nat → Bool} {g : Nat → Int32} (hl : LH k Hs z g) (hz : k ≤ z) (ht : t < 16777213) (hh : h < 16777213) (ht2 : Hs t = true) (ht3 : cb Hs t + 1 = z) (hth : t ≤ h) : LH k (insS Hs h) z g := by
  have h1 := hl.1
  cases hb : Hs h with
  | true => exact hl.congr (insS_in hb)
  | false =>
    have hlt : t < h := by
      rcases Nat.lt_or_ge t h with q | q
      · exact q
      · have : t = h := by omega
        rw [this, hb] at ht2; cases ht2
    have e1 := insS_hi (a := 16777213) hb hh
    refine ⟨by omega, fun x hx hx2 hx3 => ?_⟩
    have hxt : x ≤ t := by
      rcases Nat.lt_or_ge t x with q | q
      · have e2 : cb (insS Hs h) (t + 1) = cb Hs (t + 1) := insS_lo (by omega)
        have e3 : cb (insS Hs h) (t + 1) ≤ cb (insS Hs h) x := cb_mono (by omega)
        rw [e2, cb_t ht2] at e3
        omega
      · exact q
    have e4 : cb (insS Hs h) x = cb Hs x := insS_lo (by omega)
    have e5 : Hs x = true := by
      have : x ≠ h := by omega
      simpa [insS, this] using hx2
    rw [e4] at hx3 ⊢
    exact hl.2 x hx e5 hx3
theorem LH.ins {k z h z' : Nat} {Hs : Nat → Bool} {g g' : Nat → Int32} (hl : LH k Hs z g) (hh : h < 16777213) (hb : Hs h = false) (hz : z' = min k (z + 1)) (h1 : ∀ j, j < cb Hs h → g' j = g j) (h2 : g' (cb Hs h) = nI h) (h3 : ∀ j, cb Hs h < j → j < z' → g' j = g (j - 1)) : LH k (insS Hs h) z' g' := by
  have e0 := hl.1
  have e1 := insS_hi (a := 16777213) hb hh
  refine ⟨by omega, fun x hx hx2 hx3 => ?_⟩
  rcases Nat.lt_trichotomy x h with q | q | q
  · have e4 : cb (insS Hs h) x = cb Hs x := insS_lo (by omega)
    have e5 : Hs x = true := by
      have : x ≠ h := by omega
      simpa [insS, this] using hx2
    rw [e4] at hx3 ⊢
    rw [h1 _ (cb_lt q e5)]
    exact hl.2 x hx e5 hx3
  · subst q
    rw [insS_lo (Nat.le_refl _)]
    exact h2
  · have e4 : cb (insS Hs h) x = cb Hs x + 1 := insS_hi hb q
    have e5 : Hs x = true := by
      have : x ≠ h := by omega
      simpa [insS, this] using hx2
    have e6 : cb Hs h ≤ cb Hs x := cb_mono (by omega)
    have e7 := cb_lt hx e5
    rw [e4] at hx3 ⊢
    rw [h3 _ (by omega) (by omega), Nat.add_sub_cancel]
    exact hl.2 x hx e5 (by omega)
/-- the hashes of those with P below n -/
def hs (P : Nat → Bool) : Nat → Nat → Bool
  | 0, _ => false
  | n + 1, h => hs P n h || (P n && decide (h = hsh n))
theorem hs_none {P : Nat → Bool} {a b : Nat} (h : a ≤ b) (hn : ∀ y, a ≤ y → y < b → P y = false) (x : Nat) : hs P b x = hs P a x := by
  induction b with
  | zero => rw [Nat.le_zero.mp h]
  | succ b ih =>
    rcases Nat.lt_or_ge a (b + 1) with q | q
    · simp only [hs]
      rw [ih (by omega) (fun y h1 h2 => hn y h1 (by omega)), hn b (by omega) (by omega)]
      simp
    · rw [show a = b + 1 by omega]
theorem hs_step {P : Nat → Bool} {a x : Nat} (h : a ≤ x) (hn : ∀ y, a ≤ y → y < x → P y = false) (hx : P x = true) (y : Nat) : hs P (x + 1) y = insS (hs P a) (hsh x) y := by
  simp only [hs, insS]
  rw [hs_none h hn, hx, Bool.true_and]
theorem hs_iff {P : Nat → Bool} {n h : Nat} : hs P n h = true ↔ ∃ x, x < n ∧ P x = true ∧ hsh x = h := by
  induction n with
  | zero => simp [hs]
  | succ n ih =>
    simp only [hs, Bool.or_eq_true, Bool.and_eq_true, decide_eq_true_eq, ih]
    constructor
    · rintro (⟨x, h1, h2, h3⟩ | ⟨h1, h2⟩)
      · exact ⟨x, by omega, h2, h3⟩
      · exact ⟨n, by omega, h1, h2.symm⟩
    · rintro ⟨x, h1, h2, h3⟩
      rcases Nat.lt_or_ge x n with q | q
      · exact Or.inl ⟨x, q, h2, h3⟩
      · have : x = n := by omega
        subst this
        exact Or.inr ⟨h2, h3.symm⟩
/-- the one at place j -/
def nthB (P : Nat → Bool) (j : Nat) : Nat → Nat
  | 0 => 0
  | n + 1 => if P n = true ∧ cb P n = j then n else nthB P j n
theorem nthB_eq {P : Nat → Bool} {j n t : Nat} (h1 : t < n) (h2 : P t = true) (h3 : cb P t = j) : nthB P j n = t := by
  induction n with
  | zero => omega
  | succ n ih =>
    simp only [nthB]
    split
    · rename_i q
      exact cb_inj q.1 h2 (q.2.trans h3.symm)
    · rename_i q
      rcases Nat.lt_or_ge t n with r | r
      · exact ih r
      · exact absurd ⟨by rw [show n = t by omega]; exact h2, by rw [show n = t by omega]; exact h3⟩ q
/-- the estimate from the least k -/
def estV (k : Nat) (Hs : Nat → Bool) : Nat := if cb Hs 16777213 < k then cb Hs 16777213 else (k - 1) * 16777213 / nthB Hs (k - 1) 16777213
theorem estV_lo {k : Nat} {Hs : Nat → Bool} (h : cb Hs 16777213 < k) : estV k Hs = cb Hs 16777213 := if_pos h
theorem estV_hi {k t : Nat} {Hs : Nat → Bool} (h : ¬ cb Hs 16777213 < k) (h1 : t < 16777213) (h2 : Hs t = true) (h3 : cb Hs t = k - 1) : estV k Hs = (k - 1) * 16777213 / t := by
  unfold estV
  rw [if_neg h, nthB_eq h1 h2 h3]
theorem estV_le {k : Nat} {Hs : Nat → Bool} (hk : k ≤ 32) : estV k Hs < 2 ^ 30 := by
  unfold estV
  split
  · omega
  · refine Nat.lt_of_le_of_lt (Nat.div_le_self _ _) ?_
    have : (k - 1) * 16777213 ≤ 31 * 16777213 := Nat.mul_le_mul (by omega) (Nat.le_refl _)
    omega
/-- a part of the estimate -/
def partV (k : Nat) (Hs : Nat → Bool) (c : Nat) : Nat := estV k Hs * c / min k (cb Hs 16777213)
/-- how many of the least k of Hs have T -/
def cntV (k : Nat) (Hs T : Nat → Bool) : Nat := cb (fun h => kS k Hs h && T h) 16777213
theorem kS_sub {k : Nat} {Hs : Nat → Bool} {x : Nat} (h : kS k Hs x = true) : Hs x = true := by simp [kS] at h; exact h.1
theorem kS_t {k : Nat} {Hs : Nat → Bool} {x : Nat} : kS k Hs x = true ↔ Hs x = true ∧ cb Hs x < k := by simp [kS]
/-- how many of the first j have T -/
theorem dec1 {p : Nat} (h : 0 < p) : nI p + (-1) = nI (p - 1) := by
  obtain ⟨q, rfl⟩ : ∃ q, p = q + 1 := ⟨p - 1, by omega⟩
  rw [pk_m1, Nat.add_sub_cancel]
theorem kS_cb {k : Nat} {Hs : Nat → Bool} {a : Nat} (h : cb Hs a ≤ k) : cb (kS k Hs) a = cb Hs a := by
  refine cb_congr (fun x hx => ?_)
  cases hb : Hs x with
  | false => simp [kS, hb]
  | true =>
    have := cb_lt hx hb
    have h2 : cb Hs x < k := by omega
    simp [kS, hb, h2]
end XLH
section XLH2
theorem sh_step {g g2 : Nat → Int32} {i sz : Nat} (hi : 0 < i) (hg2 : ∀ j, i < j → j < sz → g2 j = g (j - 1)) : ∀ j, i - 1 < j → j < sz → upd g2 i (g (i - 1)) j = g (j - 1) := fun j h1 h2 => by
  rcases Nat.lt_or_ge i j with q | q
  · rw [upd_n (by omega)]; exact hg2 j q h2
  · have e : j = i := by omega
    subst e
    exact upd_s
theorem cb_nomore {P : Nat → Bool} {a N : Nat} (h : cb P N ≤ cb P a) : ∀ y, a ≤ y → y < N → P y = false := fun y h1 h2 => by
  cases hp : P y with
  | false => rfl
  | true =>
    have h3 := cb_lt h2 hp
    have h4 := cb_mono (P := P) h1
    omega
/-- the least hashes of the first j kept ones, beside a set -/
def upS (Hs K : Nat → Bool) (lo : Nat) : Nat → Bool := fun x => Hs x || (K x && decide (x < lo))
theorem upS_0 {Hs K : Nat → Bool} (x : Nat) : upS Hs K 0 x = Hs x := by simp [upS]
theorem upS_end {Hs K : Nat → Bool} {lo : Nat} (h : ∀ y, lo ≤ y → y < 16777213 → K y = false) (hK : ∀ y, 16777213 ≤ y → K y = false) (x : Nat) : orS Hs K x = upS Hs K lo x := by
  unfold orS upS
  by_cases hx : x < lo
  · simp [hx]
  · have : K x = false := by
      rcases Nat.lt_or_ge x 16777213 with q | q
      · exact h x (by omega) q
      · exact hK x q
    simp [this]
theorem upS_step {Hs K : Nat → Bool} {lo t : Nat} (h1 : lo ≤ t) (hn : ∀ y, lo ≤ y → y < t → K y = false) (ht : K t = true) (x : Nat) : upS Hs K (t + 1) x = insS (upS Hs K lo) t x := by
  unfold upS insS
  rcases Nat.lt_trichotomy x t with q | q | q
  · have h3 : x < t + 1 := by omega
    have h4 : x ≠ t := by omega
    rcases Nat.lt_or_ge x lo with r | r
    · simp [h3, h4, r]
    · simp [hn x r q, h4]
  · subst q
    simp [ht]
  · have h3 : ¬ x < t + 1 := by omega
    have h4 : x ≠ t := by omega
    have h5 : ¬ x < lo := by omega
    simp [h3, h4, h5]
theorem LH.next {k z : Nat} {Hs : Nat → Bool} {g : Nat → Int32} (h : LH k Hs z g) {a : Nat} (ha : a ≤ 16777213) (hj : cb (kS k Hs) a < z) : ∃ t, a ≤ t ∧ t < 16777213 ∧ kS k Hs t = true ∧ cb (kS k Hs) t = cb (kS k Hs) a ∧ (∀ y, a ≤ y → y < t → kS k Hs y = false) ∧ g (cb (kS k Hs) a) = nI t := by
  have h0 := h.1
  have hz : cb (kS k Hs) 16777213 = z := by
    rcases Nat.lt_or_ge (cb Hs 16777213) k with q | q
    · rw [kS_cb (by omega)]; omega
    · -- the place of the k-th
      rw [h0]
      obtain ⟨t, t1, t2, t3⟩ : ∃ t, t ≤ 16777213 ∧ cb Hs t = k ∧ ∀ y, t ≤ y → Hs y = true → k ≤ cb Hs y := by
        rcases Nat.eq_or_lt_of_le q with e | e
        · exact ⟨16777213, Nat.le_refl _, e.symm, fun y h1 _ => by rw [e]; exact cb_mono h1⟩
        · obtain ⟨t, a1, a2, a3⟩ := cb_at e
          exact ⟨t, by omega, a3, fun y h1 _ => by rw [← a3]; exact cb_mono h1⟩
      have e1 : cb (kS k Hs) 16777213 = cb (kS k Hs) t := by
        refine cb_none t1 (fun y h1 h2 => ?_)
        cases hb : kS k Hs y with
        | false => rfl
        | true =>
          have h3 := kS_t.mp hb
          have := t3 y h1 h3.1
          omega
      rw [e1, kS_cb (by omega), t2]
      omega
  obtain ⟨t, t1, t2, t3, t4, t5⟩ := cb_next ha (P := kS k Hs) (by rw [hz]; exact hj)
  have t6 := kS_t.mp t3
  have e2 : cb (kS k Hs) t = cb Hs t := kS_cb (by omega)
  exact ⟨t, t1, t2, t3, t4, t5, by rw [← t4, e2]; exact h.2 t t2 t6.1 t6.2⟩
theorem LH.cnt {k z : Nat} {Hs : Nat → Bool} {g : Nat → Int32} (h : LH k Hs z g) {a : Nat} (hj : z ≤ cb (kS k Hs) a) (ha : a ≤ 16777213) : ∀ y, a ≤ y → y < 16777213 → kS k Hs y = false := fun y h1 h2 => by
  cases hb : kS k Hs y with
  | false => rfl
  | true =>
    have h3 := kS_t.mp hb
    have h0 := h.1
    have e1 : cb (kS k Hs) y = cb Hs y := kS_cb (by omega)
    have e2 := cb_mono (P := kS k Hs) h1
    have e3 := cb_lt h2 h3.1
    omega
end XLH2
theorem lN_0 : lN 0 = 0 := rfl
end
section
section XX1
set_option maxHeartbeats 4000000 in
set_option maxRecDepth 100000 in
theorem c_forget (l : Launch) (D : va_G) (cy : Nat → ClassId) (t0 : Nat) (o1 g1 k z : Nat) : xWv (S := Unit) l yX1_forget wsX1_forget ({ frames := 0, cells := 0, slots := 0, locals := 0 } : Room) D cy t0 ([.ref o1]) ([(o1, .inr (1, [.ref g1, .int (nI k), .int (nI z)]))]) (fun _ => True) (fun _ => [(o1, .inr (1, [.ref g1, .int (nI k), .int (nI 0)]))]) 0 0 := by
  refine xofWv (cc := cX1_forget) (maxL := 1) (by decide) rfl (Nat.le_of_ble_eq_true rfl) ?_
  intro p e s m below meth c Q A ls hx hb hml hts hown hin hE hA H locs hP hD hl hS kret
  have hl : lv_has ls 1 [(0, .ref o1)] := hl
  refine lv_aload_n hx hb dX1_forget_0 rfl (lv_at hl 0 rfl) ?_
  refine lv_iconst (v := nI 0) hx hb dX1_forget_1 (by decide) ?_
  refine va_put (D := D) (ci := 1) (v := .int (nI 0)) (ty := .int) (C := RX1) (T := TX1) (N := 3) hx hb hts (by decide +kernel) tyX1 tyX1_ok nmX1 hown hE.1 hP hD hS 0 rfl rfl 2 (by decide) (hts (.fieldLink RX1 15 "DistinctDale$LeastHashes" "size" "I") (by decide +kernel)) (fun _ h9 => h9) rfl (by decide +kernel) rfl rfl (Nat.le_of_ble_eq_true rfl) dX1_forget_2 (fun H locs hP hD hS => ?_)
  have hP : xP D [(o1, .inr (1, [.ref g1, .int (nI k), .int (nI 0)]))] H := hP
  have hD : va_D A [(o1, .inr (1, [.ref g1, .int (nI k), .int (nI 0)]))] := hD
  exact kret () _ _ _ _ _ _ dX1_forget_5 trivial hP hD hS (Nat.le_of_ble_eq_true rfl) (Nat.le_of_ble_eq_true rfl)
set_option maxHeartbeats 4000000 in
set_option maxRecDepth 100000 in
theorem c_offer (l : Launch) (D : va_G) (cy : Nat → ClassId) (t0 : Nat) (Hs : Nat → Bool) (o1 g1 k z h : Nat) (g : Nat → Int32) (hk2 : 2 ≤ k) (hk : k ≤ 32) (hL : LH k Hs z g) (hh : h < 16777213) : xWv (S := Nat × (Nat → Int32)) l yX1_offer wsX1_offer ({ frames := 1, cells := 0, slots := 0, locals := 22 } : Room) D cy t0 ([.ref o1, .int (nI h)]) ([(o1, .inr (1, [.ref g1, .int (nI k), .int (nI z)])), (g1, xI cy 32 g)]) (fun u => LH k (insS Hs h) u.1 u.2) (fun u => [(o1, .inr (1, [.ref g1, .int (nI k), .int (nI u.1)])), (g1, xI cy 32 u.2)]) 0 0 := by
  refine xofWv (cc := cX1_offer) (maxL := 5) (by decide) rfl (Nat.le_of_ble_eq_true rfl) ?_
  intro p e s m below meth c Q A ls hx hb hml hts hown hin hE hA H locs hP hD hl hS kret
  have hl : lv_has ls 5 [(0, .ref o1), (1, .int (nI h))] := hl
  have hL1 := hL.1
  have hcb : cb Hs h ≤ cb Hs 16777213 := cb_mono (by omega)
  refine lv_aload_n hx hb dX1_offer_0 rfl (lv_at hl 0 rfl) ?_
  refine va_get (D := D) (ci := 1) (v := .int (nI z)) (C := RX1) (T := TX1) (N := 3) hx hb hts (by decide +kernel) hown hE.1 hP 0 rfl rfl 2 (by decide) (hts (.fieldLink RX1 15 "DistinctDale$LeastHashes" "size" "I") (by decide +kernel)) (fun _ h9 => h9) rfl dX1_offer_1 ?_
  refine lv_aload_n hx hb dX1_offer_4 rfl (lv_at hl 0 rfl) ?_
  refine va_get (D := D) (ci := 1) (v := .int (nI k)) (C := RX1) (T := TX1) (N := 3) hx hb hts (by decide +kernel) hown hE.1 hP 0 rfl rfl 1 (by decide) (hts (.fieldLink RX1 19 "DistinctDale$LeastHashes" "limit" "I") (by decide +kernel)) (fun _ h9 => h9) rfl dX1_offer_5 ?_
  refine xb_icmp_lt (tgt := 15) (a := z) (b := k) (by omega) (by omega) hx hb dX1_offer_8 (by decide) (fun c_1 => ?_) (fun c_1 => ?_)
  · refine lv_iconst (v := nI 0) hx hb dX1_offer_15 (by decide) ?_
    refine lv_istore_n (lv' := [(2, .int (nI 0)), (0, .ref o1), (1, .int (nI h))]) hx hb dX1_offer_16 rfl hl (by decide) rfl (fun ls hl => ?_)
    refine lv_iload_n hx hb dX1_offer_17 rfl (lv_at hl 0 rfl) ?_
    refine xb_if_eq (tgt := 39) (a := 0) (by omega) hx hb dX1_offer_18 (by decide) (fun c_2 => ?_) (fun c_2 => ?_)
    · refine lv_aload_n hx hb dX1_offer_39 rfl (lv_at hl 1 rfl) ?_
      refine va_get (D := D) (ci := 1) (v := .int (nI z)) (C := RX1) (T := TX1) (N := 3) hx hb hts (by decide +kernel) hown hE.1 hP 0 rfl rfl 2 (by decide) (hts (.fieldLink RX1 15 "DistinctDale$LeastHashes" "size" "I") (by decide +kernel)) (fun _ h9 => h9) rfl dX1_offer_40 ?_
      refine lv_istore_n (lv' := [(3, .int (nI z)), (2, .int (nI 0)), (0, .ref o1), (1, .int (nI h))]) hx hb dX1_offer_43 rfl hl (by decide) rfl (fun ls hl => ?_)
      have j89 : (hb9 : Hs h = false) → ∀ (H : Heap) (locs : List Loc), xP D [(o1, .inr (1, [.ref g1, .int (nI k), .int (nI z)])), (g1, xI cy 32 g)] H → va_D A [(o1, .inr (1, [.ref g1, .int (nI k), .int (nI z)])), (g1, xI cy 32 g)] → va_S A s.heap H locs → ∀ (ls : Array Slot), lv_has ls 5 [(0, .ref o1), (1, .int (nI h)), (2, .int (nI 0)), (3, .int (nI (cb Hs h)))] → W p l e ({ frames := 1, cells := 0, slots := 0, locals := 22 } : Room) s m [.ref o1, .int (nI h)].toArray below meth c H locs 0 0 Q (F0 m 89 ls []) := by
        intro hb9 H locs hP hD hS ls hl
        refine lv_aload_n hx hb dX1_offer_89 rfl (lv_at hl 0 rfl) ?_
        refine lv_iload_n hx hb dX1_offer_90 rfl (lv_at hl 2 rfl) ?_
        refine xb_if_eq (tgt := 101) (a := 0) (by omega) hx hb dX1_offer_91 (by decide) (fun c_3 => ?_) (fun c_3 => ?_)
        · refine lv_aload_n hx hb dX1_offer_101 rfl (lv_at hl 0 rfl) ?_
          refine va_get (D := D) (ci := 1) (v := .int (nI z)) (C := RX1) (T := TX1) (N := 3) hx hb hts (by decide +kernel) hown hE.1 hP 0 rfl rfl 2 (by decide) (hts (.fieldLink RX1 15 "DistinctDale$LeastHashes" "size" "I") (by decide +kernel)) (fun _ h9 => h9) rfl dX1_offer_102 ?_
          refine lv_iconst (v := nI 1) hx hb dX1_offer_105 (by decide) ?_
          refine lv_iadd hx hb dX1_offer_106 ?_
          refine lv_eqi (z := nI (z + 1)) (nI_add _ _) ?_
          refine va_put (D := D) (ci := 1) (v := .int (nI (z + 1))) (ty := .int) (C := RX1) (T := TX1) (N := 3) hx hb hts (by decide +kernel) tyX1 tyX1_ok nmX1 hown hE.1 hP hD hS 0 rfl rfl 2 (by decide) (hts (.fieldLink RX1 15 "DistinctDale$LeastHashes" "size" "I") (by decide +kernel)) (fun _ h9 => h9) rfl (by decide +kernel) rfl rfl (Nat.le_of_ble_eq_true rfl) dX1_offer_107 (fun H locs hP hD hS => ?_)
          have hP : xP D [(o1, .inr (1, [.ref g1, .int (nI k), .int (nI (z + 1))])), (g1, xI cy 32 g)] H := hP
          have hD : va_D A [(o1, .inr (1, [.ref g1, .int (nI k), .int (nI (z + 1))])), (g1, xI cy 32 g)] := hD
          refine lv_aload_n hx hb dX1_offer_110 rfl (lv_at hl 0 rfl) ?_
          refine va_get (D := D) (ci := 1) (v := .int (nI (z + 1))) (C := RX1) (T := TX1) (N := 3) hx hb hts (by decide +kernel) hown hE.1 hP 0 rfl rfl 2 (by decide) (hts (.fieldLink RX1 15 "DistinctDale$LeastHashes" "size" "I") (by decide +kernel)) (fun _ h9 => h9) rfl dX1_offer_111 ?_
          refine lv_iconst (v := nI 1) hx hb dX1_offer_114 (by decide) ?_
          refine lv_isub hx hb dX1_offer_115 ?_
          refine lv_eqi (z := nI z) ((pk_sub (by omega)).trans (congrArg nI (by omega))) ?_
          refine lv_istore (lv' := [(4, .int (nI z)), (0, .ref o1), (1, .int (nI h)), (2, .int (nI 0)), (3, .int (nI (cb Hs h)))]) hx hb dX1_offer_116 hl (by decide) rfl (fun ls hl => ?_)
          have lq : ∀ (n9 : Nat), ∀ (i : Nat) (g2 : Nat → Int32), (hi1 : cb Hs h ≤ i) → (hi2 : i < z + 1) → (hg1 : ∀ j, j ≤ i → g2 j = g j) → (hg2 : ∀ j, i < j → j < z + 1 → g2 j = g (j - 1)) → i < n9 → ∀ (H : Heap) (locs : List Loc), xP D [(o1, .inr (1, [.ref g1, .int (nI k), .int (nI (z + 1))])), (g1, xI cy 32 g2)] H → va_D A [(o1, .inr (1, [.ref g1, .int (nI k), .int (nI (z + 1))])), (g1, xI cy 32 g2)] → va_S A s.heap H locs → ∀ (ls : Array Slot), lv_has ls 5 [(0, .ref o1), (1, .int (nI h)), (2, .int (nI 0)), (3, .int (nI (cb Hs h))), (4, .int (nI i))] → W p l e ({ frames := 1, cells := 0, slots := 0, locals := 22 } : Room) s m [.ref o1, .int (nI h)].toArray below meth c H locs 0 0 Q (F0 m 118 ls []) := by
            intro n9
            induction n9 with
            | zero => intro i g2 hi1 hi2 hg1 hg2 hm; exact absurd hm (Nat.not_lt_zero _)
            | succ n9 ih_lq =>
              intro i g2 hi1 hi2 hg1 hg2 hm H locs hP hD hS ls hl
              refine lv_iload hx hb dX1_offer_118 (lv_at hl 4 rfl) ?_
              refine lv_iload_n hx hb dX1_offer_120 rfl (lv_at hl 3 rfl) ?_
              refine xb_icmp_le (tgt := 150) (a := i) (b := cb Hs h) (by omega) (by omega) hx hb dX1_offer_121 (by decide) (fun c_4 => ?_) (fun c_4 => ?_)
              · refine lv_aload_n hx hb dX1_offer_150 rfl (lv_at hl 0 rfl) ?_
                refine va_get (D := D) (ci := 1) (v := .ref g1) (C := RX1) (T := TX1) (N := 3) hx hb hts (by decide +kernel) hown hE.1 hP 0 rfl rfl 0 (by decide) (hts (.fieldLink RX1 9 "DistinctDale$LeastHashes" "hashes" "[I") (by decide +kernel)) (fun _ h9 => h9) rfl dX1_offer_151 ?_
                refine lv_iload_n hx hb dX1_offer_154 rfl (lv_at hl 3 rfl) ?_
                refine lv_iload_n hx hb dX1_offer_155 rfl (lv_at hl 1 rfl) ?_
                refine xcWv (wr := [(o1, .inr (1, [.ref g1, .int (nI k), .int (nI (z + 1))]))]) (va_runSN (As := [.ref g1, .int (nI (cb Hs h)), .int (nI h)]) (rest := []) ⟨hx, hb, hml, hown, hts⟩ ((c_put l D cy t0 g1 32 g2 (nI (cb Hs h)) (nI h) (by omega)) H.size) ⟨va_cnB 3 hts ggX1_offer_X4_put rfl rfl rfl (xN7 hE.2.1.1) (hts (.initialized RX4) (by decide +kernel)) (by decide +kernel) ⟨Nat.le_of_ble_eq_true rfl, Nat.le_of_ble_eq_true rfl⟩, (hts (.static yX4_put) (by decide +kernel)), trivial⟩ (xPw.give (wc := [(g1, xI cy 32 g2)]) hE hS hA hP hD [1] (by decide) rfl) rfl rfl hl.1 rfl (lv_room (Nat.le_of_ble_eq_true rfl)) dX1_offer_156 ⟨(Nat.zero_le _), (Nat.zero_le _)⟩) hP hD hS hA [1] [0] rfl rfl (by decide) (by decide) (fun u_7 H locs hr_6 hP hD hS => ?_)
                obtain rfl : u_7 = upd g2 (cb Hs h) (nI h) := by rw [hr_6, xput_in (by omega) (by omega)]
                have hP := hP.sub (ws' := [(o1, .inr (1, [.ref g1, .int (nI k), .int (nI (z + 1))])), (g1, xI cy 32 (upd g2 (cb Hs h) (nI h)))]) [0, 1] rfl
                have hD := hD.sub (ws' := [(o1, .inr (1, [.ref g1, .int (nI k), .int (nI (z + 1))])), (g1, xI cy 32 (upd g2 (cb Hs h) (nI h)))]) [0, 1] (by decide) rfl
                exact kret (z + 1, upd g2 (cb Hs h) (nI h)) _ _ _ _ _ _ dX1_offer_159 (hL.ins hh hb9 (show z + 1 = min k (z + 1) by omega) (fun j hj => by show upd g2 (cb Hs h) (nI h) j = _; rw [upd_n (by omega)]; exact hg1 j (by omega)) upd_s (fun j h1 (h2 : j < z + 1) => by show upd g2 (cb Hs h) (nI h) j = _; rw [upd_n (by omega)]; exact hg2 j (by omega) h2)) hP hD hS (Nat.le_of_ble_eq_true rfl) (Nat.le_of_ble_eq_true rfl)
              · refine lv_aload_n hx hb dX1_offer_124 rfl (lv_at hl 0 rfl) ?_
                refine va_get (D := D) (ci := 1) (v := .ref g1) (C := RX1) (T := TX1) (N := 3) hx hb hts (by decide +kernel) hown hE.1 hP 0 rfl rfl 0 (by decide) (hts (.fieldLink RX1 9 "DistinctDale$LeastHashes" "hashes" "[I") (by decide +kernel)) (fun _ h9 => h9) rfl dX1_offer_125 ?_
                refine lv_iload hx hb dX1_offer_128 (lv_at hl 4 rfl) ?_
                refine lv_aload_n hx hb dX1_offer_130 rfl (lv_at hl 0 rfl) ?_
                refine va_get (D := D) (ci := 1) (v := .ref g1) (C := RX1) (T := TX1) (N := 3) hx hb hts (by decide +kernel) hown hE.1 hP 0 rfl rfl 0 (by decide) (hts (.fieldLink RX1 9 "DistinctDale$LeastHashes" "hashes" "[I") (by decide +kernel)) (fun _ h9 => h9) rfl dX1_offer_131 ?_
                refine lv_iload hx hb dX1_offer_134 (lv_at hl 4 rfl) ?_
                refine lv_iconst (v := nI 1) hx hb dX1_offer_136 (by decide) ?_
                refine lv_isub hx hb dX1_offer_137 ?_
                refine lv_eqi (z := nI (i - 1)) (pk_sub (by omega)) ?_
                refine xcRi (va_runSN (As := [.ref g1, .int (nI (i - 1))]) (rest := [.int (nI i), .ref g1]) ⟨hx, hb, hml, hown, hts⟩ (c_at l D cy t0 g1 32 g2 (nI (i - 1)) (by omega)) ⟨va_cnB 2 hts ggX1_offer_X4_at rfl rfl rfl (xN5 hE.2.1.1) (hts (.initialized RX4) (by decide +kernel)) (by decide +kernel) ⟨Nat.le_of_ble_eq_true rfl, Nat.le_of_ble_eq_true rfl⟩, (hts (.static yX4_at) (by decide +kernel)), trivial⟩ (xPr.give (wc := [(g1, xI cy 32 g2)]) hE hS hP [1] rfl) rfl rfl hl.1 rfl (lv_room (Nat.le_of_ble_eq_true rfl)) dX1_offer_138 ⟨(Nat.zero_le _), (Nat.zero_le _)⟩) (fun r_8 hr_9 => ?_)
                obtain rfl : r_8 = g (i - 1) := by rw [hr_9, xat_in (by omega) (by omega), hg1 _ (by omega)]
                refine xcWv (wr := [(o1, .inr (1, [.ref g1, .int (nI k), .int (nI (z + 1))]))]) (va_runSN (As := [.ref g1, .int (nI i), .int (g (i - 1))]) (rest := []) ⟨hx, hb, hml, hown, hts⟩ ((c_put l D cy t0 g1 32 g2 (nI i) (g (i - 1)) (by omega)) H.size) ⟨va_cnB 3 hts ggX1_offer_X4_put rfl rfl rfl (xN7 hE.2.1.1) (hts (.initialized RX4) (by decide +kernel)) (by decide +kernel) ⟨Nat.le_of_ble_eq_true rfl, Nat.le_of_ble_eq_true rfl⟩, (hts (.static yX4_put) (by decide +kernel)), trivial⟩ (xPw.give (wc := [(g1, xI cy 32 g2)]) hE hS hA hP hD [1] (by decide) rfl) rfl rfl hl.1 rfl (lv_room (Nat.le_of_ble_eq_true rfl)) dX1_offer_141 ⟨(Nat.zero_le _), (Nat.zero_le _)⟩) hP hD hS hA [1] [0] rfl rfl (by decide) (by decide) (fun u_12 H locs hr_11 hP hD hS => ?_)
                obtain rfl : u_12 = upd g2 i (g (i - 1)) := by rw [hr_11, xput_in (by omega) (by omega)]
                have hP := hP.sub (ws' := [(o1, .inr (1, [.ref g1, .int (nI k), .int (nI (z + 1))])), (g1, xI cy 32 (upd g2 i (g (i - 1))))]) [0, 1] rfl
                have hD := hD.sub (ws' := [(o1, .inr (1, [.ref g1, .int (nI k), .int (nI (z + 1))])), (g1, xI cy 32 (upd g2 i (g (i - 1))))]) [0, 1] (by decide) rfl
                refine lv_iinc (v := nI (i - 1)) (lv' := [(4, .int (nI (i - 1))), (0, .ref o1), (1, .int (nI h)), (2, .int (nI 0)), (3, .int (nI (cb Hs h)))]) hx hb dX1_offer_144 hl (k := 4) rfl (dec1 (by omega)) (by decide) rfl (fun ls hl => ?_)
                refine lv_goto (tgt := 118) hx hb dX1_offer_147 (by decide) ?_
                exact ih_lq (i - 1) (upd g2 i (g (i - 1))) (by omega) (by omega) (fun j hj => by rw [upd_n (by omega)]; exact hg1 j (by omega)) (sh_step (by omega) hg2) (by omega) _ _ hP hD hS _ (lv_sub hl [1, 2, 3, 4, 0] rfl)
          exact lq (z + 1) z g (by omega) (by omega) (fun _ _ => rfl) (fun j h1 h2 => absurd h1 (by omega)) (by omega) _ _ hP hD hS _ (lv_sub hl [1, 2, 3, 4, 0] rfl)
        · exact absurd rfl c_3
      have j68 : ∀ (H : Heap) (locs : List Loc), xP D [(o1, .inr (1, [.ref g1, .int (nI k), .int (nI z)])), (g1, xI cy 32 g)] H → va_D A [(o1, .inr (1, [.ref g1, .int (nI k), .int (nI z)])), (g1, xI cy 32 g)] → va_S A s.heap H locs → ∀ (ls : Array Slot), lv_has ls 5 [(0, .ref o1), (1, .int (nI h)), (2, .int (nI 0)), (3, .int (nI (cb Hs h)))] → W p l e ({ frames := 1, cells := 0, slots := 0, locals := 22 } : Room) s m [.ref o1, .int (nI h)].toArray below meth c H locs 0 0 Q (F0 m 68 ls []) := by
        intro H locs hP hD hS ls hl
        refine lv_iload_n hx hb dX1_offer_68 rfl (lv_at hl 3 rfl) ?_
        refine lv_aload_n hx hb dX1_offer_69 rfl (lv_at hl 0 rfl) ?_
        refine va_get (D := D) (ci := 1) (v := .int (nI z)) (C := RX1) (T := TX1) (N := 3) hx hb hts (by decide +kernel) hown hE.1 hP 0 rfl rfl 2 (by decide) (hts (.fieldLink RX1 15 "DistinctDale$LeastHashes" "size" "I") (by decide +kernel)) (fun _ h9 => h9) rfl dX1_offer_70 ?_
        refine xb_icmp_ge (tgt := 89) (a := cb Hs h) (b := z) (by omega) (by omega) hx hb dX1_offer_73 (by decide) (fun c_13 => ?_) (fun c_13 => ?_)
        · have hbq : Hs h = false := by
            cases hq : Hs h with
            | false => rfl
            | true => have := cb_lt (P := Hs) hh hq; omega
          exact j89  hbq  _ _ hP hD hS _ (lv_sub hl [0, 1, 2, 3] rfl)
        · refine lv_aload_n hx hb dX1_offer_76 rfl (lv_at hl 0 rfl) ?_
          refine va_get (D := D) (ci := 1) (v := .ref g1) (C := RX1) (T := TX1) (N := 3) hx hb hts (by decide +kernel) hown hE.1 hP 0 rfl rfl 0 (by decide) (hts (.fieldLink RX1 9 "DistinctDale$LeastHashes" "hashes" "[I") (by decide +kernel)) (fun _ h9 => h9) rfl dX1_offer_77 ?_
          refine lv_iload_n hx hb dX1_offer_80 rfl (lv_at hl 3 rfl) ?_
          refine xcRi (va_runSN (As := [.ref g1, .int (nI (cb Hs h))]) (rest := []) ⟨hx, hb, hml, hown, hts⟩ (c_at l D cy t0 g1 32 g (nI (cb Hs h)) (by omega)) ⟨va_cnB 2 hts ggX1_offer_X4_at rfl rfl rfl (xN5 hE.2.1.1) (hts (.initialized RX4) (by decide +kernel)) (by decide +kernel) ⟨Nat.le_of_ble_eq_true rfl, Nat.le_of_ble_eq_true rfl⟩, (hts (.static yX4_at) (by decide +kernel)), trivial⟩ (xPr.give (wc := [(g1, xI cy 32 g)]) hE hS hP [1] rfl) rfl rfl hl.1 rfl (lv_room (Nat.le_of_ble_eq_true rfl)) dX1_offer_81 ⟨(Nat.zero_le _), (Nat.zero_le _)⟩) (fun r_14 hr_15 => ?_)
          obtain ⟨t3, hv1, hv2, hv3, hv4⟩ := hL.at (j := cb Hs h) (by omega)
          obtain rfl : r_14 = nI t3 := by rw [hr_15, xat_in (by omega) (by omega), hv4]
          refine lv_iload_n hx hb dX1_offer_84 rfl (lv_at hl 1 rfl) ?_
          refine xb_icmp_ne (tgt := 89) (a := t3) (b := h) (by omega) (by omega) hx hb dX1_offer_85 (by decide) (fun c_16 => ?_) (fun c_16 => ?_)
          · have hbq : Hs h = false := by
              cases hq : Hs h with
              | false => rfl
              | true => exact absurd (cb_inj hv2 hq hv3) c_16
            exact j89  hbq  _ _ hP hD hS _ (lv_sub hl [0, 1, 2, 3] rfl)
          · exact kret (z, g) _ _ _ _ _ _ dX1_offer_88 (hL.congr (insS_in (by rw [← c_16]; exact hv2))) hP hD hS (Nat.le_of_ble_eq_true rfl) (Nat.le_of_ble_eq_true rfl)
      have lp : ∀ (n9 : Nat), ∀ (p9 : Nat), (hp : p9 ≤ z) → (hr : cb Hs h ≤ p9) → p9 < n9 → ∀ (H : Heap) (locs : List Loc), xP D [(o1, .inr (1, [.ref g1, .int (nI k), .int (nI z)])), (g1, xI cy 32 g)] H → va_D A [(o1, .inr (1, [.ref g1, .int (nI k), .int (nI z)])), (g1, xI cy 32 g)] → va_S A s.heap H locs → ∀ (ls : Array Slot), lv_has ls 5 [(0, .ref o1), (1, .int (nI h)), (2, .int (nI 0)), (3, .int (nI p9))] → W p l e ({ frames := 1, cells := 0, slots := 0, locals := 22 } : Room) s m [.ref o1, .int (nI h)].toArray below meth c H locs 0 0 Q (F0 m 44 ls []) := by
        intro n9
        induction n9 with
        | zero => intro p9 hp hr hm; exact absurd hm (Nat.not_lt_zero _)
        | succ n9 ih_lp =>
          intro p9 hp hr hm H locs hP hD hS ls hl
          refine lv_iload_n hx hb dX1_offer_44 rfl (lv_at hl 3 rfl) ?_
          refine xb_if_le (tgt := 68) (a := p9) (by omega) hx hb dX1_offer_45 (by decide) (fun c_17 => ?_) (fun c_17 => ?_)
          · have eo : p9 = cb Hs h := by omega
            rw [eo] at hl
            exact j68    _ _ hP hD hS _ (lv_sub hl [0, 1, 2, 3] rfl)
          · refine lv_aload_n hx hb dX1_offer_48 rfl (lv_at hl 0 rfl) ?_
            refine va_get (D := D) (ci := 1) (v := .ref g1) (C := RX1) (T := TX1) (N := 3) hx hb hts (by decide +kernel) hown hE.1 hP 0 rfl rfl 0 (by decide) (hts (.fieldLink RX1 9 "DistinctDale$LeastHashes" "hashes" "[I") (by decide +kernel)) (fun _ h9 => h9) rfl dX1_offer_49 ?_
            refine lv_iload_n hx hb dX1_offer_52 rfl (lv_at hl 3 rfl) ?_
            refine lv_iconst (v := nI 1) hx hb dX1_offer_53 (by decide) ?_
            refine lv_isub hx hb dX1_offer_54 ?_
            refine lv_eqi (z := nI (p9 - 1)) (pk_sub (by omega)) ?_
            refine xcRi (va_runSN (As := [.ref g1, .int (nI (p9 - 1))]) (rest := []) ⟨hx, hb, hml, hown, hts⟩ (c_at l D cy t0 g1 32 g (nI (p9 - 1)) (by omega)) ⟨va_cnB 2 hts ggX1_offer_X4_at rfl rfl rfl (xN5 hE.2.1.1) (hts (.initialized RX4) (by decide +kernel)) (by decide +kernel) ⟨Nat.le_of_ble_eq_true rfl, Nat.le_of_ble_eq_true rfl⟩, (hts (.static yX4_at) (by decide +kernel)), trivial⟩ (xPr.give (wc := [(g1, xI cy 32 g)]) hE hS hP [1] rfl) rfl rfl hl.1 rfl (lv_room (Nat.le_of_ble_eq_true rfl)) dX1_offer_55 ⟨(Nat.zero_le _), (Nat.zero_le _)⟩) (fun r_18 hr_19 => ?_)
            obtain ⟨t2, hu1, hu2, hu3, hu4⟩ := hL.at (j := p9 - 1) (by omega)
            obtain rfl : r_18 = nI t2 := by rw [hr_19, xat_in (by omega) (by omega), hu4]
            refine lv_iload_n hx hb dX1_offer_58 rfl (lv_at hl 1 rfl) ?_
            refine xb_icmp_lt (tgt := 68) (a := t2) (b := h) (by omega) (by omega) hx hb dX1_offer_59 (by decide) (fun c_20 => ?_) (fun c_20 => ?_)
            · have hq9 := cb_lt c_20 hu2
              have eo : p9 = cb Hs h := by omega
              rw [eo] at hl
              exact j68    _ _ hP hD hS _ (lv_sub hl [0, 1, 2, 3] rfl)
            · refine lv_iinc (v := nI (p9 - 1)) (lv' := [(3, .int (nI (p9 - 1))), (0, .ref o1), (1, .int (nI h)), (2, .int (nI 0))]) hx hb dX1_offer_62 hl (k := 3) rfl (dec1 (by omega)) (by decide) rfl (fun ls hl => ?_)
              refine lv_goto (tgt := 44) hx hb dX1_offer_65 (by decide) ?_
              have hq := cb_mono (P := Hs) c_20
              exact ih_lp (p9 - 1) (by omega) (by omega) (by omega) _ _ hP hD hS _ (lv_sub hl [1, 2, 3, 0] rfl)
      exact lp (z + 1) z (Nat.le_refl _) (by omega) (by omega) _ _ hP hD hS _ (lv_sub hl [2, 3, 1, 0] rfl)
    · exact absurd rfl c_2
  · refine lv_iconst (v := nI 1) hx hb dX1_offer_11 (by decide) ?_
    refine lv_goto (tgt := 16) hx hb dX1_offer_12 (by decide) ?_
    refine lv_istore_n (lv' := [(2, .int (nI 1)), (0, .ref o1), (1, .int (nI h))]) hx hb dX1_offer_16 rfl hl (by decide) rfl (fun ls hl => ?_)
    refine lv_iload_n hx hb dX1_offer_17 rfl (lv_at hl 0 rfl) ?_
    refine xb_if_eq (tgt := 39) (a := 1) (by omega) hx hb dX1_offer_18 (by decide) (fun c_21 => ?_) (fun c_21 => ?_)
    · exact absurd c_21 (by decide)
    · refine lv_iload_n hx hb dX1_offer_21 rfl (lv_at hl 2 rfl) ?_
      refine lv_aload_n hx hb dX1_offer_22 rfl (lv_at hl 1 rfl) ?_
      refine va_get (D := D) (ci := 1) (v := .ref g1) (C := RX1) (T := TX1) (N := 3) hx hb hts (by decide +kernel) hown hE.1 hP 0 rfl rfl 0 (by decide) (hts (.fieldLink RX1 9 "DistinctDale$LeastHashes" "hashes" "[I") (by decide +kernel)) (fun _ h9 => h9) rfl dX1_offer_23 ?_
      refine lv_aload_n hx hb dX1_offer_26 rfl (lv_at hl 1 rfl) ?_
      refine va_get (D := D) (ci := 1) (v := .int (nI z)) (C := RX1) (T := TX1) (N := 3) hx hb hts (by decide +kernel) hown hE.1 hP 0 rfl rfl 2 (by decide) (hts (.fieldLink RX1 15 "DistinctDale$LeastHashes" "size" "I") (by decide +kernel)) (fun _ h9 => h9) rfl dX1_offer_27 ?_
      refine lv_iconst (v := nI 1) hx hb dX1_offer_30 (by decide) ?_
      refine lv_isub hx hb dX1_offer_31 ?_
      refine lv_eqi (z := nI (z - 1)) (pk_sub (by omega)) ?_
      refine xcRi (va_runSN (As := [.ref g1, .int (nI (z - 1))]) (rest := [.int (nI h)]) ⟨hx, hb, hml, hown, hts⟩ (c_at l D cy t0 g1 32 g (nI (z - 1)) (by omega)) ⟨va_cnB 2 hts ggX1_offer_X4_at rfl rfl rfl (xN5 hE.2.1.1) (hts (.initialized RX4) (by decide +kernel)) (by decide +kernel) ⟨Nat.le_of_ble_eq_true rfl, Nat.le_of_ble_eq_true rfl⟩, (hts (.static yX4_at) (by decide +kernel)), trivial⟩ (xPr.give (wc := [(g1, xI cy 32 g)]) hE hS hP [1] rfl) rfl rfl hl.1 rfl (lv_room (Nat.le_of_ble_eq_true rfl)) dX1_offer_32 ⟨(Nat.zero_le _), (Nat.zero_le _)⟩) (fun r_22 hr_23 => ?_)
      obtain ⟨t, ht1, ht2, ht3, ht4⟩ := hL.at (j := z - 1) (by omega)
      obtain rfl : r_22 = nI t := by rw [hr_23, xat_in (by omega) (by omega), ht4]
      refine xb_icmp_lt (tgt := 39) (a := h) (b := t) (by omega) (by omega) hx hb dX1_offer_35 (by decide) (fun c_24 => ?_) (fun c_24 => ?_)
      · have hct := cb_mono (P := Hs) (Nat.le_of_lt c_24)
        refine lv_aload_n hx hb dX1_offer_39 rfl (lv_at hl 1 rfl) ?_
        refine va_get (D := D) (ci := 1) (v := .int (nI z)) (C := RX1) (T := TX1) (N := 3) hx hb hts (by decide +kernel) hown hE.1 hP 0 rfl rfl 2 (by decide) (hts (.fieldLink RX1 15 "DistinctDale$LeastHashes" "size" "I") (by decide +kernel)) (fun _ h9 => h9) rfl dX1_offer_40 ?_
        refine lv_istore_n (lv' := [(3, .int (nI z)), (2, .int (nI 1)), (0, .ref o1), (1, .int (nI h))]) hx hb dX1_offer_43 rfl hl (by decide) rfl (fun ls hl => ?_)
        have j89 : (hb9 : Hs h = false) → ∀ (H : Heap) (locs : List Loc), xP D [(o1, .inr (1, [.ref g1, .int (nI k), .int (nI z)])), (g1, xI cy 32 g)] H → va_D A [(o1, .inr (1, [.ref g1, .int (nI k), .int (nI z)])), (g1, xI cy 32 g)] → va_S A s.heap H locs → ∀ (ls : Array Slot), lv_has ls 5 [(0, .ref o1), (1, .int (nI h)), (2, .int (nI 1)), (3, .int (nI (cb Hs h)))] → W p l e ({ frames := 1, cells := 0, slots := 0, locals := 22 } : Room) s m [.ref o1, .int (nI h)].toArray below meth c H locs 0 0 Q (F0 m 89 ls []) := by
          intro hb9 H locs hP hD hS ls hl
          refine lv_aload_n hx hb dX1_offer_89 rfl (lv_at hl 0 rfl) ?_
          refine lv_iload_n hx hb dX1_offer_90 rfl (lv_at hl 2 rfl) ?_
          refine xb_if_eq (tgt := 101) (a := 1) (by omega) hx hb dX1_offer_91 (by decide) (fun c_25 => ?_) (fun c_25 => ?_)
          · exact absurd c_25 (by decide)
          · refine lv_aload_n hx hb dX1_offer_94 rfl (lv_at hl 0 rfl) ?_
            refine va_get (D := D) (ci := 1) (v := .int (nI k)) (C := RX1) (T := TX1) (N := 3) hx hb hts (by decide +kernel) hown hE.1 hP 0 rfl rfl 1 (by decide) (hts (.fieldLink RX1 19 "DistinctDale$LeastHashes" "limit" "I") (by decide +kernel)) (fun _ h9 => h9) rfl dX1_offer_95 ?_
            refine lv_goto (tgt := 107) hx hb dX1_offer_98 (by decide) ?_
            refine va_put (D := D) (ci := 1) (v := .int (nI k)) (ty := .int) (C := RX1) (T := TX1) (N := 3) hx hb hts (by decide +kernel) tyX1 tyX1_ok nmX1 hown hE.1 hP hD hS 0 rfl rfl 2 (by decide) (hts (.fieldLink RX1 15 "DistinctDale$LeastHashes" "size" "I") (by decide +kernel)) (fun _ h9 => h9) rfl (by decide +kernel) rfl rfl (Nat.le_of_ble_eq_true rfl) dX1_offer_107 (fun H locs hP hD hS => ?_)
            have hP : xP D [(o1, .inr (1, [.ref g1, .int (nI k), .int (nI k)])), (g1, xI cy 32 g)] H := hP
            have hD : va_D A [(o1, .inr (1, [.ref g1, .int (nI k), .int (nI k)])), (g1, xI cy 32 g)] := hD
            refine lv_aload_n hx hb dX1_offer_110 rfl (lv_at hl 0 rfl) ?_
            refine va_get (D := D) (ci := 1) (v := .int (nI k)) (C := RX1) (T := TX1) (N := 3) hx hb hts (by decide +kernel) hown hE.1 hP 0 rfl rfl 2 (by decide) (hts (.fieldLink RX1 15 "DistinctDale$LeastHashes" "size" "I") (by decide +kernel)) (fun _ h9 => h9) rfl dX1_offer_111 ?_
            refine lv_iconst (v := nI 1) hx hb dX1_offer_114 (by decide) ?_
            refine lv_isub hx hb dX1_offer_115 ?_
            refine lv_eqi (z := nI (k - 1)) (pk_sub (by omega)) ?_
            refine lv_istore (lv' := [(4, .int (nI (k - 1))), (0, .ref o1), (1, .int (nI h)), (2, .int (nI 1)), (3, .int (nI (cb Hs h)))]) hx hb dX1_offer_116 hl (by decide) rfl (fun ls hl => ?_)
            have lq : ∀ (n9 : Nat), ∀ (i : Nat) (g2 : Nat → Int32), (hi1 : cb Hs h ≤ i) → (hi2 : i < k) → (hg1 : ∀ j, j ≤ i → g2 j = g j) → (hg2 : ∀ j, i < j → j < k → g2 j = g (j - 1)) → i < n9 → ∀ (H : Heap) (locs : List Loc), xP D [(o1, .inr (1, [.ref g1, .int (nI k), .int (nI k)])), (g1, xI cy 32 g2)] H → va_D A [(o1, .inr (1, [.ref g1, .int (nI k), .int (nI k)])), (g1, xI cy 32 g2)] → va_S A s.heap H locs → ∀ (ls : Array Slot), lv_has ls 5 [(0, .ref o1), (1, .int (nI h)), (2, .int (nI 1)), (3, .int (nI (cb Hs h))), (4, .int (nI i))] → W p l e ({ frames := 1, cells := 0, slots := 0, locals := 22 } : Room) s m [.ref o1, .int (nI h)].toArray below meth c H locs 0 0 Q (F0 m 118 ls []) := by
              intro n9
              induction n9 with
              | zero => intro i g2 hi1 hi2 hg1 hg2 hm; exact absurd hm (Nat.not_lt_zero _)
              | succ n9 ih_lq =>
                intro i g2 hi1 hi2 hg1 hg2 hm H locs hP hD hS ls hl
                refine lv_iload hx hb dX1_offer_118 (lv_at hl 4 rfl) ?_
                refine lv_iload_n hx hb dX1_offer_120 rfl (lv_at hl 3 rfl) ?_
                refine xb_icmp_le (tgt := 150) (a := i) (b := cb Hs h) (by omega) (by omega) hx hb dX1_offer_121 (by decide) (fun c_26 => ?_) (fun c_26 => ?_)
                · refine lv_aload_n hx hb dX1_offer_150 rfl (lv_at hl 0 rfl) ?_
                  refine va_get (D := D) (ci := 1) (v := .ref g1) (C := RX1) (T := TX1) (N := 3) hx hb hts (by decide +kernel) hown hE.1 hP 0 rfl rfl 0 (by decide) (hts (.fieldLink RX1 9 "DistinctDale$LeastHashes" "hashes" "[I") (by decide +kernel)) (fun _ h9 => h9) rfl dX1_offer_151 ?_
                  refine lv_iload_n hx hb dX1_offer_154 rfl (lv_at hl 3 rfl) ?_
                  refine lv_iload_n hx hb dX1_offer_155 rfl (lv_at hl 1 rfl) ?_
                  refine xcWv (wr := [(o1, .inr (1, [.ref g1, .int (nI k), .int (nI k)]))]) (va_runSN (As := [.ref g1, .int (nI (cb Hs h)), .int (nI h)]) (rest := []) ⟨hx, hb, hml, hown, hts⟩ ((c_put l D cy t0 g1 32 g2 (nI (cb Hs h)) (nI h) (by omega)) H.size) ⟨va_cnB 3 hts ggX1_offer_X4_put rfl rfl rfl (xN7 hE.2.1.1) (hts (.initialized RX4) (by decide +kernel)) (by decide +kernel) ⟨Nat.le_of_ble_eq_true rfl, Nat.le_of_ble_eq_true rfl⟩, (hts (.static yX4_put) (by decide +kernel)), trivial⟩ (xPw.give (wc := [(g1, xI cy 32 g2)]) hE hS hA hP hD [1] (by decide) rfl) rfl rfl hl.1 rfl (lv_room (Nat.le_of_ble_eq_true rfl)) dX1_offer_156 ⟨(Nat.zero_le _), (Nat.zero_le _)⟩) hP hD hS hA [1] [0] rfl rfl (by decide) (by decide) (fun u_29 H locs hr_28 hP hD hS => ?_)
                  obtain rfl : u_29 = upd g2 (cb Hs h) (nI h) := by rw [hr_28, xput_in (by omega) (by omega)]
                  have hP := hP.sub (ws' := [(o1, .inr (1, [.ref g1, .int (nI k), .int (nI k)])), (g1, xI cy 32 (upd g2 (cb Hs h) (nI h)))]) [0, 1] rfl
                  have hD := hD.sub (ws' := [(o1, .inr (1, [.ref g1, .int (nI k), .int (nI k)])), (g1, xI cy 32 (upd g2 (cb Hs h) (nI h)))]) [0, 1] (by decide) rfl
                  exact kret (k, upd g2 (cb Hs h) (nI h)) _ _ _ _ _ _ dX1_offer_159 (hL.ins hh hb9 (show k = min k (z + 1) by omega) (fun j hj => by show upd g2 (cb Hs h) (nI h) j = _; rw [upd_n (by omega)]; exact hg1 j (by omega)) upd_s (fun j h1 (h2 : j < k) => by show upd g2 (cb Hs h) (nI h) j = _; rw [upd_n (by omega)]; exact hg2 j (by omega) h2)) hP hD hS (Nat.le_of_ble_eq_true rfl) (Nat.le_of_ble_eq_true rfl)
                · refine lv_aload_n hx hb dX1_offer_124 rfl (lv_at hl 0 rfl) ?_
                  refine va_get (D := D) (ci := 1) (v := .ref g1) (C := RX1) (T := TX1) (N := 3) hx hb hts (by decide +kernel) hown hE.1 hP 0 rfl rfl 0 (by decide) (hts (.fieldLink RX1 9 "DistinctDale$LeastHashes" "hashes" "[I") (by decide +kernel)) (fun _ h9 => h9) rfl dX1_offer_125 ?_
                  refine lv_iload hx hb dX1_offer_128 (lv_at hl 4 rfl) ?_
                  refine lv_aload_n hx hb dX1_offer_130 rfl (lv_at hl 0 rfl) ?_
                  refine va_get (D := D) (ci := 1) (v := .ref g1) (C := RX1) (T := TX1) (N := 3) hx hb hts (by decide +kernel) hown hE.1 hP 0 rfl rfl 0 (by decide) (hts (.fieldLink RX1 9 "DistinctDale$LeastHashes" "hashes" "[I") (by decide +kernel)) (fun _ h9 => h9) rfl dX1_offer_131 ?_
                  refine lv_iload hx hb dX1_offer_134 (lv_at hl 4 rfl) ?_
                  refine lv_iconst (v := nI 1) hx hb dX1_offer_136 (by decide) ?_
                  refine lv_isub hx hb dX1_offer_137 ?_
                  refine lv_eqi (z := nI (i - 1)) (pk_sub (by omega)) ?_
                  refine xcRi (va_runSN (As := [.ref g1, .int (nI (i - 1))]) (rest := [.int (nI i), .ref g1]) ⟨hx, hb, hml, hown, hts⟩ (c_at l D cy t0 g1 32 g2 (nI (i - 1)) (by omega)) ⟨va_cnB 2 hts ggX1_offer_X4_at rfl rfl rfl (xN5 hE.2.1.1) (hts (.initialized RX4) (by decide +kernel)) (by decide +kernel) ⟨Nat.le_of_ble_eq_true rfl, Nat.le_of_ble_eq_true rfl⟩, (hts (.static yX4_at) (by decide +kernel)), trivial⟩ (xPr.give (wc := [(g1, xI cy 32 g2)]) hE hS hP [1] rfl) rfl rfl hl.1 rfl (lv_room (Nat.le_of_ble_eq_true rfl)) dX1_offer_138 ⟨(Nat.zero_le _), (Nat.zero_le _)⟩) (fun r_30 hr_31 => ?_)
                  obtain rfl : r_30 = g (i - 1) := by rw [hr_31, xat_in (by omega) (by omega), hg1 _ (by omega)]
                  refine xcWv (wr := [(o1, .inr (1, [.ref g1, .int (nI k), .int (nI k)]))]) (va_runSN (As := [.ref g1, .int (nI i), .int (g (i - 1))]) (rest := []) ⟨hx, hb, hml, hown, hts⟩ ((c_put l D cy t0 g1 32 g2 (nI i) (g (i - 1)) (by omega)) H.size) ⟨va_cnB 3 hts ggX1_offer_X4_put rfl rfl rfl (xN7 hE.2.1.1) (hts (.initialized RX4) (by decide +kernel)) (by decide +kernel) ⟨Nat.le_of_ble_eq_true rfl, Nat.le_of_ble_eq_true rfl⟩, (hts (.static yX4_put) (by decide +kernel)), trivial⟩ (xPw.give (wc := [(g1, xI cy 32 g2)]) hE hS hA hP hD [1] (by decide) rfl) rfl rfl hl.1 rfl (lv_room (Nat.le_of_ble_eq_true rfl)) dX1_offer_141 ⟨(Nat.zero_le _), (Nat.zero_le _)⟩) hP hD hS hA [1] [0] rfl rfl (by decide) (by decide) (fun u_34 H locs hr_33 hP hD hS => ?_)
                  obtain rfl : u_34 = upd g2 i (g (i - 1)) := by rw [hr_33, xput_in (by omega) (by omega)]
                  have hP := hP.sub (ws' := [(o1, .inr (1, [.ref g1, .int (nI k), .int (nI k)])), (g1, xI cy 32 (upd g2 i (g (i - 1))))]) [0, 1] rfl
                  have hD := hD.sub (ws' := [(o1, .inr (1, [.ref g1, .int (nI k), .int (nI k)])), (g1, xI cy 32 (upd g2 i (g (i - 1))))]) [0, 1] (by decide) rfl
                  refine lv_iinc (v := nI (i - 1)) (lv' := [(4, .int (nI (i - 1))), (0, .ref o1), (1, .int (nI h)), (2, .int (nI 1)), (3, .int (nI (cb Hs h)))]) hx hb dX1_offer_144 hl (k := 4) rfl (dec1 (by omega)) (by decide) rfl (fun ls hl => ?_)
                  refine lv_goto (tgt := 118) hx hb dX1_offer_147 (by decide) ?_
                  exact ih_lq (i - 1) (upd g2 i (g (i - 1))) (by omega) (by omega) (fun j hj => by rw [upd_n (by omega)]; exact hg1 j (by omega)) (sh_step (by omega) hg2) (by omega) _ _ hP hD hS _ (lv_sub hl [1, 2, 3, 4, 0] rfl)
            exact lq ((k - 1) + 1) (k - 1) g (by omega) (by omega) (fun _ _ => rfl) (fun j h1 h2 => absurd h1 (by omega)) (by omega) _ _ hP hD hS _ (lv_sub hl [1, 2, 3, 4, 0] rfl)
        have j68 : ∀ (H : Heap) (locs : List Loc), xP D [(o1, .inr (1, [.ref g1, .int (nI k), .int (nI z)])), (g1, xI cy 32 g)] H → va_D A [(o1, .inr (1, [.ref g1, .int (nI k), .int (nI z)])), (g1, xI cy 32 g)] → va_S A s.heap H locs → ∀ (ls : Array Slot), lv_has ls 5 [(0, .ref o1), (1, .int (nI h)), (2, .int (nI 1)), (3, .int (nI (cb Hs h)))] → W p l e ({ frames := 1, cells := 0, slots := 0, locals := 22 } : Room) s m [.ref o1, .int (nI h)].toArray below meth c H locs 0 0 Q (F0 m 68 ls []) := by
          intro H locs hP hD hS ls hl
          refine lv_iload_n hx hb dX1_offer_68 rfl (lv_at hl 3 rfl) ?_
          refine lv_aload_n hx hb dX1_offer_69 rfl (lv_at hl 0 rfl) ?_
          refine va_get (D := D) (ci := 1) (v := .int (nI z)) (C := RX1) (T := TX1) (N := 3) hx hb hts (by decide +kernel) hown hE.1 hP 0 rfl rfl 2 (by decide) (hts (.fieldLink RX1 15 "DistinctDale$LeastHashes" "size" "I") (by decide +kernel)) (fun _ h9 => h9) rfl dX1_offer_70 ?_
          refine xb_icmp_ge (tgt := 89) (a := cb Hs h) (b := z) (by omega) (by omega) hx hb dX1_offer_73 (by decide) (fun c_35 => ?_) (fun c_35 => ?_)
          · exact absurd c_35 (by omega)
          · refine lv_aload_n hx hb dX1_offer_76 rfl (lv_at hl 0 rfl) ?_
            refine va_get (D := D) (ci := 1) (v := .ref g1) (C := RX1) (T := TX1) (N := 3) hx hb hts (by decide +kernel) hown hE.1 hP 0 rfl rfl 0 (by decide) (hts (.fieldLink RX1 9 "DistinctDale$LeastHashes" "hashes" "[I") (by decide +kernel)) (fun _ h9 => h9) rfl dX1_offer_77 ?_
            refine lv_iload_n hx hb dX1_offer_80 rfl (lv_at hl 3 rfl) ?_
            refine xcRi (va_runSN (As := [.ref g1, .int (nI (cb Hs h))]) (rest := []) ⟨hx, hb, hml, hown, hts⟩ (c_at l D cy t0 g1 32 g (nI (cb Hs h)) (by omega)) ⟨va_cnB 2 hts ggX1_offer_X4_at rfl rfl rfl (xN5 hE.2.1.1) (hts (.initialized RX4) (by decide +kernel)) (by decide +kernel) ⟨Nat.le_of_ble_eq_true rfl, Nat.le_of_ble_eq_true rfl⟩, (hts (.static yX4_at) (by decide +kernel)), trivial⟩ (xPr.give (wc := [(g1, xI cy 32 g)]) hE hS hP [1] rfl) rfl rfl hl.1 rfl (lv_room (Nat.le_of_ble_eq_true rfl)) dX1_offer_81 ⟨(Nat.zero_le _), (Nat.zero_le _)⟩) (fun r_36 hr_37 => ?_)
            obtain ⟨t3, hv1, hv2, hv3, hv4⟩ := hL.at (j := cb Hs h) (by omega)
            obtain rfl : r_36 = nI t3 := by rw [hr_37, xat_in (by omega) (by omega), hv4]
            refine lv_iload_n hx hb dX1_offer_84 rfl (lv_at hl 1 rfl) ?_
            refine xb_icmp_ne (tgt := 89) (a := t3) (b := h) (by omega) (by omega) hx hb dX1_offer_85 (by decide) (fun c_38 => ?_) (fun c_38 => ?_)
            · have hbq : Hs h = false := by
                cases hq : Hs h with
                | false => rfl
                | true => exact absurd (cb_inj hv2 hq hv3) c_38
              exact j89  hbq  _ _ hP hD hS _ (lv_sub hl [0, 1, 2, 3] rfl)
            · exact kret (z, g) _ _ _ _ _ _ dX1_offer_88 (hL.congr (insS_in (by rw [← c_38]; exact hv2))) hP hD hS (Nat.le_of_ble_eq_true rfl) (Nat.le_of_ble_eq_true rfl)
        have lp : ∀ (n9 : Nat), ∀ (p9 : Nat), (hp : p9 ≤ z) → (hr : cb Hs h ≤ p9) → p9 < n9 → ∀ (H : Heap) (locs : List Loc), xP D [(o1, .inr (1, [.ref g1, .int (nI k), .int (nI z)])), (g1, xI cy 32 g)] H → va_D A [(o1, .inr (1, [.ref g1, .int (nI k), .int (nI z)])), (g1, xI cy 32 g)] → va_S A s.heap H locs → ∀ (ls : Array Slot), lv_has ls 5 [(0, .ref o1), (1, .int (nI h)), (2, .int (nI 1)), (3, .int (nI p9))] → W p l e ({ frames := 1, cells := 0, slots := 0, locals := 22 } : Room) s m [.ref o1, .int (nI h)].toArray below meth c H locs 0 0 Q (F0 m 44 ls []) := by
          intro n9
          induction n9 with
          | zero => intro p9 hp hr hm; exact absurd hm (Nat.not_lt_zero _)
          | succ n9 ih_lp =>
            intro p9 hp hr hm H locs hP hD hS ls hl
            refine lv_iload_n hx hb dX1_offer_44 rfl (lv_at hl 3 rfl) ?_
            refine xb_if_le (tgt := 68) (a := p9) (by omega) hx hb dX1_offer_45 (by decide) (fun c_39 => ?_) (fun c_39 => ?_)
            · have eo : p9 = cb Hs h := by omega
              rw [eo] at hl
              exact j68    _ _ hP hD hS _ (lv_sub hl [0, 1, 2, 3] rfl)
            · refine lv_aload_n hx hb dX1_offer_48 rfl (lv_at hl 0 rfl) ?_
              refine va_get (D := D) (ci := 1) (v := .ref g1) (C := RX1) (T := TX1) (N := 3) hx hb hts (by decide +kernel) hown hE.1 hP 0 rfl rfl 0 (by decide) (hts (.fieldLink RX1 9 "DistinctDale$LeastHashes" "hashes" "[I") (by decide +kernel)) (fun _ h9 => h9) rfl dX1_offer_49 ?_
              refine lv_iload_n hx hb dX1_offer_52 rfl (lv_at hl 3 rfl) ?_
              refine lv_iconst (v := nI 1) hx hb dX1_offer_53 (by decide) ?_
              refine lv_isub hx hb dX1_offer_54 ?_
              refine lv_eqi (z := nI (p9 - 1)) (pk_sub (by omega)) ?_
              refine xcRi (va_runSN (As := [.ref g1, .int (nI (p9 - 1))]) (rest := []) ⟨hx, hb, hml, hown, hts⟩ (c_at l D cy t0 g1 32 g (nI (p9 - 1)) (by omega)) ⟨va_cnB 2 hts ggX1_offer_X4_at rfl rfl rfl (xN5 hE.2.1.1) (hts (.initialized RX4) (by decide +kernel)) (by decide +kernel) ⟨Nat.le_of_ble_eq_true rfl, Nat.le_of_ble_eq_true rfl⟩, (hts (.static yX4_at) (by decide +kernel)), trivial⟩ (xPr.give (wc := [(g1, xI cy 32 g)]) hE hS hP [1] rfl) rfl rfl hl.1 rfl (lv_room (Nat.le_of_ble_eq_true rfl)) dX1_offer_55 ⟨(Nat.zero_le _), (Nat.zero_le _)⟩) (fun r_40 hr_41 => ?_)
              obtain ⟨t2, hu1, hu2, hu3, hu4⟩ := hL.at (j := p9 - 1) (by omega)
              obtain rfl : r_40 = nI t2 := by rw [hr_41, xat_in (by omega) (by omega), hu4]
              refine lv_iload_n hx hb dX1_offer_58 rfl (lv_at hl 1 rfl) ?_
              refine xb_icmp_lt (tgt := 68) (a := t2) (b := h) (by omega) (by omega) hx hb dX1_offer_59 (by decide) (fun c_42 => ?_) (fun c_42 => ?_)
              · have hq9 := cb_lt c_42 hu2
                have eo : p9 = cb Hs h := by omega
                rw [eo] at hl
                exact j68    _ _ hP hD hS _ (lv_sub hl [0, 1, 2, 3] rfl)
              · refine lv_iinc (v := nI (p9 - 1)) (lv' := [(3, .int (nI (p9 - 1))), (0, .ref o1), (1, .int (nI h)), (2, .int (nI 1))]) hx hb dX1_offer_62 hl (k := 3) rfl (dec1 (by omega)) (by decide) rfl (fun ls hl => ?_)
                refine lv_goto (tgt := 44) hx hb dX1_offer_65 (by decide) ?_
                have hq := cb_mono (P := Hs) c_42
                exact ih_lp (p9 - 1) (by omega) (by omega) (by omega) _ _ hP hD hS _ (lv_sub hl [1, 2, 3, 0] rfl)
        exact lp (z + 1) z (Nat.le_refl _) (by omega) (by omega) _ _ hP hD hS _ (lv_sub hl [2, 3, 1, 0] rfl)
      · exact kret (z, g) _ _ _ _ _ _ dX1_offer_38 (hL.skip (by omega) ht1 hh ht2 (by omega) c_24) hP hD hS (Nat.le_of_ble_eq_true rfl) (Nat.le_of_ble_eq_true rfl)
set_option maxHeartbeats 4000000 in
set_option maxRecDepth 100000 in
theorem c_keepThose (l : Launch) (D : va_G) (cy : Nat → ClassId) (t0 : Nat) (P : Nat → Bool) (o1 g1 k z h0 qi qd n cap : Nat) (g fi : Nat → Int32) (hk2 : 2 ≤ k) (hk : k ≤ 32) (hV : RW P 100000 n fi) (hn : n ≤ cap) (hcap : cap ≤ 100000) : xWv (S := Nat × (Nat → Int32)) l yX1_keepThoseOf wsX1_keepThoseOf ({ frames := 2, cells := 0, slots := 0, locals := 46 } : Room) D cy t0 ([.ref o1, .ref h0]) ([(o1, .inr (1, [.ref g1, .int (nI k), .int (nI z)])), (g1, xI cy 32 g), (h0, .inr (0, [.ref qi, .ref qd, .int (nI n)])), (qi, xI cy cap fi)]) (fun u => LH k (hs P 100000) u.1 u.2) (fun u => [(o1, .inr (1, [.ref g1, .int (nI k), .int (nI u.1)])), (g1, xI cy 32 u.2), (h0, .inr (0, [.ref qi, .ref qd, .int (nI n)])), (qi, xI cy cap fi)]) 0 0 := by
  refine xofWv (cc := cX1_keepThoseOf) (maxL := 3) (by decide) rfl (Nat.le_of_ble_eq_true rfl) ?_
  intro p e s m below meth c Q A ls hx hb hml hts hown hin hE hA H locs hP hD hl hS kret
  have hl : lv_has ls 3 [(0, .ref o1), (1, .ref h0)] := hl
  have hV1 := hV.1
  refine lv_aload_n hx hb dX1_keepThoseOf_0 rfl (lv_at hl 0 rfl) ?_
  refine xcWv (wr := [(g1, xI cy 32 g), (h0, .inr (0, [.ref qi, .ref qd, .int (nI n)])), (qi, xI cy cap fi)]) (va_runV (As := []) (rest := []) ⟨hx, hb, hml, hown, hts⟩ ((c_forget l D cy t0 o1 g1 k z) H.size) (cwV 0 hts gX1_keepThoseOf_X1_forget rfl rfl rfl (by decide +kernel) ⟨Nat.le_of_ble_eq_true rfl, Nat.le_of_ble_eq_true rfl⟩) (xPw.giveV (wc := [(o1, .inr (1, [.ref g1, .int (nI k), .int (nI z)]))]) hE hS hA hP hD [0] (by decide) rfl 0 1 rfl rfl) rfl rfl hl.1 rfl (lv_room (Nat.le_of_ble_eq_true rfl)) dX1_keepThoseOf_1 ⟨(Nat.zero_le _), (Nat.zero_le _)⟩) hP hD hS hA [0] [1, 2, 3] rfl rfl (by decide) (by decide) (fun u_3 H locs hr_2 hP hD hS => ?_)
  have hP := hP.sub (ws' := [(o1, .inr (1, [.ref g1, .int (nI k), .int (nI 0)])), (g1, xI cy 32 g), (h0, .inr (0, [.ref qi, .ref qd, .int (nI n)])), (qi, xI cy cap fi)]) [3, 0, 1, 2] rfl
  have hD := hD.sub (ws' := [(o1, .inr (1, [.ref g1, .int (nI k), .int (nI 0)])), (g1, xI cy 32 g), (h0, .inr (0, [.ref qi, .ref qd, .int (nI n)])), (qi, xI cy cap fi)]) [3, 0, 1, 2] (by decide) rfl
  refine lv_iconst (v := nI 0) hx hb dX1_keepThoseOf_4 (by decide) ?_
  refine lv_istore_n (lv' := [(2, .int (nI 0)), (0, .ref o1), (1, .ref h0)]) hx hb dX1_keepThoseOf_5 rfl hl (by decide) rfl (fun ls hl => ?_)
  have lp : ∀ (n9 : Nat), ∀ (lo : Nat) (z2 : Nat) (g2 : Nat → Int32), (hlo : lo ≤ 100000) → (hL : LH k (hs P lo) z2 g2) → n - cb P lo < n9 → ∀ (H : Heap) (locs : List Loc), xP D [(o1, .inr (1, [.ref g1, .int (nI k), .int (nI z2)])), (g1, xI cy 32 g2), (h0, .inr (0, [.ref qi, .ref qd, .int (nI n)])), (qi, xI cy cap fi)] H → va_D A [(o1, .inr (1, [.ref g1, .int (nI k), .int (nI z2)])), (g1, xI cy 32 g2), (h0, .inr (0, [.ref qi, .ref qd, .int (nI n)])), (qi, xI cy cap fi)] → va_S A s.heap H locs → ∀ (ls : Array Slot), lv_has ls 3 [(0, .ref o1), (1, .ref h0), (2, .int (nI (cb P lo)))] → W p l e ({ frames := 2, cells := 0, slots := 0, locals := 46 } : Room) s m [.ref o1, .ref h0].toArray below meth c H locs 0 0 Q (F0 m 6 ls []) := by
    intro n9
    induction n9 with
    | zero => intro lo z2 g2 hlo hL hm; exact absurd hm (Nat.not_lt_zero _)
    | succ n9 ih_lp =>
      intro lo z2 g2 hlo hL hm H locs hP hD hS ls hl
      have hlc : cb P lo ≤ cb P 100000 := cb_mono hlo
      refine lv_iload_n hx hb dX1_keepThoseOf_6 rfl (lv_at hl 2 rfl) ?_
      refine lv_aload_n hx hb dX1_keepThoseOf_7 rfl (lv_at hl 1 rfl) ?_
      refine va_get (D := D) (ci := 0) (v := .int (nI n)) (C := RX0) (T := TX0) (N := 3) hx hb hts (by decide +kernel) hown hE.1 hP 2 rfl rfl 2 (by decide) (hts (.fieldLink RX1 25 "DistinctDale$Basket" "size" "I") (by decide +kernel)) (fun _ h9 => h9) rfl dX1_keepThoseOf_8 ?_
      refine xb_icmp_ge (tgt := 35) (a := cb P lo) (b := n) (by omega) (by omega) hx hb dX1_keepThoseOf_11 (by decide) (fun c_4 => ?_) (fun c_4 => ?_)
      · exact kret (z2, g2) _ _ _ _ _ _ dX1_keepThoseOf_35 (hL.congr (fun y => hs_none hlo (cb_nomore (by omega)) y)) hP hD hS (Nat.le_of_ble_eq_true rfl) (Nat.le_of_ble_eq_true rfl)
      · refine lv_aload_n hx hb dX1_keepThoseOf_14 rfl (lv_at hl 0 rfl) ?_
        refine lv_aload_n hx hb dX1_keepThoseOf_15 rfl (lv_at hl 1 rfl) ?_
        refine va_get (D := D) (ci := 0) (v := .ref qi) (C := RX0) (T := TX0) (N := 3) hx hb hts (by decide +kernel) hown hE.1 hP 2 rfl rfl 0 (by decide) (hts (.fieldLink RX1 28 "DistinctDale$Basket" "items" "[I") (by decide +kernel)) (fun _ h9 => h9) rfl dX1_keepThoseOf_16 ?_
        refine lv_iload_n hx hb dX1_keepThoseOf_19 rfl (lv_at hl 2 rfl) ?_
        refine xcRi (va_runSN (As := [.ref qi, .int (nI (cb P lo))]) (rest := [.ref o1]) ⟨hx, hb, hml, hown, hts⟩ (c_at l D cy t0 qi cap fi (nI (cb P lo)) (by omega)) ⟨va_cnB 2 hts ggX1_keepThoseOf_X4_at rfl rfl rfl (xN5 hE.2.1.1) (hts (.initialized RX4) (by decide +kernel)) (by decide +kernel) ⟨Nat.le_of_ble_eq_true rfl, Nat.le_of_ble_eq_true rfl⟩, (hts (.static yX4_at) (by decide +kernel)), trivial⟩ (xPr.give (wc := [(qi, xI cy cap fi)]) hE hS hP [3] rfl) rfl rfl hl.1 rfl (lv_room (Nat.le_of_ble_eq_true rfl)) dX1_keepThoseOf_20 ⟨(Nat.zero_le _), (Nat.zero_le _)⟩) (fun r_5 hr_6 => ?_)
        obtain ⟨x, hx1, hx2, hx3, hx4, hx5, hx6⟩ := hV.next hlo (by omega)
        obtain rfl : r_5 = nI x := by rw [hr_6, xat_in (by omega) (by omega), hx6]
        refine xcRi (va_runSN (As := [.int (nI x)]) (rest := [.ref o1]) ⟨hx, hb, hml, hown, hts⟩ (c_hashFor l D cy t0 x hx2) ⟨va_cnB 1 hts ggX1_keepThoseOf_X4_hashFor rfl rfl rfl (xN6 hE.2.1.1) (hts (.initialized RX4) (by decide +kernel)) (by decide +kernel) ⟨Nat.le_of_ble_eq_true rfl, Nat.le_of_ble_eq_true rfl⟩, (hts (.static yX4_hashFor) (by decide +kernel)), trivial⟩ (xPr.give (wc := []) hE hS hP [] rfl) rfl rfl hl.1 rfl (lv_room (Nat.le_of_ble_eq_true rfl)) dX1_keepThoseOf_23 ⟨(Nat.zero_le _), (Nat.zero_le _)⟩) (fun r_7 hr_8 => ?_)
        obtain rfl : r_7 = nI (hsh x) := hr_8
        have hhl := hsh_lt x
        refine xcWv (wr := [(h0, .inr (0, [.ref qi, .ref qd, .int (nI n)])), (qi, xI cy cap fi)]) (va_runV (As := [.int (nI (hsh x))]) (rest := []) ⟨hx, hb, hml, hown, hts⟩ ((c_offer l D cy t0 (hs P lo) o1 g1 k z2 (hsh x) g2 hk2 hk hL hhl) H.size) (cwV 1 hts gX1_keepThoseOf_X1_offer rfl rfl rfl (by decide +kernel) ⟨Nat.le_of_ble_eq_true rfl, Nat.le_of_ble_eq_true rfl⟩) (xPw.giveV (wc := [(o1, .inr (1, [.ref g1, .int (nI k), .int (nI z2)])), (g1, xI cy 32 g2)]) hE hS hA hP hD [0, 1] (by decide) rfl 0 1 rfl rfl) rfl rfl hl.1 rfl (lv_room (Nat.le_of_ble_eq_true rfl)) dX1_keepThoseOf_26 ⟨(Nat.zero_le _), (Nat.zero_le _)⟩) hP hD hS hA [0, 1] [2, 3] rfl rfl (by decide) (by decide) (fun u_11 H locs hr_10 hP hD hS => ?_)
        obtain ⟨z3, g3⟩ := u_11
        have hL3 : LH k (insS (hs P lo) (hsh x)) z3 g3 := hr_10
        have hP := hP.sub (ws' := [(o1, .inr (1, [.ref g1, .int (nI k), .int (nI z3)])), (g1, xI cy 32 g3), (h0, .inr (0, [.ref qi, .ref qd, .int (nI n)])), (qi, xI cy cap fi)]) [2, 3, 0, 1] rfl
        have hD := hD.sub (ws' := [(o1, .inr (1, [.ref g1, .int (nI k), .int (nI z3)])), (g1, xI cy 32 g3), (h0, .inr (0, [.ref qi, .ref qd, .int (nI n)])), (qi, xI cy cap fi)]) [2, 3, 0, 1] (by decide) rfl
        refine lv_iinc (v := nI (cb P lo + 1)) (lv' := [(2, .int (nI (cb P lo + 1))), (0, .ref o1), (1, .ref h0)]) hx hb dX1_keepThoseOf_29 hl (k := 2) rfl (nI_add _ 1) (by decide) rfl (fun ls hl => ?_)
        refine lv_goto (tgt := 6) hx hb dX1_keepThoseOf_32 (by decide) ?_
        have e1 : cb P lo + 1 = cb P (x + 1) := by rw [cb_t hx3]; omega
        rw [e1] at hl
        exact ih_lp (x + 1) z3 g3 (by omega) (hL3.congr (hs_step hx1 hx5 hx3)) (by omega) _ _ hP hD hS _ (lv_sub hl [1, 2, 0] rfl)
  exact lp (n + 1) 0 0 g (Nat.zero_le _) (LH0 (fun _ => rfl)) (by omega) _ _ hP hD hS _ (lv_sub hl [1, 2, 0] rfl)
set_option maxHeartbeats 4000000 in
set_option maxRecDepth 100000 in
theorem c_offerAll (l : Launch) (D : va_G) (cy : Nat → ClassId) (t0 : Nat) (Hs H2 : Nat → Bool) (o1 g1 k z o2 gg k2 z2 : Nat) (g g2 : Nat → Int32) (hk2 : 2 ≤ k) (hk : k ≤ 32) (hL0 : LH k Hs z g) (hL2 : LH k2 H2 z2 g2) (hz2 : z2 ≤ 32) (hK2 : ∀ y, 16777213 ≤ y → kS k2 H2 y = false) : xWv (S := Nat × (Nat → Int32)) l yX1_offerAllOf wsX1_offerAllOf ({ frames := 2, cells := 0, slots := 0, locals := 46 } : Room) D cy t0 ([.ref o1, .ref o2]) ([(o1, .inr (1, [.ref g1, .int (nI k), .int (nI z)])), (g1, xI cy 32 g), (o2, .inr (1, [.ref gg, .int (nI k2), .int (nI z2)])), (gg, xI cy 32 g2)]) (fun u => LH k (orS Hs (kS k2 H2)) u.1 u.2) (fun u => [(o1, .inr (1, [.ref g1, .int (nI k), .int (nI u.1)])), (g1, xI cy 32 u.2), (o2, .inr (1, [.ref gg, .int (nI k2), .int (nI z2)])), (gg, xI cy 32 g2)]) 0 0 := by
  refine xofWv (cc := cX1_offerAllOf) (maxL := 3) (by decide) rfl (Nat.le_of_ble_eq_true rfl) ?_
  intro p e s m below meth c Q A ls hx hb hml hts hown hin hE hA H locs hP hD hl hS kret
  have hl : lv_has ls 3 [(0, .ref o1), (1, .ref o2)] := hl
  refine lv_iconst (v := nI 0) hx hb dX1_offerAllOf_0 (by decide) ?_
  refine lv_istore_n (lv' := [(2, .int (nI 0)), (0, .ref o1), (1, .ref o2)]) hx hb dX1_offerAllOf_1 rfl hl (by decide) rfl (fun ls hl => ?_)
  have lp : ∀ (n9 : Nat), ∀ (lo : Nat) (z3 : Nat) (g3 : Nat → Int32), (hlo : lo ≤ 16777213) → (hL : LH k (upS Hs (kS k2 H2) lo) z3 g3) → z2 - cb (kS k2 H2) lo < n9 → ∀ (H : Heap) (locs : List Loc), xP D [(o1, .inr (1, [.ref g1, .int (nI k), .int (nI z3)])), (g1, xI cy 32 g3), (o2, .inr (1, [.ref gg, .int (nI k2), .int (nI z2)])), (gg, xI cy 32 g2)] H → va_D A [(o1, .inr (1, [.ref g1, .int (nI k), .int (nI z3)])), (g1, xI cy 32 g3), (o2, .inr (1, [.ref gg, .int (nI k2), .int (nI z2)])), (gg, xI cy 32 g2)] → va_S A s.heap H locs → ∀ (ls : Array Slot), lv_has ls 3 [(0, .ref o1), (1, .ref o2), (2, .int (nI (cb (kS k2 H2) lo)))] → W p l e ({ frames := 2, cells := 0, slots := 0, locals := 46 } : Room) s m [.ref o1, .ref o2].toArray below meth c H locs 0 0 Q (F0 m 2 ls []) := by
    intro n9
    induction n9 with
    | zero => intro lo z3 g3 hlo hL hm; exact absurd hm (Nat.not_lt_zero _)
    | succ n9 ih_lp =>
      intro lo z3 g3 hlo hL hm H locs hP hD hS ls hl
      have hcl := cb_le (P := (kS k2 H2)) (n := lo)
      refine lv_iload_n hx hb dX1_offerAllOf_2 rfl (lv_at hl 2 rfl) ?_
      refine lv_aload_n hx hb dX1_offerAllOf_3 rfl (lv_at hl 1 rfl) ?_
      refine va_get (D := D) (ci := 1) (v := .int (nI z2)) (C := RX1) (T := TX1) (N := 3) hx hb hts (by decide +kernel) hown hE.1 hP 2 rfl rfl 2 (by decide) (hts (.fieldLink RX1 15 "DistinctDale$LeastHashes" "size" "I") (by decide +kernel)) (fun _ h9 => h9) rfl dX1_offerAllOf_4 ?_
      refine xb_icmp_ge (tgt := 28) (a := cb (kS k2 H2) lo) (b := z2) (by omega) (by omega) hx hb dX1_offerAllOf_7 (by decide) (fun c_1 => ?_) (fun c_1 => ?_)
      · exact kret (z3, g3) _ _ _ _ _ _ dX1_offerAllOf_28 (hL.congr (upS_end (hL2.cnt (by omega) hlo) hK2)) hP hD hS (Nat.le_of_ble_eq_true rfl) (Nat.le_of_ble_eq_true rfl)
      · refine lv_aload_n hx hb dX1_offerAllOf_10 rfl (lv_at hl 0 rfl) ?_
        refine lv_aload_n hx hb dX1_offerAllOf_11 rfl (lv_at hl 1 rfl) ?_
        refine va_get (D := D) (ci := 1) (v := .ref gg) (C := RX1) (T := TX1) (N := 3) hx hb hts (by decide +kernel) hown hE.1 hP 2 rfl rfl 0 (by decide) (hts (.fieldLink RX1 9 "DistinctDale$LeastHashes" "hashes" "[I") (by decide +kernel)) (fun _ h9 => h9) rfl dX1_offerAllOf_12 ?_
        refine lv_iload_n hx hb dX1_offerAllOf_15 rfl (lv_at hl 2 rfl) ?_
        refine xcRi (va_runSN (As := [.ref gg, .int (nI (cb (kS k2 H2) lo))]) (rest := [.ref o1]) ⟨hx, hb, hml, hown, hts⟩ (c_at l D cy t0 gg 32 g2 (nI (cb (kS k2 H2) lo)) (by omega)) ⟨va_cnB 2 hts ggX1_offerAllOf_X4_at rfl rfl rfl (xN5 hE.2.1.1) (hts (.initialized RX4) (by decide +kernel)) (by decide +kernel) ⟨Nat.le_of_ble_eq_true rfl, Nat.le_of_ble_eq_true rfl⟩, (hts (.static yX4_at) (by decide +kernel)), trivial⟩ (xPr.give (wc := [(gg, xI cy 32 g2)]) hE hS hP [3] rfl) rfl rfl hl.1 rfl (lv_room (Nat.le_of_ble_eq_true rfl)) dX1_offerAllOf_16 ⟨(Nat.zero_le _), (Nat.zero_le _)⟩) (fun r_2 hr_3 => ?_)
        obtain ⟨t, ht1, ht2, ht3, ht4, ht5, ht6⟩ := hL2.next hlo (by omega)
        obtain rfl : r_2 = nI t := by rw [hr_3, xat_in (by omega) (by omega), ht6]
        refine xcWv (wr := [(o2, .inr (1, [.ref gg, .int (nI k2), .int (nI z2)])), (gg, xI cy 32 g2)]) (va_runV (As := [.int (nI t)]) (rest := []) ⟨hx, hb, hml, hown, hts⟩ ((c_offer l D cy t0 (upS Hs (kS k2 H2) lo) o1 g1 k z3 t g3 hk2 hk hL ht2) H.size) (cwV 1 hts gX1_offerAllOf_X1_offer rfl rfl rfl (by decide +kernel) ⟨Nat.le_of_ble_eq_true rfl, Nat.le_of_ble_eq_true rfl⟩) (xPw.giveV (wc := [(o1, .inr (1, [.ref g1, .int (nI k), .int (nI z3)])), (g1, xI cy 32 g3)]) hE hS hA hP hD [0, 1] (by decide) rfl 0 1 rfl rfl) rfl rfl hl.1 rfl (lv_room (Nat.le_of_ble_eq_true rfl)) dX1_offerAllOf_19 ⟨(Nat.zero_le _), (Nat.zero_le _)⟩) hP hD hS hA [0, 1] [2, 3] rfl rfl (by decide) (by decide) (fun u_6 H locs hr_5 hP hD hS => ?_)
        obtain ⟨z4, g4⟩ := u_6
        have hL4 : LH k (insS (upS Hs (kS k2 H2) lo) t) z4 g4 := hr_5
        have hP := hP.sub (ws' := [(o1, .inr (1, [.ref g1, .int (nI k), .int (nI z4)])), (g1, xI cy 32 g4), (o2, .inr (1, [.ref gg, .int (nI k2), .int (nI z2)])), (gg, xI cy 32 g2)]) [2, 3, 0, 1] rfl
        have hD := hD.sub (ws' := [(o1, .inr (1, [.ref g1, .int (nI k), .int (nI z4)])), (g1, xI cy 32 g4), (o2, .inr (1, [.ref gg, .int (nI k2), .int (nI z2)])), (gg, xI cy 32 g2)]) [2, 3, 0, 1] (by decide) rfl
        refine lv_iinc (v := nI (cb (kS k2 H2) lo + 1)) (lv' := [(2, .int (nI (cb (kS k2 H2) lo + 1))), (0, .ref o1), (1, .ref o2)]) hx hb dX1_offerAllOf_22 hl (k := 2) rfl (nI_add _ 1) (by decide) rfl (fun ls hl => ?_)
        refine lv_goto (tgt := 2) hx hb dX1_offerAllOf_25 (by decide) ?_
        have e1 : cb (kS k2 H2) lo + 1 = cb (kS k2 H2) (t + 1) := by rw [cb_t ht3]; omega
        rw [e1] at hl
        exact ih_lp (t + 1) z4 g4 (by omega) (hL4.congr (upS_step ht1 ht5 ht3)) (by omega) _ _ hP hD hS _ (lv_sub hl [1, 2, 0] rfl)
  exact lp (z2 + 1) 0 z g (Nat.zero_le _) (hL0.congr upS_0) (by omega) _ _ hP hD hS _ (lv_sub hl [1, 2, 0] rfl)
set_option maxHeartbeats 4000000 in
set_option maxRecDepth 100000 in
theorem c_has (l : Launch) (D : va_G) (cy : Nat → ClassId) (t0 : Nat) (Hs : Nat → Bool) (o1 g1 k z h : Nat) (g : Nat → Int32) (hk : z ≤ 32) (hL : LH k Hs z g) (hh : h < 16777213) : xRi l yX1_has wsX1_has ({ frames := 1, cells := 0, slots := 0, locals := 21 } : Room) D cy t0 ([.ref o1, .int (nI h)]) ([(o1, .inr (1, [.ref g1, .int (nI k), .int (nI z)])), (g1, xI cy 32 g)]) (fun r => r = xb (kS k Hs h)) := by
  refine xofRi (cc := cX1_has) (maxL := 3) (by decide) rfl (Nat.le_of_ble_eq_true rfl) (fun r h => by rw [h]; exact xb_nar _) ?_
  intro p e s m below meth c Q ls hx hb hml hts hown hE hP hl hS kret
  have hl : lv_has ls 3 [(0, .ref o1), (1, .int (nI h))] := hl
  refine lv_iconst (v := nI 0) hx hb dX1_has_0 (by decide) ?_
  refine lv_istore_n (lv' := [(2, .int (nI 0)), (0, .ref o1), (1, .int (nI h))]) hx hb dX1_has_1 rfl hl (by decide) rfl (fun ls hl => ?_)
  have lp : ∀ (n9 : Nat), ∀ (lo : Nat), (hlo : lo ≤ 16777213) → (hno : ∀ y, y < lo → kS k Hs y = true → y ≠ h) → z - cb (kS k Hs) lo < n9 → ∀ (ls : Array Slot), lv_has ls 3 [(0, .ref o1), (1, .int (nI h)), (2, .int (nI (cb (kS k Hs) lo)))] → W p l e ({ frames := 1, cells := 0, slots := 0, locals := 21 } : Room) s m [.ref o1, .int (nI h)].toArray below meth c s.heap [] 0 0 Q (F0 m 2 ls []) := by
    intro n9
    induction n9 with
    | zero => intro lo hlo hno hm; exact absurd hm (Nat.not_lt_zero _)
    | succ n9 ih_lp =>
      intro lo hlo hno hm ls hl
      have hcl := cb_le (P := kS k Hs) (n := lo)
      refine lv_iload_n hx hb dX1_has_2 rfl (lv_at hl 2 rfl) ?_
      refine lv_aload_n hx hb dX1_has_3 rfl (lv_at hl 0 rfl) ?_
      refine va_get (D := D) (ci := 1) (v := .int (nI z)) (C := RX1) (T := TX1) (N := 3) hx hb hts (by decide +kernel) hown hE.1 hP 0 rfl rfl 2 (by decide) (hts (.fieldLink RX1 15 "DistinctDale$LeastHashes" "size" "I") (by decide +kernel)) (fun _ h9 => h9) rfl dX1_has_4 ?_
      refine xb_icmp_ge (tgt := 30) (a := cb (kS k Hs) lo) (b := z) (by omega) (by omega) hx hb dX1_has_7 (by decide) (fun c_1 => ?_) (fun c_1 => ?_)
      · refine lv_iconst (v := nI 0) hx hb dX1_has_30 (by decide) ?_
        have hf : kS k Hs h = false := by
          cases hb2 : kS k Hs h with
          | false => rfl
          | true =>
            rcases Nat.lt_or_ge h lo with q | q
            · exact absurd rfl (hno h q hb2)
            · rw [hL.cnt (by omega) hlo h q hh] at hb2; cases hb2
        exact kret _ _ _ dX1_has_31 (by rw [hf]; rfl)
      · refine lv_aload_n hx hb dX1_has_10 rfl (lv_at hl 0 rfl) ?_
        refine va_get (D := D) (ci := 1) (v := .ref g1) (C := RX1) (T := TX1) (N := 3) hx hb hts (by decide +kernel) hown hE.1 hP 0 rfl rfl 0 (by decide) (hts (.fieldLink RX1 9 "DistinctDale$LeastHashes" "hashes" "[I") (by decide +kernel)) (fun _ h9 => h9) rfl dX1_has_11 ?_
        refine lv_iload_n hx hb dX1_has_14 rfl (lv_at hl 2 rfl) ?_
        refine xcRi (va_runSN (As := [.ref g1, .int (nI (cb (kS k Hs) lo))]) (rest := []) ⟨hx, hb, hml, hown, hts⟩ (c_at l D cy t0 g1 32 g (nI (cb (kS k Hs) lo)) (by omega)) ⟨va_cnB 2 hts ggX1_has_X4_at rfl rfl rfl (xN5 hE.2.1.1) (hts (.initialized RX4) (by decide +kernel)) (by decide +kernel) ⟨Nat.le_of_ble_eq_true rfl, Nat.le_of_ble_eq_true rfl⟩, (hts (.static yX4_at) (by decide +kernel)), trivial⟩ (xPr.give (wc := [(g1, xI cy 32 g)]) hE hS hP [1] rfl) rfl rfl hl.1 rfl (lv_room (Nat.le_of_ble_eq_true rfl)) dX1_has_15 ⟨(Nat.zero_le _), (Nat.zero_le _)⟩) (fun r_2 hr_3 => ?_)
        obtain ⟨t, ht1, ht2, ht3, ht4, ht5, ht6⟩ := hL.next hlo (by omega)
        obtain rfl : r_2 = nI t := by rw [hr_3, xat_in (by omega) (by omega), ht6]
        refine lv_iload_n hx hb dX1_has_18 rfl (lv_at hl 1 rfl) ?_
        refine xb_icmp_ne (tgt := 24) (a := t) (b := h) (by omega) (by omega) hx hb dX1_has_19 (by decide) (fun c_4 => ?_) (fun c_4 => ?_)
        · refine lv_iinc (v := nI (cb (kS k Hs) lo + 1)) (lv' := [(2, .int (nI (cb (kS k Hs) lo + 1))), (0, .ref o1), (1, .int (nI h))]) hx hb dX1_has_24 hl (k := 2) rfl (nI_add _ 1) (by decide) rfl (fun ls hl => ?_)
          refine lv_goto (tgt := 2) hx hb dX1_has_27 (by decide) ?_
          have e1 : cb (kS k Hs) lo + 1 = cb (kS k Hs) (t + 1) := by rw [cb_t ht3]; omega
          rw [e1] at hl
          have hno2 : ∀ y, y < t + 1 → kS k Hs y = true → y ≠ h := fun y h1 h2 => by
            rcases Nat.lt_or_ge y lo with q | q
            · exact hno y q h2
            · rcases Nat.lt_or_ge y t with q2 | q2
              · rw [ht5 y q q2] at h2; cases h2
              · have : y = t := by omega
                rw [this]; exact c_4
          exact ih_lp (t + 1) (by omega) hno2 (by omega) _ (lv_sub hl [1, 2, 0] rfl)
        · refine lv_iconst (v := nI 1) hx hb dX1_has_22 (by decide) ?_
          exact kret _ _ _ dX1_has_23 (by rw [← c_4, ht3]; rfl)
  exact lp (z + 1) 0 (Nat.zero_le _) (fun y hy => absurd hy (Nat.not_lt_zero _)) (by omega) _ (lv_sub hl [1, 2, 0] rfl)
set_option maxHeartbeats 4000000 in
set_option maxRecDepth 100000 in
theorem c_est (l : Launch) (D : va_G) (cy : Nat → ClassId) (t0 : Nat) (Hs : Nat → Bool) (o1 g1 k z : Nat) (g : Nat → Int32) (hk2 : 2 ≤ k) (hk : k ≤ 32) (hL : LH k Hs z g) : xRi l yX1_estimate wsX1_estimate ({ frames := 1, cells := 0, slots := 0, locals := 21 } : Room) D cy t0 ([.ref o1]) ([(o1, .inr (1, [.ref g1, .int (nI k), .int (nI z)])), (g1, xI cy 32 g)]) (fun r => r = nI (estV k Hs)) := by
  refine xofRi (cc := cX1_estimate) (maxL := 2) (by decide) rfl (Nat.le_of_ble_eq_true rfl) (fun _ _ => rfl) ?_
  intro p e s m below meth c Q ls hx hb hml hts hown hE hP hl hS kret
  have hl : lv_has ls 2 [(0, .ref o1)] := hl
  have hL1 := hL.1
  have hmul : (k - 1) * 16777213 ≤ 31 * 16777213 := Nat.mul_le_mul (by omega) (Nat.le_refl _)
  refine lv_aload_n hx hb dX1_estimate_0 rfl (lv_at hl 0 rfl) ?_
  refine va_get (D := D) (ci := 1) (v := .ref g1) (C := RX1) (T := TX1) (N := 3) hx hb hts (by decide +kernel) hown hE.1 hP 0 rfl rfl 0 (by decide) (hts (.fieldLink RX1 9 "DistinctDale$LeastHashes" "hashes" "[I") (by decide +kernel)) (fun _ h9 => h9) rfl dX1_estimate_1 ?_
  refine lv_aload_n hx hb dX1_estimate_4 rfl (lv_at hl 0 rfl) ?_
  refine va_get (D := D) (ci := 1) (v := .int (nI z)) (C := RX1) (T := TX1) (N := 3) hx hb hts (by decide +kernel) hown hE.1 hP 0 rfl rfl 2 (by decide) (hts (.fieldLink RX1 15 "DistinctDale$LeastHashes" "size" "I") (by decide +kernel)) (fun _ h9 => h9) rfl dX1_estimate_5 ?_
  refine lv_iconst (v := nI 1) hx hb dX1_estimate_8 (by decide) ?_
  refine lv_isub hx hb dX1_estimate_9 ?_
  rcases Nat.eq_zero_or_pos z with hz0 | hz0
  · have hmid := hz0
    refine xcRi (va_runSN (As := [.ref g1, .int ((nI z) - (nI 1))]) (rest := []) ⟨hx, hb, hml, hown, hts⟩ (c_at l D cy t0 g1 32 g (nI z - nI 1) (by omega)) ⟨va_cnB 2 hts ggX1_estimate_X4_at rfl rfl rfl (xN5 hE.2.1.1) (hts (.initialized RX4) (by decide +kernel)) (by decide +kernel) ⟨Nat.le_of_ble_eq_true rfl, Nat.le_of_ble_eq_true rfl⟩, (hts (.static yX4_at) (by decide +kernel)), trivial⟩ (xPr.give (wc := [(g1, xI cy 32 g)]) hE hS hP [1] rfl) rfl rfl hl.1 rfl (lv_room (Nat.le_of_ble_eq_true rfl)) dX1_estimate_10 ⟨(Nat.zero_le _), (Nat.zero_le _)⟩) (fun r_1 hr_2 => ?_)
    obtain rfl : r_1 = -1 := by rw [hr_2, xat_mm0 hz0]
    refine lv_istore_n (lv' := [(1, .int (-1)), (0, .ref o1)]) hx hb dX1_estimate_13 rfl hl (by decide) rfl (fun ls hl => ?_)
    refine lv_aload_n hx hb dX1_estimate_14 rfl (lv_at hl 1 rfl) ?_
    refine va_get (D := D) (ci := 1) (v := .int (nI z)) (C := RX1) (T := TX1) (N := 3) hx hb hts (by decide +kernel) hown hE.1 hP 0 rfl rfl 2 (by decide) (hts (.fieldLink RX1 15 "DistinctDale$LeastHashes" "size" "I") (by decide +kernel)) (fun _ h9 => h9) rfl dX1_estimate_15 ?_
    refine lv_aload_n hx hb dX1_estimate_18 rfl (lv_at hl 1 rfl) ?_
    refine va_get (D := D) (ci := 1) (v := .int (nI k)) (C := RX1) (T := TX1) (N := 3) hx hb hts (by decide +kernel) hown hE.1 hP 0 rfl rfl 1 (by decide) (hts (.fieldLink RX1 19 "DistinctDale$LeastHashes" "limit" "I") (by decide +kernel)) (fun _ h9 => h9) rfl dX1_estimate_19 ?_
    refine xb_icmp_lt (tgt := 29) (a := z) (b := k) (by omega) (by omega) hx hb dX1_estimate_22 (by decide) (fun c_3 => ?_) (fun c_3 => ?_)
    · refine lv_aload_n hx hb dX1_estimate_29 rfl (lv_at hl 1 rfl) ?_
      refine va_get (D := D) (ci := 1) (v := .int (nI z)) (C := RX1) (T := TX1) (N := 3) hx hb hts (by decide +kernel) hown hE.1 hP 0 rfl rfl 2 (by decide) (hts (.fieldLink RX1 15 "DistinctDale$LeastHashes" "size" "I") (by decide +kernel)) (fun _ h9 => h9) rfl dX1_estimate_30 ?_
      exact kret _ _ _ dX1_estimate_33 (by rw [estV_lo (by omega)]; exact congrArg nI (by omega))
    · exact absurd c_3 (by omega)
  · obtain ⟨t, ht1, ht2, ht3, ht4⟩ := hL.at (j := z - 1) (by omega)
    refine xcRi (va_runSN (As := [.ref g1, .int ((nI z) - (nI 1))]) (rest := []) ⟨hx, hb, hml, hown, hts⟩ (c_at l D cy t0 g1 32 g (nI z - nI 1) (by omega)) ⟨va_cnB 2 hts ggX1_estimate_X4_at rfl rfl rfl (xN5 hE.2.1.1) (hts (.initialized RX4) (by decide +kernel)) (by decide +kernel) ⟨Nat.le_of_ble_eq_true rfl, Nat.le_of_ble_eq_true rfl⟩, (hts (.static yX4_at) (by decide +kernel)), trivial⟩ (xPr.give (wc := [(g1, xI cy 32 g)]) hE hS hP [1] rfl) rfl rfl hl.1 rfl (lv_room (Nat.le_of_ble_eq_true rfl)) dX1_estimate_10 ⟨(Nat.zero_le _), (Nat.zero_le _)⟩) (fun r_4 hr_5 => ?_)
    obtain rfl : r_4 = nI t := by rw [hr_5, xat_mm (j := z - 1) (by omega) (by omega) (by omega), ht4]
    refine lv_istore_n (lv' := [(1, .int (nI t)), (0, .ref o1)]) hx hb dX1_estimate_13 rfl hl (by decide) rfl (fun ls hl => ?_)
    refine lv_aload_n hx hb dX1_estimate_14 rfl (lv_at hl 1 rfl) ?_
    refine va_get (D := D) (ci := 1) (v := .int (nI z)) (C := RX1) (T := TX1) (N := 3) hx hb hts (by decide +kernel) hown hE.1 hP 0 rfl rfl 2 (by decide) (hts (.fieldLink RX1 15 "DistinctDale$LeastHashes" "size" "I") (by decide +kernel)) (fun _ h9 => h9) rfl dX1_estimate_15 ?_
    refine lv_aload_n hx hb dX1_estimate_18 rfl (lv_at hl 1 rfl) ?_
    refine va_get (D := D) (ci := 1) (v := .int (nI k)) (C := RX1) (T := TX1) (N := 3) hx hb hts (by decide +kernel) hown hE.1 hP 0 rfl rfl 1 (by decide) (hts (.fieldLink RX1 19 "DistinctDale$LeastHashes" "limit" "I") (by decide +kernel)) (fun _ h9 => h9) rfl dX1_estimate_19 ?_
    refine xb_icmp_lt (tgt := 29) (a := z) (b := k) (by omega) (by omega) hx hb dX1_estimate_22 (by decide) (fun c_6 => ?_) (fun c_6 => ?_)
    · refine lv_aload_n hx hb dX1_estimate_29 rfl (lv_at hl 1 rfl) ?_
      refine va_get (D := D) (ci := 1) (v := .int (nI z)) (C := RX1) (T := TX1) (N := 3) hx hb hts (by decide +kernel) hown hE.1 hP 0 rfl rfl 2 (by decide) (hts (.fieldLink RX1 15 "DistinctDale$LeastHashes" "size" "I") (by decide +kernel)) (fun _ h9 => h9) rfl dX1_estimate_30 ?_
      exact kret _ _ _ dX1_estimate_33 (by rw [estV_lo (by omega)]; exact congrArg nI (by omega))
    · refine lv_iload_n hx hb dX1_estimate_25 rfl (lv_at hl 0 rfl) ?_
      refine xb_if_gt (tgt := 34) (a := t) (by omega) hx hb dX1_estimate_26 (by decide) (fun c_7 => ?_) (fun c_7 => ?_)
      · refine lv_aload_n hx hb dX1_estimate_34 rfl (lv_at hl 1 rfl) ?_
        refine va_get (D := D) (ci := 1) (v := .int (nI k)) (C := RX1) (T := TX1) (N := 3) hx hb hts (by decide +kernel) hown hE.1 hP 0 rfl rfl 1 (by decide) (hts (.fieldLink RX1 19 "DistinctDale$LeastHashes" "limit" "I") (by decide +kernel)) (fun _ h9 => h9) rfl dX1_estimate_35 ?_
        refine lv_iconst (v := nI 1) hx hb dX1_estimate_38 (by decide) ?_
        refine lv_isub hx hb dX1_estimate_39 ?_
        refine lv_eqi (z := nI (k - 1)) (pk_sub (by omega)) ?_
        refine lv_ldc (v := nI 16777213) hx hb hown (hts (.constant RX1 43 (16777213)) (by decide +kernel)) dX1_estimate_40 ?_
        refine lv_imul hx hb dX1_estimate_42 ?_
        refine lv_eqi (z := nI ((k - 1) * 16777213)) (pk_mul _ _) ?_
        refine lv_iload_n hx hb dX1_estimate_43 rfl (lv_at hl 0 rfl) ?_
        refine lv_idiv hx hb dX1_estimate_44 (nI_ne0 (by omega) (by omega)) ?_
        refine lv_eqi (z := nI ((k - 1) * 16777213 / t)) (pk_div (by omega) (by omega) (by omega)) ?_
        exact kret _ _ _ dX1_estimate_45 (by rw [estV_hi (by omega) ht1 ht2 (by omega)])
      · exact absurd c_7 (by have := cb_le (P := Hs) (n := t); omega)
set_option maxHeartbeats 4000000 in
set_option maxRecDepth 100000 in
theorem c_estPart (l : Launch) (D : va_G) (cy : Nat → ClassId) (t0 : Nat) (Hs : Nat → Bool) (o1 g1 k z c9 : Nat) (g : Nat → Int32) (hk2 : 2 ≤ k) (hk : k ≤ 32) (hL : LH k Hs z g) (hc9 : c9 ≤ 32) : xRi l yX1_estimateOfPart wsX1_estimateOfPart ({ frames := 2, cells := 0, slots := 0, locals := 42 } : Room) D cy t0 ([.ref o1, .int (nI c9)]) ([(o1, .inr (1, [.ref g1, .int (nI k), .int (nI z)])), (g1, xI cy 32 g)]) (fun r => r = nI (partV k Hs c9)) := by
  refine xofRi (cc := cX1_estimateOfPart) (maxL := 2) (by decide) rfl (Nat.le_of_ble_eq_true rfl) (fun _ _ => rfl) ?_
  intro p e s m below meth c Q ls hx hb hml hts hown hE hP hl hS kret
  have hl : lv_has ls 2 [(0, .ref o1), (1, .int (nI c9))] := hl
  have hL1 := hL.1
  have hev := estV_le (Hs := Hs) hk
  have hmul : estV k Hs * c9 ≤ estV k Hs * 32 := Nat.mul_le_mul (Nat.le_refl _) hc9
  refine lv_aload_n hx hb dX1_estimateOfPart_0 rfl (lv_at hl 0 rfl) ?_
  refine va_get (D := D) (ci := 1) (v := .int (nI z)) (C := RX1) (T := TX1) (N := 3) hx hb hts (by decide +kernel) hown hE.1 hP 0 rfl rfl 2 (by decide) (hts (.fieldLink RX1 15 "DistinctDale$LeastHashes" "size" "I") (by decide +kernel)) (fun _ h9 => h9) rfl dX1_estimateOfPart_1 ?_
  refine xb_if_le (tgt := 25) (a := z) (by omega) hx hb dX1_estimateOfPart_4 (by decide) (fun c_1 => ?_) (fun c_1 => ?_)
  · refine lv_iconst (v := nI 0) hx hb dX1_estimateOfPart_25 (by decide) ?_
    exact kret _ _ _ dX1_estimateOfPart_26 (by unfold partV; rw [← hL1, show z = 0 by omega, Nat.div_zero])
  · refine lv_aload_n hx hb dX1_estimateOfPart_7 rfl (lv_at hl 0 rfl) ?_
    refine xcRi (va_runV (As := []) (rest := []) ⟨hx, hb, hml, hown, hts⟩ (c_est l D cy t0 Hs o1 g1 k z g hk2 hk hL) (cwV 0 hts gX1_estimateOfPart_X1_estimate rfl rfl rfl (by decide +kernel) ⟨Nat.le_of_ble_eq_true rfl, Nat.le_of_ble_eq_true rfl⟩) (xPr.giveV (wc := [(o1, .inr (1, [.ref g1, .int (nI k), .int (nI z)])), (g1, xI cy 32 g)]) hE hS hP [0, 1] rfl 0 1 rfl rfl) rfl rfl hl.1 rfl (lv_room (Nat.le_of_ble_eq_true rfl)) dX1_estimateOfPart_8 ⟨(Nat.zero_le _), (Nat.zero_le _)⟩) (fun r_2 hr_3 => ?_)
    obtain rfl : r_2 = nI (estV k Hs) := hr_3
    refine lv_i2l (v := lN (estV k Hs)) hx hb dX1_estimateOfPart_11 (nI_l (by omega)) ?_
    refine lv_iload_n hx hb dX1_estimateOfPart_12 rfl (lv_at hl 1 rfl) ?_
    refine lv_i2l (v := lN c9) hx hb dX1_estimateOfPart_13 (nI_l (by omega)) ?_
    refine lv_lmul hx hb dX1_estimateOfPart_14 ?_
    refine lv_eql (z := lN ((estV k Hs) * c9)) (lN_mul _ _) ?_
    refine lv_aload_n hx hb dX1_estimateOfPart_15 rfl (lv_at hl 0 rfl) ?_
    refine va_get (D := D) (ci := 1) (v := .int (nI z)) (C := RX1) (T := TX1) (N := 3) hx hb hts (by decide +kernel) hown hE.1 hP 0 rfl rfl 2 (by decide) (hts (.fieldLink RX1 15 "DistinctDale$LeastHashes" "size" "I") (by decide +kernel)) (fun _ h9 => h9) rfl dX1_estimateOfPart_16 ?_
    refine lv_i2l (v := lN z) hx hb dX1_estimateOfPart_19 (nI_l (by omega)) ?_
    refine lv_ldiv hx hb dX1_estimateOfPart_20 (by rw [← lN_0, ne_eq, pk_lEQ (by omega) (by omega)]; omega) ?_
    refine lv_eql (z := lN (estV k Hs * c9 / z)) (pk_lDiv (by omega) (by omega) (by omega)) ?_
    refine lv_l2i (v := nI (estV k Hs * c9 / z)) hx hb dX1_estimateOfPart_21 (lN_i _) ?_
    refine lv_goto (tgt := 26) hx hb dX1_estimateOfPart_22 (by decide) ?_
    exact kret _ _ _ dX1_estimateOfPart_26 (by unfold partV; rw [← hL1])
end XX1
end
