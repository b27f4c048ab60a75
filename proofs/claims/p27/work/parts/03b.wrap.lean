section XWRAP
/-! a method's contract out of the walk of its body (the walk gets: the machine, its words, its world, and kret: what its return needs) -/
section XW
variable {l : Launch} {y : MethodName} {wl wl' : List Cond} {rm : Room} {D : va_G} {cy : Nat → ClassId} {t0 : Nat} {as : List Value} {ws : va_W} {mc ms : Nat} {cc : ByteArray} {maxL : Nat}
theorem xofWi {S : Type} {ret : FieldType} {post : Int32 → S → Prop} {w1 : S → va_W} (hy : plainName y.cls = true) (hw : wl = Cond.code y cc maxL (some ret) :: wl') (hL : (lg_sl as).length ≤ maxL) (hn : ∀ r u, post r u → narrow ret (.int r) = .int r)
    (body : ∀ (p : Program) (e : Env) (s : State) (m : MethodId) (below : List Frame) (meth : Method) (c : Code) (Q : State → Prop) (A : Nat → Prop) (ls : Array Slot), p.tables.exec = Jvm.exec → c.code = cc → c.maxLocals = maxL → (∀ w ∈ wl, w.before as.toArray s = true) → s.vm.findClass y.cls = some m.cls → xE D cy t0 A s s.heap → (∀ q, s.heap.size ≤ q → A q) → ∀ (H : Heap) (locs : List Loc), xP D ws H → va_D A ws → lv_has ls maxL (lv_args 0 as) → va_S A s.heap H locs →
      (∀ (r : Int32) (u : S) (H : Heap) (locs : List Loc) (pc : Nat) (ls : Array Slot) (cells slots : Nat), decode cc pc = .ok (.ireturn, 1) → post r u → xP D (w1 u) H → va_D A (w1 u) → va_S A s.heap H locs → cells ≤ mc → slots ≤ ms → W p l e rm s m as.toArray below meth c H locs cells slots Q (F0 m pc ls [.int r])) →
      W p l e rm s m as.toArray below meth c H locs 0 0 Q (F0 m 0 ls [])) : xWi l y wl rm D cy t0 as ws post w1 mc ms := by
  intro sz
  refine Met.ofW (cc := cc) (maxL := maxL) (ret := some ret) hy hw ?_
  intro p e s m args below meth c s₁ B hml hv
  obtain ⟨rfl, hsz, hP, hD0, hE⟩ := hv
  subst hsz
  rw [lg_entry_eq]
  refine body p e s m below meth c _ (va_A ws s.heap.size) _ B.exec B.bytes hml (atoms_spec (ws := wl) B.pre) (findClass_of_methodNamed B.named) hE (fun q h => Or.inr h) s.heap [] hP hD0.self (lv_entry as hL) va_S.rf (fun r u H locs pc ls cells slots hd hp hP1 hD1 hS1 h1 h2 => ?_)
  exact W.widen h1 h2 (W.zret B.exec B.bytes B.returns (hn r u hp) (fun t ht hW => ⟨⟨r, u, rfl, hp, by rw [ht]; exact hP1, hD1⟩, hS1.F ht⟩) hS1.2.2 hd (hlocks := B.notSynchronized))
theorem xofWl {S : Type} {post : Int64 → S → Prop} {w1 : S → va_W} (hy : plainName y.cls = true) (hw : wl = Cond.code y cc maxL (some .long) :: wl') (hL : (lg_sl as).length ≤ maxL)
    (body : ∀ (p : Program) (e : Env) (s : State) (m : MethodId) (below : List Frame) (meth : Method) (c : Code) (Q : State → Prop) (A : Nat → Prop) (ls : Array Slot), p.tables.exec = Jvm.exec → c.code = cc → c.maxLocals = maxL → (∀ w ∈ wl, w.before as.toArray s = true) → s.vm.findClass y.cls = some m.cls → xE D cy t0 A s s.heap → (∀ q, s.heap.size ≤ q → A q) → ∀ (H : Heap) (locs : List Loc), xP D ws H → va_D A ws → lv_has ls maxL (lv_args 0 as) → va_S A s.heap H locs →
      (∀ (r : Int64) (u : S) (H : Heap) (locs : List Loc) (pc : Nat) (ls : Array Slot) (cells slots : Nat), decode cc pc = .ok (.lreturn, 1) → post r u → xP D (w1 u) H → va_D A (w1 u) → va_S A s.heap H locs → cells ≤ mc → slots ≤ ms → W p l e rm s m as.toArray below meth c H locs cells slots Q (F0 m pc ls [.long r])) →
      W p l e rm s m as.toArray below meth c H locs 0 0 Q (F0 m 0 ls [])) : xWl l y wl rm D cy t0 as ws post w1 mc ms := by
  intro sz
  refine Met.ofW (cc := cc) (maxL := maxL) (ret := some .long) hy hw ?_
  intro p e s m args below meth c s₁ B hml hv
  obtain ⟨rfl, hsz, hP, hD0, hE⟩ := hv
  subst hsz
  rw [lg_entry_eq]
  refine body p e s m below meth c _ (va_A ws s.heap.size) _ B.exec B.bytes hml (atoms_spec (ws := wl) B.pre) (findClass_of_methodNamed B.named) hE (fun q h => Or.inr h) s.heap [] hP hD0.self (lv_entry as hL) va_S.rf (fun r u H locs pc ls cells slots hd hp hP1 hD1 hS1 h1 h2 => ?_)
  exact W.widen h1 h2 (W.lret B.exec B.bytes B.returns (fun t ht hW => ⟨⟨r, u, rfl, hp, by rw [ht]; exact hP1, hD1⟩, hS1.F ht⟩) hS1.2.2 hd (hlocks := B.notSynchronized))
theorem xofWv {S : Type} {post : S → Prop} {w1 : S → va_W} (hy : plainName y.cls = true) (hw : wl = Cond.code y cc maxL none :: wl') (hL : (lg_sl as).length ≤ maxL)
    (body : ∀ (p : Program) (e : Env) (s : State) (m : MethodId) (below : List Frame) (meth : Method) (c : Code) (Q : State → Prop) (A : Nat → Prop) (ls : Array Slot), p.tables.exec = Jvm.exec → c.code = cc → c.maxLocals = maxL → (∀ w ∈ wl, w.before as.toArray s = true) → s.vm.findClass y.cls = some m.cls → meth.name = y.name → xE D cy t0 A s s.heap → (∀ q, s.heap.size ≤ q → A q) → ∀ (H : Heap) (locs : List Loc), xP D ws H → va_D A ws → lv_has ls maxL (lv_args 0 as) → va_S A s.heap H locs →
      (∀ (u : S) (H : Heap) (locs : List Loc) (pc : Nat) (ls : Array Slot) (cells slots : Nat), decode cc pc = .ok (.return_, 1) → post u → xP D (w1 u) H → va_D A (w1 u) → va_S A s.heap H locs → cells ≤ mc → slots ≤ ms → W p l e rm s m as.toArray below meth c H locs cells slots Q (F0 m pc ls [])) →
      W p l e rm s m as.toArray below meth c H locs 0 0 Q (F0 m 0 ls [])) : xWv l y wl rm D cy t0 as ws post w1 mc ms := by
  intro sz
  refine Met.ofW (cc := cc) (maxL := maxL) (ret := none) hy hw ?_
  intro p e s m args below meth c s₁ B hml hv
  obtain ⟨rfl, hsz, hP, hD0, hE⟩ := hv
  subst hsz
  rw [lg_entry_eq]
  refine body p e s m below meth c _ (va_A ws s.heap.size) _ B.exec B.bytes hml (atoms_spec (ws := wl) B.pre) (findClass_of_methodNamed B.named) (name_of_methodNamed B.named B.method).1 hE (fun q h => Or.inr h) s.heap [] hP hD0.self (lv_entry as hL) va_S.rf (fun u H locs pc ls cells slots hd hp hP1 hD1 hS1 h1 h2 => ?_)
  exact W.widen h1 h2 (W.vret B.exec B.bytes B.returns (fun t ht hW => ⟨⟨u, rfl, hp, by rw [ht]; exact hP1, hD1⟩, hS1.F ht⟩) hS1.2.2 hd (hlocks := B.notSynchronized))
theorem xofWr {S : Type} {ret : FieldType} {post : S → Prop} {w1 : S → Nat → va_W} (hy : plainName y.cls = true) (hw : wl = Cond.code y cc maxL (some ret) :: wl') (hL : (lg_sl as).length ≤ maxL) (hret : (∃ n, ret = .object n) ∨ ∃ t, ret = .array t)
    (body : ∀ (p : Program) (e : Env) (s : State) (m : MethodId) (below : List Frame) (meth : Method) (c : Code) (Q : State → Prop) (A : Nat → Prop) (ls : Array Slot), p.tables.exec = Jvm.exec → c.code = cc → c.maxLocals = maxL → (∀ w ∈ wl, w.before as.toArray s = true) → s.vm.findClass y.cls = some m.cls → xE D cy t0 A s s.heap → (∀ q, s.heap.size ≤ q → A q) → ∀ (H : Heap) (locs : List Loc), xP D ws H → va_D A ws → lv_has ls maxL (lv_args 0 as) → va_S A s.heap H locs →
      (∀ (u : S) (q : Nat) (H : Heap) (locs : List Loc) (pc : Nat) (ls : Array Slot) (cells slots : Nat), decode cc pc = .ok (.areturn, 1) → post u → xP D (w1 u q) H → va_D A (w1 u q) → va_S A s.heap H locs → cells ≤ mc → slots ≤ ms → W p l e rm s m as.toArray below meth c H locs cells slots Q (F0 m pc ls [.ref q])) →
      W p l e rm s m as.toArray below meth c H locs 0 0 Q (F0 m 0 ls [])) : xWr l y wl rm D cy t0 as ws post w1 mc ms := by
  intro sz
  refine Met.ofW (cc := cc) (maxL := maxL) (ret := some ret) hy hw ?_
  intro p e s m args below meth c s₁ B hml hv
  obtain ⟨rfl, hsz, hP, hD0, hE⟩ := hv
  subst hsz
  rw [lg_entry_eq]
  refine body p e s m below meth c _ (va_A ws s.heap.size) _ B.exec B.bytes hml (atoms_spec (ws := wl) B.pre) (findClass_of_methodNamed B.named) hE (fun q h => Or.inr h) s.heap [] hP hD0.self (lv_entry as hL) va_S.rf (fun u q H locs pc ls cells slots hd hp hP1 hD1 hS1 h1 h2 => ?_)
  exact W.widen h1 h2 (W.aret B.exec B.bytes B.returns hret (Or.inr ⟨q, rfl⟩) (fun t ht hW => ⟨⟨u, q, rfl, hp, by rw [ht]; exact hP1, hD1⟩, hS1.F ht⟩) hS1.2.2 hd (hlocks := B.notSynchronized))
theorem xofRi {ret : FieldType} {post : Int32 → Prop} (hy : plainName y.cls = true) (hw : wl = Cond.code y cc maxL (some ret) :: wl') (hL : (lg_sl as).length ≤ maxL) (hn : ∀ r, post r → narrow ret (.int r) = .int r)
    (body : ∀ (p : Program) (e : Env) (s : State) (m : MethodId) (below : List Frame) (meth : Method) (c : Code) (Q : State → Prop) (ls : Array Slot), p.tables.exec = Jvm.exec → c.code = cc → c.maxLocals = maxL → (∀ w ∈ wl, w.before as.toArray s = true) → s.vm.findClass y.cls = some m.cls → xE D cy t0 (fun _ => False) s s.heap → xP D ws s.heap → lv_has ls maxL (lv_args 0 as) → va_S (fun _ => False) s.heap s.heap [] →
      (∀ (r : Int32) (pc : Nat) (ls : Array Slot), decode cc pc = .ok (.ireturn, 1) → post r → W p l e rm s m as.toArray below meth c s.heap [] 0 0 Q (F0 m pc ls [.int r])) →
      W p l e rm s m as.toArray below meth c s.heap [] 0 0 Q (F0 m 0 ls [])) : xRi l y wl rm D cy t0 as ws post := by
  refine Met.ofW (cc := cc) (maxL := maxL) (ret := some ret) hy hw ?_
  intro p e s m args below meth c s₁ B hml hv
  obtain ⟨rfl, hP, hE⟩ := hv
  rw [lg_entry_eq]
  refine body p e s m below meth c _ _ B.exec B.bytes hml (atoms_spec (ws := wl) B.pre) (findClass_of_methodNamed B.named) hE hP (lv_entry as hL) va_S.rf (fun r pc ls hd hp => ?_)
  exact W.zret B.exec B.bytes B.returns (hn r hp) (fun t ht hW => ⟨r, rfl, hp, ht⟩) (fun _ h => by cases h) hd (hlocks := B.notSynchronized)
theorem xofRl {post : Int64 → Prop} (hy : plainName y.cls = true) (hw : wl = Cond.code y cc maxL (some .long) :: wl') (hL : (lg_sl as).length ≤ maxL)
    (body : ∀ (p : Program) (e : Env) (s : State) (m : MethodId) (below : List Frame) (meth : Method) (c : Code) (Q : State → Prop) (ls : Array Slot), p.tables.exec = Jvm.exec → c.code = cc → c.maxLocals = maxL → (∀ w ∈ wl, w.before as.toArray s = true) → s.vm.findClass y.cls = some m.cls → xE D cy t0 (fun _ => False) s s.heap → xP D ws s.heap → lv_has ls maxL (lv_args 0 as) → va_S (fun _ => False) s.heap s.heap [] →
      (∀ (r : Int64) (pc : Nat) (ls : Array Slot), decode cc pc = .ok (.lreturn, 1) → post r → W p l e rm s m as.toArray below meth c s.heap [] 0 0 Q (F0 m pc ls [.long r])) →
      W p l e rm s m as.toArray below meth c s.heap [] 0 0 Q (F0 m 0 ls [])) : xRl l y wl rm D cy t0 as ws post := by
  refine Met.ofW (cc := cc) (maxL := maxL) (ret := some .long) hy hw ?_
  intro p e s m args below meth c s₁ B hml hv
  obtain ⟨rfl, hP, hE⟩ := hv
  rw [lg_entry_eq]
  refine body p e s m below meth c _ _ B.exec B.bytes hml (atoms_spec (ws := wl) B.pre) (findClass_of_methodNamed B.named) hE hP (lv_entry as hL) va_S.rf (fun r pc ls hd hp => ?_)
  exact W.lret B.exec B.bytes B.returns (fun t ht hW => ⟨r, rfl, hp, ht⟩) (fun _ h => by cases h) hd (hlocks := B.notSynchronized)
end XW
end XWRAP
