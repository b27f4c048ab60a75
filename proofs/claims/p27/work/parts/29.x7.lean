section XX7
def xix : Nat → Nat → List Nat
  | _, 0 => []
  | k, n + 1 => k :: xix (k + 1) n
theorem xix_ge : ∀ (n k j : Nat), j ∈ xix k n → k ≤ j
  | 0, k, j, h => by cases h
  | n + 1, k, j, h => by
    cases h with
    | head => exact Nat.le_refl _
    | tail _ h => have := xix_ge n (k + 1) j h; omega
theorem xix_nd : ∀ (n k : Nat), va_nd (xix k n) = true
  | 0, _ => rfl
  | n + 1, k => by
    show (decide (k ∉ xix (k + 1) n) && va_nd (xix (k + 1) n)) = true
    have h2 : ¬ (k ∈ xix (k + 1) n) := fun h => by
      have := xix_ge n (k + 1) k h
      omega
    rw [xix_nd n (k + 1), show decide (k ∉ xix (k + 1) n) = true from decide_eq_true h2]
    rfl
theorem xix_map : ∀ (w pre : va_W), (xix pre.length w.length).map (fun i => (pre ++ w)[i]?) = w.map some
  | [], pre => rfl
  | q :: w, pre => by
    have h1 := xix_map w (pre ++ [q])
    have h2 : (pre ++ [q]) ++ w = pre ++ q :: w := by rw [List.append_assoc]; rfl
    rw [h2, List.length_append] at h1
    show (pre ++ q :: w)[pre.length]? :: (xix (pre.length + 1) w.length).map (fun i => (pre ++ q :: w)[i]?) = some q :: w.map some
    rw [show (xix (pre.length + 1) w.length).map (fun i => (pre ++ q :: w)[i]?) = w.map some from h1, List.getElem?_append_right (Nat.le_refl _), Nat.sub_self]
    rfl
theorem xix_fm : ∀ (w pre : va_W), (xix pre.length w.length).filterMap (fun i => (pre ++ w)[i]?) = w
  | [], pre => rfl
  | q :: w, pre => by
    have h1 := xix_fm w (pre ++ [q])
    have h2 : (pre ++ [q]) ++ w = pre ++ q :: w := by rw [List.append_assoc]; rfl
    rw [h2, List.length_append] at h1
    have h3 : (pre ++ q :: w)[pre.length]? = some q := by rw [List.getElem?_append_right (Nat.le_refl _), Nat.sub_self]; rfl
    show (pre.length :: xix (pre.length + 1) w.length).filterMap (fun i => (pre ++ q :: w)[i]?) = q :: w
    rw [List.filterMap_cons, h3]
    exact congrArg (fun z => q :: z) h1
theorem xix_dis (n : Nat) : ∀ i ∈ [0], i ∉ xix 1 n := fun i hi h => by
  have h1 := xix_ge n 1 i h
  cases hi with
  | head => omega
  | tail _ h2 => cases h2
section XWW
variable {l : Launch} {y : MethodName} {wl wl' : List Cond} {rm : Room} {D : va_G} {cy : Nat → ClassId} {t0 : Nat} {as : List Value} {ws : va_W} {mc ms : Nat} {cc : ByteArray} {maxL : Nat}
theorem xofWiW {S : Type} {hh : List (Nat × Nat × Nat × Nat)} {post : Int32 → S → Prop} {w1 : S → va_W} (hy : plainName y.cls = true) (hw : wl = Cond.codeWith y cc maxL (some .int) hh :: wl') (hL : (lg_sl as).length ≤ maxL)
    (body : ∀ (p : Program) (e : Env) (s : State) (m : MethodId) (below : List Frame) (meth : Method) (c : Code) (Q : State → Prop) (A : Nat → Prop) (ls : Array Slot), p.tables.exec = Jvm.exec → c.code = cc → c.maxLocals = maxL → (∀ w ∈ wl, w.before as.toArray s = true) → s.vm.findClass y.cls = some m.cls → xE D cy t0 A s s.heap → (∀ q, s.heap.size ≤ q → A q) → ∀ (H : Heap) (locs : List Loc), xP D ws H → va_D A ws → lv_has ls maxL (lv_args 0 as) → va_S A s.heap H locs → c.exceptionTable.toList = tableOf hh →
      (∀ (r : Int32) (u : S) (H : Heap) (locs : List Loc) (pc : Nat) (ls : Array Slot) (cells slots : Nat), decode cc pc = .ok (.ireturn, 1) → post r u → xP D (w1 u) H → va_D A (w1 u) → va_S A s.heap H locs → cells ≤ mc → slots ≤ ms → W p l e rm s m as.toArray below meth c H locs cells slots Q (F0 m pc ls [.int r])) →
      W p l e rm s m as.toArray below meth c H locs 0 0 Q (F0 m 0 ls [])) : xWi l y wl rm D cy t0 as ws post w1 mc ms := by
  intro sz
  refine va_MetW (cc := cc) (maxL := maxL) (ret := some .int) (hh := hh) hy hw ?_
  intro p e s m args below meth c s₁ B hml hv
  obtain ⟨rfl, hsz, hP, hD0, hE⟩ := hv
  subst hsz
  rw [lg_entry_eq]
  refine body p e s m below meth c _ (va_A ws s.heap.size) _ B.exec B.bytes hml (atoms_spec (ws := wl) B.pre) (findClass_of_methodNamed B.named) hE (fun q h => Or.inr h) s.heap [] hP hD0.self (lv_entry as hL) va_S.rf (vx_table (x := y) B (atoms_spec (ws := wl) B.pre _ (by rw [hw]; exact List.mem_cons_self))) (fun r u H locs pc ls cells slots hd hp hP1 hD1 hS1 h1 h2 => ?_)
  exact W.widen h1 h2 (W.zret B.exec B.bytes B.returns rfl (fun t ht hW => ⟨⟨r, u, rfl, hp, by rw [ht]; exact hP1, hD1⟩, hS1.F ht⟩) hS1.2.2 hd (hlocks := B.notSynchronized))
end XWW
end XX7
