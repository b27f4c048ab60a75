section XX8
section XTAIL
variable {ps tl wc wr : va_W}
theorem xtC : ∀ (isC : List Nat) (wc : va_W), isC.map (fun i => ps[i]?) = wc.map some → isC.map (fun i => (ps ++ tl)[i]?) = wc.map some
  | [], wc, h => h
  | i :: is, [], h => by cases h
  | i :: is, q :: wc, h => by
    have h1 : ps[i]? = some q := (List.cons.inj h).1
    have h2 : is.map (fun i => ps[i]?) = wc.map some := (List.cons.inj h).2
    have h3 : (ps ++ tl)[i]? = some q := by rw [List.getElem?_append_left (List.getElem?_eq_some_iff.mp h1).1]; exact h1
    show (ps ++ tl)[i]? :: is.map (fun i => (ps ++ tl)[i]?) = some q :: wc.map some
    rw [h3, xtC is wc h2]
theorem xtlt : ∀ (isC : List Nat) (wc : va_W), isC.map (fun i => ps[i]?) = wc.map some → ∀ i ∈ isC, i < ps.length
  | [], wc, h => fun i hi => by cases hi
  | i :: is, [], h => by cases h
  | i :: is, q :: wc, h => fun j hj => by
    have h1 : ps[i]? = some q := (List.cons.inj h).1
    have h2 : is.map (fun i => ps[i]?) = wc.map some := (List.cons.inj h).2
    cases hj with
    | head => exact (List.getElem?_eq_some_iff.mp h1).1
    | tail _ h9 => exact xtlt is wc h2 j h9
theorem xtR {is1 : List Nat} (hR : is1.map (fun i => ps[i]?) = wr.map some) : (is1 ++ xix ps.length tl.length).map (fun i => (ps ++ tl)[i]?) = (wr ++ tl).map some := by
  rw [List.map_append, List.map_append, xtC is1 wr hR, xix_map tl ps]
theorem xtN (n k : Nat) : ∀ (is1 : List Nat), va_nd is1 = true → (∀ i ∈ is1, i < k) → va_nd (is1 ++ xix k n) = true
  | [], _, _ => xix_nd n k
  | a :: is, h, hlt => by
    have h0 : (decide (a ∉ is) && va_nd is) = true := h
    rw [Bool.and_eq_true] at h0
    have h1 := of_decide_eq_true h0.1
    show (decide (a ∉ is ++ xix k n) && va_nd (is ++ xix k n)) = true
    have h9 : ¬ (a ∈ is ++ xix k n) := fun q => by
      rcases List.mem_append.mp q with q | q
      · exact h1 q
      · have h2 := xix_ge n k a q
        have h3 := hlt a List.mem_cons_self
        omega
    rw [xtN n k is h0.2 (fun i hi => hlt i (List.mem_cons_of_mem _ hi)), show decide (a ∉ is ++ xix k n) = true from decide_eq_true h9]
    rfl
theorem xtD (n : Nat) {is1 isC : List Nat} {k : Nat} (h : ∀ i ∈ is1, i ∉ isC) (hC : ∀ i ∈ isC, i < k) : ∀ i ∈ is1 ++ xix k n, i ∉ isC := fun i hi hc => by
  rcases List.mem_append.mp hi with q | q
  · exact h i q hc
  · have h2 := xix_ge n k i q
    have h3 := hC i hc
    omega
theorem xfm {α β : Type} {f : α → Option β} : ∀ (is : List α) (w : List β), is.map f = w.map some → is.filterMap f = w
  | [], [], _ => rfl
  | [], q :: w, h => by cases h
  | i :: is, [], h => by cases h
  | i :: is, q :: w, h => by
    have h1 : f i = some q := (List.cons.inj h).1
    have h2 : is.map f = w.map some := (List.cons.inj h).2
    rw [List.filterMap_cons, h1]
    exact congrArg (fun z => q :: z) (xfm is w h2)
/-- the explicit part re-ordered, the tail kept -/
theorem xsubT {D : va_G} {A : Nat → Prop} {H : Heap} {ps' : va_W} (is : List Nat) (hP : xP D (ps ++ tl) H) (hD : va_D A (ps ++ tl)) (hs : is.map (fun i => ps[i]?) = ps'.map some) (hn : va_nd is = true) : xP D (ps' ++ tl) H ∧ va_D A (ps' ++ tl) :=
  ⟨hP.sub (is ++ xix ps.length tl.length) (xfm _ _ (xtR hs)), hD.sub (is ++ xix ps.length tl.length) (xtN _ _ is hn (xtlt is ps' hs)) (xtR hs)⟩
theorem xhdmap {k : Nat} : ∀ (is : List Nat) (T' : va_W), ps.length = k → is.map (fun i => tl[i]?) = T'.map some → (is.map (fun i => k + i)).map (fun i => (ps ++ tl)[i]?) = T'.map some
  | [], T', _, h => h
  | i :: is, [], _, h => by cases h
  | i :: is, q :: T', hk, h => by
    have h1 : tl[i]? = some q := (List.cons.inj h).1
    have h2 : is.map (fun i => tl[i]?) = T'.map some := (List.cons.inj h).2
    have h3 : (ps ++ tl)[k + i]? = some q := by rw [List.getElem?_append_right (by omega), show k + i - ps.length = i by omega]; exact h1
    show (ps ++ tl)[k + i]? :: (is.map (fun i => k + i)).map (fun i => (ps ++ tl)[i]?) = some q :: T'.map some
    rw [h3, xhdmap is T' hk h2]
theorem xix0 : ∀ (w pre : va_W), (xix 0 w.length).map (fun i => (w ++ pre)[i]?) = w.map some := fun w pre => xtC _ _ (by
  have h := xix_map w []
  exact h)
theorem xadd_nd (k : Nat) : ∀ (is : List Nat), va_nd is = true → va_nd (is.map (fun i => k + i)) = true
  | [], _ => rfl
  | a :: is, h => by
    have h0 : (decide (a ∉ is) && va_nd is) = true := h
    rw [Bool.and_eq_true] at h0
    have h1 := of_decide_eq_true h0.1
    show (decide (k + a ∉ is.map (fun i => k + i)) && va_nd (is.map (fun i => k + i))) = true
    have h9 : ¬ (k + a ∈ is.map (fun i => k + i)) := fun q => by
      obtain ⟨z, hz, ez⟩ := List.mem_map.mp q
      have : z = a := by omega
      subst this
      exact h1 hz
    rw [xadd_nd k is h0.2, show decide (k + a ∉ is.map (fun i => k + i)) = true from decide_eq_true h9]
    rfl
theorem xhN (k : Nat) : ∀ (n j : Nat) (is : List Nat), va_nd is = true → j + n ≤ k → va_nd (xix j n ++ is.map (fun i => k + i)) = true
  | 0, j, is, h, _ => xadd_nd k is h
  | n + 1, j, is, h, hk => by
    show (decide (j ∉ xix (j + 1) n ++ is.map (fun i => k + i)) && va_nd (xix (j + 1) n ++ is.map (fun i => k + i))) = true
    have h9 : ¬ (j ∈ xix (j + 1) n ++ is.map (fun i => k + i)) := fun q => by
      rcases List.mem_append.mp q with q | q
      · have := xix_ge n (j + 1) j q; omega
      · obtain ⟨z, hz, ez⟩ := List.mem_map.mp q
        omega
    rw [xhN k n (j + 1) is h (by omega), show decide (j ∉ xix (j + 1) n ++ is.map (fun i => k + i)) = true from decide_eq_true h9]
    rfl
/-- the tail re-ordered, what lies ahead kept -/
theorem xsubH {D : va_G} {A : Nat → Prop} {H : Heap} {T' : va_W} (is : List Nat) (hP : xP D (ps ++ tl) H) (hD : va_D A (ps ++ tl)) (hs : is.map (fun i => tl[i]?) = T'.map some) (hn : va_nd is = true) : xP D (ps ++ T') H ∧ va_D A (ps ++ T') := by
  have h1 : (xix 0 ps.length ++ is.map (fun i => ps.length + i)).map (fun i => (ps ++ tl)[i]?) = (ps ++ T').map some := by
    rw [List.map_append, List.map_append, xix0, xhdmap is T' rfl hs]
  exact ⟨hP.sub _ (xfm _ _ h1), hD.sub _ (xhN _ _ _ _ hn (by omega)) h1⟩
end XTAIL
section XCTL
variable {p : Program} {l : Launch} {e : Env} {R : Room} {s : State} {m : MethodId} {args : Array Value} {below : List Frame} {meth : Method} {c : Code} {H : Heap} {locs : List Loc} {cells slots : Nat} {Q : State → Prop}
variable {pc : Nat} {ls : Array Slot} {rest st0 : List Value} {A : Nat → Prop} {H0 : Heap} {mc ms : Nat} {D : va_G} {ps tl wc wr : va_W} {a : Array Value}
theorem xcWiT {S : Type} {post : Int32 → S → Prop} {w1 : S → va_W} (hr : va_Run p l e R s m args below meth c H locs cells slots mc ms (F0 m pc ls st0) rest (va_Qi post (xBw D w1 (va_A wc H.size)) (va_A wc H.size) a) (va_A wc H.size)) (hP : xP D (ps ++ tl) H) (hD : va_D A (ps ++ tl)) (hS : va_S A H0 H locs) (hA : ∀ q, H0.size ≤ q → A q) (isC is1 : List Nat) (hC : isC.map (fun i => ps[i]?) = wc.map some) (hR : is1.map (fun i => ps[i]?) = wr.map some) (hn : va_nd is1 = true) (hdis : ∀ i ∈ is1, i ∉ isC)
    (kk : ∀ (r : Int32) (u : S) (H1 : Heap) (locs1 : List Loc), post r u → xP D ((wr ++ w1 u) ++ tl) H1 → va_D A ((wr ++ w1 u) ++ tl) → va_S A H0 H1 locs1 → W p l e R s m args below meth c H1 locs1 (cells + mc) (slots + ms) Q (F0 m (pc + 3) ls (.int r :: rest))) : W p l e R s m args below meth c H locs cells slots Q (F0 m pc ls st0) :=
  xcWi (wr := wr ++ tl) hr hP hD hS hA isC (is1 ++ xix ps.length tl.length) (xtC isC wc hC) (xtR hR) (xtN _ _ is1 hn (xtlt is1 wr hR)) (xtD _ hdis (xtlt isC wc hC)) (fun r u H1 locs1 h1 h2 h3 h4 => kk r u H1 locs1 h1 h2.swap h3.swap h4)
theorem xcWlT {S : Type} {post : Int64 → S → Prop} {w1 : S → va_W} (hr : va_Run p l e R s m args below meth c H locs cells slots mc ms (F0 m pc ls st0) rest (va_Ql post (xBw D w1 (va_A wc H.size)) (va_A wc H.size) a) (va_A wc H.size)) (hP : xP D (ps ++ tl) H) (hD : va_D A (ps ++ tl)) (hS : va_S A H0 H locs) (hA : ∀ q, H0.size ≤ q → A q) (isC is1 : List Nat) (hC : isC.map (fun i => ps[i]?) = wc.map some) (hR : is1.map (fun i => ps[i]?) = wr.map some) (hn : va_nd is1 = true) (hdis : ∀ i ∈ is1, i ∉ isC)
    (kk : ∀ (r : Int64) (u : S) (H1 : Heap) (locs1 : List Loc), post r u → xP D ((wr ++ w1 u) ++ tl) H1 → va_D A ((wr ++ w1 u) ++ tl) → va_S A H0 H1 locs1 → W p l e R s m args below meth c H1 locs1 (cells + mc) (slots + ms) Q (F0 m (pc + 3) ls (.long r :: rest))) : W p l e R s m args below meth c H locs cells slots Q (F0 m pc ls st0) :=
  xcWl (wr := wr ++ tl) hr hP hD hS hA isC (is1 ++ xix ps.length tl.length) (xtC isC wc hC) (xtR hR) (xtN _ _ is1 hn (xtlt is1 wr hR)) (xtD _ hdis (xtlt isC wc hC)) (fun r u H1 locs1 h1 h2 h3 h4 => kk r u H1 locs1 h1 h2.swap h3.swap h4)
end XCTL
/-! the baskets of the class -/
abbrev BKt : Type := Nat × Nat × Nat × Nat × (Nat → Int32) × (Nat → Int32)
def bkc (cy : Nat → ClassId) (ab : Nat → Nat) (σ : Nat → BKt) (j : Nat) : va_W := [(ab j, .inr (0, [.ref (σ j).1, .ref (σ j).2.1, .int (nI (σ j).2.2.1)])), ((σ j).1, xI cy (σ j).2.2.2.1 (σ j).2.2.2.2.1), ((σ j).2.1, xI cy (σ j).2.2.2.1 (σ j).2.2.2.2.2)]
def bks (cy : Nat → ClassId) (ab : Nat → Nat) (σ : Nat → BKt) : List Nat → va_W
  | [] => []
  | j :: js => bkc cy ab σ j ++ bks cy ab σ js
abbrev b06 : List Nat := [0, 1, 2, 3, 4, 5]
def bOT (b : Nat) : List Nat := b06.filter (fun j => !decide (j = b))
def bOU (b b2 : Nat) : List Nat := (bOT b).filter (fun j => !decide (j = b2))
theorem b6c {b : Nat} (h : b < 6) : b = 0 ∨ b = 1 ∨ b = 2 ∨ b = 3 ∨ b = 4 ∨ b = 5 := by omega
set_option maxRecDepth 100000
set_option maxHeartbeats 4000000
theorem xfoc {D : va_G} {cy : Nat → ClassId} {A : Nat → Prop} {H : Heap} {ps : va_W} {ab : Nat → Nat} {σ : Nat → BKt} {b : Nat} (hb6 : b < 6) (hP : xP D (ps ++ bks cy ab σ b06) H) (hD : va_D A (ps ++ bks cy ab σ b06)) : xP D (ps ++ (bkc cy ab σ b ++ bks cy ab σ (bOT b))) H ∧ va_D A (ps ++ (bkc cy ab σ b ++ bks cy ab σ (bOT b))) := by
  rcases b6c hb6 with rfl | rfl | rfl | rfl | rfl | rfl
  · exact xsubH [0, 1, 2, 3, 4, 5, 6, 7, 8, 9, 10, 11, 12, 13, 14, 15, 16, 17] hP hD rfl (by decide)
  · exact xsubH [3, 4, 5, 0, 1, 2, 6, 7, 8, 9, 10, 11, 12, 13, 14, 15, 16, 17] hP hD rfl (by decide)
  · exact xsubH [6, 7, 8, 0, 1, 2, 3, 4, 5, 9, 10, 11, 12, 13, 14, 15, 16, 17] hP hD rfl (by decide)
  · exact xsubH [9, 10, 11, 0, 1, 2, 3, 4, 5, 6, 7, 8, 12, 13, 14, 15, 16, 17] hP hD rfl (by decide)
  · exact xsubH [12, 13, 14, 0, 1, 2, 3, 4, 5, 6, 7, 8, 9, 10, 11, 15, 16, 17] hP hD rfl (by decide)
  · exact xsubH [15, 16, 17, 0, 1, 2, 3, 4, 5, 6, 7, 8, 9, 10, 11, 12, 13, 14] hP hD rfl (by decide)
theorem xunf {D : va_G} {cy : Nat → ClassId} {A : Nat → Prop} {H : Heap} {ps : va_W} {ab : Nat → Nat} {σ : Nat → BKt} {b : Nat} {v : BKt} (hb6 : b < 6) (hP : xP D (ps ++ (bkc cy ab (va_up σ b v) b ++ bks cy ab σ (bOT b))) H) (hD : va_D A (ps ++ (bkc cy ab (va_up σ b v) b ++ bks cy ab σ (bOT b)))) : xP D (ps ++ bks cy ab (va_up σ b v) b06) H ∧ va_D A (ps ++ bks cy ab (va_up σ b v) b06) := by
  rcases b6c hb6 with rfl | rfl | rfl | rfl | rfl | rfl
  · exact xsubH [0, 1, 2, 3, 4, 5, 6, 7, 8, 9, 10, 11, 12, 13, 14, 15, 16, 17] hP hD rfl (by decide)
  · exact xsubH [3, 4, 5, 0, 1, 2, 6, 7, 8, 9, 10, 11, 12, 13, 14, 15, 16, 17] hP hD rfl (by decide)
  · exact xsubH [3, 4, 5, 6, 7, 8, 0, 1, 2, 9, 10, 11, 12, 13, 14, 15, 16, 17] hP hD rfl (by decide)
  · exact xsubH [3, 4, 5, 6, 7, 8, 9, 10, 11, 0, 1, 2, 12, 13, 14, 15, 16, 17] hP hD rfl (by decide)
  · exact xsubH [3, 4, 5, 6, 7, 8, 9, 10, 11, 12, 13, 14, 0, 1, 2, 15, 16, 17] hP hD rfl (by decide)
  · exact xsubH [3, 4, 5, 6, 7, 8, 9, 10, 11, 12, 13, 14, 15, 16, 17, 0, 1, 2] hP hD rfl (by decide)
theorem xfoc2 {D : va_G} {cy : Nat → ClassId} {A : Nat → Prop} {H : Heap} {ps : va_W} {ab : Nat → Nat} {σ : Nat → BKt} {b b2 : Nat} (hb6 : b < 6) (hb62 : b2 < 6) (hne : b ≠ b2) (hP : xP D (ps ++ bks cy ab σ b06) H) (hD : va_D A (ps ++ bks cy ab σ b06)) : xP D (ps ++ (bkc cy ab σ b ++ (bkc cy ab σ b2 ++ bks cy ab σ (bOU b b2)))) H ∧ va_D A (ps ++ (bkc cy ab σ b ++ (bkc cy ab σ b2 ++ bks cy ab σ (bOU b b2)))) := by
  rcases b6c hb6 with rfl | rfl | rfl | rfl | rfl | rfl <;> rcases b6c hb62 with rfl | rfl | rfl | rfl | rfl | rfl
  · exact absurd rfl hne
  · exact xsubH [0, 1, 2, 3, 4, 5, 6, 7, 8, 9, 10, 11, 12, 13, 14, 15, 16, 17] hP hD rfl (by decide)
  · exact xsubH [0, 1, 2, 6, 7, 8, 3, 4, 5, 9, 10, 11, 12, 13, 14, 15, 16, 17] hP hD rfl (by decide)
  · exact xsubH [0, 1, 2, 9, 10, 11, 3, 4, 5, 6, 7, 8, 12, 13, 14, 15, 16, 17] hP hD rfl (by decide)
  · exact xsubH [0, 1, 2, 12, 13, 14, 3, 4, 5, 6, 7, 8, 9, 10, 11, 15, 16, 17] hP hD rfl (by decide)
  · exact xsubH [0, 1, 2, 15, 16, 17, 3, 4, 5, 6, 7, 8, 9, 10, 11, 12, 13, 14] hP hD rfl (by decide)
  · exact xsubH [3, 4, 5, 0, 1, 2, 6, 7, 8, 9, 10, 11, 12, 13, 14, 15, 16, 17] hP hD rfl (by decide)
  · exact absurd rfl hne
  · exact xsubH [3, 4, 5, 6, 7, 8, 0, 1, 2, 9, 10, 11, 12, 13, 14, 15, 16, 17] hP hD rfl (by decide)
  · exact xsubH [3, 4, 5, 9, 10, 11, 0, 1, 2, 6, 7, 8, 12, 13, 14, 15, 16, 17] hP hD rfl (by decide)
  · exact xsubH [3, 4, 5, 12, 13, 14, 0, 1, 2, 6, 7, 8, 9, 10, 11, 15, 16, 17] hP hD rfl (by decide)
  · exact xsubH [3, 4, 5, 15, 16, 17, 0, 1, 2, 6, 7, 8, 9, 10, 11, 12, 13, 14] hP hD rfl (by decide)
  · exact xsubH [6, 7, 8, 0, 1, 2, 3, 4, 5, 9, 10, 11, 12, 13, 14, 15, 16, 17] hP hD rfl (by decide)
  · exact xsubH [6, 7, 8, 3, 4, 5, 0, 1, 2, 9, 10, 11, 12, 13, 14, 15, 16, 17] hP hD rfl (by decide)
  · exact absurd rfl hne
  · exact xsubH [6, 7, 8, 9, 10, 11, 0, 1, 2, 3, 4, 5, 12, 13, 14, 15, 16, 17] hP hD rfl (by decide)
  · exact xsubH [6, 7, 8, 12, 13, 14, 0, 1, 2, 3, 4, 5, 9, 10, 11, 15, 16, 17] hP hD rfl (by decide)
  · exact xsubH [6, 7, 8, 15, 16, 17, 0, 1, 2, 3, 4, 5, 9, 10, 11, 12, 13, 14] hP hD rfl (by decide)
  · exact xsubH [9, 10, 11, 0, 1, 2, 3, 4, 5, 6, 7, 8, 12, 13, 14, 15, 16, 17] hP hD rfl (by decide)
  · exact xsubH [9, 10, 11, 3, 4, 5, 0, 1, 2, 6, 7, 8, 12, 13, 14, 15, 16, 17] hP hD rfl (by decide)
  · exact xsubH [9, 10, 11, 6, 7, 8, 0, 1, 2, 3, 4, 5, 12, 13, 14, 15, 16, 17] hP hD rfl (by decide)
  · exact absurd rfl hne
  · exact xsubH [9, 10, 11, 12, 13, 14, 0, 1, 2, 3, 4, 5, 6, 7, 8, 15, 16, 17] hP hD rfl (by decide)
  · exact xsubH [9, 10, 11, 15, 16, 17, 0, 1, 2, 3, 4, 5, 6, 7, 8, 12, 13, 14] hP hD rfl (by decide)
  · exact xsubH [12, 13, 14, 0, 1, 2, 3, 4, 5, 6, 7, 8, 9, 10, 11, 15, 16, 17] hP hD rfl (by decide)
  · exact xsubH [12, 13, 14, 3, 4, 5, 0, 1, 2, 6, 7, 8, 9, 10, 11, 15, 16, 17] hP hD rfl (by decide)
  · exact xsubH [12, 13, 14, 6, 7, 8, 0, 1, 2, 3, 4, 5, 9, 10, 11, 15, 16, 17] hP hD rfl (by decide)
  · exact xsubH [12, 13, 14, 9, 10, 11, 0, 1, 2, 3, 4, 5, 6, 7, 8, 15, 16, 17] hP hD rfl (by decide)
  · exact absurd rfl hne
  · exact xsubH [12, 13, 14, 15, 16, 17, 0, 1, 2, 3, 4, 5, 6, 7, 8, 9, 10, 11] hP hD rfl (by decide)
  · exact xsubH [15, 16, 17, 0, 1, 2, 3, 4, 5, 6, 7, 8, 9, 10, 11, 12, 13, 14] hP hD rfl (by decide)
  · exact xsubH [15, 16, 17, 3, 4, 5, 0, 1, 2, 6, 7, 8, 9, 10, 11, 12, 13, 14] hP hD rfl (by decide)
  · exact xsubH [15, 16, 17, 6, 7, 8, 0, 1, 2, 3, 4, 5, 9, 10, 11, 12, 13, 14] hP hD rfl (by decide)
  · exact xsubH [15, 16, 17, 9, 10, 11, 0, 1, 2, 3, 4, 5, 6, 7, 8, 12, 13, 14] hP hD rfl (by decide)
  · exact xsubH [15, 16, 17, 12, 13, 14, 0, 1, 2, 3, 4, 5, 6, 7, 8, 9, 10, 11] hP hD rfl (by decide)
  · exact absurd rfl hne
theorem xunf2 {D : va_G} {cy : Nat → ClassId} {A : Nat → Prop} {H : Heap} {ps : va_W} {ab : Nat → Nat} {σ : Nat → BKt} {b b2 : Nat} {v : BKt} (hb6 : b < 6) (hb62 : b2 < 6) (hne : b ≠ b2) (hP : xP D (ps ++ (bkc cy ab σ b ++ (bkc cy ab (va_up σ b2 v) b2 ++ bks cy ab σ (bOU b b2)))) H) (hD : va_D A (ps ++ (bkc cy ab σ b ++ (bkc cy ab (va_up σ b2 v) b2 ++ bks cy ab σ (bOU b b2))))) : xP D (ps ++ bks cy ab (va_up σ b2 v) b06) H ∧ va_D A (ps ++ bks cy ab (va_up σ b2 v) b06) := by
  rcases b6c hb6 with rfl | rfl | rfl | rfl | rfl | rfl <;> rcases b6c hb62 with rfl | rfl | rfl | rfl | rfl | rfl
  · exact absurd rfl hne
  · exact xsubH [0, 1, 2, 3, 4, 5, 6, 7, 8, 9, 10, 11, 12, 13, 14, 15, 16, 17] hP hD rfl (by decide)
  · exact xsubH [0, 1, 2, 6, 7, 8, 3, 4, 5, 9, 10, 11, 12, 13, 14, 15, 16, 17] hP hD rfl (by decide)
  · exact xsubH [0, 1, 2, 6, 7, 8, 9, 10, 11, 3, 4, 5, 12, 13, 14, 15, 16, 17] hP hD rfl (by decide)
  · exact xsubH [0, 1, 2, 6, 7, 8, 9, 10, 11, 12, 13, 14, 3, 4, 5, 15, 16, 17] hP hD rfl (by decide)
  · exact xsubH [0, 1, 2, 6, 7, 8, 9, 10, 11, 12, 13, 14, 15, 16, 17, 3, 4, 5] hP hD rfl (by decide)
  · exact xsubH [3, 4, 5, 0, 1, 2, 6, 7, 8, 9, 10, 11, 12, 13, 14, 15, 16, 17] hP hD rfl (by decide)
  · exact absurd rfl hne
  · exact xsubH [6, 7, 8, 0, 1, 2, 3, 4, 5, 9, 10, 11, 12, 13, 14, 15, 16, 17] hP hD rfl (by decide)
  · exact xsubH [6, 7, 8, 0, 1, 2, 9, 10, 11, 3, 4, 5, 12, 13, 14, 15, 16, 17] hP hD rfl (by decide)
  · exact xsubH [6, 7, 8, 0, 1, 2, 9, 10, 11, 12, 13, 14, 3, 4, 5, 15, 16, 17] hP hD rfl (by decide)
  · exact xsubH [6, 7, 8, 0, 1, 2, 9, 10, 11, 12, 13, 14, 15, 16, 17, 3, 4, 5] hP hD rfl (by decide)
  · exact xsubH [3, 4, 5, 6, 7, 8, 0, 1, 2, 9, 10, 11, 12, 13, 14, 15, 16, 17] hP hD rfl (by decide)
  · exact xsubH [6, 7, 8, 3, 4, 5, 0, 1, 2, 9, 10, 11, 12, 13, 14, 15, 16, 17] hP hD rfl (by decide)
  · exact absurd rfl hne
  · exact xsubH [6, 7, 8, 9, 10, 11, 0, 1, 2, 3, 4, 5, 12, 13, 14, 15, 16, 17] hP hD rfl (by decide)
  · exact xsubH [6, 7, 8, 9, 10, 11, 0, 1, 2, 12, 13, 14, 3, 4, 5, 15, 16, 17] hP hD rfl (by decide)
  · exact xsubH [6, 7, 8, 9, 10, 11, 0, 1, 2, 12, 13, 14, 15, 16, 17, 3, 4, 5] hP hD rfl (by decide)
  · exact xsubH [3, 4, 5, 6, 7, 8, 9, 10, 11, 0, 1, 2, 12, 13, 14, 15, 16, 17] hP hD rfl (by decide)
  · exact xsubH [6, 7, 8, 3, 4, 5, 9, 10, 11, 0, 1, 2, 12, 13, 14, 15, 16, 17] hP hD rfl (by decide)
  · exact xsubH [6, 7, 8, 9, 10, 11, 3, 4, 5, 0, 1, 2, 12, 13, 14, 15, 16, 17] hP hD rfl (by decide)
  · exact absurd rfl hne
  · exact xsubH [6, 7, 8, 9, 10, 11, 12, 13, 14, 0, 1, 2, 3, 4, 5, 15, 16, 17] hP hD rfl (by decide)
  · exact xsubH [6, 7, 8, 9, 10, 11, 12, 13, 14, 0, 1, 2, 15, 16, 17, 3, 4, 5] hP hD rfl (by decide)
  · exact xsubH [3, 4, 5, 6, 7, 8, 9, 10, 11, 12, 13, 14, 0, 1, 2, 15, 16, 17] hP hD rfl (by decide)
  · exact xsubH [6, 7, 8, 3, 4, 5, 9, 10, 11, 12, 13, 14, 0, 1, 2, 15, 16, 17] hP hD rfl (by decide)
  · exact xsubH [6, 7, 8, 9, 10, 11, 3, 4, 5, 12, 13, 14, 0, 1, 2, 15, 16, 17] hP hD rfl (by decide)
  · exact xsubH [6, 7, 8, 9, 10, 11, 12, 13, 14, 3, 4, 5, 0, 1, 2, 15, 16, 17] hP hD rfl (by decide)
  · exact absurd rfl hne
  · exact xsubH [6, 7, 8, 9, 10, 11, 12, 13, 14, 15, 16, 17, 0, 1, 2, 3, 4, 5] hP hD rfl (by decide)
  · exact xsubH [3, 4, 5, 6, 7, 8, 9, 10, 11, 12, 13, 14, 15, 16, 17, 0, 1, 2] hP hD rfl (by decide)
  · exact xsubH [6, 7, 8, 3, 4, 5, 9, 10, 11, 12, 13, 14, 15, 16, 17, 0, 1, 2] hP hD rfl (by decide)
  · exact xsubH [6, 7, 8, 9, 10, 11, 3, 4, 5, 12, 13, 14, 15, 16, 17, 0, 1, 2] hP hD rfl (by decide)
  · exact xsubH [6, 7, 8, 9, 10, 11, 12, 13, 14, 3, 4, 5, 15, 16, 17, 0, 1, 2] hP hD rfl (by decide)
  · exact xsubH [6, 7, 8, 9, 10, 11, 12, 13, 14, 15, 16, 17, 3, 4, 5, 0, 1, 2] hP hD rfl (by decide)
  · exact absurd rfl hne
end XX8
