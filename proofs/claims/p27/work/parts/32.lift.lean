section XLIFT
/-! a contract over a few cells is one over more: the rest stays -/
section XL1
variable {D : va_G} {A : Nat → Prop} {H : Heap} {wa wb : va_W}
theorem xl_P (h : xP D (wa ++ wb) H) : xP D wa H := fun k q hk => h k q (by rw [List.getElem?_append_left (List.getElem?_eq_some_iff.mp hk).1]; exact hk)
theorem xl_Dl (h : va_D A (wa ++ wb)) : va_D A wa := by
  have e : ∀ (k : Nat) (q : Nat × va_E), wa[k]? = some q → (wa ++ wb)[k]? = some q := fun k q hk => by rw [List.getElem?_append_left (List.getElem?_eq_some_iff.mp hk).1]; exact hk
  exact ⟨fun i j p q h1 h2 h3 => h.1 i j p q (e i p h1) (e j q h2) h3, fun k q hk => h.2 k q (e k q hk)⟩
theorem xl_A {sz : Nat} (h : va_D A (wa ++ wb)) (hA : ∀ q, sz ≤ q → A q) : ∀ q, va_A wa sz q → A q := fun q hq => by
  rcases hq with ⟨k, e, hk⟩ | hq
  · exact (xl_Dl h).2 k (q, e) hk
  · exact hA q hq
theorem xl_J {w1 : va_W} {H1 : Heap} (hP : xP D (wa ++ wb) H) (hD : va_D A (wa ++ wb)) (hA : ∀ q, H.size ≤ q → A q) (hk : ∀ q : Nat, q < H.size → ¬ va_A wa H.size q → H1[q]? = H[q]?) (hP1 : xP D w1 H1) (hD1 : va_D (va_A wa H.size) w1) : xP D (wb ++ w1) H1 ∧ va_D A (wb ++ w1) :=
  va_join hP hD (xix 0 wa.length) (xix wa.length wb.length) (xix0 wa wb) (xix_map wb wa) (xix_nd _ _) (fun i hi hc => by
    have h1 := xix_ge _ _ _ hi
    obtain ⟨n, hn⟩ : ∃ n, i < n ∧ n = wa.length := ⟨wa.length, by
      have h2 := xtlt (ps := wa ++ wb) (xix 0 wa.length) wa (xix0 wa wb)
      have h3 : ∀ (m k : Nat), ∀ j ∈ xix k m, j < k + m := by
        intro m
        induction m with
        | zero => intro k j hj; cases hj
        | succ m ih =>
          intro k j hj
          cases hj with
          | head => omega
          | tail _ hj => have := ih (k + 1) j hj; omega
      have := h3 _ _ i hc
      omega, rfl⟩
    omega) hk (xl_A hD hA) hP1 hD1
end XL1
section XL2
variable {l : Launch} {y : MethodName} {wl : List Cond} {rm : Room} {D : va_G} {cy : Nat → ClassId} {t0 : Nat} {as : List Value} {wc W wr : va_W} {mc ms : Nat}
theorem xl_pre (hin : ∀ (H : Heap) (A : Nat → Prop), xP D W H → va_D A W → xP D (wc ++ wr) H ∧ va_D A (wc ++ wr)) {sz : Nat} {a : Array Value} {U : State} (h : xPw D cy t0 as W sz a U) : xPw D cy t0 as wc sz a U := by
  obtain ⟨e1, e2, hP, hD, hE⟩ := h
  have h1 := hin _ _ hP hD
  have h2 := hin U.heap (va_A W sz) hP (hD.self (sz := sz))
  exact ⟨e1, e2, xl_P h1.1, xl_Dl h1.2, hE.1, hE.2.1, hE.2.2.narrow (xl_A h2.2 (fun q hq => Or.inr hq))⟩
theorem xl_F {A B : Nat → Prop} {s t : State} (h : va_F A s t) (hAB : ∀ q, A q → B q) : va_F B s t := ⟨h.1, fun q h1 h2 => h.2 q h1 (fun z => h2 (hAB q z))⟩
theorem xliftWi {S S' : Type} {post : Int32 → S → Prop} {w1 : S → va_W} {post' : Int32 → S' → Prop} {W1 : S' → va_W} (h : xWi l y wl rm D cy t0 as wc post w1 mc ms)
    (hin : ∀ (H : Heap) (A : Nat → Prop), xP D W H → va_D A W → xP D (wc ++ wr) H ∧ va_D A (wc ++ wr))
    (hout : ∀ (r : Int32) (u : S) (H : Heap) (A : Nat → Prop), post r u → xP D (wr ++ w1 u) H → va_D A (wr ++ w1 u) → ∃ v : S', post' r v ∧ xP D (W1 v) H ∧ va_D A (W1 v)) : xWi l y wl rm D cy t0 as W post' W1 mc ms := by
  intro sz
  refine MetFree.mono (h sz) (fun a U hU => xl_pre hin hU) (fun _ _ _ _ _ q => q) ?_
  intro a s o t hs hq
  obtain ⟨e1, e2, hP, hD, hE⟩ := hs
  subst e2
  have h2 := hin _ _ hP (hD.self (sz := s.heap.size))
  have hA : ∀ q, va_A wc s.heap.size q → va_A W s.heap.size q := xl_A h2.2 (fun q hq => Or.inr hq)
  obtain ⟨⟨⟨r, u, eo, hp, hB⟩, hF⟩, L, hL, hfr⟩ := hq
  have hj := xl_J h2.1 h2.2 (fun q hq => Or.inr hq) hF.2 hB.1 hB.2
  obtain ⟨v, hv, hv1, hv2⟩ := hout r u _ _ hp hj.1 hj.2
  exact ⟨⟨⟨r, v, eo, hv, hv1, hv2⟩, xl_F hF hA⟩, L, hL, fun q hq => hA _ (hfr q hq)⟩
theorem xliftWl {S S' : Type} {post : Int64 → S → Prop} {w1 : S → va_W} {post' : Int64 → S' → Prop} {W1 : S' → va_W} (h : xWl l y wl rm D cy t0 as wc post w1 mc ms)
    (hin : ∀ (H : Heap) (A : Nat → Prop), xP D W H → va_D A W → xP D (wc ++ wr) H ∧ va_D A (wc ++ wr))
    (hout : ∀ (r : Int64) (u : S) (H : Heap) (A : Nat → Prop), post r u → xP D (wr ++ w1 u) H → va_D A (wr ++ w1 u) → ∃ v : S', post' r v ∧ xP D (W1 v) H ∧ va_D A (W1 v)) : xWl l y wl rm D cy t0 as W post' W1 mc ms := by
  intro sz
  refine MetFree.mono (h sz) (fun a U hU => xl_pre hin hU) (fun _ _ _ _ _ q => q) ?_
  intro a s o t hs hq
  obtain ⟨e1, e2, hP, hD, hE⟩ := hs
  subst e2
  have h2 := hin _ _ hP (hD.self (sz := s.heap.size))
  have hA : ∀ q, va_A wc s.heap.size q → va_A W s.heap.size q := xl_A h2.2 (fun q hq => Or.inr hq)
  obtain ⟨⟨⟨r, u, eo, hp, hB⟩, hF⟩, L, hL, hfr⟩ := hq
  have hj := xl_J h2.1 h2.2 (fun q hq => Or.inr hq) hF.2 hB.1 hB.2
  obtain ⟨v, hv, hv1, hv2⟩ := hout r u _ _ hp hj.1 hj.2
  exact ⟨⟨⟨r, v, eo, hv, hv1, hv2⟩, xl_F hF hA⟩, L, hL, fun q hq => hA _ (hfr q hq)⟩
/-- a refused call -/
theorem xliftT {S S' : Type} {E0 : String} {w1 : S → va_W} {W1 : S' → va_W} (h : xT l y wl rm D cy t0 as wc E0 w1 mc ms)
    (hin : ∀ (H : Heap) (A : Nat → Prop), xP D W H → va_D A W → xP D (wc ++ wr) H ∧ va_D A (wc ++ wr))
    (hout : ∀ (u : S) (H : Heap) (A : Nat → Prop), xP D (wr ++ w1 u) H → va_D A (wr ++ w1 u) → ∃ v : S', xP D (W1 v) H ∧ va_D A (W1 v)) : xT l y wl rm D cy t0 as W E0 W1 mc ms := by
  intro sz
  refine MetFree.mono (h sz) (fun a U hU => xl_pre hin hU) (fun _ _ _ _ _ q => q) ?_
  intro a s o t hs hq
  obtain ⟨e1, e2, hP, hD, hE⟩ := hs
  subst e2
  have h2 := hin _ _ hP (hD.self (sz := s.heap.size))
  have hA : ∀ q, va_A wc s.heap.size q → va_A W s.heap.size q := xl_A h2.2 (fun q hq => Or.inr hq)
  rcases hq with hq | ⟨q, eo, E, ce, L, ⟨u, hu, hB, hF⟩, h5, h6, h7, h8, h9, h10⟩
  · exact absurd hq.1 id
  · right
    have hj := xl_J h2.1 h2.2 (fun q hq => Or.inr hq) hF.2 hB.2.1 hB.2.2
    obtain ⟨v, hv1, hv2⟩ := hout u _ _ hj.1 hj.2
    exact ⟨q, eo, E, ce, L, ⟨v, trivial, ⟨hB.1, hv1, hv2⟩, xl_F hF hA⟩, h5, h6, h7, h8, h9, fun z hz => hA _ (h10 z hz)⟩
/-- a read is a call that leaves the world as it is -/
theorem xRtoQ {S' : Type} {post : Int32 → Prop} {post' : Int32 → S' → Prop} {W1 : S' → va_W} (h : xRi l y wl rm D cy t0 as wc post) (hin : ∀ (H : Heap), xP D W H → xP D wc H) (v : S') (hv : W1 v = W) (hp : ∀ r, post r → post' r v) : xWi l y wl rm D cy t0 as W post' W1 0 0 := by
  intro sz
  refine MetFree.mono (show Met l y wl rm (xPr D cy t0 as wc) (vp_Si post) 0 0 (fun _ => False) from h) (fun a U hU => ?_) (fun _ _ _ _ _ q => q) ?_
  · obtain ⟨e1, e2, hP, hD, hE⟩ := hU
    exact ⟨e1, hin _ hP, hE.1, hE.2.1, hE.2.2.narrow (fun _ q => q.elim)⟩
  · intro a s o t hs hq
    obtain ⟨e1, e2, hP, hD, hE⟩ := hs
    subst e2
    obtain ⟨⟨r, eo, hr, ht⟩, L, hL, hfr⟩ := hq
    refine ⟨⟨⟨r, v, eo, hp r hr, ?_, ?_⟩, ⟨by rw [ht]; exact Nat.le_refl _, fun q _ _ => by rw [ht]⟩⟩, L, hL, fun q hq => (hfr q hq).elim⟩
    · rw [hv, ht]; exact hP
    · rw [hv]; exact hD.self
end XL2
theorem va_up_id {σ : Nat → BKt} {b : Nat} {v : BKt} (h : σ b = v) : va_up σ b v = σ := funext fun j => by
  by_cases q : j = b
  · subst q; rw [va_up_self, h]
  · rw [va_up_ne σ v q]
theorem bkc_up {cy : Nat → ClassId} {ab : Nat → Nat} {σ : Nat → BKt} {b qi qd n cap : Nat} {fi fd : Nat → Int32} : bkc cy ab (va_up σ b (qi, qd, n, cap, fi, fd)) b = [(ab b, .inr (0, [.ref qi, .ref qd, .int (nI n)])), (qi, xI cy cap fi), (qd, xI cy cap fd)] := by
  unfold bkc
  rw [va_up_self]
theorem p_bk (p : Int32) : (p < 0 ∨ nI 6 ≤ p) ∨ ∃ b, b < 6 ∧ p = nI b := by
  by_cases h : p < 0
  · exact Or.inl (Or.inl h)
  · obtain ⟨j, hj, ej⟩ := nI_of h
    rcases Nat.lt_or_ge j 6 with q | q
    · exact Or.inr ⟨j, q, ej⟩
    · refine Or.inl (Or.inr (Int32.not_lt.mp (fun r => ?_)))
      rw [ej] at r
      have := (nI_ltI hj (by omega)).mp r
      omega
theorem p_it (p : Int32) : isIt p = false ∨ ∃ x, x < 100000 ∧ p = nI x := by
  by_cases h : p < 0
  · exact Or.inl (isIt_neg h)
  · obtain ⟨j, hj, ej⟩ := nI_of h
    rcases Nat.lt_or_ge j 100000 with q | q
    · exact Or.inr ⟨j, q, ej⟩
    · exact Or.inl (by rw [ej]; exact isIt_ge q hj)
theorem p_rg (p : Int32) (n : Nat) (hn : n < 2 ^ 31) : (p < nI 1 ∨ nI n < p) ∨ ∃ b, 1 ≤ b ∧ b ≤ n ∧ p = nI b := by
  by_cases h : p < 0
  · exact Or.inl (Or.inl (Int32.lt_trans h (by decide)))
  · obtain ⟨j, hj, ej⟩ := nI_of h
    by_cases q : 1 ≤ j ∧ j ≤ n
    · exact Or.inr ⟨j, q.1, q.2, ej⟩
    · refine Or.inl ?_
      rw [ej]
      by_cases r : j < 1
      · exact Or.inl ((nI_ltI hj (by omega)).mpr r)
      · exact Or.inr ((nI_ltI hn hj).mpr (by omega))
theorem xfb {D : va_G} {cy : Nat → ClassId} {A : Nat → Prop} {H : Heap} {ps : va_W} {ab : Nat → Nat} {σ : Nat → BKt} {b : Nat} (hb6 : b < 6) (hP : xP D (ps ++ (bkc cy ab σ b ++ bks cy ab σ (bOT b))) H) (hD : va_D A (ps ++ (bkc cy ab σ b ++ bks cy ab σ (bOT b)))) : xP D (ps ++ bks cy ab σ b06) H ∧ va_D A (ps ++ bks cy ab σ b06) := by
  have e : va_up σ b (σ b) = σ := va_up_id rfl
  have h := xunf (σ := σ) (v := σ b) hb6 (by rw [e]; exact hP) (by rw [e]; exact hD)
  rw [e] at h
  exact h
theorem xfb2 {D : va_G} {cy : Nat → ClassId} {A : Nat → Prop} {H : Heap} {ps : va_W} {ab : Nat → Nat} {σ : Nat → BKt} {b b2 : Nat} (hb6 : b < 6) (hb62 : b2 < 6) (hne : b ≠ b2) (hP : xP D (ps ++ (bkc cy ab σ b ++ (bkc cy ab σ b2 ++ bks cy ab σ (bOU b b2)))) H) (hD : va_D A (ps ++ (bkc cy ab σ b ++ (bkc cy ab σ b2 ++ bks cy ab σ (bOU b b2))))) : xP D (ps ++ bks cy ab σ b06) H ∧ va_D A (ps ++ bks cy ab σ b06) := by
  have e : va_up σ b2 (σ b2) = σ := va_up_id rfl
  have h := xunf2 (σ := σ) (v := σ b2) hb6 hb62 hne (by rw [e]; exact hP) (by rw [e]; exact hD)
  rw [e] at h
  exact h
theorem xsw {D : va_G} {A : Nat → Prop} {H : Heap} {wa wb : va_W} (hP : xP D (wa ++ wb) H) (hD : va_D A (wa ++ wb)) : xP D (wb ++ wa) H ∧ va_D A (wb ++ wa) := by
  exact ⟨va_P.swap (a := []) (b := wa) (c := wb) hP, va_D.swap (a := []) (b := wa) (c := wb) hD⟩
/-! calls over a world in two parts -/
section XC2
variable {p : Program} {l : Launch} {e : Env} {R : Room} {s : State} {m : MethodId} {args : Array Value} {below : List Frame} {meth : Method} {c : Code} {H : Heap} {locs : List Loc} {cells slots : Nat} {Q : State → Prop}
variable {pc : Nat} {ls : Array Slot} {rest st0 : List Value} {A : Nat → Prop} {H0 : Heap} {mc ms : Nat} {D : va_G} {ws wo wp : va_W} {a : Array Value}
theorem xix_no : ∀ i ∈ ([] : List Nat), i ∉ xix 0 ws.length := fun i h => by cases h
theorem xix_lt : ∀ (n k : Nat), ∀ j ∈ xix k n, j < k + n
  | 0, k, j, h => by cases h
  | n + 1, k, j, h => by
    cases h with
    | head => omega
    | tail _ h => have := xix_lt n (k + 1) j h; omega
theorem xix_A : ∀ i ∈ xix wo.length wp.length, i ∉ xix 0 wo.length := fun i h h2 => by
  have h1 := xix_ge _ _ _ h
  have h3 := xix_lt _ _ _ h2
  omega
theorem xix_B : ∀ i ∈ xix 0 wo.length, i ∉ xix wo.length wp.length := fun i h h2 => xix_A i h2 h
theorem xc0i {S : Type} {post : Int32 → S → Prop} {w1 : S → va_W} (hr : va_Run p l e R s m args below meth c H locs cells slots mc ms (F0 m pc ls st0) rest (va_Qi post (xBw D w1 (va_A ws H.size)) (va_A ws H.size) a) (va_A ws H.size)) (hP : xP D ws H) (hD : va_D A ws) (hS : va_S A H0 H locs) (hA : ∀ q, H0.size ≤ q → A q)
    (kk : ∀ (r : Int32) (u : S) (H1 : Heap) (locs1 : List Loc), post r u → xP D (w1 u) H1 → va_D A (w1 u) → va_S A H0 H1 locs1 → W p l e R s m args below meth c H1 locs1 (cells + mc) (slots + ms) Q (F0 m (pc + 3) ls (.int r :: rest))) : W p l e R s m args below meth c H locs cells slots Q (F0 m pc ls st0) :=
  xcWi (wr := []) hr hP hD hS hA (xix 0 ws.length) [] (xix_map ws []) rfl rfl xix_no kk
theorem xc0l {S : Type} {post : Int64 → S → Prop} {w1 : S → va_W} (hr : va_Run p l e R s m args below meth c H locs cells slots mc ms (F0 m pc ls st0) rest (va_Ql post (xBw D w1 (va_A ws H.size)) (va_A ws H.size) a) (va_A ws H.size)) (hP : xP D ws H) (hD : va_D A ws) (hS : va_S A H0 H locs) (hA : ∀ q, H0.size ≤ q → A q)
    (kk : ∀ (r : Int64) (u : S) (H1 : Heap) (locs1 : List Loc), post r u → xP D (w1 u) H1 → va_D A (w1 u) → va_S A H0 H1 locs1 → W p l e R s m args below meth c H1 locs1 (cells + mc) (slots + ms) Q (F0 m (pc + 3) ls (.long r :: rest))) : W p l e R s m args below meth c H locs cells slots Q (F0 m pc ls st0) :=
  xcWl (wr := []) hr hP hD hS hA (xix 0 ws.length) [] (xix_map ws []) rfl rfl xix_no kk
theorem xcAi {S : Type} {post : Int32 → S → Prop} {w1 : S → va_W} (hr : va_Run p l e R s m args below meth c H locs cells slots mc ms (F0 m pc ls st0) rest (va_Qi post (xBw D w1 (va_A wo H.size)) (va_A wo H.size) a) (va_A wo H.size)) (hP : xP D (wo ++ wp) H) (hD : va_D A (wo ++ wp)) (hS : va_S A H0 H locs) (hA : ∀ q, H0.size ≤ q → A q)
    (kk : ∀ (r : Int32) (u : S) (H1 : Heap) (locs1 : List Loc), post r u → xP D (w1 u ++ wp) H1 → va_D A (w1 u ++ wp) → va_S A H0 H1 locs1 → W p l e R s m args below meth c H1 locs1 (cells + mc) (slots + ms) Q (F0 m (pc + 3) ls (.int r :: rest))) : W p l e R s m args below meth c H locs cells slots Q (F0 m pc ls st0) :=
  xcWi (wr := wp) hr hP hD hS hA (xix 0 wo.length) (xix wo.length wp.length) (xix0 wo wp) (xix_map wp wo) (xix_nd _ _) xix_A (fun r u H1 L1 h1 h2 h3 h4 => kk r u H1 L1 h1 (xsw h2 h3).1 (xsw h2 h3).2 h4)
theorem xcBi {S : Type} {post : Int32 → S → Prop} {w1 : S → va_W} (hr : va_Run p l e R s m args below meth c H locs cells slots mc ms (F0 m pc ls st0) rest (va_Qi post (xBw D w1 (va_A wp H.size)) (va_A wp H.size) a) (va_A wp H.size)) (hP : xP D (wo ++ wp) H) (hD : va_D A (wo ++ wp)) (hS : va_S A H0 H locs) (hA : ∀ q, H0.size ≤ q → A q)
    (kk : ∀ (r : Int32) (u : S) (H1 : Heap) (locs1 : List Loc), post r u → xP D (wo ++ w1 u) H1 → va_D A (wo ++ w1 u) → va_S A H0 H1 locs1 → W p l e R s m args below meth c H1 locs1 (cells + mc) (slots + ms) Q (F0 m (pc + 3) ls (.int r :: rest))) : W p l e R s m args below meth c H locs cells slots Q (F0 m pc ls st0) :=
  xcWi (wr := wo) hr hP hD hS hA (xix wo.length wp.length) (xix 0 wo.length) (xix_map wp wo) (xix0 wo wp) (xix_nd _ _) xix_B kk
theorem xcAl {S : Type} {post : Int64 → S → Prop} {w1 : S → va_W} (hr : va_Run p l e R s m args below meth c H locs cells slots mc ms (F0 m pc ls st0) rest (va_Ql post (xBw D w1 (va_A wo H.size)) (va_A wo H.size) a) (va_A wo H.size)) (hP : xP D (wo ++ wp) H) (hD : va_D A (wo ++ wp)) (hS : va_S A H0 H locs) (hA : ∀ q, H0.size ≤ q → A q)
    (kk : ∀ (r : Int64) (u : S) (H1 : Heap) (locs1 : List Loc), post r u → xP D (w1 u ++ wp) H1 → va_D A (w1 u ++ wp) → va_S A H0 H1 locs1 → W p l e R s m args below meth c H1 locs1 (cells + mc) (slots + ms) Q (F0 m (pc + 3) ls (.long r :: rest))) : W p l e R s m args below meth c H locs cells slots Q (F0 m pc ls st0) :=
  xcWl (wr := wp) hr hP hD hS hA (xix 0 wo.length) (xix wo.length wp.length) (xix0 wo wp) (xix_map wp wo) (xix_nd _ _) xix_A (fun r u H1 L1 h1 h2 h3 h4 => kk r u H1 L1 h1 (xsw h2 h3).1 (xsw h2 h3).2 h4)
theorem xcBl {S : Type} {post : Int64 → S → Prop} {w1 : S → va_W} (hr : va_Run p l e R s m args below meth c H locs cells slots mc ms (F0 m pc ls st0) rest (va_Ql post (xBw D w1 (va_A wp H.size)) (va_A wp H.size) a) (va_A wp H.size)) (hP : xP D (wo ++ wp) H) (hD : va_D A (wo ++ wp)) (hS : va_S A H0 H locs) (hA : ∀ q, H0.size ≤ q → A q)
    (kk : ∀ (r : Int64) (u : S) (H1 : Heap) (locs1 : List Loc), post r u → xP D (wo ++ w1 u) H1 → va_D A (wo ++ w1 u) → va_S A H0 H1 locs1 → W p l e R s m args below meth c H1 locs1 (cells + mc) (slots + ms) Q (F0 m (pc + 3) ls (.long r :: rest))) : W p l e R s m args below meth c H locs cells slots Q (F0 m pc ls st0) :=
  xcWl (wr := wo) hr hP hD hS hA (xix wo.length wp.length) (xix 0 wo.length) (xix_map wp wo) (xix0 wo wp) (xix_nd _ _) xix_B kk
end XC2
end XLIFT
