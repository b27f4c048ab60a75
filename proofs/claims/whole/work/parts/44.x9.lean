section XX9
def Us (c : Nat) : Nat := if c < 100000 then 4 * c else 600000
theorem Us_le (c : Nat) : Us c ≤ 600000 := by unfold Us; split <;> omega
def US (σ : Nat → BKt) : Nat := Us (σ 0).2.2.2.1 + (Us (σ 1).2.2.2.1 + (Us (σ 2).2.2.2.1 + (Us (σ 3).2.2.2.1 + (Us (σ 4).2.2.2.1 + Us (σ 5).2.2.2.1))))
theorem US_le (σ : Nat → BKt) : US σ ≤ 3600000 := by
  unfold US
  have h0 := Us_le (σ 0).2.2.2.1
  have h1 := Us_le (σ 1).2.2.2.1
  have h2 := Us_le (σ 2).2.2.2.1
  have h3 := Us_le (σ 3).2.2.2.1
  have h4 := Us_le (σ 4).2.2.2.1
  have h5 := Us_le (σ 5).2.2.2.1
  omega
def RI (k t now nl : Nat) (G It Zt fF : Nat → Int32) (lst : Nat → Nat) (σ : Nat → BKt) (cells slots : Nat) : Prop :=
  (2 ≤ k ∧ k ≤ 32) ∧ now ≤ 1000 * t ∧ (∀ j, j < 6 → BR (mb G j) (σ j).2.2.1 (σ j).2.2.2.1 (σ j).2.2.2.2.1 (σ j).2.2.2.2.2) ∧ (∀ j, MV (mb G j)) ∧ ML lst nl It Zt ∧ CV G lst nl ∧ (∀ z, z < 17 → fF z = nI (tabN.getD z 0)) ∧ cells ≤ 100 + 3 * t ∧ slots ≤ 802000 + (6 * t + US σ)
theorem RI.next {k t now nl : Nat} {G It Zt fF : Nat → Int32} {lst : Nat → Nat} {σ : Nat → BKt} {cells slots cells' slots' : Nat} (h : RI k t now nl G It Zt fF lst σ cells slots) (hc : cells' ≤ cells + 3) (hs : slots' ≤ slots + 6) : RI k (t + 1) now nl G It Zt fF lst σ cells' slots' := by
  obtain ⟨h1, h2, h3, h4, h5, h6, h7, h8, h9⟩ := h
  exact ⟨h1, by omega, h3, h4, h5, h6, h7, by omega, by omega⟩
theorem RI.room {k t now nl : Nat} {G It Zt fF : Nat → Int32} {lst : Nat → Nat} {σ : Nat → BKt} {cells slots : Nat} (h : RI k t now nl G It Zt fF lst σ cells slots) (ht : t ≤ 512) : cells ≤ 1700 ∧ slots ≤ 5000000 := by
  have h1 := US_le σ
  have h8 := h.2.2.2.2.2.2.2
  omega
theorem va_up_id {σ : Nat → BKt} {b : Nat} {v : BKt} (h : σ b = v) : va_up σ b v = σ := funext fun j => by
  by_cases q : j = b
  · subst q; rw [va_up_self, h]
  · rw [va_up_ne σ v q]
theorem bkc_up {cy : Nat → ClassId} {ab : Nat → Nat} {σ : Nat → BKt} {b qi qd n cap : Nat} {fi fd : Nat → Int32} : bkc cy ab (va_up σ b (qi, qd, n, cap, fi, fd)) b = [(ab b, .inr (0, [.ref qi, .ref qd, .int (nI n)])), (qi, xI cy cap fi), (qd, xI cy cap fd)] := by
  unfold bkc
  rw [va_up_self]
theorem lgc (v : Int64) : lg_cmp v v = 0 := by
  unfold lg_cmp
  by_cases h : v > v
  · exact absurd h (fun q => by
      have h2 : v < v := q
      rw [Int64.lt_iff_toInt_lt] at h2
      omega)
  · rw [if_neg h, if_pos rfl]
theorem updL0 {f : Nat → Int64} {v : Int64} : vp_updL f 0 v 0 = v := if_pos rfl
theorem p_bk (p : Int32) : (p < 0 ∨ nI 6 ≤ p) ∨ ∃ b, b < 6 ∧ p = nI b := by
  by_cases h : p < 0
  · exact Or.inl (Or.inl h)
  · obtain ⟨j, hj, ej⟩ := nI_of h
    rcases Nat.lt_or_ge j 6 with q | q
    · exact Or.inr ⟨j, q, ej⟩
    · refine Or.inl (Or.inr (Int32.not_lt.mp (fun r => ?_)))
      rw [ej] at r
      have := (nI_ltI hj (by omega)).mp r
      omega
theorem p_it (p : Int32) : isIt p = false ∨ ∃ x, x < 100000 ∧ p = nI x := by
  by_cases h : p < 0
  · exact Or.inl (isIt_neg h)
  · obtain ⟨j, hj, ej⟩ := nI_of h
    rcases Nat.lt_or_ge j 100000 with q | q
    · exact Or.inr ⟨j, q, ej⟩
    · exact Or.inl (by rw [ej]; exact isIt_ge q hj)
theorem p_ix (p : Int32) (n : Nat) (hn : n < 2 ^ 31) : (p < 0 ∨ nI n ≤ p) ∨ ∃ b, b < n ∧ p = nI b := by
  by_cases h : p < 0
  · exact Or.inl (Or.inl h)
  · obtain ⟨j, hj, ej⟩ := nI_of h
    rcases Nat.lt_or_ge j n with q | q
    · exact Or.inr ⟨j, q, ej⟩
    · refine Or.inl (Or.inr (Int32.not_lt.mp (fun r => ?_)))
      rw [ej] at r
      have := (nI_ltI hj hn).mp r
      omega
theorem p_rg (p : Int32) (n : Nat) (hn : n < 2 ^ 31) : (p < nI 1 ∨ nI n < p) ∨ ∃ b, 1 ≤ b ∧ b ≤ n ∧ p = nI b := by
  by_cases h : p < 0
  · exact Or.inl (Or.inl (Int32.lt_trans h (by decide)))
  · obtain ⟨j, hj, ej⟩ := nI_of h
    by_cases q : 1 ≤ j ∧ j ≤ n
    · exact Or.inr ⟨j, q.1, q.2, ej⟩
    · refine Or.inl ?_
      rw [ej]
      by_cases r : j < 1
      · exact Or.inl ((nI_ltI hj (by omega)).mpr r)
      · exact Or.inr ((nI_ltI hn hj).mpr (by omega))
abbrev LI (D : va_G) (cy : Nat → ClassId) (A : Nat → Prop) (aO a4 aB o2 gR o3 gT oA gA oB gB oC gC qL qM a5 mD mI mZ mK mO mE mR mF k : Nat) (ab : Nat → Nat) (t : Nat) (H : Heap) (cells slots : Nat) : Prop := ∃ (now : Nat) (zA : Nat) (zB : Nat) (zC : Nat) (nl : Nat) (lv0 : Int32) (sz0 : Int32) (th : Int32) (kM : Int32) (oM : Int32) (fo : Nat → Int64) (fR : Nat → Int32) (fT : Nat → Int32) (fA : Nat → Int32) (fB : Nat → Int32) (fC : Nat → Int32) (fL : Nat → Int32) (fG : Nat → Int32) (G : Nat → Int32) (It : Nat → Int32) (Zt : Nat → Int32) (fK : Nat → Int32) (fO : Nat → Int32) (fE : Nat → Int32) (fQ : Nat → Int32) (fF : Nat → Int32) (lst : Nat → Nat) (σ : Nat → BKt), RI k t now nl G It Zt fF lst σ cells slots ∧ xP D ([(aO, xL cy 1 fo), (a4, .inr (4, [.ref aB, .ref o2, .ref o3, .ref oA, .ref oB, .ref oC, .ref qL, .ref qM, .int (nI k), .int (nI now)])), (aB, xB cy 6 (fun j => some (ab j))), (o2, .inr (2, [.ref gR])), (gR, xI cy 16 fR), (o3, .inr (3, [.ref gT, .int lv0, .int sz0])), (gT, xI cy 25 fT), (oA, .inr (1, [.ref gA, .int (nI k), .int (nI zA)])), (gA, xI cy 32 fA), (oB, .inr (1, [.ref gB, .int (nI k), .int (nI zB)])), (gB, xI cy 32 fB), (oC, .inr (1, [.ref gC, .int (nI k), .int (nI zC)])), (gC, xI cy 32 fC), (qL, xI cy 60 fL), (qM, xI cy 60 fG), (a5, .inr (5, [.int th, .int (nI k), .int (nI now), .ref mD, .ref mI, .ref mZ, .int (nI nl), .ref mK, .ref mO, .ref mE, .ref mR, .ref mF, .int kM, .int oM])), (mD, xI cy 600000 G), (mI, xI cy 100000 It), (mZ, xZ cy 100000 Zt), (mK, xI cy 32 fK), (mO, xI cy 32 fO), (mE, xI cy 32 fE), (mR, xI cy 16 fQ), (mF, xI cy 17 fF)] ++ bks cy ab σ b06) H ∧ va_D A ([(aO, xL cy 1 fo), (a4, .inr (4, [.ref aB, .ref o2, .ref o3, .ref oA, .ref oB, .ref oC, .ref qL, .ref qM, .int (nI k), .int (nI now)])), (aB, xB cy 6 (fun j => some (ab j))), (o2, .inr (2, [.ref gR])), (gR, xI cy 16 fR), (o3, .inr (3, [.ref gT, .int lv0, .int sz0])), (gT, xI cy 25 fT), (oA, .inr (1, [.ref gA, .int (nI k), .int (nI zA)])), (gA, xI cy 32 fA), (oB, .inr (1, [.ref gB, .int (nI k), .int (nI zB)])), (gB, xI cy 32 fB), (oC, .inr (1, [.ref gC, .int (nI k), .int (nI zC)])), (gC, xI cy 32 fC), (qL, xI cy 60 fL), (qM, xI cy 60 fG), (a5, .inr (5, [.int th, .int (nI k), .int (nI now), .ref mD, .ref mI, .ref mZ, .int (nI nl), .ref mK, .ref mO, .ref mE, .ref mR, .ref mF, .int kM, .int oM])), (mD, xI cy 600000 G), (mI, xI cy 100000 It), (mZ, xZ cy 100000 Zt), (mK, xI cy 32 fK), (mO, xI cy 32 fO), (mE, xI cy 32 fE), (mR, xI cy 16 fQ), (mF, xI cy 17 fF)] ++ bks cy ab σ b06)
def LC (p : Program) (l : Launch) (s : State) (m : MethodId) (c : Code) (D : va_G) (cy : Nat → ClassId) (t0 : Nat) (A : Nat → Prop) (sb L : Nat) (xs : Nat → Int32) : Prop := p.tables.exec = Jvm.exec ∧ c.code = cL_law ∧ c.maxLocals = 8 ∧ (∀ w ∈ wsL_law, w.before #[Value.ref sb] s = true) ∧ s.vm.findClass RL = some m.cls ∧ xE D cy t0 A s s.heap ∧ (∀ q, s.heap.size ≤ q → A q) ∧ va_X sb L xs s s.heap ∧ sb < s.heap.size ∧ ¬ A sb ∧ l.stackTraces = false
end XX9
