section X51
theorem xofRx {l : Launch} {y : MethodName} {wl wl' : List Cond} {cc : ByteArray} {maxL : Nat} {rm : Room} {as : List Value} {Bf : State → Prop} {ret : FieldType} {post : Int32 → Prop} (hy : plainName y.cls = true) (hw : wl = Cond.code y cc maxL (some ret) :: wl') (hL : (lg_sl as).length ≤ maxL) (hn : ∀ r, post r → narrow ret (.int r) = .int r)
    (body : ∀ (p : Program) (e : Env) (s : State) (m : MethodId) (below : List Frame) (meth : Method) (c : Code) (Q : State → Prop) (ls : Array Slot), p.tables.exec = Jvm.exec → c.code = cc → Bf s → lv_has ls maxL (lv_args 0 as) →
      (∀ (r : Int32) (pc : Nat) (ls : Array Slot), decode cc pc = .ok (.ireturn, 1) → post r → W p l e rm s m as.toArray below meth c s.heap [] 0 0 Q (F0 m pc ls [.int r])) →
      W p l e rm s m as.toArray below meth c s.heap [] 0 0 Q (F0 m 0 ls [])) : Met l y wl rm (va_Pc as Bf) (vp_Si post) 0 0 (fun _ => False) := by
  refine Met.ofW (cc := cc) (maxL := maxL) (ret := some ret) hy hw ?_
  intro p e s m args below meth c s₁ B hml hv
  obtain ⟨rfl, hB⟩ := hv
  rw [lg_entry_eq]
  refine body p e s m below meth c _ _ B.exec B.bytes hB (lv_entry as hL) (fun r pc ls hd hp => ?_)
  exact W.zret B.exec B.bytes B.returns (hn r hp) (fun t ht hW => ⟨r, rfl, hp, ht⟩) (fun _ h => by cases h) hd (hlocks := B.notSynchronized)
def xCell (sb L : Nat) (xs : Nat → Int32) (U : State) : Prop := va_X sb L xs U U.heap ∧ sb < U.heap.size
set_option maxHeartbeats 4000000 in
theorem c_Lcell (l : Launch) (sb L i : Nat) (xs : Nat → Int32) (hL : L ≤ 260) (hi : i < 1000) : Met l yL_cell wsL_cell ({ frames := 0, cells := 0, slots := 0, locals := 0 } : Room) (va_Pc [.ref sb, .int (nI i)] (xCell sb L xs)) (vp_Si (fun _ => True)) 0 0 (fun _ => False) := by
  refine xofRx (cc := cL_cell) (maxL := 2) (by decide) rfl (Nat.le_of_ble_eq_true rfl) (fun _ _ => rfl) ?_
  intro p e s m below meth c Q ls hx hb hB hl kret
  obtain ⟨hX, hbl⟩ := hB
  have hS : va_S (fun _ => False) s.heap s.heap [] := va_S.rf
  have hl : lv_has ls 2 [(0, .ref sb), (1, .int (nI i))] := hl
  refine lv_iload_n hx hb dL_cell_0 rfl (lv_at hl 1 rfl) ?_
  refine lv_aload_n hx hb dL_cell_1 rfl (lv_at hl 0 rfl) ?_
  refine va_slen hx hb hX hbl (fun h => h) hS dL_cell_2 ?_
  refine lv_eqi (z := nI L) rfl ?_
  refine xb_icmp_ge (tgt := 12) (a := i) (b := L) (by omega) (by omega) hx hb dL_cell_3 (by decide) (fun c1 => ?_) (fun c1 => ?_)
  · refine lv_sipush (v := nI 7919) hx hb dL_cell_12 (by decide) ?_
    refine lv_iload_n hx hb dL_cell_15 rfl (lv_at hl 1 rfl) ?_
    refine lv_sipush (v := nI 211) hx hb dL_cell_16 (by decide) ?_
    refine lv_iadd hx hb dL_cell_19 ?_
    refine lv_imul hx hb dL_cell_20 ?_
    refine lv_iload_n hx hb dL_cell_21 rfl (lv_at hl 1 rfl) ?_
    refine lv_sipush (v := nI 1709) hx hb dL_cell_22 (by decide) ?_
    refine lv_iadd hx hb dL_cell_25 ?_
    refine lv_imul hx hb dL_cell_26 ?_
    exact kret _ _ _ dL_cell_27 trivial
  · refine lv_aload_n hx hb dL_cell_6 rfl (lv_at hl 0 rfl) ?_
    refine lv_iload_n hx hb dL_cell_7 rfl (lv_at hl 1 rfl) ?_
    refine va_sld hx hb hX hbl (fun h => h) hS (vp_in_nI (by omega) (by omega)) dL_cell_8 ?_
    rw [nI_clamp (by omega)]
    refine lv_goto (tgt := 27) hx hb dL_cell_9 (by decide) ?_
    exact kret _ _ _ dL_cell_27 trivial
theorem xCell.give {s : State} {A : Nat → Prop} {H : Heap} {locs : List Loc} {sb L i : Nat} {xs : Nat → Int32} (hX : va_X sb L xs s s.heap) (hbl : sb < s.heap.size) (hbA : ¬ A sb) (hS : va_S A s.heap H locs) : FrameBlind (va_Pc [.ref sb, .int (nI i)] (xCell sb L xs)) ∧ ∀ U : State, U.heap = H → s.WarmedH U.vm → va_Pc [.ref sb, .int (nI i)] (xCell sb L xs) ([.ref sb, .int (nI i)] : List Value).toArray U := by
  refine ⟨fun a U g mk q => ?_, fun U hU hW => ⟨rfl, ?_⟩⟩
  · obtain ⟨q0, q1, q2⟩ := q
    exact ⟨q0, va_X.moved (u := U) (U := U.calling g mk a) (Vm.Alike.refl _) q1, q2⟩
  · unfold xCell
    rw [hU]
    exact ⟨(hX.kept (hS.2.1 sb hbl hbA)).moved hW.alike, Nat.lt_of_lt_of_le hbl hS.1⟩
section XCV
variable {p : Program} {l : Launch} {e : Env} {R : Room} {s : State} {m : MethodId} {args : Array Value} {below : List Frame} {meth : Method} {c : Code} {H : Heap} {locs : List Loc} {cells slots : Nat} {Q : State → Prop}
variable {pc : Nat} {ls : Array Slot} {rest st0 : List Value} {A : Nat → Prop} {H0 : Heap} {mc ms : Nat} {D : va_G} {wo wp : va_W} {a : Array Value}
theorem xcBv {S : Type} {post : S → Prop} {w1 : S → va_W} (hr : va_Run p l e R s m args below meth c H locs cells slots mc ms (F0 m pc ls st0) rest (va_Qv post (xBw D w1 (va_A wp H.size)) (va_A wp H.size) a) (va_A wp H.size)) (hP : xP D (wo ++ wp) H) (hD : va_D A (wo ++ wp)) (hS : va_S A H0 H locs) (hA : ∀ q, H0.size ≤ q → A q)
    (kk : ∀ (u : S) (H1 : Heap) (locs1 : List Loc), post u → xP D (wo ++ w1 u) H1 → va_D A (wo ++ w1 u) → va_S A H0 H1 locs1 → W p l e R s m args below meth c H1 locs1 (cells + mc) (slots + ms) Q (F0 m (pc + 3) ls rest)) : W p l e R s m args below meth c H locs cells slots Q (F0 m pc ls st0) :=
  xcWv (wr := wo) hr hP hD hS hA (xix wo.length wp.length) (xix 0 wo.length) (xix_map wp wo) (xix0 wo wp) (xix_nd _ _) xix_B kk
end XCV
def LC (p : Program) (l : Launch) (s : State) (m : MethodId) (c : Code) (D : va_G) (cy : Nat → ClassId) (t0 : Nat) (A : Nat → Prop) (sb L : Nat) (xs : Nat → Int32) : Prop := p.tables.exec = Jvm.exec ∧ c.code = cL_law ∧ c.maxLocals = 7 ∧ (∀ w ∈ wsL_law, w.before #[Value.ref sb] s = true) ∧ s.vm.findClass RL = some m.cls ∧ xE D cy t0 A s s.heap ∧ (∀ q, s.heap.size ≤ q → A q) ∧ va_X sb L xs s s.heap ∧ sb < s.heap.size ∧ ¬ A sb ∧ l.stackTraces = false ∧ L ≤ 260
/-- what stands before turn n -/
def GI (M : Nat → Nat → Int32) (now n : Nat) (st su : ST) (cells slots : Nat) : Prop := AG M now n ∧ OK M st ∧ OK M su ∧ cells ≤ 100 + 9 * n ∧ slots ≤ 3000 + 28818 * n
/-- the numbers of hashes kept: what the constructor is told, and what it makes of it -/
def KK (k kk : Nat) : Prop := 2 ≤ k ∧ k ≤ 32 ∧ kk < 20 ∧ k = if kk < 2 then 2 else kk
theorem KK_of {kk : Nat} (h : kk < 20) : KK (kOf (nI kk)) kk := by
  have hb := kOf_b (nI kk)
  refine ⟨hb.1, hb.2, h, ?_⟩
  by_cases q : kk < 2
  · rw [if_pos q]
    exact kOf_lo ((nI_ltI (b := 2) (by omega) (by omega)).mpr q)
  · rw [if_neg q]
    have h1 : ¬ nI kk < 2 := fun r => q ((nI_ltI (b := 2) (by omega) (by omega)).mp r)
    have h2 : ¬ (32 : Int32) < nI kk := fun r => by
      have := (nI_ltI (a := 32) (by omega) (by omega)).mp r
      omega
    have h3 := kOf_mid h1 h2
    exact ((nI_eq (by omega) (by omega)).mp h3).symm
set_option maxHeartbeats 8000000 in
set_option maxRecDepth 100000 in
theorem lw_tail {p : Program} {l : Launch} {e : Env} {s : State} {m : MethodId} {below : List Frame} {meth : Method} {c : Code} {Q : State → Prop} {D : va_G} {cy : Nat → ClassId} {t0 : Nat} {A : Nat → Prop} {sb L : Nat} {xs : Nat → Int32} {a4 b4 k kk n : Nat} {u w : Nat → Nat} {M : Nat → Nat → Int32} {now : Nat} {st su : ST} {H : Heap} {locs : List Loc} {cells slots : Nat} {ls : Array Slot} {v : Int32} (hC : LC p l s m c D cy t0 A sb L xs) (hK : KK k kk) (hn : n < 40) (hG : AG M now (n + 1)) (hO : OK M st) (hU : OK M su) (hcl : cells ≤ 106 + 9 * n) (hsl : slots ≤ 22212 + 28818 * n) (hP : xP D (OW cy a4 u k now st ++ OW cy b4 w k now su) H) (hD : va_D A (OW cy a4 u k now st ++ OW cy b4 w k now su)) (hS : va_S A s.heap H locs) (hl : lv_has ls 7 [(0, .ref sb), (1, .int (nI kk)), (2, .ref a4), (3, .ref b4), (4, .int (nI n)), (5, .int v)]) (knext : ∀ (M : Nat → Nat → Int32) (now : Nat) (st su : ST) (H : Heap) (locs : List Loc) (ls : Array Slot) (cells slots : Nat), GI M now (n + 1) st su cells slots → xP D (OW cy a4 u k now st ++ OW cy b4 w k now su) H → va_D A (OW cy a4 u k now st ++ OW cy b4 w k now su) → va_S A s.heap H locs → lv_has ls 7 [(0, .ref sb), (1, .int (nI kk)), (2, .ref a4), (3, .ref b4), (4, .int (nI (n + 1)))] → W p l e room_1 s m #[Value.ref sb] below meth c H locs cells slots Q (F0 m 32 ls [])) : W p l e room_1 s m #[Value.ref sb] below meth c H locs cells slots Q (F0 m 100 ls []) := by
  obtain ⟨hx, hb, hml, hts, hown, hE, hA, hX, hsb, hbA, hlf, hL⟩ := hC
  obtain ⟨hk2, hk, hkk, hke⟩ := hK
  have hnw := hG.2.1
  refine lv_iload hx hb dL_law_100 (lv_at hl 4 rfl) ?_
  refine lv_iconst (v := nI 3) hx hb dL_law_102 (by decide) ?_
  refine lv_irem hx hb dL_law_103 (by decide) ?_
  refine lv_eqi (z := nI (n % 3)) (pk_rem (by omega) (by omega) (by omega)) ?_
  refine lv_iconst (v := nI 2) hx hb dL_law_104 (by decide) ?_
  refine xb_icmp_ne (tgt := 150) (a := n % 3) (b := 2) (by omega) (by omega) hx hb dL_law_105 (by decide) (fun c_1 => ?_) (fun c_1 => ?_)
  · refine lv_iinc (v := nI (n + 1)) (lv' := [(4, .int (nI (n + 1))), (0, .ref sb), (1, .int (nI kk)), (2, .ref a4), (3, .ref b4), (5, .int v)]) hx hb dL_law_150 hl (k := 4) rfl (nI_add _ 1) (by decide) rfl (fun ls hl => ?_)
    refine lv_goto (tgt := 32) hx hb dL_law_153 (by decide) ?_
    exact knext M now st su _ _ _ _ _ ⟨hG, hO, hU, (show cells ≤ 100 + 9 * (n + 1) by omega), (show slots ≤ 3000 + 28818 * (n + 1) by omega)⟩ hP hD hS (lv_sub hl [1, 2, 3, 4, 0] rfl)
  · refine lv_aload_n hx hb dL_law_108 rfl (lv_at hl 2 rfl) ?_
    refine lv_iload hx hb dL_law_109 (lv_at hl 5 rfl) ?_
    refine lv_iconst (v := nI 5) hx hb dL_law_111 (by decide) ?_
    refine lv_ishr hx hb dL_law_112 ?_
    refine lv_iconst (v := nI 3) hx hb dL_law_113 (by decide) ?_
    refine xcRi (va_runS (As := [.int (v >>> ((nI 5) &&& 31)), .int (nI 3)]) (rest := [.ref a4]) ⟨hx, hb, hml, hown, hts⟩ (c_low l D cy t0 (v >>> ((nI 5) &&& 31)) 3 (by omega) (by omega)) (va_cwS 2 hts gL_law_L_low rfl rfl rfl (by decide +kernel) ⟨Nat.le_of_ble_eq_true rfl, Nat.le_of_ble_eq_true rfl⟩) (xPr.give (wc := []) hE hS hP [] rfl) rfl rfl hl.1 rfl (lv_room (Nat.le_of_ble_eq_true rfl)) dL_law_114 ⟨(show cells + 0 ≤ 600102 by omega), (show slots + 0 ≤ 7301298 by omega)⟩) (fun r_2 hr_3 => ?_)
    obtain rfl : r_2 = nI (lw (v >>> ((nI 5) &&& 31)) 3) := hr_3
    have hr_2 := lw_lt (v >>> ((nI 5) &&& 31)) (n := 3) (by omega)
    refine xcAi (va_runS (As := [.ref a4, .int (nI (lw (v >>> ((nI 5) &&& 31)) 3))]) (rest := []) ⟨hx, hb, hml, hown, hts⟩ ((t_isBasketSo l hlf D cy t0 k (M := M) (now := now) hG.1 (by omega) hk2 hk a4 u (lw (v >>> ((nI 5) &&& 31)) 3) (by omega) st hO) H.size) (va_cwS 2 hts gL_law_L_isBasketSo rfl rfl rfl (by decide +kernel) ⟨Nat.le_of_ble_eq_true rfl, Nat.le_of_ble_eq_true rfl⟩) (gsA hE hS hA hP hD) rfl rfl hl.1 rfl (lv_room (Nat.le_of_ble_eq_true rfl)) dL_law_117 ⟨(show cells + 3 ≤ 600102 by omega), (show slots + 9606 ≤ 7301298 by omega)⟩) hP hD hS hA (fun r9 st H locs hq hP hD hS => ?_)
    obtain ⟨hq1, hO⟩ := hq
    obtain rfl : r9 = nI 1 := hq1
    refine xb_if_eq (tgt := 148) (a := 1) (by omega) hx hb dL_law_120 (by decide) (fun c_4 => ?_) (fun c_4 => ?_)
    · exact absurd c_4 (by omega)
    · refine lv_aload_n hx hb dL_law_123 rfl (lv_at hl 2 rfl) ?_
      refine lv_iload hx hb dL_law_124 (lv_at hl 5 rfl) ?_
      refine lv_bipush (v := nI 7) hx hb dL_law_126 (by decide) ?_
      refine lv_ishr hx hb dL_law_128 ?_
      refine lv_iconst (v := nI 3) hx hb dL_law_129 (by decide) ?_
      refine xcRi (va_runS (As := [.int (v >>> ((nI 7) &&& 31)), .int (nI 3)]) (rest := [.ref a4]) ⟨hx, hb, hml, hown, hts⟩ (c_low l D cy t0 (v >>> ((nI 7) &&& 31)) 3 (by omega) (by omega)) (va_cwS 2 hts gL_law_L_low rfl rfl rfl (by decide +kernel) ⟨Nat.le_of_ble_eq_true rfl, Nat.le_of_ble_eq_true rfl⟩) (xPr.give (wc := []) hE hS hP [] rfl) rfl rfl hl.1 rfl (lv_room (Nat.le_of_ble_eq_true rfl)) dL_law_130 ⟨(show (cells + 3) + 0 ≤ 600102 by omega), (show (slots + 9606) + 0 ≤ 7301298 by omega)⟩) (fun r_5 hr_6 => ?_)
      obtain rfl : r_5 = nI (lw (v >>> ((nI 7) &&& 31)) 3) := hr_6
      have hr_5 := lw_lt (v >>> ((nI 7) &&& 31)) (n := 3) (by omega)
      refine lv_iload hx hb dL_law_133 (lv_at hl 5 rfl) ?_
      refine lv_bipush (v := nI 9) hx hb dL_law_135 (by decide) ?_
      refine lv_ishr hx hb dL_law_137 ?_
      refine lv_iconst (v := nI 3) hx hb dL_law_138 (by decide) ?_
      refine xcRi (va_runS (As := [.int (v >>> ((nI 9) &&& 31)), .int (nI 3)]) (rest := [.int (nI (lw (v >>> ((nI 7) &&& 31)) 3)), .ref a4]) ⟨hx, hb, hml, hown, hts⟩ (c_low l D cy t0 (v >>> ((nI 9) &&& 31)) 3 (by omega) (by omega)) (va_cwS 2 hts gL_law_L_low rfl rfl rfl (by decide +kernel) ⟨Nat.le_of_ble_eq_true rfl, Nat.le_of_ble_eq_true rfl⟩) (xPr.give (wc := []) hE hS hP [] rfl) rfl rfl hl.1 rfl (lv_room (Nat.le_of_ble_eq_true rfl)) dL_law_139 ⟨(show (cells + 3) + 0 ≤ 600102 by omega), (show (slots + 9606) + 0 ≤ 7301298 by omega)⟩) (fun r_7 hr_8 => ?_)
      obtain rfl : r_7 = nI (lw (v >>> ((nI 9) &&& 31)) 3) := hr_8
      have hr_7 := lw_lt (v >>> ((nI 9) &&& 31)) (n := 3) (by omega)
      refine xcAi (va_runS (As := [.ref a4, .int (nI (lw (v >>> ((nI 7) &&& 31)) 3)), .int (nI (lw (v >>> ((nI 9) &&& 31)) 3))]) (rest := []) ⟨hx, hb, hml, hown, hts⟩ ((t_arePairsSo l D cy t0 k (M := M) (now := now) hk2 hk a4 u (lw (v >>> ((nI 7) &&& 31)) 3) (lw (v >>> ((nI 9) &&& 31)) 3) (by omega) (by omega) st hO) H.size) (va_cwS 3 hts gL_law_L_arePairsSo rfl rfl rfl (by decide +kernel) ⟨Nat.le_of_ble_eq_true rfl, Nat.le_of_ble_eq_true rfl⟩) (gsA hE hS hA hP hD) rfl rfl hl.1 rfl (lv_room (Nat.le_of_ble_eq_true rfl)) dL_law_142 ⟨(show (cells + 3) + 0 ≤ 600102 by omega), (show (slots + 9606) + 0 ≤ 7301298 by omega)⟩) hP hD hS hA (fun r9 st H locs hq hP hD hS => ?_)
      obtain ⟨hq1, hO⟩ := hq
      obtain rfl : r9 = nI 1 := hq1
      refine xb_if_ne (tgt := 150) (a := 1) (by omega) hx hb dL_law_145 (by decide) (fun c_9 => ?_) (fun c_9 => ?_)
      · refine lv_iinc (v := nI (n + 1)) (lv' := [(4, .int (nI (n + 1))), (0, .ref sb), (1, .int (nI kk)), (2, .ref a4), (3, .ref b4), (5, .int v)]) hx hb dL_law_150 hl (k := 4) rfl (nI_add _ 1) (by decide) rfl (fun ls hl => ?_)
        refine lv_goto (tgt := 32) hx hb dL_law_153 (by decide) ?_
        exact knext M now st su _ _ _ _ _ ⟨hG, hO, hU, (show ((cells + 3) + 0) ≤ 100 + 9 * (n + 1) by omega), (show ((slots + 9606) + 0) ≤ 3000 + 28818 * (n + 1) by omega)⟩ hP hD hS (lv_sub hl [1, 2, 3, 4, 0] rfl)
      · exact absurd c_9 (by omega)
set_option maxHeartbeats 8000000 in
set_option maxRecDepth 100000 in
theorem lw_mid {p : Program} {l : Launch} {e : Env} {s : State} {m : MethodId} {below : List Frame} {meth : Method} {c : Code} {Q : State → Prop} {D : va_G} {cy : Nat → ClassId} {t0 : Nat} {A : Nat → Prop} {sb L : Nat} {xs : Nat → Int32} {a4 b4 k kk n : Nat} {u w : Nat → Nat} {M : Nat → Nat → Int32} {now : Nat} {st su : ST} {H : Heap} {locs : List Loc} {cells slots : Nat} {ls : Array Slot} {v : Int32} (hC : LC p l s m c D cy t0 A sb L xs) (hK : KK k kk) (hn : n < 40) (hG : AG M now (n + 1)) (hO : OK M st) (hU : OK M su) (hcl : cells ≤ 106 + 9 * n) (hsl : slots ≤ 22212 + 28818 * n) (hP : xP D (OW cy a4 u k now st ++ OW cy b4 w k now su) H) (hD : va_D A (OW cy a4 u k now st ++ OW cy b4 w k now su)) (hS : va_S A s.heap H locs) (hl : lv_has ls 7 [(0, .ref sb), (1, .int (nI kk)), (2, .ref a4), (3, .ref b4), (4, .int (nI n)), (5, .int v)]) (knext : ∀ (M : Nat → Nat → Int32) (now : Nat) (st su : ST) (H : Heap) (locs : List Loc) (ls : Array Slot) (cells slots : Nat), GI M now (n + 1) st su cells slots → xP D (OW cy a4 u k now st ++ OW cy b4 w k now su) H → va_D A (OW cy a4 u k now st ++ OW cy b4 w k now su) → va_S A s.heap H locs → lv_has ls 7 [(0, .ref sb), (1, .int (nI kk)), (2, .ref a4), (3, .ref b4), (4, .int (nI (n + 1)))] → W p l e room_1 s m #[Value.ref sb] below meth c H locs cells slots Q (F0 m 32 ls [])) : W p l e room_1 s m #[Value.ref sb] below meth c H locs cells slots Q (F0 m 73 ls []) := by
  have hC0 := hC
  have hK0 := hK
  obtain ⟨hx, hb, hml, hts, hown, hE, hA, hX, hsb, hbA, hlf, hL⟩ := hC
  obtain ⟨hk2, hk, hkk, hke⟩ := hK
  have hnw := hG.2.1
  refine lv_aload_n hx hb dL_law_73 rfl (lv_at hl 2 rfl) ?_
  refine lv_aload_n hx hb dL_law_74 rfl (lv_at hl 3 rfl) ?_
  refine xc0i (va_runS (As := [.ref a4, .ref b4]) (rest := []) ⟨hx, hb, hml, hown, hts⟩ ((t_areAlike l D cy t0 k (M := M) (now := now) hG.1 (by omega) hk2 hk a4 b4 u w st su hO hU) H.size) (va_cwS 2 hts gL_law_L_areAlike rfl rfl rfl (by decide +kernel) ⟨Nat.le_of_ble_eq_true rfl, Nat.le_of_ble_eq_true rfl⟩) (gs0 hE hS hA hP hD) rfl rfl hl.1 rfl (lv_room (Nat.le_of_ble_eq_true rfl)) dL_law_75 ⟨(show cells + 0 ≤ 600102 by omega), (show slots + 0 ≤ 7301298 by omega)⟩) hP hD hS hA (fun r9 sv H locs hq hP hD hS => ?_)
  obtain ⟨st, su⟩ := sv
  obtain ⟨hq1, hO, hU⟩ := hq
  obtain rfl : r9 = nI 1 := hq1
  have hP : xP D (OW cy a4 u k now st ++ OW cy b4 w k now su) H := hP
  have hD : va_D A (OW cy a4 u k now st ++ OW cy b4 w k now su) := hD
  refine xb_if_eq (tgt := 98) (a := 1) (by omega) hx hb dL_law_78 (by decide) (fun c_1 => ?_) (fun c_1 => ?_)
  · exact absurd c_1 (by omega)
  · refine lv_aload_n hx hb dL_law_81 rfl (lv_at hl 2 rfl) ?_
    refine xcAi (va_runV (As := []) (rest := []) ⟨hx, hb, hml, hown, hts⟩ ((q_most l D cy t0 a4 u k now M st hO) H.size) (cwV 0 hts gL_law_X4_most rfl rfl rfl (by decide +kernel) ⟨Nat.le_of_ble_eq_true rfl, Nat.le_of_ble_eq_true rfl⟩) (gvA hE hS hA hP hD) rfl rfl hl.1 rfl (lv_room (Nat.le_of_ble_eq_true rfl)) dL_law_82 ⟨(show (cells + 0) + 0 ≤ 600102 by omega), (show (slots + 0) + 0 ≤ 7301298 by omega)⟩) hP hD hS hA (fun r9 st H locs hq hP hD hS => ?_)
    obtain ⟨hq1, hO⟩ := hq
    obtain rfl : r9 = nI k := hq1
    refine lv_iload_n hx hb dL_law_85 rfl (lv_at hl 1 rfl) ?_
    refine lv_iconst (v := nI 2) hx hb dL_law_86 (by decide) ?_
    refine xb_icmp_ge (tgt := 94) (a := kk) (b := 2) (by omega) (by omega) hx hb dL_law_87 (by decide) (fun c_2 => ?_) (fun c_2 => ?_)
    · have hke : k = kk := hke.trans (if_neg (by omega))
      refine lv_iload_n hx hb dL_law_94 rfl (lv_at hl 1 rfl) ?_
      refine xb_icmp_eq (tgt := 100) (a := k) (b := kk) (by omega) (by omega) hx hb dL_law_95 (by decide) (fun c_3 => ?_) (fun c_3 => ?_)
      · exact lw_tail hC0 hK0 hn hG hO hU (show ((cells + 0) + 0) ≤ 106 + 9 * n by omega) (show ((slots + 0) + 0) ≤ 22212 + 28818 * n by omega) hP hD hS (lv_sub hl [0, 1, 2, 3, 4, 5] rfl) knext
      · exact absurd hke c_3
    · have hke : k = 2 := hke.trans (if_pos (by omega))
      refine lv_iconst (v := nI 2) hx hb dL_law_90 (by decide) ?_
      refine lv_goto (tgt := 95) hx hb dL_law_91 (by decide) ?_
      refine xb_icmp_eq (tgt := 100) (a := k) (b := 2) (by omega) (by omega) hx hb dL_law_95 (by decide) (fun c_4 => ?_) (fun c_4 => ?_)
      · exact lw_tail hC0 hK0 hn hG hO hU (show ((cells + 0) + 0) ≤ 106 + 9 * n by omega) (show ((slots + 0) + 0) ≤ 22212 + 28818 * n by omega) hP hD hS (lv_sub hl [0, 1, 2, 3, 4, 5] rfl) knext
      · exact absurd hke c_4
set_option maxHeartbeats 8000000 in
set_option maxRecDepth 100000 in
theorem lw_turn {p : Program} {l : Launch} {e : Env} {s : State} {m : MethodId} {below : List Frame} {meth : Method} {c : Code} {Q : State → Prop} {D : va_G} {cy : Nat → ClassId} {t0 : Nat} {A : Nat → Prop} {sb L : Nat} {xs : Nat → Int32} {a4 b4 k kk n : Nat} {u w : Nat → Nat} {M : Nat → Nat → Int32} {now : Nat} {st su : ST} {H : Heap} {locs : List Loc} {cells slots : Nat} {ls : Array Slot} (hC : LC p l s m c D cy t0 A sb L xs) (hK : KK k kk) (hn : n < 40) (hI : GI M now n st su cells slots) (hP : xP D (OW cy a4 u k now st ++ OW cy b4 w k now su) H) (hD : va_D A (OW cy a4 u k now st ++ OW cy b4 w k now su)) (hS : va_S A s.heap H locs) (hl : lv_has ls 7 [(0, .ref sb), (1, .int (nI kk)), (2, .ref a4), (3, .ref b4), (4, .int (nI n))]) (knext : ∀ (M : Nat → Nat → Int32) (now : Nat) (st su : ST) (H : Heap) (locs : List Loc) (ls : Array Slot) (cells slots : Nat), GI M now (n + 1) st su cells slots → xP D (OW cy a4 u k now st ++ OW cy b4 w k now su) H → va_D A (OW cy a4 u k now st ++ OW cy b4 w k now su) → va_S A s.heap H locs → lv_has ls 7 [(0, .ref sb), (1, .int (nI kk)), (2, .ref a4), (3, .ref b4), (4, .int (nI (n + 1)))] → W p l e room_1 s m #[Value.ref sb] below meth c H locs cells slots Q (F0 m 32 ls [])) : W p l e room_1 s m #[Value.ref sb] below meth c H locs cells slots Q (F0 m 39 ls []) := by
  have hC0 := hC
  have hK0 := hK
  obtain ⟨hx, hb, hml, hts, hown, hE, hA, hX, hsb, hbA, hlf, hL⟩ := hC
  obtain ⟨hk2, hk, hkk, hke⟩ := hK
  obtain ⟨hG, hO, hU, hcl, hsl⟩ := hI
  refine lv_aload_n hx hb dL_law_39 rfl (lv_at hl 0 rfl) ?_
  refine lv_iload hx hb dL_law_40 (lv_at hl 4 rfl) ?_
  refine xcRi (va_runS (As := [.ref sb, .int (nI n)]) (rest := []) ⟨hx, hb, hml, hown, hts⟩ (c_Lcell l sb L n xs hL (by omega)) (va_cwS 2 hts gL_law_L_cell rfl rfl rfl (by decide +kernel) ⟨Nat.le_of_ble_eq_true rfl, Nat.le_of_ble_eq_true rfl⟩) (xCell.give hX hsb hbA hS) rfl rfl hl.1 rfl (lv_room (Nat.le_of_ble_eq_true rfl)) dL_law_42 ⟨(show cells + 0 ≤ 600102 by omega), (show slots + 0 ≤ 7301298 by omega)⟩) (fun v _ => ?_)
  obtain ⟨r, M', now', h1, h2, hw⟩ := t_act l hlf D cy t0 k hG hn v
  refine lv_istore (lv' := [(5, .int v), (0, .ref sb), (1, .int (nI kk)), (2, .ref a4), (3, .ref b4), (4, .int (nI n))]) hx hb dL_law_45 hl (by decide) rfl (fun ls hl => ?_)
  refine lv_aload_n hx hb dL_law_47 rfl (lv_at hl 3 rfl) ?_
  refine lv_iload hx hb dL_law_48 (lv_at hl 0 rfl) ?_
  refine xcAi (va_runS (As := [.ref a4, .int v]) (rest := []) ⟨hx, hb, hml, hown, hts⟩ ((hw a4 u st hO) H.size) (va_cwS 2 hts gL_law_L_act rfl rfl rfl (by decide +kernel) ⟨Nat.le_of_ble_eq_true rfl, Nat.le_of_ble_eq_true rfl⟩) (gsA hE hS hA hP hD) rfl rfl hl.1 rfl (lv_room (Nat.le_of_ble_eq_true rfl)) dL_law_50 ⟨(show cells + 3 ≤ 600102 by omega), (show slots + 9606 ≤ 7301298 by omega)⟩) hP hD hS hA (fun r9 st H locs hq hP hD hS => ?_)
  obtain ⟨hq1, hO'⟩ := hq
  obtain rfl : r9 = r := hq1
  refine lv_istore (lv' := [(6, .int r9), (5, .int v), (0, .ref sb), (1, .int (nI kk)), (2, .ref a4), (3, .ref b4), (4, .int (nI n))]) hx hb dL_law_53 hl (by decide) rfl (fun ls hl => ?_)
  refine lv_iload hx hb dL_law_55 (lv_at hl 0 rfl) ?_
  refine lv_ldc (v := (-99999)) hx hb hown (hts (.constant RL 16 (-99999)) (by decide +kernel)) dL_law_57 ?_
  refine lv_icmp_eq (tgt := 73) hx hb dL_law_59 (by decide) (fun c_1 => ?_) (fun c_1 => ?_)
  · obtain ⟨hM, hN⟩ := h1 c_1
    subst hM
    subst hN
    exact lw_mid hC0 hK0 hn (h2 n hG) hO' hU (show (cells + 3) ≤ 106 + 9 * n by omega) (show (slots + 9606) ≤ 22212 + 28818 * n by omega) hP hD hS (lv_sub hl [2, 3, 4, 5, 6, 1] rfl) knext
  · refine lv_aload_n hx hb dL_law_62 rfl (lv_at hl 5 rfl) ?_
    refine lv_iload hx hb dL_law_63 (lv_at hl 1 rfl) ?_
    refine xcBi (va_runS (As := [.ref b4, .int v]) (rest := []) ⟨hx, hb, hml, hown, hts⟩ ((hw b4 w su hU) H.size) (va_cwS 2 hts gL_law_L_act rfl rfl rfl (by decide +kernel) ⟨Nat.le_of_ble_eq_true rfl, Nat.le_of_ble_eq_true rfl⟩) (gsB hE hS hA hP hD) rfl rfl hl.1 rfl (lv_room (Nat.le_of_ble_eq_true rfl)) dL_law_65 ⟨(show (cells + 3) + 3 ≤ 600102 by omega), (show (slots + 9606) + 9606 ≤ 7301298 by omega)⟩) hP hD hS hA (fun r8 su H locs hq hP hD hS => ?_)
    obtain ⟨hq1, hU'⟩ := hq
    obtain rfl : r8 = r9 := hq1
    refine lv_iload hx hb dL_law_68 (lv_at hl 0 rfl) ?_
    refine lv_icmp_ne (tgt := 98) hx hb dL_law_70 (by decide) (fun c_2 => ?_) (fun c_2 => ?_)
    · exact absurd rfl c_2
    · exact lw_mid hC0 hK0 hn (h2 n hG) hO' hU' (show ((cells + 3) + 3) ≤ 106 + 9 * n by omega) (show ((slots + 9606) + 9606) ≤ 22212 + 28818 * n by omega) hP hD hS (lv_sub hl [2, 3, 4, 5, 6, 1] rfl) knext
set_option maxHeartbeats 8000000 in
set_option maxRecDepth 100000 in
theorem lw_loop9 {p : Program} {l : Launch} {e : Env} {s : State} {m : MethodId} {below : List Frame} {meth : Method} {c : Code} {Q : State → Prop} {D : va_G} {cy : Nat → ClassId} {t0 : Nat} {A : Nat → Prop} {sb L : Nat} {xs : Nat → Int32} {a4 b4 k kk : Nat} {u w : Nat → Nat} (hC : LC p l s m c D cy t0 A sb L xs) (hK : KK k kk) (kend : ∀ (H : Heap) (locs : List Loc) (ls : Array Slot) (cells slots : Nat), cells ≤ 600102 → slots ≤ 7301298 → va_S A s.heap H locs → W p l e room_1 s m #[Value.ref sb] below meth c H locs cells slots Q (F0 m 156 ls [])) : ∀ (n9 n : Nat), 41 - n < n9 → n ≤ 40 → ∀ (M : Nat → Nat → Int32) (now : Nat) (st su : ST) (H : Heap) (locs : List Loc) (ls : Array Slot) (cells slots : Nat), GI M now n st su cells slots → xP D (OW cy a4 u k now st ++ OW cy b4 w k now su) H → va_D A (OW cy a4 u k now st ++ OW cy b4 w k now su) → va_S A s.heap H locs → lv_has ls 7 [(0, .ref sb), (1, .int (nI kk)), (2, .ref a4), (3, .ref b4), (4, .int (nI n))] → W p l e room_1 s m #[Value.ref sb] below meth c H locs cells slots Q (F0 m 32 ls []) := by
  intro n9
  induction n9 with
  | zero => intro n hm; exact absurd hm (Nat.not_lt_zero _)
  | succ n9 ih =>
    intro n hm hn M now st su H locs ls cells slots hI hP hD hS hl
    have hx := hC.1
    have hb := hC.2.1
    refine lv_iload hx hb dL_law_32 (lv_at hl 4 rfl) ?_
    refine lv_bipush (v := nI 40) hx hb dL_law_34 (by decide) ?_
    refine xb_icmp_ge (tgt := 156) (a := n) (b := 40) (by omega) (by omega) hx hb dL_law_36 (by decide) (fun c1 => ?_) (fun c1 => ?_)
    · obtain ⟨_, _, _, h4, h5⟩ := hI
      exact kend _ _ _ _ _ (by omega) (by omega) hS
    · exact lw_turn hC hK (by omega) hI hP hD hS hl (fun M now st su H locs ls cells slots hI hP hD hS hl => ih (n + 1) (by omega) (by omega) M now st su H locs ls cells slots hI hP hD hS hl)
def σ0 (u : Nat → Nat) : Nat → BKt := fun j => (u (14 + 3 * j), u (15 + 3 * j), 0, 64, (fun _ => 0), (fun _ => 0))
def st0 (u : Nat → Nat) : ST := (0, 0, 0, nI 0, nI 0, (fun _ => 0), (fun _ => 0), (fun _ => 0), (fun _ => 0), (fun _ => 0), (fun _ => 0), (fun _ => 0), σ0 u)
def M0 : Nat → Nat → Int32 := fun _ _ => -1
theorem OK0 (u : Nat → Nat) : OK M0 (st0 u) := fun j _ => ⟨BRn (Nat.le_of_ble_eq_true rfl), Nat.le_of_ble_eq_true rfl⟩
theorem AG0 : AG M0 0 0 := ⟨fun j x => Or.inl rfl, Nat.zero_le _, fun _ => false, Nat.le_of_eq (cb_zero (fun _ _ => rfl)), fun j x h => by
  rw [show Sm (M0 j) x = false from Sm_f.mpr rfl] at h
  cases h⟩
set_option maxHeartbeats 8000000 in
set_option maxRecDepth 100000 in
theorem lw_start9 {p : Program} {l : Launch} {e : Env} {s : State} {m : MethodId} {below : List Frame} {meth : Method} {c : Code} {Q : State → Prop} {D : va_G} {cy : Nat → ClassId} {t0 : Nat} {A : Nat → Prop} {sb L : Nat} {xs : Nat → Int32} {H : Heap} {locs : List Loc} {ls : Array Slot} (hC : LC p l s m c D cy t0 A sb L xs) (hP : xP D [] H) (hD : va_D A []) (hS : va_S A s.heap H locs) (hl : lv_has ls 7 [(0, .ref sb)]) (knext : ∀ (a4 b4 k kk : Nat) (u w : Nat → Nat) (M : Nat → Nat → Int32) (now : Nat) (st su : ST) (H : Heap) (locs : List Loc) (ls : Array Slot) (cells slots : Nat), KK k kk → GI M now 1 st su cells slots → xP D (OW cy a4 u k now st ++ OW cy b4 w k now su) H → va_D A (OW cy a4 u k now st ++ OW cy b4 w k now su) → va_S A s.heap H locs → lv_has ls 7 [(0, .ref sb), (1, .int (nI kk)), (2, .ref a4), (3, .ref b4), (4, .int (nI 1))] → W p l e room_1 s m #[Value.ref sb] below meth c H locs cells slots Q (F0 m 32 ls [])) : W p l e room_1 s m #[Value.ref sb] below meth c H locs 0 0 Q (F0 m 0 ls []) := by
  obtain ⟨hx, hb, hml, hts, hown, hE, hA, hX, hsb, hbA, hlf, hL⟩ := hC
  refine lv_aload_n hx hb dL_law_0 rfl (lv_at hl 0 rfl) ?_
  refine lv_iconst (v := nI 0) hx hb dL_law_1 (by decide) ?_
  refine xcRi (va_runS (As := [.ref sb, .int (nI 0)]) (rest := []) ⟨hx, hb, hml, hown, hts⟩ (c_Lcell l sb L 0 xs hL (by omega)) (va_cwS 2 hts gL_law_L_cell rfl rfl rfl (by decide +kernel) ⟨Nat.le_of_ble_eq_true rfl, Nat.le_of_ble_eq_true rfl⟩) (xCell.give hX hsb hbA hS) rfl rfl hl.1 rfl (lv_room (Nat.le_of_ble_eq_true rfl)) dL_law_2 ⟨(Nat.le_of_ble_eq_true rfl), (Nat.le_of_ble_eq_true rfl)⟩) (fun v _ => ?_)
  refine lv_bipush (v := nI 20) hx hb dL_law_5 (by decide) ?_
  refine xcRi (va_runS (As := [.int v, .int (nI 20)]) (rest := []) ⟨hx, hb, hml, hown, hts⟩ (c_low l D cy t0 v 20 (by omega) (by omega)) (va_cwS 2 hts gL_law_L_low rfl rfl rfl (by decide +kernel) ⟨Nat.le_of_ble_eq_true rfl, Nat.le_of_ble_eq_true rfl⟩) (xPr.give (wc := []) hE hS hP [] rfl) rfl rfl hl.1 rfl (lv_room (Nat.le_of_ble_eq_true rfl)) dL_law_7 ⟨(show 0 + 0 ≤ 600102 by omega), (show 0 + 0 ≤ 7301298 by omega)⟩) (fun r_1 hr_2 => ?_)
  obtain rfl : r_1 = nI (lw v 20) := hr_2
  have hr_1 := lw_lt v (n := 20) (by omega)
  refine lv_istore_n (lv' := [(1, .int (nI (lw v 20))), (0, .ref sb)]) hx hb dL_law_10 rfl hl (by decide) rfl (fun ls hl => ?_)
  refine va_new (D := D) (ci := 4) (fs := [.null, .null, .null, .null, .null, .null, .null, .null, .int (nI 0), .int (nI 0)]) (C := RX4) (T := TX4) (N := 10) hx hb hts (by decide +kernel) tyX4 tyX4_ok hown (hts (.classLink RL 9 RX4) (by decide +kernel)) (hts (.instantiable RX4 10) (by decide +kernel)) (hts (.initialized RX4) (by decide +kernel)) hE.1 hP hD hS hA rfl (fun j hj => by rcases (show j = 0 ∨ j = 1 ∨ j = 2 ∨ j = 3 ∨ j = 4 ∨ j = 5 ∨ j = 6 ∨ j = 7 ∨ j = 8 ∨ j = 9 by omega) with rfl | rfl | rfl | rfl | rfl | rfl | rfl | rfl | rfl | rfl <;> rfl) (Nat.le_of_ble_eq_true rfl) (Nat.le_of_ble_eq_true rfl) dL_law_11 (fun a4 H hP hD hS => ?_)
  have hP : xP D [(a4, .inr (4, [.null, .null, .null, .null, .null, .null, .null, .null, .int (nI 0), .int (nI 0)]))] H := hP
  have hD : va_D A [(a4, .inr (4, [.null, .null, .null, .null, .null, .null, .null, .null, .int (nI 0), .int (nI 0)]))] := hD
  refine lv_dup hx hb dL_law_14 rfl ?_
  refine lv_iload_n hx hb dL_law_15 rfl (lv_at hl 0 rfl) ?_
  refine xcWv (wr := []) (va_runI (As := [.int (nI (lw v 20))]) (rest := [.ref a4]) ⟨hx, hb, hml, hown, hts⟩ ((i_X4 l D cy t0 a4 (nI (lw v 20))) H.size) (cwI 1 hts gL_law_X4_init rfl rfl rfl (hts (.initialized RX4) (by decide +kernel)) (hts (.methodLink RL 123 yX4_init) (by decide +kernel)) (hts (.instanceMethod yX4_init) (by decide +kernel)) rfl (by decide +kernel) ⟨Nat.le_of_ble_eq_true rfl, Nat.le_of_ble_eq_true rfl⟩) (xPw.give (wc := [(a4, .inr (4, [.null, .null, .null, .null, .null, .null, .null, .null, .int (nI 0), .int (nI 0)]))]) hE hS hA hP hD [0] (by decide) rfl) rfl rfl hl.1 rfl (lv_room (Nat.le_of_ble_eq_true rfl)) dL_law_16 ⟨(Nat.le_of_ble_eq_true rfl), (Nat.le_of_ble_eq_true rfl)⟩) hP hD hS hA [0] [] rfl rfl (by decide) (by decide) (fun u H locs _ hP hD hS => ?_)
  have hP : xP D (OW cy a4 u (kOf (nI (lw v 20))) 0 (st0 u)) H := hP
  have hD : va_D A (OW cy a4 u (kOf (nI (lw v 20))) 0 (st0 u)) := hD
  refine lv_astore_n (lv' := [(2, .ref a4), (1, .int (nI (lw v 20))), (0, .ref sb)]) hx hb dL_law_19 rfl hl (by decide) rfl (fun ls hl => ?_)
  refine va_new (D := D) (ci := 4) (fs := [.null, .null, .null, .null, .null, .null, .null, .null, .int (nI 0), .int (nI 0)]) (C := RX4) (T := TX4) (N := 10) hx hb hts (by decide +kernel) tyX4 tyX4_ok hown (hts (.classLink RL 9 RX4) (by decide +kernel)) (hts (.instantiable RX4 10) (by decide +kernel)) (hts (.initialized RX4) (by decide +kernel)) hE.1 hP hD hS hA rfl (fun j hj => by rcases (show j = 0 ∨ j = 1 ∨ j = 2 ∨ j = 3 ∨ j = 4 ∨ j = 5 ∨ j = 6 ∨ j = 7 ∨ j = 8 ∨ j = 9 by omega) with rfl | rfl | rfl | rfl | rfl | rfl | rfl | rfl | rfl | rfl <;> rfl) (Nat.le_of_ble_eq_true rfl) (Nat.le_of_ble_eq_true rfl) dL_law_20 (fun b4 H hP hD hS => ?_)
  have hP : xP D (OW cy a4 u (kOf (nI (lw v 20))) 0 (st0 u) ++ [(b4, .inr (4, [.null, .null, .null, .null, .null, .null, .null, .null, .int (nI 0), .int (nI 0)]))]) H := hP
  have hD : va_D A (OW cy a4 u (kOf (nI (lw v 20))) 0 (st0 u) ++ [(b4, .inr (4, [.null, .null, .null, .null, .null, .null, .null, .null, .int (nI 0), .int (nI 0)]))]) := hD
  refine lv_dup hx hb dL_law_23 rfl ?_
  refine lv_iload_n hx hb dL_law_24 rfl (lv_at hl 1 rfl) ?_
  refine xcBv (va_runI (As := [.int (nI (lw v 20))]) (rest := [.ref b4]) ⟨hx, hb, hml, hown, hts⟩ ((i_X4 l D cy t0 b4 (nI (lw v 20))) H.size) (cwI 1 hts gL_law_X4_init rfl rfl rfl (hts (.initialized RX4) (by decide +kernel)) (hts (.methodLink RL 123 yX4_init) (by decide +kernel)) (hts (.instanceMethod yX4_init) (by decide +kernel)) rfl (by decide +kernel) ⟨Nat.le_of_ble_eq_true rfl, Nat.le_of_ble_eq_true rfl⟩) (gsB hE hS hA hP hD) rfl rfl hl.1 rfl (lv_room (Nat.le_of_ble_eq_true rfl)) dL_law_25 ⟨(Nat.le_of_ble_eq_true rfl), (Nat.le_of_ble_eq_true rfl)⟩) hP hD hS hA (fun w H locs _ hP hD hS => ?_)
  have hP : xP D (OW cy a4 u (kOf (nI (lw v 20))) 0 (st0 u) ++ OW cy b4 w (kOf (nI (lw v 20))) 0 (st0 w)) H := hP
  have hD : va_D A (OW cy a4 u (kOf (nI (lw v 20))) 0 (st0 u) ++ OW cy b4 w (kOf (nI (lw v 20))) 0 (st0 w)) := hD
  refine lv_astore_n (lv' := [(3, .ref b4), (2, .ref a4), (1, .int (nI (lw v 20))), (0, .ref sb)]) hx hb dL_law_28 rfl hl (by decide) rfl (fun ls hl => ?_)
  refine lv_iconst (v := nI 1) hx hb dL_law_29 (by decide) ?_
  refine lv_istore (lv' := [(4, .int (nI 1)), (3, .ref b4), (2, .ref a4), (1, .int (nI (lw v 20))), (0, .ref sb)]) hx hb dL_law_30 hl (by decide) rfl (fun ls hl => ?_)
  exact knext a4 b4 (kOf (nI (lw v 20))) (lw v 20) u w M0 0 (st0 u) (st0 w) _ _ _ _ _ (KK_of (lw_lt v (by omega))) ⟨AG0.next, OK0 u, OK0 w, (Nat.le_of_ble_eq_true rfl), (Nat.le_of_ble_eq_true rfl)⟩ hP hD hS (lv_sub hl [4, 3, 2, 1, 0] rfl)
end X51
