section X43
/-- a method of the law that changes an object: its answer, the maps and the clock after it are told by those before it, the same for every object -/
def xAct (l : Launch) (D : va_G) (cy : Nat → ClassId) (t0 : Nat) (k : Nat) (y : MethodName) (wl : List Cond) (rm : Room) (args : List Value) (M : Nat → Nat → Int32) (now : Nat) : Prop := ∃ (r : Int32) (M' : Nat → Nat → Int32) (now' : Nat), (r = -99999 → M' = M ∧ now' = now) ∧ (∀ e, AG M now e → AG M' now' (e + 1)) ∧ ∀ (a4 : Nat) (u : Nat → Nat) (st : ST), OK M st → xWi (S := ST) l y wl rm D cy t0 (.ref a4 :: args) (OW cy a4 u k now st) (fun r' v => r' = r ∧ OK M' v) (fun v => OW cy a4 u k now' v) 3 9606
theorem not9 {n : Nat} (h : n < 2 ^ 31) : nI n ≠ -99999 := fun q => by
  have h1 := nI_pos' h
  rw [q] at h1
  exact absurd h1 (by decide)
theorem xb9 (b : Bool) : xb b ≠ -99999 := by cases b <;> decide
theorem AG.lo {M : Nat → Nat → Int32} {now e : Nat} (h : AG M now e) (he : e < 40) : now < 2 ^ 31 := by
  have := h.2.1
  omega
/-- what a refused call leaves -/
theorem refd {l : Launch} {D : va_G} {cy : Nat → ClassId} {t0 k : Nat} {y : MethodName} {wl : List Cond} {rm : Room} {args : List Value} {M : Nat → Nat → Int32} {now : Nat} (h : ∀ (a4 : Nat) (u : Nat → Nat) (st : ST), OK M st → xWi (S := { v : ST // OK M v }) l y wl rm D cy t0 (.ref a4 :: args) (OW cy a4 u k now st) (fun r _ => r = -99999) (fun v => OW cy a4 u k now v.1) 3 9606) : xAct l D cy t0 k y wl rm args M now := by
  refine ⟨-99999, M, now, fun _ => ⟨rfl, rfl⟩, fun e h => h.next, fun a4 u st hO sz => ?_⟩
  refine MetFree.mono (h a4 u st hO sz) (fun a U hU => hU) (fun _ _ _ _ _ q => q) ?_
  intro a s o t hs hq
  obtain ⟨⟨⟨r, v, eo, hp, hB⟩, hF⟩, L, hL, hfr⟩ := hq
  exact ⟨⟨⟨r, v.1, eo, ⟨hp, v.2⟩, hB⟩, hF⟩, L, hL, hfr⟩
theorem lineOK_t {a b c : Int32} (h : ¬ lineOK a b c = false) : ∃ first step many, a = nI first ∧ b = nI step ∧ c = nI many ∧ 1 ≤ step ∧ step ≤ 999 ∧ 1 ≤ many ∧ many ≤ 60 ∧ first + step * (many - 1) < 100000 := by
  have h : lineOK a b c = true := by simpa using h
  unfold lineOK at h
  simp only [Bool.and_eq_true, decide_eq_true_eq] at h
  obtain ⟨h1, h2, h3, h4, h5, h6⟩ := h
  rcases p_it a with q | ⟨first, q1, rfl⟩
  · rw [q] at h1; cases h1
  rcases p_rg b 999 (by omega) with q | ⟨step, s1, s2, rfl⟩
  · exact absurd q (fun q => q.elim h2 h3)
  rcases p_rg c 60 (by omega) with q | ⟨many, m1, m2, rfl⟩
  · exact absurd q (fun q => q.elim h4 h5)
  refine ⟨first, step, many, rfl, rfl, rfl, s1, s2, m1, m2, ?_⟩
  have e : nI first + nI step * (nI many - 1) = nI (first + step * (many - 1)) := by
    rw [show (1 : Int32) = nI 1 from rfl, pk_sub m1, pk_mul, nI_add]
  rw [e] at h6
  have hb : step * (many - 1) ≤ 999 * 59 := Nat.mul_le_mul s2 (by omega)
  rcases Nat.lt_or_ge (first + step * (many - 1)) 100000 with q | q
  · exact q
  · rw [isIt_ge q (by omega)] at h6; cases h6
set_option maxHeartbeats 4000000 in
theorem t_add (l : Launch) (hlf : l.stackTraces = false) (D : va_G) (cy : Nat → ClassId) (t0 : Nat) (k : Nat) {M : Nat → Nat → Int32} {now e : Nat} (hG : AG M now e) (he : e < 40) (p0 p1 : Int32) : xAct l D cy t0 k yL_add wsL_add ({ frames := 8, cells := 3, slots := 9606, locals := 230 } : Room) [.int p0, .int p1] M now := by
  have hn := hG.lo he
  rcases p_bk p0 with hbi | ⟨b, hb6, rfl⟩
  · exact refd (fun a4 u st hO => w_addT l D cy t0 a4 _ _ _ (OW cy a4 u k now st) OW_hd (Nat.le_of_ble_eq_true rfl) (Nat.le_of_ble_eq_true rfl) (q_addT l hlf D cy t0 a4 u k now M p0 p1 hbi st hO))
  rcases p_it p1 with hbad | ⟨x, hx2, rfl⟩
  · exact refd (fun a4 u st hO => w_addV l D cy t0 a4 _ _ _ (OW cy a4 u k now st) OW_hd (Nat.le_of_ble_eq_true rfl) (Nat.le_of_ble_eq_true rfl) (q_addV l hlf D cy t0 a4 u k now M b hb6 p1 hbad st hO))
  refine ⟨xb (!Sm (M b) x), va_up M b (mrg (M b) (lnM x 1 1 now)), now, fun h => absurd h (xb9 _), fun e h => h.line (by omega) hn, fun a4 u st hO => ?_⟩
  obtain ⟨mc, ms, h1, h2, h3⟩ := q_add l D cy t0 a4 u k now M b hb6 (hG.1 b) hn x hx2 (hG.wline he (by omega) hn) st hO
  exact w_add l D cy t0 a4 _ _ _ (OW cy a4 u k now st) OW_hd (Nat.le_of_ble_eq_true rfl) (Nat.le_of_ble_eq_true rfl) h1 h2 h3
set_option maxHeartbeats 4000000 in
theorem t_addLine (l : Launch) (hlf : l.stackTraces = false) (D : va_G) (cy : Nat → ClassId) (t0 : Nat) (k : Nat) {M : Nat → Nat → Int32} {now e : Nat} (hG : AG M now e) (he : e < 40) (p0 p1 p2 p3 : Int32) : xAct l D cy t0 k yL_addLine wsL_addLine ({ frames := 8, cells := 3, slots := 9606, locals := 230 } : Room) [.int p0, .int p1, .int p2, .int p3] M now := by
  have hn := hG.lo he
  rcases p_bk p0 with hbi | ⟨b, hb6, rfl⟩
  · exact refd (fun a4 u st hO => w_addLineT l D cy t0 a4 _ _ _ _ _ (OW cy a4 u k now st) OW_hd (Nat.le_of_ble_eq_true rfl) (Nat.le_of_ble_eq_true rfl) (q_addLineT l hlf D cy t0 a4 u k now M p0 p1 p2 p3 hbi st hO))
  by_cases hbad : lineOK p1 p2 p3 = false
  · exact refd (fun a4 u st hO => w_addLineV l D cy t0 a4 _ _ _ _ _ (OW cy a4 u k now st) OW_hd (Nat.le_of_ble_eq_true rfl) (Nat.le_of_ble_eq_true rfl) (q_addLineV l hlf D cy t0 a4 u k now M b hb6 p1 p2 p3 hbad st hO))
  obtain ⟨first, step, many, rfl, rfl, rfl, s1, s2, m1, m2, hla⟩ := lineOK_t hbad
  have hw := hG.wline (b := b) (first := first) (step := step) he m2 hn
  refine ⟨nI (nwK (M b) (lnM first step many now)), va_up M b (mrg (M b) (lnM first step many now)), now, fun h => absurd h (not9 (by omega)), fun e h => h.line m2 hn, fun a4 u st hO => ?_⟩
  obtain ⟨mc, ms, h1, h2, h3⟩ := q_addLine l D cy t0 a4 u k now M b hb6 (hG.1 b) hn first step many s1 s2 m1 m2 hla hw st hO
  exact w_addLine l D cy t0 a4 _ _ _ _ _ (OW cy a4 u k now st) OW_hd (Nat.le_of_ble_eq_true rfl) (Nat.le_of_ble_eq_true rfl) h1 h2 h3
set_option maxHeartbeats 4000000 in
theorem t_empty (l : Launch) (hlf : l.stackTraces = false) (D : va_G) (cy : Nat → ClassId) (t0 : Nat) (k : Nat) {M : Nat → Nat → Int32} {now e : Nat} (hG : AG M now e) (he : e < 40) (p0 : Int32) : xAct l D cy t0 k yL_empty wsL_empty ({ frames := 8, cells := 3, slots := 9606, locals := 230 } : Room) [.int p0] M now := by
  have hn := hG.lo he
  rcases p_bk p0 with hbi | ⟨b, hb6, rfl⟩
  · exact refd (fun a4 u st hO => w_emptyT l D cy t0 a4 _ _ (OW cy a4 u k now st) OW_hd (Nat.le_of_ble_eq_true rfl) (Nat.le_of_ble_eq_true rfl) (q_emptyT l hlf D cy t0 a4 u k now M p0 hbi st hO))
  have hc : cb (Sm (M b)) 100000 ≤ 100000 := cb_le
  refine ⟨nI (cb (Sm (M b)) 100000), va_up M b (fun _ => -1), now, fun h => absurd h (not9 (by omega)), fun e h => h.none, fun a4 u st hO => ?_⟩
  exact w_empty l D cy t0 a4 _ _ (OW cy a4 u k now st) OW_hd (Nat.le_of_ble_eq_true rfl) (Nat.le_of_ble_eq_true rfl) (Nat.zero_le _) (Nat.zero_le _) (q_empty l D cy t0 a4 u k now M b hb6 st hO)
set_option maxHeartbeats 4000000 in
theorem t_merge (l : Launch) (hlf : l.stackTraces = false) (D : va_G) (cy : Nat → ClassId) (t0 : Nat) (k : Nat) {M : Nat → Nat → Int32} {now e : Nat} (hG : AG M now e) (he : e < 40) (p0 p1 : Int32) : xAct l D cy t0 k yL_merge wsL_merge ({ frames := 8, cells := 3, slots := 9606, locals := 230 } : Room) [.int p0, .int p1] M now := by
  have hn := hG.lo he
  rcases p_bk p0 with hbi | ⟨b, hb6, rfl⟩
  · exact refd (fun a4 u st hO => w_mergeT l D cy t0 a4 _ _ _ (OW cy a4 u k now st) OW_hd (Nat.le_of_ble_eq_true rfl) (Nat.le_of_ble_eq_true rfl) (q_mergeT l hlf D cy t0 a4 u k now M p0 p1 hbi st hO))
  rcases p_bk p1 with hbi | ⟨b2, hb62, rfl⟩
  · exact refd (fun a4 u st hO => w_mergeT l D cy t0 a4 _ _ _ (OW cy a4 u k now st) OW_hd (Nat.le_of_ble_eq_true rfl) (Nat.le_of_ble_eq_true rfl) (q_mergeU l hlf D cy t0 a4 u k now M b hb6 p1 hbi st hO))
  have hw := hG.wmrg (b := b) (b2 := b2) he
  refine ⟨nI (nwK (M b2) (M b)), va_up M b2 (mrg (M b2) (M b)), now, fun h => absurd h (not9 (by omega)), fun e h => h.mg, fun a4 u st hO => ?_⟩
  obtain ⟨mc, ms, lo, h1, h2, h3, h4⟩ := q_merge l D cy t0 a4 u k now M b b2 hb6 hb62 (hG.1 b) (hG.1 b2) hw st hO
  exact w_merge l D cy t0 a4 _ _ _ (OW cy a4 u k now st) OW_hd (Nat.le_of_ble_eq_true rfl) h3 h1 h2 h4
set_option maxHeartbeats 4000000 in
theorem t_pass (l : Launch) (hlf : l.stackTraces = false) (D : va_G) (cy : Nat → ClassId) (t0 : Nat) (k : Nat) {M : Nat → Nat → Int32} {now e : Nat} (hG : AG M now e) (he : e < 40) (p0 : Int32) : xAct l D cy t0 k yL_pass wsL_pass ({ frames := 8, cells := 3, slots := 9606, locals := 230 } : Room) [.int p0] M now := by
  have hn := hG.lo he
  rcases p_rg p0 1000 (by omega) with hbad | ⟨tk, t1, t2, rfl⟩
  · exact refd (fun a4 u st hO => w_passV l D cy t0 a4 _ _ (OW cy a4 u k now st) OW_hd (Nat.le_of_ble_eq_true rfl) (Nat.le_of_ble_eq_true rfl) (q_passV l hlf D cy t0 a4 u k now M p0 hbad st hO))
  have hnw := hG.2.1
  refine ⟨nI (now + tk), M, now + tk, fun h => absurd h (not9 (by omega)), fun e h => h.tick t2, fun a4 u st hO => ?_⟩
  exact w_pass l D cy t0 a4 _ _ (OW cy a4 u k now st) OW_hd (Nat.le_of_ble_eq_true rfl) (Nat.le_of_ble_eq_true rfl) (Nat.zero_le _) (Nat.zero_le _) (q_pass l D cy t0 a4 u k now M tk t1 t2 st hO)
end X43
