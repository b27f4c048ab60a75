section XMOD
/-- the reference's dates of a basket -/
def mb (G : Nat → Int32) (b : Nat) : Nat → Int32 := fun x => if x < 100000 then G (100000 * b + x) else -1
theorem mb_lt {G : Nat → Int32} {b x : Nat} (h : x < 100000) : mb G b x = G (100000 * b + x) := if_pos h
def GU (G G' : Nat → Int32) (b : Nat) (M' : Nat → Int32) : Prop := (∀ x, x < 100000 → G' (100000 * b + x) = M' x) ∧ ∀ i, (i < 100000 * b ∨ 100000 * b + 100000 ≤ i) → G' i = G i
theorem GU.self {G G' M' : Nat → Int32} {b : Nat} (h : GU G G' b M') (hM : ∀ x, 100000 ≤ x → M' x = -1) : mb G' b = M' := funext fun x => by
  rcases Nat.lt_or_ge x 100000 with q | q
  · rw [mb_lt q]; exact h.1 x q
  · unfold mb; rw [if_neg (by omega), hM x q]
theorem GU.oth {G G' M' : Nat → Int32} {b c : Nat} (h : GU G G' b M') (hbc : c ≠ b) : mb G' c = mb G c := funext fun x => by
  rcases Nat.lt_or_ge x 100000 with q | q
  · rw [mb_lt q, mb_lt q]
    refine h.2 _ ?_
    rcases Nat.lt_or_ge c b with r | r
    · left; omega
    · right; omega
  · unfold mb; rw [if_neg (by omega), if_neg (by omega)]
def ML (lst : Nat → Nat) (nl : Nat) (It Zt : Nat → Int32) : Prop := (∀ j, j < nl → lst j < 100000 ∧ It j = nI (lst j)) ∧ (∀ i j, i < nl → j < nl → lst i = lst j → i = j) ∧ ∀ x, x < 100000 → Zt x = xb (memb lst nl x)
def CV (G : Nat → Int32) (lst : Nat → Nat) (nl : Nat) : Prop := ∀ b, b < 6 → ∀ x, x < 100000 → Sm (mb G b) x = true → memb lst nl x = true
theorem ML.le {lst : Nat → Nat} {nl : Nat} {It Zt : Nat → Int32} (h : ML lst nl It Zt) : nl ≤ 100000 := by
  have h1 := cb_list (f := lst) (P := fun _ => true) (N := 100000) nl (fun j hj => (h.1 j hj).1) h.2.1
  have h2 : ∀ n, cb (fun _ => true) n = n := fun n => by
    induction n with
    | zero => rfl
    | succ n ih => rw [cb_t rfl, ih]
  rw [h2] at h1
  rw [h1]
  exact cb_le
theorem ML.lt {lst : Nat → Nat} {nl x : Nat} {It Zt : Nat → Int32} (h : ML lst nl It Zt) (hx : x < 100000) (hn : memb lst nl x = false) : nl < 100000 := by
  have h1 := cb_list (f := lst) (P := fun _ => true) (N := 100000) nl (fun j hj => (h.1 j hj).1) h.2.1
  have h2 : ∀ n, cb (fun _ => true) n = n := fun n => by
    induction n with
    | zero => rfl
    | succ n ih => rw [cb_t rfl, ih]
  rw [h2] at h1
  have h3 := cb_ins (P := fun y => true && memb lst nl y) (R := fun y => memb lst nl y || decide (y = x)) (a := x) hx (by simp [hn]) (by simp) (fun y hy => by simp [hy])
  have h4 := cb_le (P := fun y => memb lst nl y || decide (y = x)) (n := 100000)
  omega
theorem ML.cnt {lst : Nat → Nat} {nl : Nat} {It Zt : Nat → Int32} (h : ML lst nl It Zt) {P : Nat → Bool} (hP : ∀ x, x < 100000 → P x = true → memb lst nl x = true) : cb (fun j => P (lst j)) nl = cb P 100000 := by
  rw [cb_list (f := lst) (P := P) (N := 100000) nl (fun j hj => (h.1 j hj).1) h.2.1]
  refine cb_congr (fun x hx => ?_)
  cases hp : P x with
  | false => rfl
  | true => rw [hP x hx hp]; rfl
def addL (lst : Nat → Nat) (nl x : Nat) : Nat → Nat := fun j => if j = nl then x else lst j
theorem addL_memb {lst : Nat → Nat} {nl x y : Nat} : memb (addL lst nl x) (nl + 1) y = (decide (x = y) || memb lst nl y) := by
  have h1 : memb (addL lst nl x) nl y = memb lst nl y := memb_congr (fun j hj => by unfold addL; rw [if_neg (by omega)])
  simp only [memb]
  rw [h1]
  unfold addL
  rw [if_pos rfl]
  rfl
theorem ML.add {lst : Nat → Nat} {nl x : Nat} {It Zt : Nat → Int32} (h : ML lst nl It Zt) (hx : x < 100000) (hn : memb lst nl x = false) : ML (addL lst nl x) (nl + 1) (upd It nl (nI x)) (upd Zt x 1) := by
  have hno : ∀ j, j < nl → lst j ≠ x := fun j hj q => by
    have : memb lst nl x = true := memb_iff.mpr ⟨j, hj, q⟩
    rw [hn] at this; cases this
  refine ⟨fun j hj => ?_, fun i j hi hj e => ?_, fun y hy => ?_⟩
  · unfold addL
    by_cases q : j = nl
    · subst q; rw [if_pos rfl, upd_s]; exact ⟨hx, rfl⟩
    · rw [if_neg q, upd_n q]; exact h.1 j (by omega)
  · unfold addL at e
    by_cases q : i = nl <;> by_cases r : j = nl
    · omega
    · rw [if_pos q, if_neg r] at e; exact absurd e.symm (hno j (by omega))
    · rw [if_neg q, if_pos r] at e; exact absurd e (hno i (by omega))
    · rw [if_neg q, if_neg r] at e; exact h.2.1 i j (by omega) (by omega) e
  · rw [addL_memb]
    by_cases q : y = x
    · subst q; rw [upd_s]; simp; rfl
    · rw [upd_n q, h.2.2 y hy]
      have : ¬ x = y := fun r => q r.symm
      simp [this]
/-- one item's date -/
def upM (M : Nat → Int32) (x : Nat) (d : Int32) : Nat → Int32 := fun y => if y = x then mrgI (M x) d else M y
theorem GU_yes {G : Nat → Int32} {b x : Nat} {d : Int32} (hx : x < 100000) (h : G (100000 * b + x) < d) : GU G (upd G (100000 * b + x) d) b (upM (mb G b) x d) := by
  refine ⟨fun y hy => ?_, fun i hi => by rw [upd_n (by omega)]⟩
  unfold upM
  by_cases q : y = x
  · subst q; rw [upd_s, if_pos rfl, mb_lt hy]; unfold mrgI; rw [if_pos h]
  · rw [upd_n (by omega), if_neg q, mb_lt hy]
theorem GU_no {G : Nat → Int32} {b x : Nat} {d : Int32} (hx : x < 100000) (h : d ≤ G (100000 * b + x)) : GU G G b (upM (mb G b) x d) := by
  refine ⟨fun y hy => ?_, fun i _ => rfl⟩
  unfold upM
  by_cases q : y = x
  · subst q
    rw [if_pos rfl, mb_lt hy]
    unfold mrgI
    rw [if_neg (fun r => Int32.lt_irrefl (Int32.lt_of_lt_of_le r h))]
  · rw [if_neg q, mb_lt hy]
theorem CV_up {G G' : Nat → Int32} {lst lst' : Nat → Nat} {nl nl' b x : Nat} {d : Int32} (h : CV G lst nl) (hG : GU G G' b (upM (mb G b) x d)) (h1 : ∀ y, memb lst nl y = true → memb lst' nl' y = true) (h2 : memb lst' nl' x = true) : CV G' lst' nl' := fun c hc y hy hs => by
  by_cases q : c = b
  · subst q
    have e : mb G' c y = upM (mb G c) x d y := by rw [mb_lt hy]; exact hG.1 y hy
    by_cases r : y = x
    · subst r; exact h2
    · have e2 : mb G' c y = mb G c y := by rw [e]; unfold upM; rw [if_neg r]
      exact h1 y (h c hc y hy (by unfold Sm at hs ⊢; rw [← e2]; exact hs))
  · rw [hG.oth q] at hs
    exact h1 y (h c hc y hy hs)
theorem mb_MV {G : Nat → Int32} (h : ∀ i, G i = -1 ∨ 0 ≤ G i) (b : Nat) : MV (mb G b) := fun x => by
  unfold mb
  split
  · exact h _
  · exact Or.inl rfl
theorem vpz (x : Int32) (h : x = 0 ∨ x = 1) : vp_nar .boolean x = x := by rcases h with rfl | rfl <;> rfl
end XMOD
def isBk (x : Int32) : Bool := decide (¬ x < 0 ∧ x < 6)
theorem isBk_neg {x : Int32} (h : x < 0) : isBk x = false := decide_eq_false (fun q => q.1 h)
theorem isBk_ge {j : Nat} (h : 6 ≤ j) (hj : j < 2 ^ 31) : isBk (nI j) = false := decide_eq_false (fun q => absurd ((nI_ltI (b := 6) hj (Nat.le_of_ble_eq_true rfl)).mp q.2) (by omega))
theorem isBk_lt {j : Nat} (h : j < 6) : isBk (nI j) = true := decide_eq_true ⟨nI_pos (by omega), (nI_ltI (b := 6) (by omega) (Nat.le_of_ble_eq_true rfl)).mpr h⟩
