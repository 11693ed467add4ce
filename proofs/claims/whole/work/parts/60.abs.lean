/-! the plain picture of a fund: a 0..7 p: way, comes, eats, told, soft, had, refused, sent of person p; a 8 0..3: day, stock, sent now, refusals. F 0..3 p: kind, miles, news, weight -/
abbrev aS : Type := Nat → Nat → Int
def aEat (k w : Int) : Int := if k = 1 then 2 * w + 2 else if k = 2 then w else 2 * w
def rCome (kd d : Int) (st : Bool) (r : Nat → Int) : Nat → Int := fun j =>
  if kd = 3 ∧ r 6 = 0 then (if j = 6 then 1 else if j = 1 then d + 1 else if j = 0 then (if st = true then 2 else 1) else r j)
  else (if j = 5 then 1 else if j = 2 then aEat kd (r 0) else if j = 0 then 0 else if j = 1 then -4 else r j)
def rIn (kd d b : Int) (st : Bool) (r : Nat → Int) : Nat → Int := if b = 0 ∧ 0 < r 0 ∧ r 1 ≤ d then rCome kd d st r else r
def rTell (nw d : Int) (r : Nat → Int) : Nat → Int := fun j =>
  if j = 2 then (if 0 < r 2 then r 2 - 1 else r 2) else if j = 3 then (if nw ≤ d ∧ r 3 = -4 ∧ r 2 = 0 then d else r 3) else if j = 4 then (if nw ≤ d ∧ r 3 = -4 ∧ r 2 = 0 then r 5 else r 4) else r j
def rOut (ml d : Int) (r : Nat → Int) : Nat → Int := fun j => if j = 7 then 1 else if j = 0 then 1 else if j = 1 then d + ml / 10 + 1 else r j
def rCall (r : Nat → Int) : Nat → Int := fun j => if j = 0 then 0 else if j = 1 then -4 else if j = 7 then 0 else if j = 6 then 0 else r j
/-- what holds of a person's row -/
def aWp (d : Int) (r : Nat → Int) : Prop :=
  0 ≤ r 0 ∧ r 0 ≤ 1 + r 6 ∧ r 0 ≤ 2 - 2 * r 5 ∧ r 0 ≤ 2 * r 7 ∧ r 7 ≤ r 0 + r 5 ∧ r 5 ≤ r 7 ∧ -4 ≤ r 1 ∧ r 1 ≤ d + 5 ∧ 0 ≤ r 2 ∧ r 2 ≤ 6 * r 5 ∧ (r 3 = -4 ∨ 0 ≤ r 3) ∧ r 3 ≤ d ∧ 4 * r 4 ≤ r 3 + 4 ∧ 0 ≤ r 4 ∧ r 4 ≤ 1 ∧ 0 ≤ r 5 ∧ r 5 ≤ 1 ∧ 0 ≤ r 6 ∧ r 6 ≤ 1 ∧ 0 ≤ r 7 ∧ r 7 ≤ 1
theorem aEat_in (k : Int) {w : Int} (h : 0 ≤ w) (h2 : w ≤ 2) : 0 ≤ aEat k w ∧ aEat k w ≤ 6 := by
  unfold aEat
  (repeat' split) <;> omega
theorem rCome_wf {kd d : Int} {st : Bool} {r : Nat → Int} (hd : 0 ≤ d) (h : aWp d r) (hw : 0 < r 0) : aWp d (rCome kd d st r) := by
  obtain ⟨h0, h1, h2, h3, h4, h5, h6, h7, h8, h9, h10, h11, h12, h13, h14, h15, h16, h17, h18, h19, h20⟩ := h
  have he := aEat_in kd h0 (by omega)
  by_cases hc : kd = 3 ∧ r 6 = 0
  · have e : rCome kd d st r = fun j => (if j = 6 then 1 else if j = 1 then d + 1 else if j = 0 then (if st = true then 2 else 1) else r j) := by
      funext j; simp only [rCome, if_pos hc]
    rw [e]
    unfold aWp
    simp
    cases st <;> simp <;> omega
  · have e : rCome kd d st r = fun j => (if j = 5 then 1 else if j = 2 then aEat kd (r 0) else if j = 0 then 0 else if j = 1 then -4 else r j) := by
      funext j; simp only [rCome, if_neg hc]
    rw [e]
    unfold aWp
    simp
    omega
theorem rIn_wf {kd d b : Int} {st : Bool} {r : Nat → Int} (hd : 0 ≤ d) (h : aWp d r) : aWp d (rIn kd d b st r) := by
  unfold rIn
  split
  · rename_i hc; exact rCome_wf hd h hc.2.1
  · exact h
theorem rTell_wf {nw d : Int} {r : Nat → Int} (hd : 0 ≤ d) (h : aWp d r) : aWp (d + 1) (rTell nw d r) := by
  obtain ⟨h0, h1, h2, h3, h4, h5, h6, h7, h8, h9, h10, h11, h12, h13, h14, h15, h16, h17, h18, h19, h20⟩ := h
  unfold aWp rTell
  simp
  by_cases hc : nw ≤ d ∧ r 3 = -4 ∧ r 2 = 0
  · simp only [if_pos hc]
    split <;> omega
  · simp only [if_neg hc]
    split <;> omega
theorem rOut_wf {ml d : Int} {r : Nat → Int} (hd : 0 ≤ d) (hm : 0 ≤ ml ∧ ml ≤ 40) (h : aWp d r) (hs : r 7 = 0) : aWp d (rOut ml d r) := by
  obtain ⟨h0, h1, h2, h3, h4, h5, h6, h7, h8, h9, h10, h11, h12, h13, h14, h15, h16, h17, h18, h19, h20⟩ := h
  unfold aWp rOut
  simp
  omega
theorem rCall_wf {d : Int} {r : Nat → Int} (hd : 0 ≤ d) (h : aWp d r) (hw : r 0 ≠ 0) : aWp d (rCall r) := by
  obtain ⟨h0, h1, h2, h3, h4, h5, h6, h7, h8, h9, h10, h11, h12, h13, h14, h15, h16, h17, h18, h19, h20⟩ := h
  unfold aWp rCall
  simp
  omega
/-! whether one ends soft; by when one is told -/
abbrev rRf (kd : Int) (r : Nat → Int) : Int := if kd = 3 ∧ r 6 = 0 then 1 else 0
def rES (kd nw d : Int) (r : Nat → Int) : Prop := (r 3 ≠ -4 ∧ r 4 = 1) ∨ (r 3 = -4 ∧ (r 5 = 1 ∨ (0 < r 0 ∧ r 1 + rRf kd r ≤ nw ∧ d + rRf kd r ≤ nw)))
def rB (kd nw d : Int) (r : Nat → Int) (k : Int) : Prop := r 3 ≠ -4 ∨ (nw - d + 1 ≤ k ∧ r 2 + 1 ≤ k ∧ (0 < r 0 → r 1 - d + rRf kd r + 7 ≤ k ∧ rRf kd r + 7 ≤ k))
def rN (nw d : Int) (r : Nat → Int) : Prop := r 3 = -4 → r 5 = 0 → d ≤ nw
theorem rN_step {kd nw d b : Int} {st : Bool} {r : Nat → Int} (hd : 0 ≤ d) (h : aWp d r) : rN nw (d + 1) (rTell nw d (rIn kd d b st r)) := by
  obtain ⟨h0, h1, h2, h3, h4, h5, h6, h7, h8, h9, h10, h11, h12, h13, h14, h15, h16, h17, h18, h19, h20⟩ := rIn_wf (kd := kd) (b := b) (st := st) hd h
  unfold rN rTell
  simp
  split <;> omega
theorem rES_step {kd nw d : Int} {st : Bool} {r : Nat → Int} (hd : 0 ≤ d) (h : aWp d r) (hN : rN nw d r) : rES kd nw (d + 1) (rTell nw d (rIn kd d 0 st r)) ↔ rES kd nw d r := by
  unfold rN at hN
  obtain ⟨h0, h1, h2, h3, h4, h5, h6, h7, h8, h9, h10, h11, h12, h13, h14, h15, h16, h17, h18, h19, h20⟩ := h
  have he := aEat_in kd h0 (by omega)
  by_cases hin : 0 < r 0 ∧ r 1 ≤ d
  · have e1 : rIn kd d 0 st r = rCome kd d st r := by unfold rIn; rw [if_pos ⟨rfl, hin⟩]
    rw [e1]
    by_cases hc : kd = 3 ∧ r 6 = 0
    · have e : rCome kd d st r = fun j => (if j = 6 then 1 else if j = 1 then d + 1 else if j = 0 then (if st = true then 2 else 1) else r j) := by
        funext j; simp only [rCome, if_pos hc]
      rw [e]
      unfold rES rTell rRf
      simp only [if_pos hc]
      simp
      cases st <;> simp <;> split <;> omega
    · have e : rCome kd d st r = fun j => (if j = 5 then 1 else if j = 2 then aEat kd (r 0) else if j = 0 then 0 else if j = 1 then -4 else r j) := by
        funext j; simp only [rCome, if_neg hc]
      rw [e]
      unfold rES rTell rRf
      simp only [if_neg hc]
      simp
      split <;> omega
  · have e1 : rIn kd d 0 st r = r := by unfold rIn; rw [if_neg (fun z => hin z.2)]
    rw [e1]
    unfold rES rTell rRf
    simp
    by_cases hc : kd = 3 ∧ r 6 = 0
    · simp only [if_pos hc]
      split <;> omega
    · simp only [if_neg hc]
      split <;> omega
theorem rB_step {kd nw d k : Int} {st : Bool} {r : Nat → Int} (hd : 0 ≤ d) (h : aWp d r) (hk : rB kd nw d r (k + 1)) : rB kd nw (d + 1) (rTell nw d (rIn kd d 0 st r)) k := by
  obtain ⟨h0, h1, h2, h3, h4, h5, h6, h7, h8, h9, h10, h11, h12, h13, h14, h15, h16, h17, h18, h19, h20⟩ := h
  have he := aEat_in kd h0 (by omega)
  by_cases hin : 0 < r 0 ∧ r 1 ≤ d
  · have e1 : rIn kd d 0 st r = rCome kd d st r := by unfold rIn; rw [if_pos ⟨rfl, hin⟩]
    rw [e1]
    by_cases hc : kd = 3 ∧ r 6 = 0
    · have e : rCome kd d st r = fun j => (if j = 6 then 1 else if j = 1 then d + 1 else if j = 0 then (if st = true then 2 else 1) else r j) := by
        funext j; simp only [rCome, if_pos hc]
      rw [e]
      unfold rB rRf at hk
      simp only [if_pos hc] at hk
      unfold rB rTell rRf
      simp
      cases st <;> simp <;> split <;> (try split) <;> omega
    · have e : rCome kd d st r = fun j => (if j = 5 then 1 else if j = 2 then aEat kd (r 0) else if j = 0 then 0 else if j = 1 then -4 else r j) := by
        funext j; simp only [rCome, if_neg hc]
      rw [e]
      unfold rB rRf at hk
      simp only [if_neg hc] at hk
      unfold rB rTell rRf
      simp only [if_neg hc]
      simp
      split <;> (try split) <;> omega
  · have e1 : rIn kd d 0 st r = r := by unfold rIn; rw [if_neg (fun z => hin z.2)]
    rw [e1]
    unfold rB rRf at hk
    unfold rB rTell rRf
    simp
    by_cases hc : kd = 3 ∧ r 6 = 0
    · simp only [if_pos hc] at hk ⊢
      split <;> (try split) <;> omega
    · simp only [if_neg hc] at hk ⊢
      split <;> (try split) <;> omega
theorem rB_0 {kd nw d : Int} {r : Nat → Int} (h : aWp d r) (hk : rB kd nw d r 0) : r 3 ≠ -4 := by
  obtain ⟨h0, h1, h2, h3, h4, h5, h6, h7, h8, h9, h10, h11, h12, h13, h14, h15, h16, h17, h18, h19, h20⟩ := h
  unfold rB at hk
  rcases hk with hk | hk
  · exact hk
  · omega
theorem rB_of {kd nw d k : Int} {r : Nat → Int} (hd : 0 ≤ d) (hn : nw ≤ 40) (hk : 41 ≤ k) (h : aWp d r) : rB kd nw d r k := by
  obtain ⟨h0, h1, h2, h3, h4, h5, h6, h7, h8, h9, h10, h11, h12, h13, h14, h15, h16, h17, h18, h19, h20⟩ := h
  unfold rB rRf
  right
  split <;> omega
theorem rES_told {kd nw d : Int} {r : Nat → Int} (h : r 3 ≠ -4) : rES kd nw d r ↔ r 4 = 1 := by
  unfold rES
  constructor
  · rintro (⟨-, h2⟩ | ⟨h2, -⟩)
    · exact h2
    · exact absurd h2 h
  · exact fun h2 => Or.inl ⟨h, h2⟩
/-! the whole fund -/
def aCome (F a : aS) (p : Nat) : aS := fun j q =>
  if j < 8 then (if q = p then rCome (F 0 p) (a 8 0) (decide (0 < a 8 1)) (fun i => a i p) j else a j q)
  else if F 0 p = 3 ∧ a 6 p = 0 then (if j = 8 ∧ q = 1 then (if 0 < a 8 1 then a 8 1 - 1 else a 8 1) else if j = 8 ∧ q = 3 then a 8 3 + 1 else a j q) else a j q
def aL1 (F : aS) (b : Int) : Nat → Nat → aS → aS
  | 0, _, a => a
  | k + 1, p, a => aL1 F b k (p + 1) (if b = 0 ∧ 0 < a 0 p ∧ a 1 p ≤ a 8 0 then aCome F a p else a)
def aTl (F : aS) (p k : Nat) (a : aS) : aS := fun j q => if j < 8 ∧ p ≤ q ∧ q < p + k then rTell (F 2 q) (a 8 0) (fun i => a i q) j else a j q
def aEnd (a : aS) : aS := fun j q => if j = 8 ∧ q = 0 then a 8 0 + 1 else if j = 8 ∧ q = 2 then 0 else a j q
def aP (F : aS) (b : Int) (K : Nat) (a : aS) : aS := aEnd (aTl F 0 K (aL1 F b K 0 a))
def aOut (F a : aS) (p : Nat) : aS := fun j q => if j < 8 ∧ q = p then rOut (F 1 p) (a 8 0) (fun i => a i p) j else a j q
def aSend (F a : aS) (p : Nat) : aS := fun j q => if j = 8 ∧ q = 1 then a 8 1 - 1 else if j = 8 ∧ q = 2 then 1 else aOut F a p j q
def aCall (a : aS) (p : Nat) : aS := fun j q => if j = 8 ∧ q = 1 then (if a 8 1 + a 0 p < 20 then a 8 1 + a 0 p else 20) else if j < 8 ∧ q = p then rCall (fun i => a i p) j else a j q
def aSt (a : aS) (h : Int) : aS := fun j q => if j = 8 ∧ q = 1 then h else a j q
abbrev aOpen (a : aS) (p : Nat) : Prop := a 7 p = 0 ∧ a 3 p = -4
abbrev aMay (a : aS) (p : Nat) : Prop := a 7 p = 0 ∧ a 3 p = -4 ∧ 0 < a 8 1 ∧ a 8 2 = 0
def aW (K : Nat) (D : Int) (a : aS) : Prop := (0 ≤ a 8 0 ∧ a 8 0 ≤ D) ∧ (0 ≤ a 8 1 ∧ a 8 1 ≤ 20) ∧ (0 ≤ a 8 2 ∧ a 8 2 ≤ 1) ∧ ∀ q, q < K → aWp (a 8 0) (fun i => a i q)
def aF (K : Nat) (F : aS) : Prop := ∀ q, q < K → (0 ≤ F 0 q ∧ F 0 q ≤ 3) ∧ (0 ≤ F 1 q ∧ F 1 q ≤ 40) ∧ (0 ≤ F 2 q ∧ F 2 q ≤ 40) ∧ (1 ≤ F 3 q ∧ F 3 q ≤ 9)
theorem aW.row {K q : Nat} {D : Int} {a : aS} (h : aW K D a) (hq : q < K) : 0 ≤ a 0 q ∧ a 0 q ≤ 1 + a 6 q ∧ a 0 q ≤ 2 - 2 * a 5 q ∧ a 0 q ≤ 2 * a 7 q ∧ a 7 q ≤ a 0 q + a 5 q ∧ a 5 q ≤ a 7 q ∧ -4 ≤ a 1 q ∧ a 1 q ≤ a 8 0 + 5 ∧ 0 ≤ a 2 q ∧ a 2 q ≤ 6 * a 5 q ∧ (a 3 q = -4 ∨ 0 ≤ a 3 q) ∧ a 3 q ≤ a 8 0 ∧ 4 * a 4 q ≤ a 3 q + 4 ∧ 0 ≤ a 4 q ∧ a 4 q ≤ 1 ∧ 0 ≤ a 5 q ∧ a 5 q ≤ 1 ∧ 0 ≤ a 6 q ∧ a 6 q ≤ 1 ∧ 0 ≤ a 7 q ∧ a 7 q ≤ 1 := h.2.2.2 q hq
theorem aWp_cong {d : Int} {r r' : Nat → Int} (h : ∀ j, j < 8 → r' j = r j) (hw : aWp d r) : aWp d r' := by
  unfold aWp at *
  rw [h 0 (by omega), h 1 (by omega), h 2 (by omega), h 3 (by omega), h 4 (by omega), h 5 (by omega), h 6 (by omega), h 7 (by omega)]
  exact hw
theorem rES_cong {kd nw d : Int} {r r' : Nat → Int} (h : ∀ j, j < 8 → r' j = r j) : rES kd nw d r' ↔ rES kd nw d r := by
  unfold rES rRf
  rw [h 0 (by omega), h 1 (by omega), h 3 (by omega), h 4 (by omega), h 5 (by omega), h 6 (by omega)]
theorem rB_cong {kd nw d k : Int} {r r' : Nat → Int} (h : ∀ j, j < 8 → r' j = r j) : rB kd nw d r' k ↔ rB kd nw d r k := by
  unfold rB rRf
  rw [h 0 (by omega), h 1 (by omega), h 2 (by omega), h 3 (by omega), h 6 (by omega)]
theorem aCome_g0 (F a : aS) (p : Nat) : aCome F a p 8 0 = a 8 0 := by
  unfold aCome; simp
theorem aCome_g2 (F a : aS) (p : Nat) : aCome F a p 8 2 = a 8 2 := by
  unfold aCome; simp
theorem aCome_row (F a : aS) (p q : Nat) {j : Nat} (hj : j < 8) : aCome F a p j q = if q = p then rCome (F 0 p) (a 8 0) (decide (0 < a 8 1)) (fun i => a i p) j else a j q := by
  unfold aCome; rw [if_pos hj]
theorem aCome_st {F a : aS} {p : Nat} (h : 0 ≤ a 8 1) : 0 ≤ aCome F a p 8 1 ∧ aCome F a p 8 1 ≤ a 8 1 := by
  unfold aCome; simp
  (repeat' split) <;> omega
theorem aCome_W {F a : aS} {p K : Nat} {D : Int} (h : aW K D a) (hp : p < K) (hw : 0 < a 0 p) : aW K D (aCome F a p) := by
  obtain ⟨h1, h2, h3, h4⟩ := h
  have hs := aCome_st (F := F) (p := p) h2.1
  refine ⟨by rw [aCome_g0]; exact h1, ⟨hs.1, by omega⟩, by rw [aCome_g2]; exact h3, fun q hq => ?_⟩
  rw [aCome_g0]
  by_cases e : q = p
  · subst e
    exact aWp_cong (fun j hj => by rw [aCome_row F a q q hj, if_pos rfl]) (rCome_wf h1.1 (h4 q hq) hw)
  · exact aWp_cong (fun j hj => by rw [aCome_row F a p q hj, if_neg e]) (h4 q hq)
theorem aL1_W {F : aS} {b : Int} {K : Nat} {D : Int} : ∀ (k p : Nat) (a : aS), p + k ≤ K → aW K D a → aW K D (aL1 F b k p a) := by
  intro k
  induction k with
  | zero => intro p a _ h; exact h
  | succ k ih =>
    intro p a hp h
    unfold aL1
    refine ih _ _ (by omega) ?_
    split
    · rename_i hc; exact aCome_W h (by omega) hc.2.1
    · exact h
theorem aL1_g0 {F : aS} {b : Int} : ∀ (k p : Nat) (a : aS), aL1 F b k p a 8 0 = a 8 0 ∧ aL1 F b k p a 8 2 = a 8 2 := by
  intro k
  induction k with
  | zero => intro p a; exact ⟨rfl, rfl⟩
  | succ k ih =>
    intro p a
    unfold aL1
    have h := ih (p + 1) (if b = 0 ∧ 0 < a 0 p ∧ a 1 p ≤ a 8 0 then aCome F a p else a)
    rw [h.1, h.2]
    split
    · exact ⟨aCome_g0 F a p, aCome_g2 F a p⟩
    · exact ⟨rfl, rfl⟩
theorem aL1_st {F : aS} {b : Int} : ∀ (k p : Nat) (a : aS), 0 ≤ a 8 1 → 0 ≤ aL1 F b k p a 8 1 ∧ aL1 F b k p a 8 1 ≤ a 8 1 := by
  intro k
  induction k with
  | zero => intro p a h; exact ⟨h, Int.le_refl _⟩
  | succ k ih =>
    intro p a h
    unfold aL1
    split
    · have h1 := aCome_st (F := F) (p := p) h
      have h2 := ih (p + 1) _ h1.1
      exact ⟨h2.1, Int.le_trans h2.2 h1.2⟩
    · exact ih _ _ h
theorem aL1_out {F : aS} {b : Int} {q j : Nat} (hj : j < 8) : ∀ (k p : Nat) (a : aS), (q < p ∨ p + k ≤ q) → aL1 F b k p a j q = a j q := by
  intro k
  induction k with
  | zero => intro p a _; rfl
  | succ k ih =>
    intro p a h
    unfold aL1
    rw [ih _ _ (by omega)]
    split
    · rw [aCome_row F a p q hj, if_neg (by omega)]
    · rfl
theorem rIn_cong {kd d b : Int} {st : Bool} {r r' : Nat → Int} (h : ∀ j, j < 8 → r' j = r j) : ∀ j, j < 8 → rIn kd d b st r' j = rIn kd d b st r j := by
  intro j hj
  unfold rIn
  rw [h 0 (by omega), h 1 (by omega)]
  split
  · unfold rCome
    rw [h 0 (by omega), h 6 (by omega), h j hj]
  · exact h j hj
theorem rTell_cong {nw d : Int} {r r' : Nat → Int} (h : ∀ j, j < 8 → r' j = r j) : ∀ j, j < 8 → rTell nw d r' j = rTell nw d r j := by
  intro j hj
  unfold rTell
  rw [h 2 (by omega), h 3 (by omega), h 4 (by omega), h 5 (by omega), h j hj]
theorem aL1_row {F : aS} {b : Int} {q : Nat} : ∀ (k p : Nat) (a : aS), p ≤ q → q < p + k → ∃ st : Bool, ∀ j, j < 8 → aL1 F b k p a j q = rIn (F 0 q) (a 8 0) b st (fun i => a i q) j := by
  intro k
  induction k with
  | zero => intro p a h1 h2; omega
  | succ k ih =>
    intro p a h1 h2
    by_cases e : q = p
    · subst e
      refine ⟨decide (0 < a 8 1), fun j hj => ?_⟩
      unfold aL1
      rw [aL1_out hj _ _ _ (Or.inl (by omega))]
      unfold rIn
      split
      · rw [aCome_row F a q q hj, if_pos rfl]
      · rfl
    · obtain ⟨st, h⟩ := ih (p + 1) (if b = 0 ∧ 0 < a 0 p ∧ a 1 p ≤ a 8 0 then aCome F a p else a) (by omega) (by omega)
      refine ⟨st, fun j hj => ?_⟩
      unfold aL1
      rw [h j hj]
      have e0 : (if b = 0 ∧ 0 < a 0 p ∧ a 1 p ≤ a 8 0 then aCome F a p else a) 8 0 = a 8 0 := by
        split
        · exact aCome_g0 F a p
        · rfl
      rw [e0]
      refine rIn_cong (fun i hi => ?_) j hj
      split
      · rw [aCome_row F a p q hi, if_neg e]
      · rfl
theorem aP_g (F : aS) (b : Int) (K : Nat) (a : aS) : aP F b K a 8 0 = a 8 0 + 1 ∧ aP F b K a 8 2 = 0 ∧ aP F b K a 8 1 = aL1 F b K 0 a 8 1 := by
  have h := aL1_g0 (F := F) (b := b) K 0 a
  unfold aP aEnd aTl
  simp
  exact h.1
theorem aP_row {F : aS} {b : Int} {K q : Nat} (hq : q < K) (a : aS) : ∃ st : Bool, ∀ j, j < 8 → aP F b K a j q = rTell (F 2 q) (a 8 0) (rIn (F 0 q) (a 8 0) b st (fun i => a i q)) j := by
  obtain ⟨st, h⟩ := aL1_row (F := F) (b := b) (q := q) K 0 a (Nat.zero_le _) (by omega)
  refine ⟨st, fun j hj => ?_⟩
  have e : aP F b K a j q = aTl F 0 K (aL1 F b K 0 a) j q := by
    unfold aP aEnd
    rw [if_neg (by omega), if_neg (by omega)]
  rw [e]
  unfold aTl
  rw [if_pos ⟨hj, Nat.zero_le _, by omega⟩, (aL1_g0 (F := F) (b := b) K 0 a).1]
  exact rTell_cong (fun i hi => h i hi) j hj
theorem aP_out {F : aS} {b : Int} {K q j : Nat} (hq : K ≤ q) (hj : j < 8) (a : aS) : aP F b K a j q = a j q := by
  have e : aP F b K a j q = aTl F 0 K (aL1 F b K 0 a) j q := by
    unfold aP aEnd
    rw [if_neg (by omega), if_neg (by omega)]
  rw [e]
  unfold aTl
  rw [if_neg (by omega)]
  exact aL1_out hj _ _ _ (Or.inr (by omega))
theorem aP_W {F : aS} {b : Int} {K : Nat} {D : Int} {a : aS} (h : aW K D a) : aW K (D + 1) (aP F b K a) := by
  obtain ⟨h1, h2, h3, h4⟩ := h
  obtain ⟨g0, g2, g1⟩ := aP_g F b K a
  have hs := aL1_st (F := F) (b := b) K 0 a h2.1
  refine ⟨by rw [g0]; omega, by rw [g1]; omega, by rw [g2]; omega, fun q hq => ?_⟩
  rw [g0]
  obtain ⟨st, hr⟩ := aP_row (F := F) (b := b) hq a
  exact aWp_cong hr (rTell_wf h1.1 (rIn_wf h1.1 (h4 q hq)))
theorem aOut_W {F : aS} {K p : Nat} {D : Int} {a : aS} (hF : aF K F) (h : aW K D a) (hp : p < K) (hs : a 7 p = 0) : aW K D (aOut F a p) := by
  obtain ⟨h1, h2, h3, h4⟩ := h
  refine ⟨by unfold aOut; simpa using h1, by unfold aOut; simpa using h2, by unfold aOut; simpa using h3, fun q hq => ?_⟩
  have e0 : aOut F a p 8 0 = a 8 0 := by unfold aOut; simp
  rw [e0]
  by_cases e : q = p
  · subst e
    exact aWp_cong (fun j hj => by unfold aOut; rw [if_pos ⟨hj, rfl⟩]) (rOut_wf h1.1 (hF q hq).2.1 (h4 q hq) hs)
  · exact aWp_cong (fun j hj => by unfold aOut; rw [if_neg (fun z => e z.2)]) (h4 q hq)
theorem aSend_W {F : aS} {K p : Nat} {D : Int} {a : aS} (hF : aF K F) (h : aW K D a) (hp : p < K) (hs : aMay a p) : aW K D (aSend F a p) := by
  have ho := aOut_W hF h hp hs.1
  obtain ⟨h1, h2, h3, h4⟩ := ho
  have e0 : aSend F a p 8 0 = aOut F a p 8 0 := by unfold aSend; simp
  have hh := h.2.1
  refine ⟨by rw [e0]; exact h1, by unfold aSend; simp; omega, by unfold aSend; simp, fun q hq => ?_⟩
  rw [e0]
  exact aWp_cong (fun j hj => by unfold aSend; rw [if_neg (by omega), if_neg (by omega)]) (h4 q hq)
theorem aCall_W {K p : Nat} {D : Int} {a : aS} (h : aW K D a) (hp : p < K) (hw : a 0 p ≠ 0) : aW K D (aCall a p) := by
  obtain ⟨h1, h2, h3, h4⟩ := h
  have e0 : aCall a p 8 0 = a 8 0 := by unfold aCall; simp
  have e2 : aCall a p 8 2 = a 8 2 := by unfold aCall; simp
  have hp0 := (h4 p hp).1
  simp at hp0
  refine ⟨by rw [e0]; exact h1, ?_, by rw [e2]; exact h3, fun q hq => ?_⟩
  · unfold aCall; simp; split <;> omega
  · rw [e0]
    by_cases e : q = p
    · subst e
      exact aWp_cong (fun j hj => by unfold aCall; rw [if_neg (by omega), if_pos ⟨hj, rfl⟩]) (rCall_wf h1.1 (h4 q hq) hw)
    · exact aWp_cong (fun j hj => by unfold aCall; rw [if_neg (by omega), if_neg (fun z => e z.2)]) (h4 q hq)
theorem aSt_W {K : Nat} {D h : Int} {a : aS} (hw : aW K D a) (hh : 0 ≤ h ∧ h ≤ 20) : aW K D (aSt a h) := by
  obtain ⟨h1, h2, h3, h4⟩ := hw
  refine ⟨by unfold aSt; simpa using h1, by unfold aSt; simpa using hh, by unfold aSt; simpa using h3, fun q hq => ?_⟩
  have e0 : aSt a h 8 0 = a 8 0 := by unfold aSt; simp
  rw [e0]
  exact aWp_cong (fun j hj => by unfold aSt; rw [if_neg (by omega)]) (h4 q hq)
theorem aW_mono {K : Nat} {D D' : Int} {a : aS} (h : aW K D a) (hd : D ≤ D') : aW K D' a := ⟨⟨h.1.1, Int.le_trans h.1.2 hd⟩, h.2⟩
/-! days gone through, and who ends soft -/
def aPs (F : aS) (K : Nat) : Nat → aS → aS
  | 0, a => a
  | n + 1, a => aPs F K n (aP F 0 K a)
theorem aPs_W {F : aS} {K : Nat} : ∀ (n : Nat) (D : Int) (a : aS), aW K D a → aW K (D + n) (aPs F K n a) := by
  intro n
  induction n with
  | zero => intro D a h; exact aW_mono h (by omega)
  | succ n ih => intro D a h; exact aW_mono (ih (D + 1) _ (aP_W h)) (by omega)
def aN (F : aS) (K : Nat) (a : aS) : Prop := ∀ q, q < K → rN (F 2 q) (a 8 0) (fun i => a i q)
theorem rN_cong {nw d : Int} {r r' : Nat → Int} (h : ∀ j, j < 8 → r' j = r j) (hn : rN nw d r) : rN nw d r' := by
  unfold rN at *
  rw [h 3 (by omega), h 5 (by omega)]
  exact hn
theorem aN_P {F : aS} {b : Int} {K : Nat} {D : Int} {a : aS} (h : aW K D a) : aN F K (aP F b K a) := by
  intro q hq
  obtain ⟨st, hr⟩ := aP_row (F := F) (b := b) hq a
  rw [(aP_g F b K a).1]
  exact rN_cong hr (rN_step h.1.1 (h.2.2.2 q hq))
theorem aN_same {F : aS} {K : Nat} {a a' : aS} (h : aN F K a) (h0 : a' 8 0 = a 8 0) (h3 : ∀ q, a' 3 q = a 3 q) (h5 : ∀ q, a' 5 q = a 5 q) : aN F K a' := by
  intro q hq
  have h1 := h q hq
  show a' 3 q = -4 → a' 5 q = 0 → a' 8 0 ≤ F 2 q
  rw [h0, h3, h5]
  exact h1
theorem aN_send {F : aS} {K p : Nat} {a : aS} (h : aN F K a) : aN F K (aSend F a p) ∧ aN F K (aOut F a p) := by
  constructor
  · refine aN_same h (by unfold aSend aOut; simp) (fun q => ?_) (fun q => ?_)
    all_goals (unfold aSend aOut rOut; simp; intro e; subst e; rfl)
  · refine aN_same h (by unfold aOut; simp) (fun q => ?_) (fun q => ?_)
    all_goals (unfold aOut rOut; simp; intro e; subst e; rfl)
theorem aN_call {F : aS} {K p : Nat} {a : aS} (h : aN F K a) : aN F K (aCall a p) := by
  refine aN_same h (by unfold aCall; simp) (fun q => ?_) (fun q => ?_)
  all_goals (unfold aCall rCall; simp; intro e; subst e; rfl)
theorem aN_st {F : aS} {K : Nat} {v : Int} {a : aS} (h : aN F K a) : aN F K (aSt a v) := aN_same h (by unfold aSt; simp) (fun q => by unfold aSt; simp) (fun q => by unfold aSt; simp)
abbrev aES (F a : aS) (q : Nat) : Prop := rES (F 0 q) (F 2 q) (a 8 0) (fun i => a i q)
abbrev aB (F a : aS) (q : Nat) (k : Int) : Prop := rB (F 0 q) (F 2 q) (a 8 0) (fun i => a i q) k
theorem aES_P {F : aS} {K q : Nat} {D : Int} {a : aS} (h : aW K D a) (hN : aN F K a) (hq : q < K) : aES F (aP F 0 K a) q ↔ aES F a q := by
  obtain ⟨st, hr⟩ := aP_row (F := F) (b := 0) hq a
  unfold aES
  rw [(aP_g F 0 K a).1, rES_cong hr]
  exact rES_step h.1.1 (h.2.2.2 q hq) (hN q hq)
theorem aB_P {F : aS} {K q : Nat} {D k : Int} {a : aS} (h : aW K D a) (hq : q < K) (hb : aB F a q (k + 1)) : aB F (aP F 0 K a) q k := by
  obtain ⟨st, hr⟩ := aP_row (F := F) (b := 0) hq a
  unfold aB
  rw [(aP_g F 0 K a).1, rB_cong hr]
  exact rB_step h.1.1 (h.2.2.2 q hq) hb
theorem aES_Ps {F : aS} {K q : Nat} (hq : q < K) : ∀ (n : Nat) (D : Int) (a : aS), aW K D a → aN F K a → (aES F (aPs F K n a) q ↔ aES F a q) := by
  intro n
  induction n with
  | zero => intro D a _ _; exact Iff.rfl
  | succ n ih => intro D a h hN; exact (ih (D + 1) _ (aP_W h) (aN_P h)).trans (aES_P h hN hq)
theorem aB_Ps {F : aS} {K q : Nat} (hq : q < K) : ∀ (n : Nat) (D : Int) (a : aS), aW K D a → aB F a q n → aPs F K n a 3 q ≠ -4 := by
  intro n
  induction n with
  | zero => intro D a h hb; exact rB_0 (h.2.2.2 q hq) hb
  | succ n ih => intro D a h hb; exact ih (D + 1) _ (aP_W h) (aB_P h hq hb)
/-- behind enough days one is soft just if it ends so -/
theorem aSoft {F : aS} {K q n : Nat} {D : Int} {a : aS} (hF : aF K F) (h : aW K D a) (hN : aN F K a) (hq : q < K) (hn : 41 ≤ n) : aPs F K n a 4 q = 1 ↔ aES F a q := by
  have h1 := aB_Ps hq n D a h (rB_of h.1.1 (hF q hq).2.2.1.2 (by omega) (h.2.2.2 q hq))
  exact (rES_told (kd := F 0 q) (nw := F 2 q) (d := aPs F K n a 8 0) (r := fun i => aPs F K n a i q) h1).symm.trans (aES_Ps hq n D a h hN)
