/-! rows of the reference: the next row, and that all rows are soon gone through -/
def n107 : Nat → List Nat → Nat → Nat → List Nat
  | 0, p, _, _ => p
  | k + 1, p, aa, bb => if bb ≤ aa then p else n107 k ((p.set aa (p.getD bb 0)).set bb (p.getD aa 0)) (aa + 1) (bb - 1)
def n47 : Nat → List Nat → Nat → Nat → List Nat
  | 0, p, kx, b => n107 6 ((p.set kx (p.getD b 0)).set b (p.getD kx 0)) (kx + 1) (p.length - 1)
  | k + 1, p, kx, b => if p.getD kx 0 ≤ p.getD b 0 then n107 6 ((p.set kx (p.getD b 0)).set b (p.getD kx 0)) (kx + 1) (p.length - 1) else n47 k p kx (b - 1)
def n7 : Nat → List Nat → Nat → Option (List Nat)
  | 0, _, _ => none
  | k + 1, p, a => if a = 0 then none else if p.getD (a - 1) 0 ≤ p.getD a 0 then some (n47 6 p (a - 1) (p.length - 1)) else n7 k p (a - 1)
def nx (p : List Nat) : Option (List Nat) := n7 p.length p (p.length - 1)
/-- the first R of the row are the list's -/
def Rw (R : Nat) (σ : xMi) (p : List Nat) : Prop := p.length = R ∧ ∀ j, j < R → σ 44 0 j = ((p.getD j 0 : Nat) : Int) ∧ p.getD j 0 < 6
theorem getD_set (p : List Nat) (a v j : Nat) (ha : a < p.length) : (p.set a v).getD j 0 = if j = a then v else p.getD j 0 := by
  by_cases h : j = a
  · subst h; rw [if_pos rfl, List.getD_eq_getElem?_getD, List.getElem?_set_self ha]; rfl
  · rw [if_neg h, List.getD_eq_getElem?_getD, List.getElem?_set_ne (fun z => h z.symm), ← List.getD_eq_getElem?_getD]
theorem Rw_up {R : Nat} {σ : xMi} {p : List Nat} (h : Rw R σ p) {a v : Nat} (ha : a < R) (hv : v < 6) : Rw R (x_up σ 44 0 a (v : Int)) (p.set a v) := by
  refine ⟨by rw [List.length_set]; exact h.1, fun j hj => ?_⟩
  rw [x_up_s, getD_set p a v j (by rw [h.1]; exact ha)]
  split
  · exact ⟨rfl, hv⟩
  · exact h.2 j hj
theorem Rw_swap {R : Nat} {σ : xMi} {p : List Nat} (h : Rw R σ p) {a b : Nat} (ha : a < R) (hb : b < R) : Rw R (x_up (x_up σ 44 0 a (σ 44 0 b)) 44 0 b (σ 44 0 a)) ((p.set a (p.getD b 0)).set b (p.getD a 0)) := by
  rw [(h.2 a ha).1, (h.2 b hb).1]
  exact Rw_up (Rw_up h ha (h.2 b hb).2) hb (h.2 a ha).2
theorem Rw_107 {R : Nat} (hR : R ≤ 6) : ∀ (k : Nat) (σ : xMi) (p : List Nat) (aa bb : Nat), Rw R σ p → 0 < aa ∧ aa + k ≤ 100 → bb < R → Rw R (RS_X7_nextRow_107 R k σ aa (bb : Int)) (n107 k p aa bb) ∧ RV_X7_nextRow_107 R k σ aa (bb : Int) = 1 := by
  intro k
  induction k with
  | zero => intro σ p aa bb h _ _; exact ⟨h, rfl⟩
  | succ k ih =>
    intro σ p aa bb h h0 hb
    rw [RS_X7_nextRow_107, RV_X7_nextRow_107, n107]
    by_cases c : bb ≤ aa
    · rw [if_pos c, if_pos (by rw [x_nat (by omega), x_nat (by omega)]; omega), if_pos (by rw [x_nat (by omega), x_nat (by omega)]; omega)]; exact ⟨h, rfl⟩
    · rw [if_neg c, if_neg (by rw [x_nat (by omega), x_nat (by omega)]; omega), if_neg (by rw [x_nat (by omega), x_nat (by omega)]; omega)]
      rw [Int.toNat_natCast, show ((bb : Nat) : Int) + (-1) = ((bb - 1 : Nat) : Int) by omega]
      exact ih _ _ (aa + 1) (bb - 1) (Rw_swap h (by omega) (by omega)) (by omega) (by omega)
theorem Rw_47 {R : Nat} (hR : R ≤ 6) : ∀ (k : Nat) (σ : xMi) (p : List Nat) (kx b : Nat), Rw R σ p → σ 24 0 31 = (R : Int) → kx + 1 < R → b < R → kx ≤ b → Rw R (RS_X7_nextRow_47 R k σ kx (b : Int)) (n47 k p kx b) ∧ RV_X7_nextRow_47 R k σ kx (b : Int) = 1 := by
  intro k
  have e31 : ∀ (σ : xMi) (a b : Nat) (v w : Int), σ 24 0 31 = (R : Int) → (x_up (x_up σ 44 0 a v) 44 0 b w) 24 0 31 = (R : Int) := by
    intro σ a b v w h
    rw [x_up_o (by omega), x_up_o (by omega), h]
  induction k with
  | zero =>
    intro σ p kx b h hr h1 h2 h3
    rw [RS_X7_nextRow_47, RV_X7_nextRow_47, n47, Int.toNat_natCast, e31 _ _ _ _ _ hr, show (R : Int) - 1 = ((p.length - 1 : Nat) : Int) by rw [h.1]; omega]
    exact Rw_107 hR 6 _ _ (kx + 1) _ (Rw_swap h (by omega) h2) (by omega) (by rw [h.1]; omega)
  | succ k ih =>
    intro σ p kx b h hr h1 h2 h3
    rw [RS_X7_nextRow_47, RV_X7_nextRow_47, n47, Int.toNat_natCast, e31 _ _ _ _ _ hr, (h.2 kx (by omega)).1, (h.2 b h2).1]
    have a1 := (h.2 kx (by omega)).2
    have a2 := (h.2 b h2).2
    by_cases c : p.getD kx 0 ≤ p.getD b 0
    · rw [if_pos c, if_pos (by rw [x_nat (by omega), x_nat (by omega)]; omega), if_pos (by rw [x_nat (by omega), x_nat (by omega)]; omega), show (R : Int) - 1 = ((p.length - 1 : Nat) : Int) by rw [h.1]; omega]
      rw [← (h.2 kx (by omega)).1, ← (h.2 b h2).1]
      exact Rw_107 hR 6 _ _ (kx + 1) _ (Rw_swap h (by omega) h2) (by omega) (by rw [h.1]; omega)
    · rw [if_neg c, if_neg (by rw [x_nat (by omega), x_nat (by omega)]; omega), if_neg (by rw [x_nat (by omega), x_nat (by omega)]; omega)]
      have hb0 : b ≠ kx := by
        intro z; rw [z] at c; exact c (Nat.le_refl _)
      rw [show ((b : Nat) : Int) + (-1) = ((b - 1 : Nat) : Int) by omega]
      exact ih σ p kx (b - 1) h hr h1 (by omega) (by omega)
theorem Rw_7 {R : Nat} (hR : R ≤ 6) : ∀ (k : Nat) (σ : xMi) (p : List Nat) (a : Nat), Rw R σ p → σ 24 0 31 = (R : Int) → a < R → (match n7 k p a with | none => Rw R (RS_X7_nextRow_7 R k σ ((a : Int) - 1)) p ∧ RV_X7_nextRow_7 R k σ ((a : Int) - 1) = 0 | some q => Rw R (RS_X7_nextRow_7 R k σ ((a : Int) - 1)) q ∧ RV_X7_nextRow_7 R k σ ((a : Int) - 1) = 1) := by
  intro k
  induction k with
  | zero => intro σ p a h hr ha; exact ⟨h, rfl⟩
  | succ k ih =>
    intro σ p a h hr ha
    rw [RS_X7_nextRow_7, RV_X7_nextRow_7, n7]
    by_cases c : a = 0
    · subst c
      rw [if_pos rfl, if_pos (by rw [x_wr_of (by omega) (by omega)]; omega), if_pos (by rw [x_wr_of (by omega) (by omega)]; omega)]
      exact ⟨h, rfl⟩
    · have e1 : ¬ x_wr ((a : Int) - 1) < 0 := by rw [x_wr_of (by omega) (by omega)]; omega
      rw [if_neg c, if_neg e1, if_neg e1]
      rw [show ((a : Int) - 1).toNat = a - 1 by omega, show a - 1 + 1 = a by omega, (h.2 (a - 1) (by omega)).1, (h.2 a ha).1]
      have a1 := (h.2 (a - 1) (by omega)).2
      have a2 := (h.2 a ha).2
      by_cases d : p.getD (a - 1) 0 ≤ p.getD a 0
      · have e2 : x_wr ((p.getD (a - 1) 0 : Nat) : Int) ≤ x_wr ((p.getD a 0 : Nat) : Int) := by rw [x_nat (by omega), x_nat (by omega)]; omega
        rw [if_pos d, if_pos e2, if_pos e2, hr, show (R : Int) - 1 = ((p.length - 1 : Nat) : Int) by rw [h.1]; omega]
        exact Rw_47 hR 6 σ p (a - 1) (p.length - 1) h hr (by omega) (by rw [h.1]; omega) (by rw [h.1]; omega)
      · have e2 : ¬ x_wr ((p.getD (a - 1) 0 : Nat) : Int) ≤ x_wr ((p.getD a 0 : Nat) : Int) := by rw [x_nat (by omega), x_nat (by omega)]; omega
        rw [if_neg d, if_neg e2, if_neg e2]
        rw [show ((a - 1 : Nat) : Int) + (-1) = ((a - 1 : Nat) : Int) - 1 by omega]
        exact ih σ p (a - 1) h hr (by omega)
/-- the next row, or none -/
theorem Rw_nextRow {R : Nat} (hR : R ≤ 6) {σ : xMi} {p : List Nat} (h : Rw R σ p) (hr : σ 24 0 31 = (R : Int)) : (match nx p with | none => Rw R (S_X7_nextRow σ R) p ∧ V_X7_nextRow σ R = 0 | some q => Rw R (S_X7_nextRow σ R) q ∧ V_X7_nextRow σ R = 1) := by
  unfold nx S_X7_nextRow V_X7_nextRow
  rw [h.1, hr]
  by_cases h0 : R = 0
  · subst h0; exact ⟨h, rfl⟩
  · rw [show (R : Int) - 2 = ((R - 1 : Nat) : Int) - 1 by omega]
    exact Rw_7 hR R σ p (R - 1) h hr (by omega)
/-- all orders of a list, the earlier first -/
def px : Nat → List Nat → List (List Nat)
  | 0, _ => [[]]
  | f + 1, s => s.flatMap (fun x => (px f (s.erase x)).map (x :: ·))
def chk : List (List Nat) → Bool
  | [] => true
  | [p] => nx p == none
  | p :: q :: r => nx p == some q && chk (q :: r)
/-- the lists that rise, of numbers below 6 -/
def rise : Nat → List (List Nat)
  | 0 => [[]]
  | f + 1 => (rise f).flatMap (fun s => [s, s ++ [f]])
theorem chk_all : ((rise 6).all (fun s => chk (px s.length s) && (px s.length s).head? == some s && Nat.ble (px s.length s).length 720)) = true := by decide +kernel
