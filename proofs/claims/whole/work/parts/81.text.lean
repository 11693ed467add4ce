/-! reading the text -/
def chr (w : Nat) (m : xMi) : Nat → Int := fun k => if k < w then m 40 0 k else 0
abbrev fig (c : Int) : Prop := 48 ≤ c ∧ c ≤ 57
def nmA (ch : Nat → Int) (q : Nat) (e : Int) : Option (Int × Nat) := if fig (ch q) then (if fig (ch (q + 1)) then (if ch (q + 2) = e then some (10 * (ch q - 48) + ch (q + 1) - 48, q + 3) else none) else if ch (q + 1) = e then some (ch q - 48, q + 2) else none) else none
theorem nmA_some {ch : Nat → Int} {q : Nat} {e v : Int} {q' : Nat} (h : nmA ch q e = some (v, q')) : 0 ≤ v ∧ v ≤ 99 ∧ q < q' ∧ ch (q' - 1) = e := by
  unfold nmA at h
  by_cases c1 : fig (ch q)
  · rw [if_pos c1] at h
    by_cases c2 : fig (ch (q + 1))
    · rw [if_pos c2] at h
      by_cases c3 : ch (q + 2) = e
      · rw [if_pos c3] at h
        simp only [Option.some.injEq, Prod.mk.injEq] at h
        obtain ⟨rfl, rfl⟩ := h
        exact ⟨by omega, by omega, by omega, c3⟩
      · rw [if_neg c3] at h; cases h
    · rw [if_neg c2] at h
      by_cases c3 : ch (q + 1) = e
      · rw [if_pos c3] at h
        simp only [Option.some.injEq, Prod.mk.injEq] at h
        obtain ⟨rfl, rfl⟩ := h
        exact ⟨by omega, by omega, by omega, c3⟩
      · rw [if_neg c3] at h; cases h
  · rw [if_neg c1] at h; cases h
theorem nmA_le {w : Nat} {m : xMi} {q : Nat} {e v : Int} {q' : Nat} (he : e ≠ 0) (h : nmA (chr w m) q e = some (v, q')) : q' ≤ w := by
  obtain ⟨h1, h2, h3, h4⟩ := nmA_some h
  unfold chr at h4
  split at h4
  · omega
  · exact absurd h4.symm he
theorem n1w : ¬ x_wr 1 = 0 := by decide
theorem xw48 : x_wr 48 = 48 := by decide
theorem xw57 : x_wr 57 = 57 := by decide
theorem xw59 : x_wr 59 = 59 := by decide
theorem xw44 : x_wr 44 = 44 := by decide
theorem xw112 : x_wr 112 = 112 := by decide
theorem xw104 : x_wr 104 = 104 := by decide
theorem chr_in {w : Nat} {s m : xMi} (hT : pT w s m) (k : Nat) : 0 ≤ chr w m k ∧ chr w m k < 65536 := by
  unfold chr
  split
  · rename_i h; rw [← hT.2.2.2.1 k h]; exact hT.2.2.2.2 k
  · omega
theorem l_at {w : Nat} {s m : xMi} (hT : pT w s m) {a : Nat} (ha : a < 1000000) : V_X5_letterAt s a = chr w m a := by
  have hw := hT.1
  unfold V_X5_letterAt chr
  rw [hT.2.1, xw200, x_nat (by omega : w < 2147483648), x_nat (by omega : a < 2147483648)]
  by_cases c : a < w
  · rw [if_neg (by omega), if_neg (by omega), if_pos c]; exact hT.2.2.2.1 a c
  · rw [if_pos (by omega), if_neg c]
theorem l_fig {w : Nat} {s m : xMi} (hT : pT w s m) {a : Nat} (ha : a < 1000000) : V_X5_isFigure s a = if fig (chr w m a) then 1 else 0 := by
  have hc := chr_in hT a
  unfold V_X5_isFigure
  rw [l_at hT ha, xw48, xw57, x_wrs (a := chr w m a) (by omega) (by omega)]
  (repeat' split) <;> omega
theorem pT12 {w : Nat} {s m : xMi} (hT : pT w s m) (e : Nat) (v : Int) : pT w (x_up s 12 0 e v) m := hT.c (fun t k h => x_up_k (by omega)) rfl (fun k => rfl)
/-- one number of the class's -/
theorem rn_cls {w : Nat} {s m : xMi} (hT : pT w s m) {a n k e q : Nat} (hq : q < 100000) (he : e < n) (hn : n ≤ 4) : (nmA (chr w m) q (if e + 1 = n then 59 else 44) = none → RV_X5_readNumbers_5 a n (k + 1) e s q = -4) ∧ (∀ v q', nmA (chr w m) q (if e + 1 = n then 59 else 44) = some (v, q') → RV_X5_readNumbers_5 a n (k + 1) e s q = RV_X5_readNumbers_5 a n k (e + 1) (x_up s 12 0 e v) q' ∧ RS_X5_readNumbers_5 a n (k + 1) e s q = RS_X5_readNumbers_5 a n k (e + 1) (x_up s 12 0 e v) q') := by
  have l0 := l_at hT (a := q) (by omega)
  have l1 := l_at hT (a := q + 1) (by omega)
  have f0 := l_fig hT (a := q) (by omega)
  have f1 := l_fig hT (a := q + 1) (by omega)
  have u1 : ∀ v, V_X5_letterAt (x_up s 12 0 e v) (q + 1) = chr w m (q + 1) := fun v => l_at (pT12 hT e v) (by omega)
  have u2 : ∀ v, V_X5_letterAt (x_up s 12 0 e v) (q + 1 + 1) = chr w m (q + 2) := fun v => l_at (pT12 hT e v) (by omega)
  have i1 := chr_in hT (q + 1)
  have i2 := chr_in hT (q + 2)
  have es : (x_wr (e : Int) = x_wr ((n : Int) - 1)) ↔ e + 1 = n := by rw [x_nat (by omega), x_wrs (a := (n : Int) - 1) (by omega) (by omega)]; omega
  rw [RV_X5_readNumbers_5, RS_X5_readNumbers_5, u1, u2, f0, f1, l0, l1, xw59, xw44, x_wrs (a := chr w m (q + 1)) (by omega) (by omega), x_wrs (a := chr w m (q + 2)) (by omega) (by omega)]
  have ev : (chr w m q - 48) * 10 + chr w m (q + 1) - 48 = 10 * (chr w m q - 48) + chr w m (q + 1) - 48 := by omega
  rw [ev]
  unfold nmA
  by_cases c1 : fig (chr w m q)
  · have d1 : ¬ x_wr (if fig (chr w m q) then 1 else 0) = 0 := fun z => i01.mp z c1
    simp only [if_pos c1, if_neg n1w]
    by_cases c2 : fig (chr w m (q + 1))
    · have d2 : ¬ x_wr (if fig (chr w m (q + 1)) then 1 else 0) = 0 := fun z => i01.mp z c2
      simp only [if_pos c2, if_neg n1w]
      by_cases c3 : e + 1 = n
      · simp only [if_pos (es.mpr c3), if_pos c3]
        by_cases c4 : chr w m (q + 2) = 59
        · simp only [if_pos c4]
          refine ⟨fun z => (by cases z), fun v q' z => ?_⟩
          simp only [Option.some.injEq, Prod.mk.injEq] at z
          obtain ⟨rfl, rfl⟩ := z
          exact ⟨rfl, rfl⟩
        · simp only [if_neg c4]
          exact ⟨fun _ => trivial, fun v q' z => by cases z⟩
      · simp only [if_neg (fun z => c3 (es.mp z)), if_neg c3]
        by_cases c4 : chr w m (q + 2) = 44
        · simp only [if_pos c4]
          refine ⟨fun z => (by cases z), fun v q' z => ?_⟩
          simp only [Option.some.injEq, Prod.mk.injEq] at z
          obtain ⟨rfl, rfl⟩ := z
          exact ⟨rfl, rfl⟩
        · simp only [if_neg c4]
          exact ⟨fun _ => trivial, fun v q' z => by cases z⟩
    · have d2 : x_wr (if fig (chr w m (q + 1)) then 1 else 0) = 0 := i01.mpr c2
      simp only [if_neg c2, if_pos xw0]
      by_cases c3 : e + 1 = n
      · simp only [if_pos (es.mpr c3), if_pos c3]
        by_cases c4 : chr w m (q + 1) = 59
        · simp only [if_pos c4]
          refine ⟨fun z => (by cases z), fun v q' z => ?_⟩
          simp only [Option.some.injEq, Prod.mk.injEq] at z
          obtain ⟨rfl, rfl⟩ := z
          exact ⟨rfl, rfl⟩
        · simp only [if_neg c4]
          exact ⟨fun _ => trivial, fun v q' z => by cases z⟩
      · simp only [if_neg (fun z => c3 (es.mp z)), if_neg c3]
        by_cases c4 : chr w m (q + 1) = 44
        · simp only [if_pos c4]
          refine ⟨fun z => (by cases z), fun v q' z => ?_⟩
          simp only [Option.some.injEq, Prod.mk.injEq] at z
          obtain ⟨rfl, rfl⟩ := z
          exact ⟨rfl, rfl⟩
        · simp only [if_neg c4]
          exact ⟨fun _ => trivial, fun v q' z => by cases z⟩
  · have d1 : x_wr (if fig (chr w m q) then 1 else 0) = 0 := i01.mpr c1
    simp only [if_neg c1, if_pos xw0]
    exact ⟨fun _ => trivial, fun v q' z => by cases z⟩
/-- the reference stands at a place of the text -/
def rdA (w q : Nat) (m : xMi) : Prop := m 24 0 22 = (w : Int) ∧ m 24 0 23 = (q : Int) ∧ w ≤ 200 ∧ q < 2000000
theorem here_at {w q : Nat} {m : xMi} (h : rdA w q m) : V_X7_here m = chr w m q := by
  obtain ⟨h1, h2, h3, h4⟩ := h
  unfold V_X7_here chr
  rw [h1, h2, x_nat (by omega : w < 2147483648), x_nat (by omega : q < 2147483648)]
  by_cases c : q < w
  · rw [if_neg (by omega), if_pos c]; rfl
  · rw [if_pos (by omega), if_neg c]
theorem chr_cong {w : Nat} {m m' : xMi} (h : ∀ k, m' 40 0 k = m 40 0 k) : chr w m' = chr w m := by
  funext k; unfold chr; rw [h]
/-- one number of the reference's -/
theorem rn_ref {w q : Nat} {m : xMi} {lo hi en : Int} (h : rdA w q m) (hq : q < 100000) (hch : ∀ k, 0 ≤ chr w m k ∧ chr w m k < 65536) (hlo : 0 ≤ lo ∧ lo ≤ 100) (hhi : 0 ≤ hi ∧ hi ≤ 100) (hen : en = 44 ∨ en = 59) : (nmA (chr w m) q en = none → V_X7_number m lo hi en = 0) ∧ (∀ v q', nmA (chr w m) q en = some (v, q') → V_X7_number m lo hi en = (if lo ≤ v ∧ v ≤ hi then 1 else 0) ∧ (lo ≤ v ∧ v ≤ hi → S_X7_number m lo hi en 24 0 23 = (q' : Int) ∧ S_X7_number m lo hi en 24 0 27 = v)) := by
  obtain ⟨h1, h2, h3, h4⟩ := id h
  have e0 := here_at h
  have c40 : ∀ (a : xMi) (k : Nat) (v : Int), chr w (x_up a 24 0 k v) = chr w a := fun a k v => chr_cong (fun j => x_up_k (by omega))
  have m1 : rdA w (q + 1) (x_up m 24 0 23 ((m 24 0 23) + 1)) := ⟨by rw [x_up_k (by omega)]; exact h1, by rw [x_up_y rfl, h2]; omega, h3, by omega⟩
  have e1 := here_at m1
  rw [c40] at e1
  have m2 : rdA w (q + 2) (x_up (x_up m 24 0 23 ((m 24 0 23) + 1)) 24 0 23 (((x_up m 24 0 23 ((m 24 0 23) + 1)) 24 0 23) + 1)) := ⟨by rw [x_up_k (by omega)]; exact m1.1, by rw [x_up_y rfl, m1.2.1]; omega, h3, by omega⟩
  have u3 : ∀ v, V_X7_here (x_up (x_up m 24 0 23 ((m 24 0 23) + 1)) 24 0 27 v) = chr w m (q + 1) := fun v => by
    have := here_at (w := w) (q := q + 1) (m := x_up (x_up m 24 0 23 ((m 24 0 23) + 1)) 24 0 27 v) ⟨by rw [x_up_k (by omega)]; exact m1.1, by rw [x_up_k (by omega)]; exact m1.2.1, h3, by omega⟩
    rw [c40, c40] at this; exact this
  have u4 : ∀ v, V_X7_here (x_up (x_up (x_up m 24 0 23 ((m 24 0 23) + 1)) 24 0 23 (((x_up m 24 0 23 ((m 24 0 23) + 1)) 24 0 23) + 1)) 24 0 27 v) = chr w m (q + 2) := fun v => by
    have := here_at (w := w) (q := q + 2) (m := x_up (x_up (x_up m 24 0 23 ((m 24 0 23) + 1)) 24 0 23 (((x_up m 24 0 23 ((m 24 0 23) + 1)) 24 0 23) + 1)) 24 0 27 v) ⟨by rw [x_up_k (by omega)]; exact m2.1, by rw [x_up_k (by omega)]; exact m2.2.1, h3, by omega⟩
    rw [c40, c40, c40] at this; exact this
  have i0 := hch q
  have i1 := hch (q + 1)
  have i2 := hch (q + 2)
  have f0 : V_X7_isFigure m = if fig (chr w m q) then 1 else 0 := by unfold V_X7_isFigure; rw [e0, v_in (x_wrs (by omega) (by omega)) (by omega) (by omega)]
  have f1 : V_X7_isFigure (x_up m 24 0 23 ((m 24 0 23) + 1)) = if fig (chr w m (q + 1)) then 1 else 0 := by unfold V_X7_isFigure; rw [e1, v_in (x_wrs (by omega) (by omega)) (by omega) (by omega)]
  have wen : x_wr en = en := x_wrs (by omega) (by omega)
  unfold V_X7_number S_X7_number T_X7_number_1
  rw [f0, f1, u3, u4, e0, e1, wen, x_wrs (a := chr w m (q + 1)) (by omega) (by omega), x_wrs (a := chr w m (q + 2)) (by omega) (by omega)]
  unfold nmA
  by_cases c1 : fig (chr w m q)
  · have d1 : ¬ x_wr (if fig (chr w m q) then 1 else 0) = 0 := fun z => i01.mp z c1
    simp only [if_pos c1, if_neg n1w]
    by_cases c2 : fig (chr w m (q + 1))
    · have d2 : ¬ x_wr (if fig (chr w m (q + 1)) then 1 else 0) = 0 := fun z => i01.mp z c2
      simp only [if_pos c2, if_neg n1w]
      by_cases c4 : chr w m (q + 2) = en
      · simp only [if_pos c4]
        refine ⟨fun z => (by cases z), fun v q' z => ?_⟩
        simp only [Option.some.injEq, Prod.mk.injEq] at z
        obtain ⟨rfl, rfl⟩ := z
        rw [v_in (x_wrs (by omega) (by omega)) (by omega) (by omega)]
        by_cases c5 : lo ≤ 10 * (chr w m q - 48) + chr w m (q + 1) - 48 ∧ 10 * (chr w m q - 48) + chr w m (q + 1) - 48 ≤ hi
        · have d5 : ¬ x_wr (if lo ≤ 10 * (chr w m q - 48) + chr w m (q + 1) - 48 ∧ 10 * (chr w m q - 48) + chr w m (q + 1) - 48 ≤ hi then 1 else 0) = 0 := fun z => i01.mp z c5
          simp only [if_pos c5, if_neg n1w]
          refine ⟨trivial, fun _ => ⟨?_, ?_⟩⟩
          · rw [x_up_y rfl, x_up_k (by omega), m2.2.1]; omega
          · rw [x_up_k (by omega), x_up_y rfl]
        · have d5 : x_wr (if lo ≤ 10 * (chr w m q - 48) + chr w m (q + 1) - 48 ∧ 10 * (chr w m q - 48) + chr w m (q + 1) - 48 ≤ hi then 1 else 0) = 0 := i01.mpr c5
          simp only [if_neg c5, if_pos xw0]
          exact ⟨trivial, fun z => absurd z c5⟩
      · simp only [if_neg c4]
        exact ⟨fun _ => trivial, fun v q' z => by cases z⟩
    · have d2 : x_wr (if fig (chr w m (q + 1)) then 1 else 0) = 0 := i01.mpr c2
      simp only [if_neg c2, if_pos xw0]
      by_cases c4 : chr w m (q + 1) = en
      · simp only [if_pos c4]
        refine ⟨fun z => (by cases z), fun v q' z => ?_⟩
        simp only [Option.some.injEq, Prod.mk.injEq] at z
        obtain ⟨rfl, rfl⟩ := z
        rw [v_in (x_wrs (by omega) (by omega)) (by omega) (by omega)]
        by_cases c5 : lo ≤ chr w m q - 48 ∧ chr w m q - 48 ≤ hi
        · have d5 : ¬ x_wr (if lo ≤ chr w m q - 48 ∧ chr w m q - 48 ≤ hi then 1 else 0) = 0 := fun z => i01.mp z c5
          simp only [if_pos c5, if_neg n1w]
          refine ⟨trivial, fun _ => ⟨?_, ?_⟩⟩
          · rw [x_up_y rfl, x_up_k (by omega), m1.2.1]; omega
          · rw [x_up_k (by omega), x_up_y rfl]
        · have d5 : x_wr (if lo ≤ chr w m q - 48 ∧ chr w m q - 48 ≤ hi then 1 else 0) = 0 := i01.mpr c5
          simp only [if_neg c5, if_pos xw0]
          exact ⟨trivial, fun z => absurd z c5⟩
      · simp only [if_neg c4]
        exact ⟨fun _ => trivial, fun v q' z => by cases z⟩
  · have d1 : x_wr (if fig (chr w m q) then 1 else 0) = 0 := i01.mpr c1
    simp only [if_neg c1, if_pos xw0]
    exact ⟨fun _ => trivial, fun v q' z => by cases z⟩
