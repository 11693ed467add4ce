theorem sM.rf (m : xMi) : sM m m := fun _ _ _ => rfl
theorem sM.tr {m m' m2 : xMi} (h : sM m m') (h2 : sM m' m2) : sM m m2 := fun _ _ z => (h2 _ _ z).trans (h _ _ z)
theorem sM_passes (m : xMi) (b : Int) (K : Nat) : sM m (S_X7_passes m b K) := fun _ _ h => fr_S_X7_passes m b K h
theorem sM_goesOn (m : xMi) (n K : Nat) : sM m (S_X7_goesOn m n K) := fun _ _ h => fr_S_X7_goesOn m n K h
theorem sM_goesOut (m : xMi) (p : Nat) : sM m (S_X7_goesOut m p) := fun _ _ h => fr_S_X7_goesOut m p h
theorem sM_sends (m : xMi) (p : Nat) : sM m (S_X7_sends m p) := fun _ _ h => fr_S_X7_sends m p h
theorem sM_calls (m : xMi) (p : Nat) : sM m (S_X7_calls m p) := fun _ _ h => fr_S_X7_calls m p h
theorem sM_putBack (m : xMi) : sM m (S_X7_putBack m) := fun _ _ h => fr_S_X7_putBack m h
theorem sM_st (m : xMi) (h : Int) : sM m (x_up m 24 0 6 h) := fun t k z => x_up_k (by omega)
theorem rA_goesOn4 {n K : Nat} (hK : K ≤ 6) : ∀ (k e : Nat) (m : xMi) (c D : Int), D + k ≤ 100000 → aF K (rF m) → aW K D (rA m) →
    rA (RS_X7_goesOn_4 n K k e m c) = aPs (rF m) K k (rA m) ∧ RV_X7_goesOn_4 n K k e m c = c + (tcr (aPs (rF m) K k (rA m)) K 0 - tcr (rA m) K 0) := by
  intro k
  induction k with
  | zero => intro e m c D _ _ _; exact ⟨rfl, by unfold RV_X7_goesOn_4 aPs; omega⟩
  | succ k ih =>
    intro e m c D hD hF hW
    obtain ⟨p1, p2⟩ := rA_passes (m := m) (b := 0) hK xw0 (D := D) (by omega) hF hW
    have hs := sM_passes m 0 K
    obtain ⟨q1, q2⟩ := ih (e + 1) (S_X7_passes m 0 K) (c + V_X7_passes m 0 K) (D + 1) (by omega) (by rw [hs.F]; exact hF) (by rw [p1]; exact aP_W hW)
    rw [hs.F, p1] at q1 q2
    refine ⟨q1, q2.trans ?_⟩
    rw [p2]
    have e : aPs (rF m) K (k + 1) (rA m) = aPs (rF m) K k (aP (rF m) 0 K (rA m)) := rfl
    rw [e]
    omega
theorem rA_goesOn {m : xMi} {n K : Nat} {D : Int} (hK : K ≤ 6) (hD : D + n ≤ 100000) (hF : aF K (rF m)) (hW : aW K D (rA m)) :
    rA (S_X7_goesOn m n K) = aPs (rF m) K n (rA m) ∧ V_X7_goesOn m n K = tcr (aPs (rF m) K n (rA m)) K 0 - tcr (rA m) K 0 := by
  obtain ⟨h1, h2⟩ := rA_goesOn4 (n := n) hK n 0 m 0 D hD hF hW
  exact ⟨h1, h2.trans (by omega)⟩
theorem x_div10 : ∀ k : Nat, k < 41 → x_div (k : Int) 10 = ((k / 10 : Nat) : Int) := by decide +kernel
theorem x_div10' {a : Int} (h : 0 ≤ a ∧ a ≤ 40) : x_div a 10 = a / 10 := by
  obtain ⟨k, rfl⟩ : ∃ k : Nat, a = k := ⟨a.toNat, by omega⟩
  rw [x_div10 k (by omega)]
  rfl
theorem rA_goesOut {m : xMi} {p : Nat} (hp : p < 6) (hm : 0 ≤ m 26 0 p ∧ m 26 0 p ≤ 40) : rA (S_X7_goesOut m p) = aOut (rF m) (rA m) p := by
  have hZ := aOut_Z (F := rF m) hp (rA_Z m)
  have hd := x_div10' hm
  unfold S_X7_goesOut
  have e : (x_up (x_up m 36 0 p 1) 29 0 p 1) 26 0 p = m 26 0 p := by simp [x_up]
  rw [e, hd]
  refine rA_ext ?_ ?_ ?_ ?_ ?_ ?_ ?_ ?_ ?_ ?_ ?_ ?_ hZ.1 hZ.2.1 hZ.2.2
  all_goals first
    | (intro q hq6; by_cases hq : q = p
       · subst hq; simp [hq6, x_up, aOut, rOut, rA, rF]
       · simp [hq6, x_up, aOut, rOut, rA, rF, hq])
    | simp [x_up, aOut, rA]
theorem aSend_Z {F a : aS} {p : Nat} (hp : p < 6) (h : aZ a) : aZ (aSend F a p) := by
  have h1 := aOut_Z (F := F) hp h
  refine ⟨fun q hq => ?_, fun j q hj => ?_, fun j q hj hq => ?_⟩
  · unfold aSend; rw [if_neg (by omega), if_neg (by omega), h1.1 q hq]
  · unfold aSend; rw [if_neg (by omega), if_neg (by omega), h1.2.1 j q hj]
  · unfold aSend; rw [if_neg (by omega), if_neg (by omega), h1.2.2 j q hj hq]
theorem aCall_Z {a : aS} {p : Nat} (hp : p < 6) (h : aZ a) : aZ (aCall a p) := by
  refine ⟨fun q hq => ?_, fun j q hj => ?_, fun j q hj hq => ?_⟩
  · unfold aCall; rw [if_neg (by omega), if_neg (by omega), h.1 q hq]
  · unfold aCall; rw [if_neg (by omega), if_neg (by omega), h.2.1 j q hj]
  · unfold aCall; rw [if_neg (by omega), if_neg (by omega), h.2.2 j q hj hq]
theorem aSt_Z {a : aS} {v : Int} (h : aZ a) : aZ (aSt a v) := by
  refine ⟨fun q hq => ?_, fun j q hj => ?_, fun j q hj hq => ?_⟩
  · unfold aSt; rw [if_neg (by omega), h.1 q hq]
  · unfold aSt; rw [if_neg (by omega), h.2.1 j q hj]
  · unfold aSt; rw [if_neg (by omega), h.2.2 j q hj hq]
theorem rA_sends {m : xMi} {p : Nat} (hp : p < 6) (hm : 0 ≤ m 26 0 p ∧ m 26 0 p ≤ 40) : rA (S_X7_sends m p) = aSend (rF m) (rA m) p := by
  have hZ := aSend_Z (F := rF m) hp (rA_Z m)
  have ho := rA_goesOut hp hm
  have g : ∀ j q, j < 8 → q < 6 → S_X7_goesOut m p (29 + j) 0 q = aOut (rF m) (rA m) p j q := fun j q hj hq => by rw [← ho, rA_at _ hj hq]
  have g1 : S_X7_goesOut m p 24 0 6 = m 24 0 6 := by unfold S_X7_goesOut; simp [x_up]
  have g0 : S_X7_goesOut m p 24 0 5 = m 24 0 5 := by unfold S_X7_goesOut; simp [x_up]
  have g3 : S_X7_goesOut m p 24 0 8 = m 24 0 8 := by unfold S_X7_goesOut; simp [x_up]
  have s1 : ∀ j q, j < 8 → aSend (rF m) (rA m) p j q = aOut (rF m) (rA m) p j q := fun j q hj => by unfold aSend; rw [if_neg (by omega), if_neg (by omega)]
  unfold S_X7_sends
  rw [g1]
  refine rA_ext (fun q hq => ?_) (fun q hq => ?_) (fun q hq => ?_) (fun q hq => ?_) (fun q hq => ?_) (fun q hq => ?_) (fun q hq => ?_) (fun q hq => ?_) ?_ ?_ ?_ ?_ hZ.1 hZ.2.1 hZ.2.2
  · rw [s1 0 q (by omega), ← g 0 q (by omega) hq]; simp [x_up]
  · rw [s1 1 q (by omega), ← g 1 q (by omega) hq]; simp [x_up]
  · rw [s1 2 q (by omega), ← g 2 q (by omega) hq]; simp [x_up]
  · rw [s1 3 q (by omega), ← g 3 q (by omega) hq]; simp [x_up]
  · rw [s1 4 q (by omega), ← g 4 q (by omega) hq]; simp [x_up]
  · rw [s1 5 q (by omega), ← g 5 q (by omega) hq]; simp [x_up]
  · rw [s1 6 q (by omega), ← g 6 q (by omega) hq]; simp [x_up]
  · rw [s1 7 q (by omega), ← g 7 q (by omega) hq]; simp [x_up]
  · simp [x_up, aSend, aOut, g0, rA]
  · simp [x_up, aSend, aOut, rA]
  · simp [x_up, aSend, aOut, rA]
  · simp [x_up, aSend, aOut, g3, rA]
theorem rA_calls {m : xMi} {p : Nat} (hp : p < 6) (hs : 0 ≤ m 24 0 6 ∧ m 24 0 6 ≤ 20) (hw : 0 ≤ m 29 0 p ∧ m 29 0 p ≤ 2) : rA (S_X7_calls m p) = aCall (rA m) p := by
  have hZ := aCall_Z (p := p) hp (rA_Z m)
  have el : V_X7_lesser m 20 (m 24 0 6 + m 29 0 p) = if m 24 0 6 + m 29 0 p < 20 then m 24 0 6 + m 29 0 p else 20 := by
    unfold V_X7_lesser
    rw [xw20, x_wrs (a := m 24 0 6 + m 29 0 p) (by omega) (by omega)]
    (repeat' split) <;> omega
  unfold S_X7_calls
  rw [el]
  refine rA_ext ?_ ?_ ?_ ?_ ?_ ?_ ?_ ?_ ?_ ?_ ?_ ?_ hZ.1 hZ.2.1 hZ.2.2
  all_goals first
    | (intro q hq6; by_cases hq : q = p
       · subst hq; simp [hq6, x_up, aCall, rCall, rA, rF]
       · simp [hq6, x_up, aCall, rCall, rA, rF, hq])
    | simp [hp, x_up, aCall, rA]
theorem rA_st (m : xMi) (h : Int) : rA (x_up m 24 0 6 h) = aSt (rA m) h := by
  have hZ := aSt_Z (v := h) (rA_Z m)
  refine rA_ext ?_ ?_ ?_ ?_ ?_ ?_ ?_ ?_ ?_ ?_ ?_ ?_ hZ.1 hZ.2.1 hZ.2.2
  all_goals first
    | (intro q hq6; simp [hq6, x_up, aSt, rA])
    | simp [x_up, aSt, rA]
theorem rA_isOpen {m : xMi} {K p : Nat} {D : Int} (hK : K ≤ 6) (hD : D ≤ 100000) (hW : aW K D (rA m)) (hp : p < K) : V_X7_isOpen m p = if aOpen (rA m) p then 1 else 0 := by
  have hr := rA_row hK hW hp
  have hg := rA_g hW
  have i7 : rA m 7 p = m 36 0 p := rA_at m (by omega) (by omega)
  have i3 : rA m 3 p = m 32 0 p := rA_at m (by omega) (by omega)
  unfold V_X7_isOpen aOpen
  rw [x_wrs (a := m 36 0 p) (by omega) (by omega), x_wrs (a := m 32 0 p) (by omega) (by omega), xwm4, i7, i3]
  by_cases h1 : m 36 0 p = 0
  · by_cases h2 : m 32 0 p = -4
    · simp only [if_pos h1, if_pos h2, if_pos (And.intro h1 h2)]
    · rw [if_pos h1, if_neg h2, if_neg (fun z => h2 z.2)]
  · rw [if_neg h1, if_neg (fun z => h1 z.1)]
theorem rA_maySend {m : xMi} {K p : Nat} {D : Int} (hK : K ≤ 6) (hD : D ≤ 100000) (hW : aW K D (rA m)) (hp : p < K) : V_X7_maySend m p = if aMay (rA m) p then 1 else 0 := by
  have ho := rA_isOpen hK hD hW hp
  have hg := rA_g hW
  have i8 : rA m 8 1 = m 24 0 6 := rfl
  have i9 : rA m 8 2 = m 24 0 7 := rfl
  unfold V_X7_maySend aMay
  rw [ho, x_wrs (a := m 24 0 6) (by omega) (by omega), x_wrs (a := m 24 0 7) (by omega) (by omega), i8, i9]
  by_cases h1 : aOpen (rA m) p
  · rw [if_pos h1, if_neg (by decide : ¬ x_wr 1 = 0)]
    by_cases h2 : m 24 0 6 ≤ 0
    · rw [if_pos h2, if_neg (fun z => by omega)]
    · by_cases h3 : m 24 0 7 = 0
      · rw [if_neg h2, if_pos h3, if_pos ⟨h1.1, h1.2, by omega, h3⟩]
      · rw [if_neg h2, if_neg h3, if_neg (fun z => h3 z.2.2.2)]
  · rw [if_neg h1, if_pos (by decide : x_wr 0 = 0), if_neg (fun z => h1 ⟨z.1, z.2.1⟩)]
/-! what is laid aside -/
def sA (t : Nat) (m : xMi) (at1 : Nat) : aS := fun j q => if j < 8 ∧ q < 6 then m t 0 (at1 + 3 + 6 * j + q) else if j = 8 ∧ q < 4 then m t 0 (at1 + (if q = 3 then 51 else q)) else 0
theorem sA_Z (t : Nat) (m : xMi) (at1 : Nat) : aZ (sA t m at1) := by
  refine ⟨fun q hq => ?_, fun j q hj => ?_, fun j q hj hq => ?_⟩
  all_goals (unfold sA; rw [if_neg (by omega), if_neg (by omega)])
theorem sA_cong {t at1 : Nat} {m m' : xMi} (h : ∀ k, at1 ≤ k → k < at1 + 52 → m' t 0 k = m t 0 k) : sA t m' at1 = sA t m at1 := by
  funext j q
  unfold sA
  split
  · exact h _ (by omega) (by omega)
  · split
    · refine h _ (by omega) ?_
      split <;> omega
    · rfl
theorem sA_ext {t at1 : Nat} {m : xMi} {a : aS} (h : ∀ j q, j < 8 → q < 6 → m t 0 (at1 + 3 + 6 * j + q) = a j q) (g0 : m t 0 at1 = a 8 0) (g1 : m t 0 (at1 + 1) = a 8 1) (g2 : m t 0 (at1 + 2) = a 8 2) (g3 : m t 0 (at1 + 51) = a 8 3) (hZ : aZ a) : sA t m at1 = a := by
  funext j q
  unfold sA
  by_cases c : j < 8 ∧ q < 6
  · rw [if_pos c]; exact h j q c.1 c.2
  · rw [if_neg c]
    by_cases c2 : j = 8 ∧ q < 4
    · rw [if_pos c2]
      obtain ⟨rfl, c3⟩ := c2
      revert c3
      revert q
      refine q_cases ?_ ?_ ?_ ?_ ?_
      · intro _ _; exact g0
      · intro _ _; exact g1
      · intro _ _; exact g2
      · intro _ _; exact g3
      · intro q hq _ h4; omega
    · rw [if_neg c2]
      by_cases c3 : j < 8
      · exact (hZ.2.2 j q c3 (by omega)).symm
      · by_cases c4 : j = 8
        · subst c4; exact (hZ.1 q (by omega)).symm
        · exact (hZ.2.1 j q (by omega)).symm
