/-! the reference's memory as such a picture -/
def rA (m : xMi) : aS := fun j q => if j < 8 ∧ q < 6 then m (29 + j) 0 q else if j = 8 ∧ q < 4 then m 24 0 (5 + q) else 0
def rF (m : xMi) : aS := fun j q => if j < 4 then m (25 + j) 0 q else 0
theorem xw0 : x_wr 0 = 0 := by decide
theorem xw1 : x_wr 1 = 1 := by decide
theorem xw2 : x_wr 2 = 2 := by decide
theorem xw3 : x_wr 3 = 3 := by decide
theorem xw4 : x_wr 4 = 4 := by decide
theorem xwm4 : x_wr (-4) = -4 := by decide
theorem xwm1 : x_wr (-1) = -1 := by decide
theorem xw6 : x_wr 6 = 6 := by decide
theorem xw7 : x_wr 7 = 7 := by decide
theorem xw8 : x_wr 8 = 8 := by decide
theorem xw9 : x_wr 9 = 9 := by decide
theorem xw10 : x_wr 10 = 10 := by decide
theorem xw11 : x_wr 11 = 11 := by decide
theorem xw20 : x_wr 20 = 20 := by decide
theorem xw40 : x_wr 40 = 40 := by decide
theorem xw60 : x_wr 60 = 60 := by decide
theorem xw200 : x_wr 200 = 200 := by decide
theorem xw999 : x_wr 999 = 999 := by decide
theorem xw9999 : x_wr 9999 = 9999 := by decide
theorem x_wrs {a : Int} (h1 : -1000000 ≤ a) (h2 : a ≤ 1000000) : x_wr a = a := x_wr_of (by omega) (by omega)
theorem j_cases {P : Nat → Prop} (h0 : P 0) (h1 : P 1) (h2 : P 2) (h3 : P 3) (h4 : P 4) (h5 : P 5) (h6 : P 6) (h7 : P 7) (h8 : P 8) (h9 : ∀ j, 9 ≤ j → P j) : ∀ j, P j
  | 0 => h0
  | 1 => h1
  | 2 => h2
  | 3 => h3
  | 4 => h4
  | 5 => h5
  | 6 => h6
  | 7 => h7
  | 8 => h8
  | j + 9 => h9 _ (by omega)
theorem q_cases {P : Nat → Prop} (h0 : P 0) (h1 : P 1) (h2 : P 2) (h3 : P 3) (h4 : ∀ j, 4 ≤ j → P j) : ∀ j, P j
  | 0 => h0
  | 1 => h1
  | 2 => h2
  | 3 => h3
  | j + 4 => h4 _ (by omega)
theorem rA_at (m : xMi) {j q : Nat} (h : j < 8) (hq : q < 6) : rA m j q = m (29 + j) 0 q := if_pos ⟨h, hq⟩
theorem rA_row {K q : Nat} {D : Int} {m : xMi} (hK : K ≤ 6) (h : aW K D (rA m)) (hq : q < K) : 0 ≤ m 29 0 q ∧ m 29 0 q ≤ 1 + m 35 0 q ∧ m 29 0 q ≤ 2 - 2 * m 34 0 q ∧ m 29 0 q ≤ 2 * m 36 0 q ∧ m 36 0 q ≤ m 29 0 q + m 34 0 q ∧ m 34 0 q ≤ m 36 0 q ∧ -4 ≤ m 30 0 q ∧ m 30 0 q ≤ m 24 0 5 + 5 ∧ 0 ≤ m 31 0 q ∧ m 31 0 q ≤ 6 * m 34 0 q ∧ (m 32 0 q = -4 ∨ 0 ≤ m 32 0 q) ∧ m 32 0 q ≤ m 24 0 5 ∧ 4 * m 33 0 q ≤ m 32 0 q + 4 ∧ 0 ≤ m 33 0 q ∧ m 33 0 q ≤ 1 ∧ 0 ≤ m 34 0 q ∧ m 34 0 q ≤ 1 ∧ 0 ≤ m 35 0 q ∧ m 35 0 q ≤ 1 ∧ 0 ≤ m 36 0 q ∧ m 36 0 q ≤ 1 := by
  have h1 := h.row hq
  have hq6 : q < 6 := by omega
  have e0 : rA m 0 q = m 29 0 q := rA_at m (by omega) hq6
  have e1 : rA m 1 q = m 30 0 q := rA_at m (by omega) hq6
  have e2 : rA m 2 q = m 31 0 q := rA_at m (by omega) hq6
  have e3 : rA m 3 q = m 32 0 q := rA_at m (by omega) hq6
  have e4 : rA m 4 q = m 33 0 q := rA_at m (by omega) hq6
  have e5 : rA m 5 q = m 34 0 q := rA_at m (by omega) hq6
  have e6 : rA m 6 q = m 35 0 q := rA_at m (by omega) hq6
  have e7 : rA m 7 q = m 36 0 q := rA_at m (by omega) hq6
  have e8 : rA m 8 0 = m 24 0 5 := rfl
  rw [e0, e1, e2, e3, e4, e5, e6, e7, e8] at h1
  exact h1
theorem rA_g {K : Nat} {D : Int} {m : xMi} (h : aW K D (rA m)) : (0 ≤ m 24 0 5 ∧ m 24 0 5 ≤ D) ∧ (0 ≤ m 24 0 6 ∧ m 24 0 6 ≤ 20) ∧ (0 ≤ m 24 0 7 ∧ m 24 0 7 ≤ 1) := ⟨h.1, h.2.1, h.2.2.1⟩
theorem rF_row {K q : Nat} {m : xMi} (h : aF K (rF m)) (hq : q < K) : (0 ≤ m 25 0 q ∧ m 25 0 q ≤ 3) ∧ (0 ≤ m 26 0 q ∧ m 26 0 q ≤ 40) ∧ (0 ≤ m 27 0 q ∧ m 27 0 q ≤ 40) ∧ (1 ≤ m 28 0 q ∧ m 28 0 q ≤ 9) := h q hq
/-- two pictures of memories are one, field by field -/
theorem rA_ext {m : xMi} {a : aS} (h0 : ∀ q, q < 6 → m 29 0 q = a 0 q) (h1 : ∀ q, q < 6 → m 30 0 q = a 1 q) (h2 : ∀ q, q < 6 → m 31 0 q = a 2 q) (h3 : ∀ q, q < 6 → m 32 0 q = a 3 q) (h4 : ∀ q, q < 6 → m 33 0 q = a 4 q) (h5 : ∀ q, q < 6 → m 34 0 q = a 5 q) (h6 : ∀ q, q < 6 → m 35 0 q = a 6 q) (h7 : ∀ q, q < 6 → m 36 0 q = a 7 q)
    (g0 : m 24 0 5 = a 8 0) (g1 : m 24 0 6 = a 8 1) (g2 : m 24 0 7 = a 8 2) (g3 : m 24 0 8 = a 8 3) (z8 : ∀ q, 4 ≤ q → a 8 q = 0) (z9 : ∀ j q, 9 ≤ j → a j q = 0) (z6 : ∀ j q, j < 8 → 6 ≤ q → a j q = 0) : rA m = a := by
  have z : ∀ j, j < 8 → (∀ q, q < 6 → m (29 + j) 0 q = a j q) → ∀ q, rA m j q = a j q := by
    intro j hj h q
    by_cases hq : q < 6
    · rw [rA_at m hj hq, h q hq]
    · rw [z6 j q hj (by omega)]
      unfold rA
      rw [if_neg (by omega), if_neg (by omega)]
  funext j
  revert j
  refine j_cases ?_ ?_ ?_ ?_ ?_ ?_ ?_ ?_ ?_ ?_
  · funext q; exact z 0 (by omega) h0 q
  · funext q; exact z 1 (by omega) h1 q
  · funext q; exact z 2 (by omega) h2 q
  · funext q; exact z 3 (by omega) h3 q
  · funext q; exact z 4 (by omega) h4 q
  · funext q; exact z 5 (by omega) h5 q
  · funext q; exact z 6 (by omega) h6 q
  · funext q; exact z 7 (by omega) h7 q
  · funext q
    revert q
    refine q_cases g0 g1 g2 g3 (fun q hq => ?_)
    rw [z8 q hq]
    unfold rA
    rw [if_neg (by omega), if_neg (by omega)]
  · intro j hj
    funext q
    rw [z9 j q hj]
    unfold rA
    rw [if_neg (by omega), if_neg (by omega)]
/-- nothing stands beyond the picture -/
def aZ (a : aS) : Prop := (∀ q, 4 ≤ q → a 8 q = 0) ∧ (∀ j q, 9 ≤ j → a j q = 0) ∧ ∀ j q, j < 8 → 6 ≤ q → a j q = 0
theorem rA_Z (m : xMi) : aZ (rA m) := by
  refine ⟨fun q hq => ?_, fun j q hj => ?_, fun j q hj hq => ?_⟩
  all_goals (unfold rA; rw [if_neg (by omega), if_neg (by omega)])
theorem aCome_Z {F a : aS} {p : Nat} (hp : p < 6) (h : aZ a) : aZ (aCome F a p) := by
  refine ⟨fun q hq => ?_, fun j q hj => ?_, fun j q hj hq => ?_⟩
  · unfold aCome
    rw [if_neg (by omega), h.1 q hq]
    split
    · rw [if_neg (by omega), if_neg (by omega)]
    · rfl
  · unfold aCome
    rw [if_neg (by omega), h.2.1 j q hj]
    split
    · rw [if_neg (by omega), if_neg (by omega)]
    · rfl
  · unfold aCome
    rw [if_pos hj, if_neg (by omega), h.2.2 j q hj hq]
theorem aTl_Z {F a : aS} {p k : Nat} (hp : p + k ≤ 6) (h : aZ a) : aZ (aTl F p k a) := by
  refine ⟨fun q hq => ?_, fun j q hj => ?_, fun j q hj hq => ?_⟩
  · unfold aTl
    rw [if_neg (by omega), h.1 q hq]
  · unfold aTl
    rw [if_neg (by omega), h.2.1 j q hj]
  · unfold aTl
    rw [if_neg (by omega), h.2.2 j q hj hq]
theorem aEnd_Z {a : aS} (h : aZ a) : aZ (aEnd a) := by
  refine ⟨fun q hq => ?_, fun j q hj => ?_, fun j q hj hq => ?_⟩
  · unfold aEnd
    rw [if_neg (by omega), if_neg (by omega), h.1 q hq]
  · unfold aEnd
    rw [if_neg (by omega), if_neg (by omega), h.2.1 j q hj]
  · unfold aEnd
    rw [if_neg (by omega), if_neg (by omega), h.2.2 j q hj hq]
theorem aOut_Z {F a : aS} {p : Nat} (hp : p < 6) (h : aZ a) : aZ (aOut F a p) := by
  refine ⟨fun q hq => ?_, fun j q hj => ?_, fun j q hj hq => ?_⟩
  · unfold aOut
    rw [if_neg (by omega), h.1 q hq]
  · unfold aOut
    rw [if_neg (by omega), h.2.1 j q hj]
  · unfold aOut
    rw [if_neg (by omega), h.2.2 j q hj hq]
theorem rA_comesIn {m : xMi} {p : Nat} (hp : p < 6) (hk : x_wr (m 25 0 p) = m 25 0 p) (hr : x_wr (m 35 0 p) = m 35 0 p) (hs : x_wr (m 24 0 6) = m 24 0 6) : rA (S_X7_comesIn m p) = aCome (rF m) (rA m) p := by
  have hZ := aCome_Z (F := rF m) hp (rA_Z m)
  by_cases h1 : m 25 0 p = 3
  · by_cases h2 : m 35 0 p = 0
    · by_cases h3 : m 24 0 6 ≤ 0
      · have e : S_X7_comesIn m p = T_X7_comesIn_1 m p := by
          unfold S_X7_comesIn
          rw [if_pos (by rw [hk, xw3]; exact h1), if_pos (by rw [hr]; exact h2), if_pos (by simp [x_up]; rw [hs]; exact h3)]
        have h3' : ¬ 0 < m 24 0 6 := by omega
        rw [e]
        refine rA_ext ?_ ?_ ?_ ?_ ?_ ?_ ?_ ?_ ?_ ?_ ?_ ?_ hZ.1 hZ.2.1 hZ.2.2
        all_goals first
          | (intro q hq6; by_cases hq : q = p <;> simp [hp, hq6, T_X7_comesIn_1, x_up, aCome, rCome, rA, rF, h1, h2, h3', hq])
          | simp [hp, T_X7_comesIn_1, x_up, aCome, rCome, rA, rF, h1, h2, h3']
      · have e : S_X7_comesIn m p = T_X7_comesIn_2 m p := by
          unfold S_X7_comesIn
          rw [if_pos (by rw [hk, xw3]; exact h1), if_pos (by rw [hr]; exact h2), if_neg (by simp [x_up]; rw [hs]; omega)]
        have h3' : 0 < m 24 0 6 := by omega
        rw [e]
        refine rA_ext ?_ ?_ ?_ ?_ ?_ ?_ ?_ ?_ ?_ ?_ ?_ ?_ hZ.1 hZ.2.1 hZ.2.2
        all_goals first
          | (intro q hq6; by_cases hq : q = p <;> simp [hp, hq6, T_X7_comesIn_2, x_up, aCome, rCome, rA, rF, h1, h2, h3', hq])
          | simp [hp, T_X7_comesIn_2, x_up, aCome, rCome, rA, rF, h1, h2, h3']
    · have e : S_X7_comesIn m p = (x_up (x_up (x_up (x_up m 34 0 p 1) 31 0 p (V_X7_eatsBy (x_up m 34 0 p 1) ((x_up m 34 0 p 1) 25 0 p) ((x_up m 34 0 p 1) 29 0 p))) 29 0 p 0) 30 0 p (-4)) := by
        unfold S_X7_comesIn
        rw [if_pos (by rw [hk, xw3]; exact h1), if_neg (by rw [hr]; exact h2)]
      rw [e]
      refine rA_ext ?_ ?_ ?_ ?_ ?_ ?_ ?_ ?_ ?_ ?_ ?_ ?_ hZ.1 hZ.2.1 hZ.2.2
      all_goals first
        | (intro q hq6; by_cases hq : q = p <;> simp [hp, hq6, x_up, aCome, rCome, rA, rF, h1, h2, hq, V_X7_eatsBy, aEat, xw1, xw2, xw3])
        | simp [hp, x_up, aCome, rCome, rA, rF, h1, h2]
  · have e : S_X7_comesIn m p = (x_up (x_up (x_up (x_up m 34 0 p 1) 31 0 p (V_X7_eatsBy (x_up m 34 0 p 1) ((x_up m 34 0 p 1) 25 0 p) ((x_up m 34 0 p 1) 29 0 p))) 29 0 p 0) 30 0 p (-4)) := by
      unfold S_X7_comesIn
      rw [if_neg (by rw [hk, xw3]; exact h1)]
    rw [e]
    refine rA_ext ?_ ?_ ?_ ?_ ?_ ?_ ?_ ?_ ?_ ?_ ?_ ?_ hZ.1 hZ.2.1 hZ.2.2
    all_goals first
      | (intro q hq6; by_cases hq : q = p <;> simp [hp, hq6, x_up, aCome, rCome, rA, rF, h1, hq, V_X7_eatsBy, aEat, xw1, xw2, hk])
      | simp [hp, x_up, aCome, rCome, rA, rF, h1]
/-- what stays as it is, whatever a day does -/
def sM (m m' : xMi) : Prop := ∀ t k : Nat, ¬ ((t = 24 ∧ 5 ≤ k ∧ k ≤ 8) ∨ (29 ≤ t ∧ t ≤ 36)) → m' t 0 k = m t 0 k
theorem sM.F {m m' : xMi} (h : sM m m') : rF m' = rF m := by
  funext j q
  unfold rF
  split
  · exact h _ _ (by omega)
  · rfl
theorem rF_at (m : xMi) {j : Nat} (h : j < 4) (q : Nat) : rF m j q = m (25 + j) 0 q := if_pos h
theorem rA_L1 {b : Int} {K : Nat} {D : Int} (hK : K ≤ 6) (hb : x_wr b = b) (hD : D ≤ 100000) : ∀ (k p : Nat) (m : xMi) (c : Int), p + k ≤ K → aF K (rF m) → aW K D (rA m) → ∃ m', RS_X7_passes_4 b K k p m c = RS_X7_passes_51 b K K 0 m' c ∧ RV_X7_passes_4 b K k p m c = RV_X7_passes_51 b K K 0 m' c ∧ rA m' = aL1 (rF m) b k p (rA m) ∧ sM m m' := by
  intro k
  induction k with
  | zero => intro p m c _ _ _; exact ⟨m, rfl, rfl, rfl, fun _ _ _ => rfl⟩
  | succ k ih =>
    intro p m c hp hF hW
    have hw := rA_row hK hW (q := p) (by omega)
    have hf := rF_row hF (q := p) (by omega)
    have hg := rA_g hW
    obtain ⟨h0, h1, h2, h3, h4, h5, h6, h7, h8, h9, h10, h11, h12, h13, h14, h15, h16, h17, h18, h19, h20⟩ := hw
    have e0 : x_wr (m 29 0 p) = m 29 0 p := by exact x_wrs (by omega) (by omega)
    have e1 : x_wr (m 30 0 p) = m 30 0 p := by exact x_wrs (by omega) (by omega)
    have e6 : x_wr (m 35 0 p) = m 35 0 p := by exact x_wrs (by omega) (by omega)
    have ek : x_wr (m 25 0 p) = m 25 0 p := by exact x_wrs (by omega) (by omega)
    have ed : x_wr (m 24 0 5) = m 24 0 5 := by exact x_wrs (by omega) (by omega)
    have es : x_wr (m 24 0 6) = m 24 0 6 := by exact x_wrs (by omega) (by omega)
    have i0 : rA m 0 p = m 29 0 p := rA_at m (by omega) (by omega)
    have i1 : rA m 1 p = m 30 0 p := rA_at m (by omega) (by omega)
    have i8 : rA m 8 0 = m 24 0 5 := rfl
    unfold RS_X7_passes_4 RV_X7_passes_4 aL1
    rw [hb, e0, e1, ed, i0, i1, i8]
    by_cases hb0 : b = 0
    · simp only [if_pos hb0]
      by_cases hw0 : m 29 0 p ≤ 0
      · simp only [if_pos hw0]
        rw [if_neg (by omega)]
        exact ih (p + 1) m c (by omega) hF hW
      · simp only [if_neg hw0]
        by_cases hc : m 24 0 5 < m 30 0 p
        · simp only [if_pos hc]
          rw [if_neg (by omega)]
          exact ih (p + 1) m c (by omega) hF hW
        · simp only [if_neg hc]
          rw [if_pos ⟨hb0, by omega, by omega⟩]
          have hA := rA_comesIn (by omega) ek e6 es
          have hfr : sM m (S_X7_comesIn m p) := fun _ _ h => fr_S_X7_comesIn m p h
          obtain ⟨m', q1, q2, q3, q4⟩ := ih (p + 1) (S_X7_comesIn m p) c (by omega) (by rw [hfr.F]; exact hF) (by rw [hA]; exact aCome_W hW (by omega) (by rw [i0]; omega))
          refine ⟨m', q1, q2, ?_, fun _ _ h => (q4 _ _ h).trans (hfr _ _ h)⟩
          rw [q3, hfr.F, hA]
    · simp only [if_neg hb0]
      rw [if_neg (fun z => hb0 z.1)]
      exact ih (p + 1) m c (by omega) hF hW
/-- how many are told, of those from p on -/
def tcr (a : aS) : Nat → Nat → Int
  | 0, _ => 0
  | k + 1, p => (if a 3 p = -4 then 0 else 1) + tcr a k (p + 1)
theorem tcr_cong {a a' : aS} : ∀ (k p : Nat), (∀ q, p ≤ q → q < p + k → a' 3 q = a 3 q) → tcr a' k p = tcr a k p := by
  intro k
  induction k with
  | zero => intro p _; rfl
  | succ k ih =>
    intro p h
    unfold tcr
    rw [h p (by omega) (by omega), ih (p + 1) (fun q h1 h2 => h q (by omega) (by omega))]
def tM (m : xMi) (p : Nat) : xMi :=
  if m 27 0 p ≤ m 24 0 5 ∧ m 32 0 p = -4 ∧ m 31 0 p = 0 then x_up (x_up (x_up m 32 0 p (m 24 0 5)) 33 0 p (m 34 0 p)) 31 0 p (m 31 0 p - 0)
  else if m 31 0 p ≤ 0 then x_up m 31 0 p (m 31 0 p - 0) else x_up m 31 0 p (m 31 0 p - 1)
theorem tM_sM (m : xMi) (p : Nat) : sM m (tM m p) := by
  intro t k h
  unfold tM
  (repeat' split) <;> simp (disch := omega) only [x_up_o]
theorem rA_tM {m : xMi} {p : Nat} (hp : p < 6) (h0 : 0 ≤ m 31 0 p) : rA (tM m p) = aTl (rF m) p 1 (rA m) := by
  have hZ := aTl_Z (F := rF m) (p := p) (k := 1) (by omega) (rA_Z m)
  have hpq : ∀ q, q ≠ p → ¬ (p ≤ q ∧ q < p + 1) := fun q h => by omega
  have hpp : p ≤ p ∧ p < p + 1 := by omega
  unfold tM
  by_cases hc : m 27 0 p ≤ m 24 0 5 ∧ m 32 0 p = -4 ∧ m 31 0 p = 0
  · rw [if_pos hc]
    obtain ⟨c1, c2, c3⟩ := hc
    refine rA_ext ?_ ?_ ?_ ?_ ?_ ?_ ?_ ?_ ?_ ?_ ?_ ?_ hZ.1 hZ.2.1 hZ.2.2
    all_goals first
      | (intro q hq6; by_cases hq : q = p
         · subst hq; simp [hq6, x_up, aTl, rTell, rA, rF, c1, c2, c3]
         · simp [hq6, x_up, aTl, rTell, rA, rF, hq, hpq q hq])
      | simp [x_up, aTl, rA]
  · rw [if_neg hc]
    by_cases h1 : m 31 0 p ≤ 0
    · rw [if_pos h1]
      have h1' : ¬ 0 < m 31 0 p := by omega
      refine rA_ext ?_ ?_ ?_ ?_ ?_ ?_ ?_ ?_ ?_ ?_ ?_ ?_ hZ.1 hZ.2.1 hZ.2.2
      all_goals first
        | (intro q hq6; by_cases hq : q = p
           · subst hq; simp [hq6, x_up, aTl, rTell, rA, rF, hc, h1']
           · simp [hq6, x_up, aTl, rTell, rA, rF, hq, hpq q hq])
        | simp [x_up, aTl, rA]
    · rw [if_neg h1]
      have h1' : 0 < m 31 0 p := by omega
      refine rA_ext ?_ ?_ ?_ ?_ ?_ ?_ ?_ ?_ ?_ ?_ ?_ ?_ hZ.1 hZ.2.1 hZ.2.2
      all_goals first
        | (intro q hq6; by_cases hq : q = p
           · subst hq; simp [hq6, x_up, aTl, rTell, rA, rF, hc, h1']
           · simp [hq6, x_up, aTl, rTell, rA, rF, hq, hpq q hq])
        | simp [x_up, aTl, rA]
theorem aTl_succ (F : aS) (p k : Nat) (a : aS) : aTl F p (k + 1) a = aTl F (p + 1) k (aTl F p 1 a) := by
  funext j q
  have e0 : aTl F p 1 a 8 0 = a 8 0 := by unfold aTl; simp
  by_cases hj : j < 8
  · by_cases hq : q = p
    · subst hq
      have e : aTl F (q + 1) k (aTl F q 1 a) j q = aTl F q 1 a j q := by unfold aTl; rw [if_neg (by omega)]
      rw [e]
      unfold aTl
      rw [if_pos ⟨hj, by omega, by omega⟩, if_pos ⟨hj, by omega, by omega⟩]
    · have e1 : ∀ i, aTl F p 1 a i q = a i q := fun i => by unfold aTl; rw [if_neg (by omega)]
      by_cases hr : p ≤ q ∧ q < p + (k + 1)
      · have e : aTl F (p + 1) k (aTl F p 1 a) j q = rTell (F 2 q) (a 8 0) (fun i => a i q) j := by
          show (if j < 8 ∧ p + 1 ≤ q ∧ q < p + 1 + k then rTell (F 2 q) (aTl F p 1 a 8 0) (fun i => aTl F p 1 a i q) j else aTl F p 1 a j q) = _
          rw [if_pos ⟨hj, by omega, by omega⟩, e0]
          exact rTell_cong (fun i _ => e1 i) j hj
        rw [e]
        unfold aTl
        rw [if_pos ⟨hj, hr⟩]
      · have e : aTl F (p + 1) k (aTl F p 1 a) j q = aTl F p 1 a j q := by
          show (if j < 8 ∧ p + 1 ≤ q ∧ q < p + 1 + k then rTell (F 2 q) (aTl F p 1 a 8 0) (fun i => aTl F p 1 a i q) j else aTl F p 1 a j q) = _
          rw [if_neg (by omega)]
        rw [e, e1]
        unfold aTl
        rw [if_neg (by omega)]
  · have e : ∀ p k a, aTl F p k a j q = a j q := fun p k a => by unfold aTl; rw [if_neg (by omega)]
    rw [e, e, e]
def aRg (K : Nat) (a : aS) : Prop := (0 ≤ a 8 0 ∧ a 8 0 ≤ 200000) ∧ ∀ q, q < K → (-4 ≤ a 3 q ∧ a 3 q ≤ 200000) ∧ (0 ≤ a 2 q ∧ a 2 q ≤ 10)
theorem aW.rg {K : Nat} {D : Int} {a : aS} (h : aW K D a) (hD : D ≤ 100000) : aRg K a := by
  refine ⟨⟨h.1.1, by have := h.1.2; omega⟩, fun q hq => ?_⟩
  obtain ⟨h0, h1, h2, h3, h4, h5, h6, h7, h8, h9, h10, h11, h12, h13, h14, h15, h16, h17, h18, h19, h20⟩ := h.row hq
  have := h.1.2
  omega
theorem aTl_rg {F : aS} {K p : Nat} {a : aS} (h : aRg K a) : aRg K (aTl F p 1 a) := by
  have e0 : aTl F p 1 a 8 0 = a 8 0 := by unfold aTl; simp
  refine ⟨by rw [e0]; exact h.1, fun q hq => ?_⟩
  have h2 := h.2 q hq
  have h1 := h.1
  unfold aTl rTell
  simp
  (repeat' split) <;> omega
theorem rA_L2 {b : Int} {K : Nat} (hK : K ≤ 6) : ∀ (k p : Nat) (m : xMi) (c : Int), p + k ≤ K → aF K (rF m) → aRg K (rA m) →
    rA (RS_X7_passes_51 b K k p m c) = aEnd (aTl (rF m) p k (rA m)) ∧ RV_X7_passes_51 b K k p m c = c + (tcr (aTl (rF m) p k (rA m)) k p - tcr (rA m) k p) := by
  intro k
  induction k with
  | zero =>
    intro p m c _ _ _
    have e : aTl (rF m) p 0 (rA m) = rA m := by
      funext j q
      unfold aTl
      rw [if_neg (by omega)]
    rw [e]
    refine ⟨?_, by unfold RV_X7_passes_51; omega⟩
    have hZ := aEnd_Z (rA_Z m)
    unfold RS_X7_passes_51
    refine rA_ext ?_ ?_ ?_ ?_ ?_ ?_ ?_ ?_ ?_ ?_ ?_ ?_ hZ.1 hZ.2.1 hZ.2.2
    all_goals first
      | (intro q hq6; simp [x_up, aEnd, rA, hq6])
      | simp [x_up, aEnd, rA]
  | succ k ih =>
    intro p m c hp hF hR
    have hf := hF p (by omega)
    have hr := hR.2 p (by omega)
    have i2 : rA m 2 p = m 31 0 p := rA_at m (by omega) (by omega)
    have i3 : rA m 3 p = m 32 0 p := rA_at m (by omega) (by omega)
    have i8 : rA m 8 0 = m 24 0 5 := rfl
    have j2 : rF m 2 p = m 27 0 p := rfl
    have hR1 := hR.1
    have e2 : x_wr (m 31 0 p) = m 31 0 p := x_wrs (by omega) (by omega)
    have e3 : x_wr (m 32 0 p) = m 32 0 p := x_wrs (by omega) (by omega)
    have e8 : x_wr (m 24 0 5) = m 24 0 5 := x_wrs (by omega) (by omega)
    have en : x_wr (m 27 0 p) = m 27 0 p := x_wrs (by omega) (by omega)
    have hA := rA_tM (m := m) (p := p) (by omega) (by omega)
    have hs := tM_sM m p
    have key : RS_X7_passes_51 b K (k + 1) p m c = RS_X7_passes_51 b K k (p + 1) (tM m p) (c + (if m 27 0 p ≤ m 24 0 5 ∧ m 32 0 p = -4 ∧ m 31 0 p = 0 then 1 else 0)) ∧ RV_X7_passes_51 b K (k + 1) p m c = RV_X7_passes_51 b K k (p + 1) (tM m p) (c + (if m 27 0 p ≤ m 24 0 5 ∧ m 32 0 p = -4 ∧ m 31 0 p = 0 then 1 else 0)) := by
      have q1 : (x_up (x_up m 32 0 p (m 24 0 5)) 33 0 p ((x_up m 32 0 p (m 24 0 5)) 34 0 p)) 31 0 p = m 31 0 p := by simp [x_up]
      have q2 : (x_up m 32 0 p (m 24 0 5)) 34 0 p = m 34 0 p := by simp [x_up]
      rw [RS_X7_passes_51, RV_X7_passes_51]
      rw [q1, q2, e2, e3, e8, en, xwm4]
      unfold tM
      by_cases c1 : m 24 0 5 < m 27 0 p
      · have hN : ¬ (m 27 0 p ≤ m 24 0 5 ∧ m 32 0 p = -4 ∧ m 31 0 p = 0) := fun z => by omega
        by_cases c4 : m 31 0 p ≤ 0
        · simp only [if_pos c1, if_neg hN, if_pos c4, Int.add_zero, and_self]
        · simp only [if_pos c1, if_neg hN, if_neg c4, Int.add_zero, and_self]
      · by_cases c2 : m 32 0 p = -4
        · by_cases c3 : m 31 0 p = 0
          · have hN : m 27 0 p ≤ m 24 0 5 ∧ m 32 0 p = -4 ∧ m 31 0 p = 0 := ⟨by omega, c2, c3⟩
            have c4 : m 31 0 p ≤ 0 := by omega
            simp only [if_neg c1, if_pos c2, if_pos c3, if_pos hN, if_pos c4, and_self]
          · have hN : ¬ (m 27 0 p ≤ m 24 0 5 ∧ m 32 0 p = -4 ∧ m 31 0 p = 0) := fun z => c3 z.2.2
            by_cases c4 : m 31 0 p ≤ 0
            · simp only [if_neg c1, if_pos c2, if_neg c3, if_neg hN, if_pos c4, Int.add_zero, and_self]
            · simp only [if_neg c1, if_pos c2, if_neg c3, if_neg hN, if_neg c4, Int.add_zero, and_self]
        · have hN : ¬ (m 27 0 p ≤ m 24 0 5 ∧ m 32 0 p = -4 ∧ m 31 0 p = 0) := fun z => c2 z.2.1
          by_cases c4 : m 31 0 p ≤ 0
          · simp only [if_neg c1, if_neg c2, if_neg hN, if_pos c4, Int.add_zero, and_self]
          · simp only [if_neg c1, if_neg c2, if_neg hN, if_neg c4, Int.add_zero, and_self]
    obtain ⟨ih1, ih2⟩ := ih (p + 1) (tM m p) (c + (if m 27 0 p ≤ m 24 0 5 ∧ m 32 0 p = -4 ∧ m 31 0 p = 0 then 1 else 0)) (by omega) (by rw [hs.F]; exact hF) (by rw [hA]; exact aTl_rg hR)
    rw [hA, hs.F, ← aTl_succ] at ih1 ih2
    refine ⟨(congrArg rA key.1).trans ih1, key.2.trans (ih2.trans ?_)⟩
    have t1 : tcr (aTl (rF m) p 1 (rA m)) k (p + 1) = tcr (rA m) k (p + 1) := tcr_cong _ _ (fun q h1 h2 => by unfold aTl; rw [if_neg (by omega)])
    have t2 : aTl (rF m) p (k + 1) (rA m) 3 p = if m 27 0 p ≤ m 24 0 5 ∧ m 32 0 p = -4 ∧ m 31 0 p = 0 then m 24 0 5 else m 32 0 p := by
      unfold aTl
      rw [if_pos ⟨by omega, by omega, by omega⟩]
      unfold rTell
      simp only [i2, i3, i8, j2]
      rfl
    have t3 : tcr (aTl (rF m) p (k + 1) (rA m)) (k + 1) p = (if aTl (rF m) p (k + 1) (rA m) 3 p = -4 then 0 else 1) + tcr (aTl (rF m) p (k + 1) (rA m)) k (p + 1) := rfl
    have t4 : tcr (rA m) (k + 1) p = (if rA m 3 p = -4 then 0 else 1) + tcr (rA m) k (p + 1) := rfl
    rw [t1, t3, t4, t2, i3]
    by_cases hc : m 27 0 p ≤ m 24 0 5 ∧ m 32 0 p = -4 ∧ m 31 0 p = 0
    · rw [if_pos hc, if_pos hc, if_neg (by omega), if_pos hc.2.1]
      omega
    · rw [if_neg hc, if_neg hc]
      omega
theorem rA_passes {m : xMi} {b : Int} {K : Nat} {D : Int} (hK : K ≤ 6) (hb : x_wr b = b) (hD : D ≤ 100000) (hF : aF K (rF m)) (hW : aW K D (rA m)) : rA (S_X7_passes m b K) = aP (rF m) b K (rA m) ∧ V_X7_passes m b K = tcr (aP (rF m) b K (rA m)) K 0 - tcr (rA m) K 0 := by
  obtain ⟨m', q1, q2, q3, q4⟩ := rA_L1 (b := b) hK hb hD K 0 m 0 (by omega) hF hW
  have hW' : aW K D (rA m') := by rw [q3]; exact aL1_W _ _ _ (by omega) hW
  obtain ⟨r1, r2⟩ := rA_L2 (b := b) (K := K) hK K 0 m' 0 (by omega) (by rw [q4.F]; exact hF) (hW'.rg hD)
  have l3 : ∀ q, aL1 (rF m) b K 0 (rA m) 3 q = rA m 3 q := by
    intro q
    by_cases hq : q < K
    · obtain ⟨st, h⟩ := aL1_row (F := rF m) (b := b) (q := q) K 0 (rA m) (Nat.zero_le _) (by omega)
      rw [h 3 (by omega)]
      unfold rIn
      split
      · unfold rCome
        split <;> simp
      · rfl
    · exact aL1_out (by omega) _ _ _ (Or.inr (by omega))
  constructor
  · unfold S_X7_passes
    rw [q1, r1, q3, q4.F]
    rfl
  · unfold V_X7_passes
    rw [q2, r2, q3, q4.F]
    have t1 : tcr (aL1 (rF m) b K 0 (rA m)) K 0 = tcr (rA m) K 0 := tcr_cong _ _ (fun q _ _ => l3 q)
    have t2 : tcr (aP (rF m) b K (rA m)) K 0 = tcr (aTl (rF m) 0 K (aL1 (rF m) b K 0 (rA m))) K 0 := tcr_cong _ _ (fun q _ _ => by unfold aP aEnd; rw [if_neg (by omega), if_neg (by omega)])
    rw [t1, t2]
    omega
