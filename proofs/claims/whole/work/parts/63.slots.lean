theorem x_up_y {σ : xMi} {t i k : Nat} {v : Int} {k' : Nat} (h : k' = k) : x_up σ t i k v t i k' = v := if_pos ⟨rfl, rfl, h⟩
theorem ly_42_37 (at1 : Nat) : ∀ (k p : Nat) (m : xMi), p + k ≤ 6 → (∀ j q, j < 8 → p ≤ q → q < p + k → RS_X7_lays_42_37 at1 k p m 42 0 (at1 + 3 + 6 * j + q) = m (29 + j) 0 q) ∧ (∀ s, (∀ j q, j < 8 → p ≤ q → q < p + k → s ≠ at1 + 3 + 6 * j + q) → RS_X7_lays_42_37 at1 k p m 42 0 s = m 42 0 s) := by
  intro k
  induction k with
  | zero => intro p m _; exact ⟨fun j q _ h1 h2 => absurd h1 (by omega), fun s _ => rfl⟩
  | succ k ih =>
    intro p m hp
    have e : RS_X7_lays_42_37 at1 (k + 1) p m = RS_X7_lays_42_37 at1 k (p + 1) (x_up (x_up (x_up (x_up (x_up (x_up (x_up (x_up m 42 0 (at1 + 3 + p) (m 29 0 p)) 42 0 (at1 + 9 + p) (m 30 0 p)) 42 0 (at1 + 15 + p) (m 31 0 p)) 42 0 (at1 + 21 + p) (m 32 0 p)) 42 0 (at1 + 27 + p) (m 33 0 p)) 42 0 (at1 + 33 + p) (m 34 0 p)) 42 0 (at1 + 39 + p) (m 35 0 p)) 42 0 (at1 + 45 + p) (m 36 0 p)) := by
      conv => lhs; unfold RS_X7_lays_42_37
      simp [T_X7_lays_42_37_1_1, T_X7_lays_42_37_1_2, x_up]
    obtain ⟨i1, i2⟩ := ih (p + 1) (x_up (x_up (x_up (x_up (x_up (x_up (x_up (x_up m 42 0 (at1 + 3 + p) (m 29 0 p)) 42 0 (at1 + 9 + p) (m 30 0 p)) 42 0 (at1 + 15 + p) (m 31 0 p)) 42 0 (at1 + 21 + p) (m 32 0 p)) 42 0 (at1 + 27 + p) (m 33 0 p)) 42 0 (at1 + 33 + p) (m 34 0 p)) 42 0 (at1 + 39 + p) (m 35 0 p)) 42 0 (at1 + 45 + p) (m 36 0 p)) (by omega)
    rw [e]
    refine ⟨fun j q hj h1 h2 => ?_, fun s hs => ?_⟩
    · by_cases c : q = p
      · subst c
        rw [i2 _ (fun j' q' hj' h1' h2' => by omega)]
        rcases (by omega : j = 0 ∨ j = 1 ∨ j = 2 ∨ j = 3 ∨ j = 4 ∨ j = 5 ∨ j = 6 ∨ j = 7) with rfl | rfl | rfl | rfl | rfl | rfl | rfl | rfl
        all_goals simp (disch := omega) only [x_up_y, x_up_k]
      · rw [i1 j q hj (by omega) (by omega)]
        simp (disch := omega) only [x_up_o]
    · rw [i2 s (fun j' q' hj' h1' h2' => hs j' q' hj' (by omega) (by omega))]
      have n0 := hs 0 p (by omega) (by omega) (by omega)
      have n1 := hs 1 p (by omega) (by omega) (by omega)
      have n2 := hs 2 p (by omega) (by omega) (by omega)
      have n3 := hs 3 p (by omega) (by omega) (by omega)
      have n4 := hs 4 p (by omega) (by omega) (by omega)
      have n5 := hs 5 p (by omega) (by omega) (by omega)
      have n6 := hs 6 p (by omega) (by omega) (by omega)
      have n7 := hs 7 p (by omega) (by omega) (by omega)
      simp (disch := omega) only [x_up_k]
theorem ly_42 (m : xMi) (at1 : Nat) : sA 42 (S_X7_lays_42 m at1) at1 = rA m ∧ (∀ s, (s < at1 ∨ at1 + 52 ≤ s) → S_X7_lays_42 m at1 42 0 s = m 42 0 s) := by
  obtain ⟨h1, h2⟩ := ly_42_37 at1 6 0 (T_X7_lays_42_1 m at1) (by omega)
  have e : T_X7_lays_42_1 m at1 = x_up (x_up (x_up (x_up m 42 0 at1 (m 24 0 5)) 42 0 (at1 + 1) (m 24 0 6)) 42 0 (at1 + 2) (m 24 0 7)) 42 0 (at1 + 51) (m 24 0 8) := by
    unfold T_X7_lays_42_1
    simp [x_up]
  unfold S_X7_lays_42
  constructor
  · refine sA_ext (fun j q hj hq => ?_) ?_ ?_ ?_ ?_ (rA_Z m)
    · rw [h1 j q hj (by omega) (by omega), e, rA_at m hj hq]
      simp (disch := omega) only [x_up_o]
    · rw [h2 _ (fun j q _ _ _ => by omega), e]
      simp (disch := omega) only [x_up_y, x_up_k]
      rfl
    · rw [h2 _ (fun j q _ _ _ => by omega), e]
      simp (disch := omega) only [x_up_y, x_up_k]
      rfl
    · rw [h2 _ (fun j q _ _ _ => by omega), e]
      simp (disch := omega) only [x_up_y, x_up_k]
      rfl
    · rw [h2 _ (fun j q _ _ _ => by omega), e]
      simp (disch := omega) only [x_up_y, x_up_k]
      rfl
  · intro s hs
    rw [h2 s (fun j q _ _ _ => by omega), e]
    simp (disch := omega) only [x_up_k]
theorem tk_42_37 (at1 : Nat) : ∀ (k p : Nat) (m : xMi), p + k ≤ 6 → (∀ j q, j < 8 → p ≤ q → q < p + k → RS_X7_takes_42_37 at1 k p m (29 + j) 0 q = m 42 0 (at1 + 3 + 6 * j + q)) ∧ (∀ t s, (t < 29 ∨ 36 < t ∨ s < p ∨ p + k ≤ s) → RS_X7_takes_42_37 at1 k p m t 0 s = m t 0 s) := by
  intro k
  induction k with
  | zero => intro p m _; exact ⟨fun j q _ h1 h2 => absurd h1 (by omega), fun t s _ => rfl⟩
  | succ k ih =>
    intro p m hp
    have e : RS_X7_takes_42_37 at1 (k + 1) p m = RS_X7_takes_42_37 at1 k (p + 1) (x_up (x_up (x_up (x_up (x_up (x_up (x_up (x_up m 29 0 p (m 42 0 (at1 + 3 + p))) 30 0 p (m 42 0 (at1 + 9 + p))) 31 0 p (m 42 0 (at1 + 15 + p))) 32 0 p (m 42 0 (at1 + 21 + p))) 33 0 p (m 42 0 (at1 + 27 + p))) 34 0 p (m 42 0 (at1 + 33 + p))) 35 0 p (m 42 0 (at1 + 39 + p))) 36 0 p (m 42 0 (at1 + 45 + p))) := by
      conv => lhs; unfold RS_X7_takes_42_37
      simp [T_X7_takes_42_37_1_1, T_X7_takes_42_37_1_2, x_up]
    obtain ⟨i1, i2⟩ := ih (p + 1) (x_up (x_up (x_up (x_up (x_up (x_up (x_up (x_up m 29 0 p (m 42 0 (at1 + 3 + p))) 30 0 p (m 42 0 (at1 + 9 + p))) 31 0 p (m 42 0 (at1 + 15 + p))) 32 0 p (m 42 0 (at1 + 21 + p))) 33 0 p (m 42 0 (at1 + 27 + p))) 34 0 p (m 42 0 (at1 + 33 + p))) 35 0 p (m 42 0 (at1 + 39 + p))) 36 0 p (m 42 0 (at1 + 45 + p))) (by omega)
    rw [e]
    refine ⟨fun j q hj h1 h2 => ?_, fun t s hs => ?_⟩
    · by_cases c : q = p
      · subst c
        rw [i2 _ _ (by omega)]
        rcases (by omega : j = 0 ∨ j = 1 ∨ j = 2 ∨ j = 3 ∨ j = 4 ∨ j = 5 ∨ j = 6 ∨ j = 7) with rfl | rfl | rfl | rfl | rfl | rfl | rfl | rfl
        all_goals simp [x_up]
      · rw [i1 j q hj (by omega) (by omega)]
        simp (disch := omega) only [x_up_o]
    · rw [i2 t s (by omega)]
      simp (disch := omega) only [x_up_k]
theorem tk_42 (m : xMi) (at1 : Nat) : rA (S_X7_takes_42 m at1) = sA 42 m at1 := by
  obtain ⟨h1, h2⟩ := tk_42_37 at1 6 0 (T_X7_takes_42_1 m at1) (by omega)
  have e : T_X7_takes_42_1 m at1 = x_up (x_up (x_up (x_up m 24 0 5 (m 42 0 at1)) 24 0 6 (m 42 0 (at1 + 1))) 24 0 7 (m 42 0 (at1 + 2))) 24 0 8 (m 42 0 (at1 + 51)) := by
    unfold T_X7_takes_42_1
    simp [x_up]
  refine (sA_ext (a := rA (S_X7_takes_42 m at1)) (fun j q hj hq => ?_) ?_ ?_ ?_ ?_ (rA_Z _)).symm
  · rw [rA_at _ hj hq]
    unfold S_X7_takes_42
    rw [h1 j q hj (by omega) (by omega), e]
    simp (disch := omega) only [x_up_o]
  · show _ = RS_X7_takes_42_37 at1 6 0 (T_X7_takes_42_1 m at1) 24 0 5
    rw [h2 _ _ (by omega), e]
    simp [x_up]
  · show _ = RS_X7_takes_42_37 at1 6 0 (T_X7_takes_42_1 m at1) 24 0 6
    rw [h2 _ _ (by omega), e]
    simp [x_up]
  · show _ = RS_X7_takes_42_37 at1 6 0 (T_X7_takes_42_1 m at1) 24 0 7
    rw [h2 _ _ (by omega), e]
    simp [x_up]
  · show _ = RS_X7_takes_42_37 at1 6 0 (T_X7_takes_42_1 m at1) 24 0 8
    rw [h2 _ _ (by omega), e]
    simp [x_up]
theorem ly_43_37 (at1 : Nat) : ∀ (k p : Nat) (m : xMi), p + k ≤ 6 → (∀ j q, j < 8 → p ≤ q → q < p + k → RS_X7_lays_43_37 at1 k p m 43 0 (at1 + 3 + 6 * j + q) = m (29 + j) 0 q) ∧ (∀ s, (∀ j q, j < 8 → p ≤ q → q < p + k → s ≠ at1 + 3 + 6 * j + q) → RS_X7_lays_43_37 at1 k p m 43 0 s = m 43 0 s) := by
  intro k
  induction k with
  | zero => intro p m _; exact ⟨fun j q _ h1 h2 => absurd h1 (by omega), fun s _ => rfl⟩
  | succ k ih =>
    intro p m hp
    have e : RS_X7_lays_43_37 at1 (k + 1) p m = RS_X7_lays_43_37 at1 k (p + 1) (x_up (x_up (x_up (x_up (x_up (x_up (x_up (x_up m 43 0 (at1 + 3 + p) (m 29 0 p)) 43 0 (at1 + 9 + p) (m 30 0 p)) 43 0 (at1 + 15 + p) (m 31 0 p)) 43 0 (at1 + 21 + p) (m 32 0 p)) 43 0 (at1 + 27 + p) (m 33 0 p)) 43 0 (at1 + 33 + p) (m 34 0 p)) 43 0 (at1 + 39 + p) (m 35 0 p)) 43 0 (at1 + 45 + p) (m 36 0 p)) := by
      conv => lhs; unfold RS_X7_lays_43_37
      simp [T_X7_lays_43_37_1_1, T_X7_lays_43_37_1_2, x_up]
    obtain ⟨i1, i2⟩ := ih (p + 1) (x_up (x_up (x_up (x_up (x_up (x_up (x_up (x_up m 43 0 (at1 + 3 + p) (m 29 0 p)) 43 0 (at1 + 9 + p) (m 30 0 p)) 43 0 (at1 + 15 + p) (m 31 0 p)) 43 0 (at1 + 21 + p) (m 32 0 p)) 43 0 (at1 + 27 + p) (m 33 0 p)) 43 0 (at1 + 33 + p) (m 34 0 p)) 43 0 (at1 + 39 + p) (m 35 0 p)) 43 0 (at1 + 45 + p) (m 36 0 p)) (by omega)
    rw [e]
    refine ⟨fun j q hj h1 h2 => ?_, fun s hs => ?_⟩
    · by_cases c : q = p
      · subst c
        rw [i2 _ (fun j' q' hj' h1' h2' => by omega)]
        rcases (by omega : j = 0 ∨ j = 1 ∨ j = 2 ∨ j = 3 ∨ j = 4 ∨ j = 5 ∨ j = 6 ∨ j = 7) with rfl | rfl | rfl | rfl | rfl | rfl | rfl | rfl
        all_goals simp (disch := omega) only [x_up_y, x_up_k]
      · rw [i1 j q hj (by omega) (by omega)]
        simp (disch := omega) only [x_up_o]
    · rw [i2 s (fun j' q' hj' h1' h2' => hs j' q' hj' (by omega) (by omega))]
      have n0 := hs 0 p (by omega) (by omega) (by omega)
      have n1 := hs 1 p (by omega) (by omega) (by omega)
      have n2 := hs 2 p (by omega) (by omega) (by omega)
      have n3 := hs 3 p (by omega) (by omega) (by omega)
      have n4 := hs 4 p (by omega) (by omega) (by omega)
      have n5 := hs 5 p (by omega) (by omega) (by omega)
      have n6 := hs 6 p (by omega) (by omega) (by omega)
      have n7 := hs 7 p (by omega) (by omega) (by omega)
      simp (disch := omega) only [x_up_k]
theorem ly_43 (m : xMi) (at1 : Nat) : sA 43 (S_X7_lays_43 m at1) at1 = rA m ∧ (∀ s, (s < at1 ∨ at1 + 52 ≤ s) → S_X7_lays_43 m at1 43 0 s = m 43 0 s) := by
  obtain ⟨h1, h2⟩ := ly_43_37 at1 6 0 (T_X7_lays_43_1 m at1) (by omega)
  have e : T_X7_lays_43_1 m at1 = x_up (x_up (x_up (x_up m 43 0 at1 (m 24 0 5)) 43 0 (at1 + 1) (m 24 0 6)) 43 0 (at1 + 2) (m 24 0 7)) 43 0 (at1 + 51) (m 24 0 8) := by
    unfold T_X7_lays_43_1
    simp [x_up]
  unfold S_X7_lays_43
  constructor
  · refine sA_ext (fun j q hj hq => ?_) ?_ ?_ ?_ ?_ (rA_Z m)
    · rw [h1 j q hj (by omega) (by omega), e, rA_at m hj hq]
      simp (disch := omega) only [x_up_o]
    · rw [h2 _ (fun j q _ _ _ => by omega), e]
      simp (disch := omega) only [x_up_y, x_up_k]
      rfl
    · rw [h2 _ (fun j q _ _ _ => by omega), e]
      simp (disch := omega) only [x_up_y, x_up_k]
      rfl
    · rw [h2 _ (fun j q _ _ _ => by omega), e]
      simp (disch := omega) only [x_up_y, x_up_k]
      rfl
    · rw [h2 _ (fun j q _ _ _ => by omega), e]
      simp (disch := omega) only [x_up_y, x_up_k]
      rfl
  · intro s hs
    rw [h2 s (fun j q _ _ _ => by omega), e]
    simp (disch := omega) only [x_up_k]
theorem tk_43_37 (at1 : Nat) : ∀ (k p : Nat) (m : xMi), p + k ≤ 6 → (∀ j q, j < 8 → p ≤ q → q < p + k → RS_X7_takes_43_37 at1 k p m (29 + j) 0 q = m 43 0 (at1 + 3 + 6 * j + q)) ∧ (∀ t s, (t < 29 ∨ 36 < t ∨ s < p ∨ p + k ≤ s) → RS_X7_takes_43_37 at1 k p m t 0 s = m t 0 s) := by
  intro k
  induction k with
  | zero => intro p m _; exact ⟨fun j q _ h1 h2 => absurd h1 (by omega), fun t s _ => rfl⟩
  | succ k ih =>
    intro p m hp
    have e : RS_X7_takes_43_37 at1 (k + 1) p m = RS_X7_takes_43_37 at1 k (p + 1) (x_up (x_up (x_up (x_up (x_up (x_up (x_up (x_up m 29 0 p (m 43 0 (at1 + 3 + p))) 30 0 p (m 43 0 (at1 + 9 + p))) 31 0 p (m 43 0 (at1 + 15 + p))) 32 0 p (m 43 0 (at1 + 21 + p))) 33 0 p (m 43 0 (at1 + 27 + p))) 34 0 p (m 43 0 (at1 + 33 + p))) 35 0 p (m 43 0 (at1 + 39 + p))) 36 0 p (m 43 0 (at1 + 45 + p))) := by
      conv => lhs; unfold RS_X7_takes_43_37
      simp [T_X7_takes_43_37_1_1, T_X7_takes_43_37_1_2, x_up]
    obtain ⟨i1, i2⟩ := ih (p + 1) (x_up (x_up (x_up (x_up (x_up (x_up (x_up (x_up m 29 0 p (m 43 0 (at1 + 3 + p))) 30 0 p (m 43 0 (at1 + 9 + p))) 31 0 p (m 43 0 (at1 + 15 + p))) 32 0 p (m 43 0 (at1 + 21 + p))) 33 0 p (m 43 0 (at1 + 27 + p))) 34 0 p (m 43 0 (at1 + 33 + p))) 35 0 p (m 43 0 (at1 + 39 + p))) 36 0 p (m 43 0 (at1 + 45 + p))) (by omega)
    rw [e]
    refine ⟨fun j q hj h1 h2 => ?_, fun t s hs => ?_⟩
    · by_cases c : q = p
      · subst c
        rw [i2 _ _ (by omega)]
        rcases (by omega : j = 0 ∨ j = 1 ∨ j = 2 ∨ j = 3 ∨ j = 4 ∨ j = 5 ∨ j = 6 ∨ j = 7) with rfl | rfl | rfl | rfl | rfl | rfl | rfl | rfl
        all_goals simp [x_up]
      · rw [i1 j q hj (by omega) (by omega)]
        simp (disch := omega) only [x_up_o]
    · rw [i2 t s (by omega)]
      simp (disch := omega) only [x_up_k]
theorem tk_43 (m : xMi) (at1 : Nat) : rA (S_X7_takes_43 m at1) = sA 43 m at1 := by
  obtain ⟨h1, h2⟩ := tk_43_37 at1 6 0 (T_X7_takes_43_1 m at1) (by omega)
  have e : T_X7_takes_43_1 m at1 = x_up (x_up (x_up (x_up m 24 0 5 (m 43 0 at1)) 24 0 6 (m 43 0 (at1 + 1))) 24 0 7 (m 43 0 (at1 + 2))) 24 0 8 (m 43 0 (at1 + 51)) := by
    unfold T_X7_takes_43_1
    simp [x_up]
  refine (sA_ext (a := rA (S_X7_takes_43 m at1)) (fun j q hj hq => ?_) ?_ ?_ ?_ ?_ (rA_Z _)).symm
  · rw [rA_at _ hj hq]
    unfold S_X7_takes_43
    rw [h1 j q hj (by omega) (by omega), e]
    simp (disch := omega) only [x_up_o]
  · show _ = RS_X7_takes_43_37 at1 6 0 (T_X7_takes_43_1 m at1) 24 0 5
    rw [h2 _ _ (by omega), e]
    simp [x_up]
  · show _ = RS_X7_takes_43_37 at1 6 0 (T_X7_takes_43_1 m at1) 24 0 6
    rw [h2 _ _ (by omega), e]
    simp [x_up]
  · show _ = RS_X7_takes_43_37 at1 6 0 (T_X7_takes_43_1 m at1) 24 0 7
    rw [h2 _ _ (by omega), e]
    simp [x_up]
  · show _ = RS_X7_takes_43_37 at1 6 0 (T_X7_takes_43_1 m at1) 24 0 8
    rw [h2 _ _ (by omega), e]
    simp [x_up]
theorem ly_46_37 (at1 : Nat) : ∀ (k p : Nat) (m : xMi), p + k ≤ 6 → (∀ j q, j < 8 → p ≤ q → q < p + k → RS_X7_lays_46_37 at1 k p m 46 0 (at1 + 3 + 6 * j + q) = m (29 + j) 0 q) ∧ (∀ s, (∀ j q, j < 8 → p ≤ q → q < p + k → s ≠ at1 + 3 + 6 * j + q) → RS_X7_lays_46_37 at1 k p m 46 0 s = m 46 0 s) := by
  intro k
  induction k with
  | zero => intro p m _; exact ⟨fun j q _ h1 h2 => absurd h1 (by omega), fun s _ => rfl⟩
  | succ k ih =>
    intro p m hp
    have e : RS_X7_lays_46_37 at1 (k + 1) p m = RS_X7_lays_46_37 at1 k (p + 1) (x_up (x_up (x_up (x_up (x_up (x_up (x_up (x_up m 46 0 (at1 + 3 + p) (m 29 0 p)) 46 0 (at1 + 9 + p) (m 30 0 p)) 46 0 (at1 + 15 + p) (m 31 0 p)) 46 0 (at1 + 21 + p) (m 32 0 p)) 46 0 (at1 + 27 + p) (m 33 0 p)) 46 0 (at1 + 33 + p) (m 34 0 p)) 46 0 (at1 + 39 + p) (m 35 0 p)) 46 0 (at1 + 45 + p) (m 36 0 p)) := by
      conv => lhs; unfold RS_X7_lays_46_37
      simp [T_X7_lays_46_37_1_1, T_X7_lays_46_37_1_2, x_up]
    obtain ⟨i1, i2⟩ := ih (p + 1) (x_up (x_up (x_up (x_up (x_up (x_up (x_up (x_up m 46 0 (at1 + 3 + p) (m 29 0 p)) 46 0 (at1 + 9 + p) (m 30 0 p)) 46 0 (at1 + 15 + p) (m 31 0 p)) 46 0 (at1 + 21 + p) (m 32 0 p)) 46 0 (at1 + 27 + p) (m 33 0 p)) 46 0 (at1 + 33 + p) (m 34 0 p)) 46 0 (at1 + 39 + p) (m 35 0 p)) 46 0 (at1 + 45 + p) (m 36 0 p)) (by omega)
    rw [e]
    refine ⟨fun j q hj h1 h2 => ?_, fun s hs => ?_⟩
    · by_cases c : q = p
      · subst c
        rw [i2 _ (fun j' q' hj' h1' h2' => by omega)]
        rcases (by omega : j = 0 ∨ j = 1 ∨ j = 2 ∨ j = 3 ∨ j = 4 ∨ j = 5 ∨ j = 6 ∨ j = 7) with rfl | rfl | rfl | rfl | rfl | rfl | rfl | rfl
        all_goals simp (disch := omega) only [x_up_y, x_up_k]
      · rw [i1 j q hj (by omega) (by omega)]
        simp (disch := omega) only [x_up_o]
    · rw [i2 s (fun j' q' hj' h1' h2' => hs j' q' hj' (by omega) (by omega))]
      have n0 := hs 0 p (by omega) (by omega) (by omega)
      have n1 := hs 1 p (by omega) (by omega) (by omega)
      have n2 := hs 2 p (by omega) (by omega) (by omega)
      have n3 := hs 3 p (by omega) (by omega) (by omega)
      have n4 := hs 4 p (by omega) (by omega) (by omega)
      have n5 := hs 5 p (by omega) (by omega) (by omega)
      have n6 := hs 6 p (by omega) (by omega) (by omega)
      have n7 := hs 7 p (by omega) (by omega) (by omega)
      simp (disch := omega) only [x_up_k]
theorem ly_46 (m : xMi) (at1 : Nat) : sA 46 (S_X7_lays_46 m at1) at1 = rA m ∧ (∀ s, (s < at1 ∨ at1 + 52 ≤ s) → S_X7_lays_46 m at1 46 0 s = m 46 0 s) := by
  obtain ⟨h1, h2⟩ := ly_46_37 at1 6 0 (T_X7_lays_46_1 m at1) (by omega)
  have e : T_X7_lays_46_1 m at1 = x_up (x_up (x_up (x_up m 46 0 at1 (m 24 0 5)) 46 0 (at1 + 1) (m 24 0 6)) 46 0 (at1 + 2) (m 24 0 7)) 46 0 (at1 + 51) (m 24 0 8) := by
    unfold T_X7_lays_46_1
    simp [x_up]
  unfold S_X7_lays_46
  constructor
  · refine sA_ext (fun j q hj hq => ?_) ?_ ?_ ?_ ?_ (rA_Z m)
    · rw [h1 j q hj (by omega) (by omega), e, rA_at m hj hq]
      simp (disch := omega) only [x_up_o]
    · rw [h2 _ (fun j q _ _ _ => by omega), e]
      simp (disch := omega) only [x_up_y, x_up_k]
      rfl
    · rw [h2 _ (fun j q _ _ _ => by omega), e]
      simp (disch := omega) only [x_up_y, x_up_k]
      rfl
    · rw [h2 _ (fun j q _ _ _ => by omega), e]
      simp (disch := omega) only [x_up_y, x_up_k]
      rfl
    · rw [h2 _ (fun j q _ _ _ => by omega), e]
      simp (disch := omega) only [x_up_y, x_up_k]
      rfl
  · intro s hs
    rw [h2 s (fun j q _ _ _ => by omega), e]
    simp (disch := omega) only [x_up_k]
theorem tk_46_37 (at1 : Nat) : ∀ (k p : Nat) (m : xMi), p + k ≤ 6 → (∀ j q, j < 8 → p ≤ q → q < p + k → RS_X7_takes_46_37 at1 k p m (29 + j) 0 q = m 46 0 (at1 + 3 + 6 * j + q)) ∧ (∀ t s, (t < 29 ∨ 36 < t ∨ s < p ∨ p + k ≤ s) → RS_X7_takes_46_37 at1 k p m t 0 s = m t 0 s) := by
  intro k
  induction k with
  | zero => intro p m _; exact ⟨fun j q _ h1 h2 => absurd h1 (by omega), fun t s _ => rfl⟩
  | succ k ih =>
    intro p m hp
    have e : RS_X7_takes_46_37 at1 (k + 1) p m = RS_X7_takes_46_37 at1 k (p + 1) (x_up (x_up (x_up (x_up (x_up (x_up (x_up (x_up m 29 0 p (m 46 0 (at1 + 3 + p))) 30 0 p (m 46 0 (at1 + 9 + p))) 31 0 p (m 46 0 (at1 + 15 + p))) 32 0 p (m 46 0 (at1 + 21 + p))) 33 0 p (m 46 0 (at1 + 27 + p))) 34 0 p (m 46 0 (at1 + 33 + p))) 35 0 p (m 46 0 (at1 + 39 + p))) 36 0 p (m 46 0 (at1 + 45 + p))) := by
      conv => lhs; unfold RS_X7_takes_46_37
      simp [T_X7_takes_46_37_1_1, T_X7_takes_46_37_1_2, x_up]
    obtain ⟨i1, i2⟩ := ih (p + 1) (x_up (x_up (x_up (x_up (x_up (x_up (x_up (x_up m 29 0 p (m 46 0 (at1 + 3 + p))) 30 0 p (m 46 0 (at1 + 9 + p))) 31 0 p (m 46 0 (at1 + 15 + p))) 32 0 p (m 46 0 (at1 + 21 + p))) 33 0 p (m 46 0 (at1 + 27 + p))) 34 0 p (m 46 0 (at1 + 33 + p))) 35 0 p (m 46 0 (at1 + 39 + p))) 36 0 p (m 46 0 (at1 + 45 + p))) (by omega)
    rw [e]
    refine ⟨fun j q hj h1 h2 => ?_, fun t s hs => ?_⟩
    · by_cases c : q = p
      · subst c
        rw [i2 _ _ (by omega)]
        rcases (by omega : j = 0 ∨ j = 1 ∨ j = 2 ∨ j = 3 ∨ j = 4 ∨ j = 5 ∨ j = 6 ∨ j = 7) with rfl | rfl | rfl | rfl | rfl | rfl | rfl | rfl
        all_goals simp [x_up]
      · rw [i1 j q hj (by omega) (by omega)]
        simp (disch := omega) only [x_up_o]
    · rw [i2 t s (by omega)]
      simp (disch := omega) only [x_up_k]
theorem tk_46 (m : xMi) (at1 : Nat) : rA (S_X7_takes_46 m at1) = sA 46 m at1 := by
  obtain ⟨h1, h2⟩ := tk_46_37 at1 6 0 (T_X7_takes_46_1 m at1) (by omega)
  have e : T_X7_takes_46_1 m at1 = x_up (x_up (x_up (x_up m 24 0 5 (m 46 0 at1)) 24 0 6 (m 46 0 (at1 + 1))) 24 0 7 (m 46 0 (at1 + 2))) 24 0 8 (m 46 0 (at1 + 51)) := by
    unfold T_X7_takes_46_1
    simp [x_up]
  refine (sA_ext (a := rA (S_X7_takes_46 m at1)) (fun j q hj hq => ?_) ?_ ?_ ?_ ?_ (rA_Z _)).symm
  · rw [rA_at _ hj hq]
    unfold S_X7_takes_46
    rw [h1 j q hj (by omega) (by omega), e]
    simp (disch := omega) only [x_up_o]
  · show _ = RS_X7_takes_46_37 at1 6 0 (T_X7_takes_46_1 m at1) 24 0 5
    rw [h2 _ _ (by omega), e]
    simp [x_up]
  · show _ = RS_X7_takes_46_37 at1 6 0 (T_X7_takes_46_1 m at1) 24 0 6
    rw [h2 _ _ (by omega), e]
    simp [x_up]
  · show _ = RS_X7_takes_46_37 at1 6 0 (T_X7_takes_46_1 m at1) 24 0 7
    rw [h2 _ _ (by omega), e]
    simp [x_up]
  · show _ = RS_X7_takes_46_37 at1 6 0 (T_X7_takes_46_1 m at1) 24 0 8
    rw [h2 _ _ (by omega), e]
    simp [x_up]
