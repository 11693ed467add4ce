def aBeg (h : Int) : aS := fun j q => if j < 8 ∧ q < 6 then (if j = 1 ∨ j = 3 then -4 else 0) else if j = 8 ∧ q = 1 then h else 0
theorem aBeg_Z (h : Int) : aZ (aBeg h) := by
  refine ⟨fun q hq => ?_, fun j q hj => ?_, fun j q hj hq => ?_⟩
  all_goals (unfold aBeg; rw [if_neg (by omega), if_neg (by omega)])
theorem aBeg_W {K : Nat} {h : Int} (hK : K ≤ 6) (hh : 0 ≤ h ∧ h ≤ 20) : aW K 999 (aBeg h) := by
  refine ⟨by unfold aBeg; simp, by unfold aBeg; simpa using hh, by unfold aBeg; simp, fun q hq => ?_⟩
  have hq6 : q < 6 := by omega
  unfold aWp aBeg
  simp [hq6]
theorem aBeg_N {K : Nat} {h : Int} {F : aS} (hF : aF K F) : aN F K (aBeg h) := by
  intro q hq _ _
  have := (hF q hq).2.2.1.1
  show aBeg h 8 0 ≤ F 2 q
  unfold aBeg
  simpa using this
theorem rA_begin (m : xMi) (h : Int) : rA (S_X7_begin m h) = aBeg h := by
  have key : ∀ (k p : Nat) (m : xMi), p + k ≤ 6 → (∀ q, p ≤ q → q < p + k → RS_X7_begin_22 h k p m 29 0 q = 0 ∧ RS_X7_begin_22 h k p m 30 0 q = -4 ∧ RS_X7_begin_22 h k p m 31 0 q = 0 ∧ RS_X7_begin_22 h k p m 32 0 q = -4 ∧ RS_X7_begin_22 h k p m 33 0 q = 0 ∧ RS_X7_begin_22 h k p m 34 0 q = 0 ∧ RS_X7_begin_22 h k p m 35 0 q = 0 ∧ RS_X7_begin_22 h k p m 36 0 q = 0) ∧ (∀ t q, (t < 29 ∨ q < p) → RS_X7_begin_22 h k p m t 0 q = m t 0 q) := by
    intro k
    induction k with
    | zero => intro p m _; exact ⟨fun q h1 h2 => by omega, fun t q _ => rfl⟩
    | succ k ih =>
      intro p m hp
      obtain ⟨i1, i2⟩ := ih (p + 1) (x_up (x_up (x_up (x_up (x_up (x_up (x_up (x_up m 29 0 p 0) 30 0 p (-4)) 31 0 p 0) 32 0 p (-4)) 33 0 p 0) 34 0 p 0) 35 0 p 0) 36 0 p 0) (by omega)
      unfold RS_X7_begin_22
      refine ⟨fun q h1 h2 => ?_, fun t q hq => by rw [i2 t q (by omega)]; simp (disch := omega) only [x_up_k]⟩
      by_cases c : q = p
      · subst c
        rw [i2 29 q (by omega), i2 30 q (by omega), i2 31 q (by omega), i2 32 q (by omega), i2 33 q (by omega), i2 34 q (by omega), i2 35 q (by omega), i2 36 q (by omega)]
        simp [x_up]
      · exact i1 q (by omega) (by omega)
  have hZ := aBeg_Z h
  obtain ⟨k1, k2⟩ := key 6 0 (x_up (x_up (x_up (x_up m 24 0 5 0) 24 0 6 h) 24 0 7 0) 24 0 8 0) (by omega)
  unfold S_X7_begin
  refine rA_ext (fun q hq => ?_) (fun q hq => ?_) (fun q hq => ?_) (fun q hq => ?_) (fun q hq => ?_) (fun q hq => ?_) (fun q hq => ?_) (fun q hq => ?_) ?_ ?_ ?_ ?_ hZ.1 hZ.2.1 hZ.2.2
  · rw [(k1 q (by omega) (by omega)).1]; simp [aBeg, hq]
  · rw [(k1 q (by omega) (by omega)).2.1]; simp [aBeg, hq]
  · rw [(k1 q (by omega) (by omega)).2.2.1]; simp [aBeg, hq]
  · rw [(k1 q (by omega) (by omega)).2.2.2.1]; simp [aBeg, hq]
  · rw [(k1 q (by omega) (by omega)).2.2.2.2.1]; simp [aBeg, hq]
  · rw [(k1 q (by omega) (by omega)).2.2.2.2.2.1]; simp [aBeg, hq]
  · rw [(k1 q (by omega) (by omega)).2.2.2.2.2.2.1]; simp [aBeg, hq]
  · rw [(k1 q (by omega) (by omega)).2.2.2.2.2.2.2]; simp [aBeg, hq]
  · rw [k2 24 5 (by omega)]; simp [x_up, aBeg]
  · rw [k2 24 6 (by omega)]; simp [x_up, aBeg]
  · rw [k2 24 7 (by omega)]; simp [x_up, aBeg]
  · rw [k2 24 8 (by omega)]; simp [x_up, aBeg]
theorem cF_start {s : xMi} {K : Nat} (hK : K ≤ 6) : cF 0 (S_X0_start s 0) K (aBeg (s 5 0 5)) := by
  have key : ∀ (k p : Nat) (s : xMi), p + k ≤ 6 → ∃ s1, RS_X0_start_2 0 k p s = (x_up (x_up (x_up (x_up (x_up (x_up (x_up s1 0 0 5 0) 0 0 6 0) 0 0 7 0) 0 0 8 0) 0 0 9 (s1 5 0 5)) 0 0 10 0) 0 0 11 0) ∧ (∀ q, p ≤ q → q < p + k → s1 1 0 q = 0 ∧ s1 2 0 q = -4 ∧ s1 3 0 q = 0 ∧ s1 4 0 q = -4) ∧ (∀ t q, (4 < t ∨ q < p) → s1 t 0 q = s t 0 q) := by
    intro k
    induction k with
    | zero =>
      intro p s _
      refine ⟨s, ?_, fun q h1 h2 => by omega, fun t q _ => rfl⟩
      unfold RS_X0_start_2
      have e : (x_up (x_up (x_up (x_up s 0 0 5 0) 0 0 6 0) 0 0 7 0) 0 0 8 0) 5 (x_rof 0) 5 = s 5 0 5 := by
        rw [show x_rof 0 = 0 from rfl, x_up_k (by omega), x_up_k (by omega), x_up_k (by omega), x_up_k (by omega)]
      rw [e]
    | succ k ih =>
      intro p s hp
      obtain ⟨s1, i1, i2, i3⟩ := ih (p + 1) (x_up (x_up (x_up (x_up s 1 0 p 0) 2 0 p (-4)) 3 0 p 0) 4 0 p (-4)) (by omega)
      refine ⟨s1, i1, fun q h1 h2 => ?_, fun t q hq => by rw [i3 t q (by omega)]; simp (disch := omega) only [x_up_k]⟩
      by_cases c : q = p
      · subst c
        rw [i3 1 q (by omega), i3 2 q (by omega), i3 3 q (by omega), i3 4 q (by omega)]
        simp [x_up]
      · exact i2 q (by omega) (by omega)
  obtain ⟨s1, h1, h2, h3⟩ := key 6 0 s (by omega)
  unfold S_X0_start
  rw [h1, h3 5 5 (by omega)]
  have z0 : ∀ j, j < 8 → j ≠ 1 → j ≠ 3 → ∀ q, q < K → aBeg (s 5 0 5) j q ≠ 1 := fun j hj n1 n3 q hq => by
    unfold aBeg
    rw [if_pos ⟨hj, by omega⟩, if_neg (by omega)]; omega
  refine ⟨⟨?_, ?_, ?_, ?_⟩, fun q hq => ?_, ?_, ?_, ?_⟩
  · simp [x_up, aBeg]
  · simp [x_up, aBeg]
  · simp [x_up, aBeg, x_bn]
  · simp [x_up, aBeg]
  · have hq6 : q < 6 := by omega
    obtain ⟨r0, r1, r2, r3⟩ := h2 q (by omega) (by omega)
    simp [x_up, aBeg, hq6, r0, r1, r2, r3]
  · have e : (x_up (x_up (x_up (x_up (x_up (x_up (x_up s1 0 0 5 0) 0 0 6 0) 0 0 7 0) 0 0 8 0) 0 0 9 (s 5 0 5)) 0 0 10 0) 0 0 11 0) 0 0 6 = 0 := by simp [x_up]
    rw [e]; exact bB.zero K (z0 4 (by omega) (by omega) (by omega))
  · have e : (x_up (x_up (x_up (x_up (x_up (x_up (x_up s1 0 0 5 0) 0 0 6 0) 0 0 7 0) 0 0 8 0) 0 0 9 (s 5 0 5)) 0 0 10 0) 0 0 11 0) 0 0 5 = 0 := by simp [x_up]
    rw [e]; exact bB.zero K (z0 5 (by omega) (by omega) (by omega))
  · have e : (x_up (x_up (x_up (x_up (x_up (x_up (x_up s1 0 0 5 0) 0 0 6 0) 0 0 7 0) 0 0 8 0) 0 0 9 (s 5 0 5)) 0 0 10 0) 0 0 11 0) 0 0 7 = 0 := by simp [x_up]
    rw [e]; exact bB.zero K (z0 6 (by omega) (by omega) (by omega))
/-- both read the text -/
theorem read_all {K u τ v τ1 z w : Nat} {σ S : xMi} (h : Rl K u τ v τ1 z w σ σ) (hM : eM σ S) : V_X5_readInto σ 1 = V_X7_fault S ∧ (V_X7_fault S = -4 → ∃ r, dR r (S_X5_readInto σ 1) (S_X7_fault S)) ∧ (-4 ≤ V_X7_fault S ∧ V_X7_fault S ≤ 200) := by
  obtain ⟨hk, hg0, hU, hV, hZ, hT, hO⟩ := h.begun hM
  have hT' : pT w (S_X3_clear σ 1) (x_up (x_up (x_up S 24 0 23 0) 24 0 24 0) 24 0 25 3) := hT.c (fun t k hj => fr_S_X3_clear _ _ (by omega)) (by rw [x_up_k (by omega), x_up_k (by omega), x_up_k (by omega)]) (fun k => by rw [x_up_k (by omega), x_up_k (by omega), x_up_k (by omega)])
  exact read_loop 200 0 0 0 _ _ (by omega) hT' ⟨hT'.2.2.1, by rw [x_up_k (by omega), x_up_k (by omega), x_up_y rfl]; rfl, hT.1, by omega⟩ ⟨by omega, by unfold S_X3_clear; simp [x_up], by simp [x_up], by unfold S_X3_clear; simp [x_up], by simp [x_up], fun j hj => by omega⟩
theorem fault_R (S : xMi) : sR S (S_X7_fault S) ∧ (∀ k, S_X7_fault S 44 0 k = S 44 0 k) ∧ eC S (S_X7_fault S) := by
  have f : ∀ t i k, ¬ (t = 41 ∨ (t = 24 ∧ (k = 23 ∨ k = 24 ∨ k = 25 ∨ k = 27))) → S_X7_fault S t i k = S t i k := fun t i k hne => fr_S_X7_fault S hne
  refine ⟨⟨?_, ?_, f _ _ _ (by omega), f _ _ _ (by omega), f _ _ _ (by omega), f _ _ _ (by omega), f _ _ _ (by omega), fun t k y => f _ _ _ (by omega)⟩, fun k => f _ _ _ (by omega), fun t i k ht => f _ _ _ (by omega)⟩
  · funext j q; unfold rA
    split
    · exact f _ _ _ (by omega)
    · split
      · exact f _ _ _ (by omega)
      · rfl
  · funext j q; unfold rF
    split
    · exact f _ _ _ (by omega)
    · rfl
theorem readInto_s (σ : xMi) : sC σ (S_X5_readInto σ 1) ∧ eM σ (S_X5_readInto σ 1) := ⟨fun t i k a b c d e f g => fr_S_X5_readInto _ _ (by omega), fun t i k ht => fr_S_X5_readInto _ _ (by omega)⟩
theorem m_fault {K u τ v τ1 z w : Nat} {σ : xMi} (h : Rl K u τ v τ1 z w σ σ) : V_X6_fault σ = V_X7_fault (S_X6_fault σ) ∧ RR (S_X7_fault (S_X6_fault σ)) := by
  have hs := readInto_s σ
  have hr := read_all h hs.2
  have hf := fault_R (S_X5_readInto σ 1)
  exact ⟨hr.1, h.most hs.2 hs.1 hf.1 ((hs.2.O h.2.2.2.2.2.2).c hf.2.1) hf.2.2⟩
theorem lay_26 : ∀ (k e : Nat) (m : xMi), e + k ≤ 6 → m 24 0 0 = (e : Int) → ∃ m1, RS_X7_lay_26 k e m = x_up (x_up (x_up (S_X7_begin m1 (m1 24 0 25)) 24 0 17 0) 24 0 29 0) 24 0 35 0 ∧ RV_X7_lay_26 k e m = (x_up (x_up (x_up (S_X7_begin m1 (m1 24 0 25)) 24 0 17 0) 24 0 29 0) 24 0 35 0) 24 0 0 ∧ m1 24 0 0 = ((e + k : Nat) : Int) ∧ (∀ j, e ≤ j → j < e + k → m1 25 0 j = m 41 0 (4 * j) ∧ m1 26 0 j = m 41 0 (4 * j + 1) ∧ m1 27 0 j = m 41 0 (4 * j + 2) ∧ m1 28 0 j = m 41 0 (4 * j + 3)) ∧ (∀ t i j, ¬ (25 ≤ t ∧ t ≤ 28 ∧ e ≤ j) → ¬ (t = 24 ∧ j = 0) → m1 t i j = m t i j) := by
  intro k
  induction k with
  | zero => intro e m _ he; exact ⟨m, rfl, rfl, he, fun j h1 h2 => by omega, fun _ _ _ _ _ => rfl⟩
  | succ k ih =>
    intro e m hk he
    have fF : ∀ t i j, ¬ (25 ≤ t ∧ t ≤ 28 ∧ i = 0 ∧ j = e) → ¬ (t = 24 ∧ j = 0) → S_X7_firstOne m (m 41 0 (4 * e)) (m 41 0 ((4 * e) + 1)) (m 41 0 ((4 * e) + 2)) (m 41 0 ((4 * e) + 3)) e t i j = m t i j := fun t i j h1 h2 => by
      unfold S_X7_firstOne
      rw [x_up_k (by omega), x_up_k (by omega), x_up_k (by omega), x_up_k (by omega), x_up_k (by omega)]
    have fv : S_X7_firstOne m (m 41 0 (4 * e)) (m 41 0 ((4 * e) + 1)) (m 41 0 ((4 * e) + 2)) (m 41 0 ((4 * e) + 3)) e 25 0 e = m 41 0 (4 * e) ∧ S_X7_firstOne m (m 41 0 (4 * e)) (m 41 0 ((4 * e) + 1)) (m 41 0 ((4 * e) + 2)) (m 41 0 ((4 * e) + 3)) e 26 0 e = m 41 0 (4 * e + 1) ∧ S_X7_firstOne m (m 41 0 (4 * e)) (m 41 0 ((4 * e) + 1)) (m 41 0 ((4 * e) + 2)) (m 41 0 ((4 * e) + 3)) e 27 0 e = m 41 0 (4 * e + 2) ∧ S_X7_firstOne m (m 41 0 (4 * e)) (m 41 0 ((4 * e) + 1)) (m 41 0 ((4 * e) + 2)) (m 41 0 ((4 * e) + 3)) e 28 0 e = m 41 0 (4 * e + 3) := by
      unfold S_X7_firstOne
      simp [x_up]
    have f0 : S_X7_firstOne m (m 41 0 (4 * e)) (m 41 0 ((4 * e) + 1)) (m 41 0 ((4 * e) + 2)) (m 41 0 ((4 * e) + 3)) e 24 0 0 = ((e + 1 : Nat) : Int) := by
      unfold S_X7_firstOne
      rw [x_up_y rfl, x_up_k (by omega), x_up_k (by omega), x_up_k (by omega), x_up_k (by omega), he]; omega
    obtain ⟨m1, i1, i2, i3, i4, i5⟩ := ih (e + 1) _ (by omega) f0
    refine ⟨m1, i1, i2, by rw [i3]; omega, fun j h1 h2 => ?_, fun t i j h1 h2 => by rw [i5 t i j (by omega) h2, fF _ _ _ (by omega) h2]⟩
    by_cases c : j = e
    · subst c
      rw [i5 25 0 j (by omega) (by omega), i5 26 0 j (by omega) (by omega), i5 27 0 j (by omega) (by omega), i5 28 0 j (by omega) (by omega)]
      exact fv
    · have := i4 j (by omega) (by omega)
      rw [fF 41 0 _ (by omega) (by omega), fF 41 0 _ (by omega) (by omega), fF 41 0 _ (by omega) (by omega), fF 41 0 _ (by omega) (by omega)] at this
      exact this
theorem m_lay {K u τ v τ1 z w : Nat} {σ : xMi} (h : Rl K u τ v τ1 z w σ σ) : V_X6_lay σ = V_X7_lay (S_X6_lay σ) ∧ RR (S_X7_lay (S_X6_lay σ)) := by
  have hs := readInto_s σ
  have hMl : eM σ (S_X6_lay σ) := by
    intro t i k ht
    have e1 : ∀ s : xMi, S_X6_startFromDraft s t i k = s t i k := fun s => by
      unfold S_X6_startFromDraft
      rw [x_up_k (by omega), x_up_k (by omega), x_up_k (by omega), fr_S_X0_start _ _ (by omega), fr_S_X3_copyFrom _ _ _ (by omega)]
    unfold S_X6_lay
    (repeat' split) <;> first | exact hs.2 t i k ht | (rw [e1]; exact hs.2 t i k ht)
  have hr := read_all h hMl
  have hr0 := read_all h hs.2
  have wv : x_wr (V_X5_readInto σ 1) = V_X5_readInto σ 1 := by rw [hr.1]; exact x_wrs (by omega) (by omega)
  by_cases c : V_X5_readInto σ 1 = -4
  · obtain ⟨r, hd⟩ := hr.2.1 (hr.1.symm.trans c)
    have c1 : x_wr (V_X5_readInto σ 1) = x_wr (-4) := by rw [wv, xwm4]; exact c
    have c7 : x_wr (V_X7_fault (S_X6_lay σ)) = x_wr (-4) := by rw [← hr.1]; exact c1
    have wr : x_wr (S_X5_readInto σ 1 5 1 4) = (r : Int) := by rw [hd.2.1]; exact x_nat (by have := hd.1; omega)
    have wr7 : x_wr (S_X7_fault (S_X6_lay σ) 24 0 24) = (r : Int) := by rw [hd.2.2.1]; exact x_nat (by have := hd.1; omega)
    by_cases d : r = 0
    · have d1 : (r : Int) = 0 := by omega
      have eS : S_X6_lay σ = S_X5_readInto σ 1 := by unfold S_X6_lay; rw [if_pos c1, wr, if_pos d1]
      unfold V_X6_lay V_X7_lay S_X7_lay
      rw [if_pos c1, wr, if_pos d1, if_pos c7, if_pos c7, wr7, if_pos d1, if_pos d1]
      rw [eS]
      exact ⟨rfl, (m_fault h).2⟩
    · have d1 : ¬ (r : Int) = 0 := by omega
      have hd6 := hd.1
      have eS : S_X6_lay σ = S_X6_startFromDraft (S_X5_readInto σ 1) := by unfold S_X6_lay; rw [if_pos c1, wr, if_neg d1]
      have e24 : (S_X7_fault (S_X6_lay σ) 24 0 24).toNat = r := by rw [hd.2.2.1]; rfl
      unfold V_X6_lay V_X7_lay S_X7_lay
      rw [if_pos c1, wr, if_neg d1, if_pos c7, if_pos c7, wr7, if_neg d1, if_neg d1, e24]
      obtain ⟨m1, l1, l2, l3, l4, l5⟩ := lay_26 r 0 (x_up (S_X7_fault (S_X6_lay σ)) 24 0 0 0) (by omega) (by rw [x_up_y rfl]; rfl)
      rw [l1, l2]
      rw [Nat.zero_add] at l3
      have hf := fault_R (S_X6_lay σ)
      have f41 : ∀ j, x_up (S_X7_fault (S_X6_lay σ)) 24 0 0 0 41 0 j = S_X7_fault (S_X6_lay σ) 41 0 j := fun j => x_up_k (by omega)
      have m125 : m1 24 0 25 = S_X7_fault (S_X6_lay σ) 24 0 25 := by rw [l5 _ _ _ (by omega) (by omega), x_up_k (by omega)]
      have g1 : ∀ t i j, ¬ (25 ≤ t ∧ t ≤ 28) → ¬ (t = 24 ∧ j = 0) → t ≠ 41 → ¬ (t = 24 ∧ (j = 23 ∨ j = 24 ∨ j = 25 ∨ j = 27)) → m1 t i j = S_X6_lay σ t i j := fun t i j y1 y2 y3 y4 => by rw [l5 _ _ _ (by omega) y2, x_up_k (by omega), fr_S_X7_fault _ (by omega)]
      generalize hE : x_up (x_up (x_up (S_X7_begin m1 (m1 24 0 25)) 24 0 17 0) 24 0 29 0) 24 0 35 0 = E at *
      have gE : ∀ t i j, ¬ ((t = 24 ∧ 5 ≤ j ∧ j ≤ 8) ∨ (29 ≤ t ∧ t ≤ 36)) → ¬ (t = 24 ∧ (j = 17 ∨ j = 29 ∨ j = 35)) → E t i j = m1 t i j := fun t i j y1 y2 => by rw [← hE, x_up_k (by omega), x_up_k (by omega), x_up_k (by omega), fr_S_X7_begin _ _ y1]
      have hAE : rA E = aBeg (m1 24 0 25) := by
        rw [← rA_begin m1 (m1 24 0 25), ← hE]
        funext j q; unfold rA
        split
        · rw [x_up_k (by omega), x_up_k (by omega), x_up_k (by omega)]
        · split
          · rw [x_up_k (by omega), x_up_k (by omega), x_up_k (by omega)]
          · rfl
      have e00 : E 24 0 0 = (r : Int) := by rw [gE _ _ _ (by omega) (by omega)]; exact l3
      have eF : ∀ j, j < r → (rF E 0 j = S_X7_fault (S_X6_lay σ) 41 0 (4 * j) ∧ rF E 1 j = S_X7_fault (S_X6_lay σ) 41 0 (4 * j + 1) ∧ rF E 2 j = S_X7_fault (S_X6_lay σ) 41 0 (4 * j + 2) ∧ rF E 3 j = S_X7_fault (S_X6_lay σ) 41 0 (4 * j + 3)) := fun j hj => by
        have q := l4 j (by omega) (by omega)
        rw [f41, f41, f41, f41] at q
        show E 25 0 j = _ ∧ E 26 0 j = _ ∧ E 27 0 j = _ ∧ E 28 0 j = _
        rw [gE _ _ _ (by omega) (by omega), gE _ _ _ (by omega) (by omega), gE _ _ _ (by omega) (by omega), gE _ _ _ (by omega) (by omega)]
        exact q
      have hFE : aF r (rF E) := fun j hj => by
        have q := eF j hj
        have b := (hd.2.2.2.2.2 j hj).2
        rw [q.1, q.2.1, q.2.2.1, q.2.2.2]
        exact b
      obtain ⟨hk, hg0, hU, hV, hZ, hT, hO⟩ := id h
      have c0 : cR 0 (S_X3_copyFrom (S_X5_readInto σ 1) 0 1) r (rF E) := roll_copy hd6 (by omega) (fun j hj => by
        have q := eF j hj
        have b := (hd.2.2.2.2.2 j hj).1
        rw [q.1, q.2.1, q.2.2.1, q.2.2.2]
        exact b)
      have sz : S_X3_copyFrom (S_X5_readInto σ 1) 0 1 5 0 4 = (r : Int) ∧ S_X3_copyFrom (S_X5_readInto σ 1) 0 1 5 0 5 = m1 24 0 25 := by
        rw [m125, ← hd.2.2.2.1, ← hd.2.1]
        simp [S_X3_copyFrom, T_X3_copyFrom_1, x_up, x_cp]
      have fS : ∀ t i k, ¬ (t ≤ 4 ∧ i = 0) → ¬ (5 ≤ t ∧ t ≤ 9 ∧ i = 0) → ¬ (t = 15 ∧ i = 0 ∧ k = 3) → ¬ (t = 13 ∧ k = 1) → S_X6_startFromDraft (S_X5_readInto σ 1) t i k = S_X5_readInto σ 1 t i k := fun t i k y1 y2 y3 y4 => by
        unfold S_X6_startFromDraft
        rw [x_up_k (by omega), x_up_k (by omega), x_up_k (by omega), fr_S_X0_start _ _ (by omega), fr_S_X3_copyFrom _ _ _ (by omega)]
      have fS5 : ∀ t k, 5 ≤ t → t ≤ 9 → S_X6_startFromDraft (S_X5_readInto σ 1) t 0 k = S_X3_copyFrom (S_X5_readInto σ 1) 0 1 t 0 k := fun t k y1 y2 => by
        unfold S_X6_startFromDraft
        rw [x_up_k (by omega), x_up_k (by omega), x_up_k (by omega), fr_S_X0_start _ _ (by omega)]
      have h13 : S_X6_startFromDraft (S_X5_readInto σ 1) 13 0 1 = 0 ∧ S_X6_startFromDraft (S_X5_readInto σ 1) 13 1 1 = 0 ∧ S_X6_startFromDraft (S_X5_readInto σ 1) 15 0 3 = 0 := by
        unfold S_X6_startFromDraft
        simp [x_up]
      have hcS : cF 0 (S_X6_startFromDraft (S_X5_readInto σ 1)) r (aBeg (m1 24 0 25)) := by
        have := cF_start (s := S_X3_copyFrom (S_X5_readInto σ 1) 0 1) hd6
        rw [sz.2] at this
        refine this.same (fun t ht k => ?_)
        unfold S_X6_startFromDraft
        rw [x_up_k (by omega), x_up_k (by omega), x_up_k (by omega)]
      have hst : 0 ≤ m1 24 0 25 ∧ m1 24 0 25 ≤ 20 := by rw [m125]; exact hd.2.2.2.2.1
      have gS' : ∀ t i j, 24 ≤ t → S_X6_lay σ t i j = σ t i j := hMl
      refine ⟨by rw [fS5 _ _ (by omega) (by omega), sz.1, e00], r, 0, τ, 0, τ1, 0, w, Rl.done (s' := S_X6_startFromDraft (S_X5_readInto σ 1)) ?_ (fun t i j ht => by rw [gE _ _ _ (by omega) (by omega), g1 _ _ _ (by omega) (by omega) (by omega) (by omega), eS])⟩
      refine ⟨⟨by omega, hd6, by rw [fS5 _ _ (by omega) (by omega)]; exact sz.1, e00, c0.same (fun t y1 y2 k => fS5 _ _ (by omega) (by omega)), hFE⟩, by rw [hAE]; exact ⟨hcS, aBeg_W hd6 hst, aBeg_N hFE⟩, ⟨by omega, hU.2.1, h13.1, by rw [fS _ _ _ (by omega) (by omega) (by omega) (by omega), fr_S_X5_readInto _ _ (by omega)]; exact hU.2.2.2.1, by rw [← hE, x_up_k (by omega), x_up_y rfl]; rfl, fun i hi => by omega⟩, ⟨by omega, hV.2.1, h13.2.1, by rw [fS _ _ _ (by omega) (by omega) (by omega) (by omega), fr_S_X5_readInto _ _ (by omega)]; exact hV.2.2.2.1, by rw [← hE, x_up_y rfl]; rfl, fun i hi => by omega⟩, ⟨by omega, h13.2.2, by rw [← hE, x_up_k (by omega), x_up_k (by omega), x_up_y rfl]; rfl, fun k hk => by omega, fun k => ?_, fun k => ?_, fun k => ?_⟩, hT.c (fun t k y => ?_) ?_ (fun k => ?_), hO.c (fun k => ?_)⟩
      · rw [fS _ _ _ (by omega) (by omega) (by omega) (by omega), fr_S_X5_readInto _ _ (by omega)]; exact hZ.2.2.2.2.1 k
      · rw [fS _ _ _ (by omega) (by omega) (by omega) (by omega), fr_S_X5_readInto _ _ (by omega)]; exact hZ.2.2.2.2.2.1 k
      · rw [gE _ _ _ (by omega) (by omega), g1 _ _ _ (by omega) (by omega) (by omega) (by omega), gS' _ _ _ (by omega)]; exact hZ.2.2.2.2.2.2 k
      · rw [fS _ _ _ (by omega) (by omega) (by omega) (by omega), fr_S_X5_readInto _ _ (by omega)]
      · rw [gE _ _ _ (by omega) (by omega), g1 _ _ _ (by omega) (by omega) (by omega) (by omega), gS' _ _ _ (by omega)]
      · rw [gE _ _ _ (by omega) (by omega), g1 _ _ _ (by omega) (by omega) (by omega) (by omega), gS' _ _ _ (by omega)]
      · rw [gE _ _ _ (by omega) (by omega), g1 _ _ _ (by omega) (by omega) (by omega) (by omega), gS' _ _ _ (by omega)]
  · have c1 : ¬ x_wr (V_X5_readInto σ 1) = x_wr (-4) := by rw [wv, xwm4]; exact c
    have c7 : ¬ x_wr (V_X7_fault (S_X6_lay σ)) = x_wr (-4) := by rw [← hr.1]; exact c1
    have eS : S_X6_lay σ = S_X5_readInto σ 1 := by unfold S_X6_lay; rw [if_neg c1]
    unfold V_X6_lay V_X7_lay S_X7_lay
    rw [if_neg c1, if_neg c7, if_neg c7]
    rw [eS]
    exact ⟨rfl, (m_fault h).2⟩
