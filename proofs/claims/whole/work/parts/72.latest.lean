def bk (m m' : xMi) : Prop := sR m m' ∧ (∀ t i k, t ≠ 43 → ¬ ((t = 24 ∧ 5 ≤ k ∧ k ≤ 8) ∨ (29 ≤ t ∧ t ≤ 36)) → m' t i k = m t i k)
theorem bk.rf (m : xMi) : bk m m := ⟨sR.rf m, fun _ _ _ _ _ => rfl⟩
theorem bk.tr {m m' m2 : xMi} (h : bk m m') (h2 : bk m' m2) : bk m m2 := ⟨h.1.tr h2.1, fun t i k a b => (h2.2 t i k a b).trans (h.2 t i k a b)⟩
theorem bk.of {m mX : xMi} (h : sG (S_X7_start m) mX) : bk m (S_X7_putBack mX) := back_all h
theorem Rl.bk {K u τ v τ1 z w : Nat} {σ s' m' : xMi} (h : Rl K u τ v τ1 z w σ σ) (hM : eM σ s') (hC : sC σ s') (hX : bk s' m') : RR m' := by
  have h' := (h.begun hM).scr hC (sR.rf _) (hM.O h.2.2.2.2.2.2)
  have hR := h'.scr (sC.rf _) hX.1 (h'.2.2.2.2.2.2.c (fun k => hX.2 _ _ _ (by omega) (by omega)))
  exact ⟨_, _, _, _, _, _, _, hR.done (fun t i k ht => hX.2 _ _ _ (by omega) (by omega))⟩
theorem told_P {F : aS} {b : Int} {K q : Nat} {D : Int} {a : aS} (hW : aW K D a) (hq : q < K) (h : a 3 q ≠ -4) : aP F b K a 3 q ≠ -4 ∧ aP F b K a 4 q = a 4 q := by
  obtain ⟨st, hr⟩ := aP_row (F := F) (b := b) hq a
  have e3 : rIn (F 0 q) (a 8 0) b st (fun i => a i q) 3 = a 3 q := by
    unfold rIn; split
    · unfold rCome; split <;> simp
    · rfl
  have e4 : rIn (F 0 q) (a 8 0) b st (fun i => a i q) 4 = a 4 q := by
    unfold rIn; split
    · unfold rCome; split <;> simp
    · rfl
  rw [hr 3 (by omega), hr 4 (by omega)]
  unfold rTell
  rw [e3, e4]
  simp [h]
theorem told_Ps {F : aS} {K q : Nat} (hq : q < K) : ∀ (n : Nat) (D : Int) (a : aS), aW K D a → a 3 q ≠ -4 → aPs F K n a 3 q ≠ -4 := by
  intro n
  induction n with
  | zero => intro D a _ h; exact h
  | succ n ih => intro D a hW h; exact ih (D + 1) _ (aP_W hW) (told_P hW hq h).1
/-- one that was sent none: nothing happens but that the news comes -/
theorem open_P {F : aS} {K q : Nat} {D : Int} {a : aS} (hW : aW K D a) (hq : q < K) (h7 : a 7 q = 0) (h3 : a 3 q = -4) : (aP F 0 K a 7 q = 0 ∧ aP F 0 K a 6 q = a 6 q) ∧ (a 8 0 < F 2 q → aP F 0 K a 3 q = -4) ∧ (F 2 q ≤ a 8 0 → aP F 0 K a 3 q ≠ -4) := by
  obtain ⟨st, hr⟩ := aP_row (F := F) (b := 0) hq a
  have hrow := hW.row hq
  have hd := hW.1
  have e : rIn (F 0 q) (a 8 0) 0 st (fun i => a i q) = fun i => a i q := by
    unfold rIn; rw [if_neg]; intro z; have := z.2.1; simp at this; omega
  rw [hr 7 (by omega), hr 6 (by omega), hr 3 (by omega), e]
  unfold rTell
  simp [h7]
  refine ⟨fun h => ?_, fun h => ?_⟩
  · rw [if_neg (fun z => by omega)]; exact h3
  · rw [if_pos ⟨h, h3, by omega⟩]; omega
theorem open_Ps {F : aS} {K q : Nat} (hq : q < K) : ∀ (n : Nat) (D : Int) (a : aS), aW K D a → aN F K a → a 7 q = 0 → a 3 q = -4 → (a 8 0 + n ≤ F 2 q → aPs F K n a 7 q = 0 ∧ aPs F K n a 6 q = a 6 q ∧ aPs F K n a 3 q = -4) ∧ (F 2 q < a 8 0 + n → aPs F K n a 3 q ≠ -4) := by
  intro n
  induction n with
  | zero =>
    intro D a hW hN h7 h3
    have hrow := hW.row hq
    have := hN q hq h3 (by show a 5 q = 0; omega)
    exact ⟨fun _ => ⟨h7, rfl, h3⟩, fun z => by simp at z; omega⟩
  | succ n ih =>
    intro D a hW hN h7 h3
    have hrow := hW.row hq
    have hnw := hN q hq h3 (by show a 5 q = 0; omega)
    have hP := open_P (F := F) hW hq h7 h3
    have hd := (aP_g F 0 K a).1
    by_cases c : a 8 0 < F 2 q
    · have ih' := ih (D + 1) (aP F 0 K a) (aP_W hW) (aN_P hW) hP.1.1 (hP.2.1 c)
      rw [hd] at ih'
      unfold aPs
      refine ⟨fun z => ?_, fun z => ih'.2 (by omega)⟩
      have := ih'.1 (by omega)
      exact ⟨this.1, this.2.1.trans hP.1.2, this.2.2⟩
    · refine ⟨fun z => by omega, fun z => ?_⟩
      unfold aPs
      exact told_Ps hq n (D + 1) _ (aP_W hW) (hP.2.2 (by omega))
theorem softBy {K p n : Nat} {D : Int} {m : xMi} (hK : K ≤ 6) (hD : D + 60 ≤ 100000) (hF : aF K (rF m)) (hW : aW K D (rA m)) (hN : aN (rF m) K (rA m)) (hp : p < K) (ho : aOpen (rA m) p) (hn : n ≤ 40) : (V_X7_isSoftBy m p n K = if (n : Int) ≤ aSp (rF m) (rA m) p then 1 else 0) ∧ bk m (S_X7_isSoftBy m p n K) := by
  unfold V_X7_isSoftBy S_X7_isSoftBy
  have hA := st_A m
  have hG := rA_goesOn (m := S_X7_start m) (n := n) (D := D) hK (by omega) (by rw [hA.2]; exact hF) (by rw [hA.1]; exact hW)
  rw [hA.1, hA.2] at hG
  have hgF : rF (S_X7_goesOn (S_X7_start m) n K) = rF m := (sM_goesOn _ _ _).F.trans hA.2
  have sg := sG_goesOn (S_X7_start m) n K
  generalize S_X7_goesOn (S_X7_start m) n K = G at *
  have hWa := aPs_W (F := rF m) (K := K) n D (rA m) hW
  have hO := open_Ps (F := rF m) hp n D (rA m) hW hN ho.1 ho.2
  have hday := aPs_day (F := rF m) (K := K) n (rA m)
  have i3 : G 32 0 p = aPs (rF m) K n (rA m) 3 p := by rw [← hG.1]; exact (rA_at G (j := 3) (by omega) (by omega)).symm
  have hrow := hWa.row hp
  have hd := hW.1
  have hfp := hF p hp
  have e3 : x_wr (G 32 0 p) = aPs (rF m) K n (rA m) 3 p := by rw [i3]; exact x_wrs (by omega) (by omega)
  rw [e3, xwm4, xw0, xw1]
  by_cases c : rA m 8 0 + n ≤ rF m 2 p
  · obtain ⟨o7, o6, o3⟩ := hO.1 c
    have h10 : ¬ (1 : Int) = 0 := by decide
    rw [if_pos o3, if_pos o3, if_neg h10, if_neg h10]
    have hml : 0 ≤ G 26 0 p ∧ G 26 0 p ≤ 40 := by
      have e : rF G 1 p = rF m 1 p := by rw [hgF]
      rw [← e] at hfp; exact hfp.2.1
    have hOut := rA_goesOut (m := G) (p := p) (by omega) hml
    rw [hgF, hG.1] at hOut
    have hW2 : aW K (D + n) (aOut (rF m) (aPs (rF m) K n (rA m)) p) := aOut_W hF hWa hp o7
    have hoF : rF (S_X7_goesOut G p) = rF m := (sM_goesOut _ _).F.trans hgF
    have hG2 := rA_goesOn (m := S_X7_goesOut G p) (n := 60 - n) (D := D + n) hK (by omega) (by rw [hoF]; exact hF) (by rw [hOut]; exact hW2)
    rw [hOut, hoF] at hG2
    have sg2 := (sg.tr (sG_goesOut G p)).tr (sG_goesOn (S_X7_goesOut G p) (60 - n) K)
    generalize S_X7_goesOn (S_X7_goesOut G p) (60 - n) K = H at *
    have hN2 : aN (rF m) K (aOut (rF m) (aPs (rF m) K n (rA m)) p) := (aN_send (aN_Ps n D _ hW hN)).2
    have i4 : H 33 0 p = aPs (rF m) K (60 - n) (aOut (rF m) (aPs (rF m) K n (rA m)) p) 4 p := by rw [← hG2.1]; exact (rA_at H (j := 4) (by omega) (by omega)).symm
    have hW3 := aPs_W (F := rF m) (K := K) (60 - n) (D + n) _ hW2
    have hrow3 := hW3.row hp
    have e4 : x_wr (H 33 0 p) = aPs (rF m) K (60 - n) (aOut (rF m) (aPs (rF m) K n (rA m)) p) 4 p := by rw [i4]; exact x_wrs (by omega) (by omega)
    rw [e4]
    have r0 : aOut (rF m) (aPs (rF m) K n (rA m)) p 0 p = 1 := by unfold aOut rOut; simp
    have r1 : aOut (rF m) (aPs (rF m) K n (rA m)) p 1 p = rA m 8 0 + n + rF m 1 p / 10 + 1 := by unfold aOut rOut; simp [hday]
    have r2 : aOut (rF m) (aPs (rF m) K n (rA m)) p 2 p = aPs (rF m) K n (rA m) 2 p := by unfold aOut rOut; simp
    have r3 : aOut (rF m) (aPs (rF m) K n (rA m)) p 3 p = -4 := by unfold aOut rOut; simp [o3]
    have r5 : aOut (rF m) (aPs (rF m) K n (rA m)) p 5 p = aPs (rF m) K n (rA m) 5 p := by unfold aOut rOut; simp
    have r6 : aOut (rF m) (aPs (rF m) K n (rA m)) p 6 p = rA m 6 p := by unfold aOut rOut; simp [o6]
    have r8 : aOut (rF m) (aPs (rF m) K n (rA m)) p 8 0 = rA m 8 0 + n := by unfold aOut; simp [hday]
    have hB : aB (rF m) (aOut (rF m) (aPs (rF m) K n (rA m)) p) p ((60 - n : Nat) : Int) := by
      unfold aB rB rRf
      right
      dsimp only
      simp only [r0, r1, r2, r6, r8]
      split <;> omega
    have hT := aB_Ps hp (60 - n) (D + n) _ hW2 hB
    have hS : aPs (rF m) K (60 - n) (aOut (rF m) (aPs (rF m) K n (rA m)) p) 4 p = 1 ↔ aES (rF m) (aOut (rF m) (aPs (rF m) K n (rA m)) p) p :=
      (rES_told (kd := rF m 0 p) (nw := rF m 2 p) (d := aPs (rF m) K (60 - n) (aOut (rF m) (aPs (rF m) K n (rA m)) p) 8 0) (r := fun i => aPs (rF m) K (60 - n) (aOut (rF m) (aPs (rF m) K n (rA m)) p) i p) hT).symm.trans (aES_Ps hp (60 - n) (D + n) _ hW2 hN2)
    have hE : aES (rF m) (aOut (rF m) (aPs (rF m) K n (rA m)) p) p ↔ (n : Int) ≤ aSp (rF m) (rA m) p := by
      have h5 : aOut (rF m) (aPs (rF m) K n (rA m)) p 5 p = 0 := by rw [r5]; omega
      unfold aES rES rRf aSp
      by_cases hc : rF m 0 p = 3 ∧ rA m 6 p = 0
      · have hc' : rF m 0 p = 3 ∧ (fun i => aOut (rF m) (aPs (rF m) K n (rA m)) p i p) 6 = 0 := ⟨hc.1, by show aOut (rF m) (aPs (rF m) K n (rA m)) p 6 p = 0; rw [r6]; exact hc.2⟩
        rw [if_pos hc', if_pos hc]
        dsimp only
        rw [r0, r1, r3, h5, r8]
        constructor
        · rintro (z | ⟨-, z | z⟩)
          · exact absurd rfl z.1
          · omega
          · omega
        · intro z
          exact Or.inr ⟨rfl, Or.inr ⟨by omega, by omega, by omega⟩⟩
      · have hc' : ¬ (rF m 0 p = 3 ∧ (fun i => aOut (rF m) (aPs (rF m) K n (rA m)) p i p) 6 = 0) := fun y => hc ⟨y.1, by have := y.2; dsimp only at this; rw [r6] at this; exact this⟩
        rw [if_neg hc', if_neg hc]
        dsimp only
        rw [r0, r1, r3, h5, r8]
        constructor
        · rintro (z | ⟨-, z | z⟩)
          · exact absurd rfl z.1
          · omega
          · omega
        · intro z
          exact Or.inr ⟨rfl, Or.inr ⟨by omega, by omega, by omega⟩⟩
    refine ⟨?_, by split <;> exact bk.of sg2⟩
    by_cases d : (n : Int) ≤ aSp (rF m) (rA m) p
    · rw [if_pos d, if_pos (hS.mpr (hE.mpr d))]
    · rw [if_neg d, if_neg (fun z => d (hE.mp (hS.mp z)))]
  · have o3 := hO.2 (by omega)
    rw [if_neg o3, if_neg o3, if_pos rfl, if_pos rfl]
    refine ⟨?_, bk.of sg⟩
    rw [if_neg]
    intro z
    have h1 : aSp (rF m) (rA m) p ≤ rF m 2 p - rA m 8 0 - 1 := by
      unfold aSp
      split <;> omega
    omega
theorem latest_loop {K : Nat} {p1 : Int} {D : Int} (hK : K ≤ 6) (hD : D + 60 ≤ 100000) (hp : p1.toNat < K) : ∀ (k : Nat) (m : xMi), k ≤ 41 → aF K (rF m) → aW K D (rA m) → aN (rF m) K (rA m) → aOpen (rA m) p1.toNat → aSp (rF m) (rA m) p1.toNat < k → (RV_X7_latest_24 p1 K k m = if aSp (rF m) (rA m) p1.toNat < 0 then -4 else aSp (rF m) (rA m) p1.toNat) ∧ bk m (RS_X7_latest_24 p1 K k m) := by
  intro k
  induction k with
  | zero =>
    intro m _ _ _ _ _ hs
    unfold RV_X7_latest_24 RS_X7_latest_24
    have hneg : ¬ (0 : Int) ≤ -1 := by decide
    have hs0 : aSp (rF m) (rA m) p1.toNat < 0 := by simpa using hs
    rw [xwm1, if_neg hneg, if_neg hneg, if_pos hs0]
    exact ⟨rfl, bk.rf m⟩
  | succ k ih =>
    intro m hk hF hW hN hO hs
    obtain ⟨s1, s2⟩ := softBy (n := k) hK hD hF hW hN hp hO (by omega)
    unfold RV_X7_latest_24 RS_X7_latest_24
    rw [s1]
    by_cases c : (k : Int) ≤ aSp (rF m) (rA m) p1.toNat
    · have e : x_wr (if (k : Int) ≤ aSp (rF m) (rA m) p1.toNat then 1 else 0) ≠ 0 := fun z => i01.mp z c
      have k0 : (0 : Int) ≤ (k : Int) := by omega
      have k1 : ¬ aSp (rF m) (rA m) p1.toNat < 0 := by omega
      rw [if_neg e, if_neg e, x_wrs (a := (k : Int)) (by omega) (by omega), if_pos k0, if_pos k0, if_neg k1]
      exact ⟨by omega, s2⟩
    · have e : x_wr (if (k : Int) ≤ aSp (rF m) (rA m) p1.toNat then 1 else 0) = 0 := i01.mpr c
      rw [if_pos e, if_pos e]
      have hA := s2.1
      have ih' := ih (S_X7_isSoftBy m p1.toNat k K) (by omega) (by rw [hA.2.1]; exact hF) (by rw [hA.1]; exact hW) (by rw [hA.1, hA.2.1]; exact hN) (by rw [hA.1]; exact hO) (by rw [hA.1, hA.2.1]; omega)
      rw [hA.1, hA.2.1] at ih'
      exact ⟨ih'.1, s2.tr ih'.2⟩
theorem m_latest {K u τ v τ1 z w : Nat} {σ : xMi} (h : Rl K u τ v τ1 z w σ σ) {p1 : Int} (hw : x_wr p1 = p1) : V_X6_latest σ p1 K = V_X7_latest σ p1 K ∧ RR (S_X7_latest σ p1 K) := by
  obtain ⟨hk, hg0, hU, hV, hZ, hT, hO⟩ := id h
  have hK := hk.2.1
  have e1 := v_isPerson (σ := σ) hw hK hk.2.2.1
  have e3 := v_isOne (σ := σ) hw hK hk.2.2.2.1
  unfold V_X6_latest V_X7_latest S_X7_latest
  rw [e1, e3]
  by_cases c : 0 ≤ p1 ∧ p1 < K
  · have hp : p1.toNat < K := by omega
    have n1 : ¬ x_wr (if 0 ≤ p1 ∧ p1 < (K : Int) then 1 else 0) = 0 := fun z => i01.mp z c
    rw [if_neg n1, if_neg n1, if_neg n1, c_canBeSentOne hK (by decide) hg0.1 hg0.2.1 hp, rA_isOpen hK (by decide) hg0.2.1 hp]
    by_cases d : aOpen (rA σ) p1.toNat
    · have n2 : ¬ x_wr (if aOpen (rA σ) p1.toNat then 1 else 0) = 0 := fun z => i01.mp z d
      rw [if_neg n2, if_neg n2, if_neg n2]
      have hs := c_spareDays (F := rF σ) hK hg0.1 hk.2.2.2.2.1 hk.2.2.2.2.2 hg0.2.1 hp
      have hd := hg0.2.1.1
      have hfp := hk.2.2.2.2.2 _ hp
      have b : -1010 ≤ aSp (rF σ) (rA σ) p1.toNat ∧ aSp (rF σ) (rA σ) p1.toNat < 41 := by unfold aSp; split <;> omega
      obtain ⟨l1, l2⟩ := latest_loop (p1 := p1) (D := 999) hK (by decide) hp 41 σ (by omega) hk.2.2.2.2.2 hg0.2.1 hg0.2.2 d (by omega)
      have hs' : V_X0_spareDays σ 0 p1.toNat = aSp (rF σ) (rA σ) p1.toNat := hs
      rw [l1, hs']
      refine ⟨?_, h.bk (s' := σ) (fun _ _ _ _ => rfl) (sC.rf σ) l2⟩
      clear hs hs' l1
      generalize aSp (rF σ) (rA σ) p1.toNat = q at b ⊢
      rw [x_wrs (a := q) (by omega) (by omega)]
      by_cases e : q < 0
      · rw [if_neg (by omega), if_pos e]
      · rw [if_pos (by omega), if_neg e]
    · have n2 : x_wr (if aOpen (rA σ) p1.toNat then 1 else 0) = 0 := i01.mpr d
      rw [if_pos n2, if_pos n2, if_pos n2]
      exact ⟨rfl, _, _, _, _, _, _, _, h⟩
  · have n1 : x_wr (if 0 ≤ p1 ∧ p1 < (K : Int) then 1 else 0) = 0 := i01.mpr c
    rw [if_pos n1, if_pos n1, if_pos n1]
    exact ⟨rfl, _, _, _, _, _, _, _, h⟩
