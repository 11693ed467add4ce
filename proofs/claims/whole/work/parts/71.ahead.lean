def sG (m m' : xMi) : Prop := ∀ t i k, ¬ ((t = 24 ∧ 5 ≤ k ∧ k ≤ 8) ∨ (29 ≤ t ∧ t ≤ 36)) → m' t i k = m t i k
theorem sG.rf (m : xMi) : sG m m := fun _ _ _ _ => rfl
theorem sG.tr {m m' m2 : xMi} (h : sG m m') (h2 : sG m' m2) : sG m m2 := fun _ _ _ z => (h2 _ _ _ z).trans (h _ _ _ z)
theorem sG.M {m m' : xMi} (h : sG m m') : sM m m' := fun t k z => h t 0 k z
theorem sG_passes (m : xMi) (b : Int) (K : Nat) : sG m (S_X7_passes m b K) := fun _ _ _ h => fr_S_X7_passes m b K h
theorem sG_goesOn (m : xMi) (n K : Nat) : sG m (S_X7_goesOn m n K) := fun _ _ _ h => fr_S_X7_goesOn m n K h
theorem sG_goesOut (m : xMi) (p : Nat) : sG m (S_X7_goesOut m p) := fun _ _ _ h => fr_S_X7_goesOut m p h
theorem sG_sends (m : xMi) (p : Nat) : sG m (S_X7_sends m p) := fun _ _ _ h => fr_S_X7_sends m p h
theorem sG_calls (m : xMi) (p : Nat) : sG m (S_X7_calls m p) := fun _ _ _ h => fr_S_X7_calls m p h
theorem sG_st (m : xMi) (h : Int) : sG m (x_up m 24 0 6 h) := fun t i k z => x_up_k (by omega)
theorem st_A (m : xMi) : rA (S_X7_start m) = rA m ∧ rF (S_X7_start m) = rF m := by
  constructor
  · funext j q; unfold rA
    split
    · exact fr_S_X7_start m (by omega)
    · split
      · exact fr_S_X7_start m (by omega)
      · rfl
  · funext j q; unfold rF
    split
    · exact fr_S_X7_start m (by omega)
    · rfl
/-- days gone through beside, put back -/
theorem back_all {m mX : xMi} (h : sG (S_X7_start m) mX) : sR m (S_X7_putBack mX) ∧ (∀ t i k, t ≠ 43 → ¬ ((t = 24 ∧ 5 ≤ k ∧ k ≤ 8) ∨ (29 ≤ t ∧ t ≤ 36)) → S_X7_putBack mX t i k = m t i k) := by
  have f : ∀ t i k, t ≠ 43 → ¬ ((t = 24 ∧ 5 ≤ k ∧ k ≤ 8) ∨ (29 ≤ t ∧ t ≤ 36)) → S_X7_putBack mX t i k = m t i k := fun t i k h1 h2 => by rw [fr_S_X7_putBack mX h2, h t i k h2, fr_S_X7_start m h1]
  refine ⟨⟨?_, ?_, f _ _ _ (by omega) (by omega), f _ _ _ (by omega) (by omega), f _ _ _ (by omega) (by omega), f _ _ _ (by omega) (by omega), f _ _ _ (by omega) (by omega), fun t k z => f _ _ _ (by omega) (by omega)⟩, f⟩
  · unfold S_X7_putBack
    rw [tk_43, sA_cong (m := S_X7_start m) (fun k _ _ => h _ _ _ (by omega))]
    exact (ly_43 m 0).1
  · funext j q; unfold rF
    split
    · exact f _ _ _ (by omega) (by omega)
    · rfl
theorem Rl.ahead {K u τ v τ1 z w : Nat} {σ s' mX : xMi} (h : Rl K u τ v τ1 z w σ σ) (hM : eM σ s') (hC : sC σ s') (hX : sG (S_X7_start s') mX) : RR (S_X7_putBack mX) := by
  have h' := (h.begun hM).scr hC (sR.rf _) (hM.O h.2.2.2.2.2.2)
  obtain ⟨b1, b2⟩ := back_all hX
  have hR := h'.scr (sC.rf _) b1 (h'.2.2.2.2.2.2.c (fun k => b2 _ _ _ (by omega) (by omega)))
  exact ⟨_, _, _, _, _, _, _, hR.done (fun t i k ht => b2 _ _ _ (by omega) (by omega))⟩
theorem copy_sC {s : xMi} {f g : Nat} (hf : f = 1 ∨ f = 2 ∨ 13 ≤ f) : sC s (S_X0_copyFrom s f g) := fun t i k a b c d e f' g' => fr_S_X0_copyFrom s f g (by omega)
theorem copy_eM {s : xMi} {f g : Nat} : eM s (S_X0_copyFrom s f g) := fun t i k ht => fr_S_X0_copyFrom s f g (by omega)
theorem eM.tr {m m' m2 : xMi} (h : eM m m') (h2 : eM m' m2) : eM m m2 := fun t i k z => (h2 t i k z).trans (h t i k z)
/-- the fund ahead: as it stands -/
theorem ahead0 {K u τ v τ1 z w : Nat} {σ : xMi} (h : Rl K u τ v τ1 z w σ σ) : cF 1 (S_X0_copyFrom σ 1 0) K (rA σ) ∧ cR 0 (S_X0_copyFrom σ 1 0) K (rF σ) := by
  obtain ⟨hk, hg0, -⟩ := h
  exact ⟨cF_copyFrom hk.2.1 (by omega) hg0.1, hk.2.2.2.2.1.same (fun t h1 h2 k => fr_S_X0_copyFrom σ 1 0 (by omega))⟩
theorem m_behind {K u τ v τ1 z w : Nat} {σ : xMi} (h : Rl K u τ v τ1 z w σ σ) {n1 w1 : Int} (hwn : x_wr n1 = n1) (hw1 : x_wr w1 = w1) : V_X6_behind σ n1 w1 K = V_X7_behind (S_X6_behind σ n1 w1 K) n1 w1 K ∧ RR (S_X7_behind (S_X6_behind σ n1 w1 K) n1 w1 K) := by
  obtain ⟨hk, hg0, hU, hV, hZ, hT, hO⟩ := id h
  have hK := hk.2.1
  by_cases c : (0 ≤ n1 ∧ n1 ≤ 60) ∧ (0 ≤ w1 ∧ w1 ≤ 2)
  · obtain ⟨ca, cb⟩ := c
    have a0 : ¬ n1 < 0 := by omega
    have a1 : ¬ 60 < n1 := by omega
    have a2 : ¬ w1 < 0 := by omega
    have eS : S_X6_behind σ n1 w1 K = S_X0_passDays (S_X0_copyFrom σ 1 0) 1 n1.toNat K := by
      unfold S_X6_behind
      rw [hwn, hw1, xw60, xw2, if_neg a0, if_neg a1, if_neg a2, if_pos cb.2]
      (repeat' split) <;> rfl
    have eV : V_X6_behind σ n1 w1 K = if w1 = 0 then (V_X0_eatingBits (S_X0_passDays (S_X0_copyFrom σ 1 0) 1 (n1.toNat) K) 1 K) else (if w1 = 1 then (V_X0_toldBits (S_X0_passDays (S_X0_copyFrom σ 1 0) 1 (n1.toNat) K) 1 K) else ((S_X0_passDays (S_X0_copyFrom σ 1 0) 1 (n1.toNat) K) 0 1 6)) := by
      unfold V_X6_behind
      rw [hwn, hw1, xw60, xw2, xw1, if_neg a0, if_neg a1, if_neg a2, if_pos cb.2]
    rw [eS, eV]
    obtain ⟨hc, hr⟩ := ahead0 h
    have hC := cF_passDays (f := 1) (n := n1.toNat) hK hk.2.2.2.2.2 n1.toNat 0 (S_X0_copyFrom σ 1 0) (rA σ) 999 (by omega) hc hr hg0.2.1
    have hM : eM σ (S_X0_passDays (S_X0_copyFrom σ 1 0) 1 n1.toNat K) := fun t i k ht => by rw [fr_S_X0_passDays _ _ _ _ (by omega)]; exact copy_eM t i k ht
    have hCC : sC σ (S_X0_passDays (S_X0_copyFrom σ 1 0) 1 n1.toNat K) := (copy_sC (Or.inl rfl)).tr (fun t i k a b c d e f g => fr_S_X0_passDays _ _ _ _ (by omega))
    change cF 1 (S_X0_passDays (S_X0_copyFrom σ 1 0) 1 n1.toNat K) K _ at hC
    generalize S_X0_passDays (S_X0_copyFrom σ 1 0) 1 n1.toNat K = S at *
    have hA : rA (S_X7_start S) = rA σ ∧ rF (S_X7_start S) = rF σ := ⟨(st_A S).1.trans hM.R.1, (st_A S).2.trans hM.R.2.1⟩
    have hWs : aW K 999 (rA (S_X7_start S)) := by rw [hA.1]; exact hg0.2.1
    have hG := rA_goesOn (m := S_X7_start S) (n := n1.toNat) (D := 999) hK (by omega) (by rw [hA.2]; exact hk.2.2.2.2.2) hWs
    rw [hA.1, hA.2] at hG
    have hWa := aPs_W (F := rF σ) (K := K) n1.toNat 999 (rA σ) hg0.2.1
    have b1 : ¬ x_wr (V_X7_in S n1 0 60) = 0 := by rw [v_in hwn (by omega) (by omega), i01]; exact fun z => z ca
    have b2 : ¬ x_wr (V_X7_in S w1 0 2) = 0 := by rw [v_in hw1 (by omega) (by omega), i01]; exact fun z => z cb
    have eV7 : V_X7_behind S n1 w1 K = if w1 = 0 then (V_X7_eatSet (S_X7_goesOn (S_X7_start S) (n1.toNat) K) K) else (if w1 = 1 then (V_X7_toldSet (S_X7_goesOn (S_X7_start S) (n1.toNat) K) K) else (V_X7_softSet (S_X7_goesOn (S_X7_start S) (n1.toNat) K) K)) := by
      unfold V_X7_behind
      rw [if_neg b1, if_neg b2, hw1, xw1]
    have eS7 : S_X7_behind S n1 w1 K = S_X7_putBack (S_X7_goesOn (S_X7_start S) (n1.toNat) K) := by
      unfold S_X7_behind
      rw [if_neg b1, if_neg b2]
      (repeat' split) <;> rfl
    rw [eV7, eS7]
    refine ⟨?_, h.ahead hM hCC (sG_goesOn _ _ _)⟩
    have hWa' : aW K (999 + n1.toNat) (rA (S_X7_goesOn (S_X7_start S) n1.toNat K)) := by rw [hG.1]; exact hWa
    have hrg := hWa'.rg (by omega)
    have q1 := (b_eating hK hC (hWa.rg (by omega))).uniq (h' := V_X7_eatSet (S_X7_goesOn (S_X7_start S) n1.toNat K) K) (by have := b_eatSet hK hrg; rw [hG.1] at this; exact this)
    have q2 := (b_told hK hC (hWa.tt (by omega))).uniq (h' := V_X7_toldSet (S_X7_goesOn (S_X7_start S) n1.toNat K) K) (by have := b_toldSet hK hrg; rw [hG.1] at this; exact this)
    have q3 := hC.2.2.1.uniq (h' := V_X7_softSet (S_X7_goesOn (S_X7_start S) n1.toNat K) K) (by have := b_softSet hK hWa'; rw [hG.1] at this; exact this)
    rw [q1, q2, q3]
  · have eS : S_X6_behind σ n1 w1 K = σ := by
      unfold S_X6_behind
      rw [hwn, hw1, xw60, xw2]
      by_cases c0 : n1 < 0
      · rw [if_pos c0]
      · by_cases c1 : 60 < n1
        · rw [if_neg c0, if_pos c1]
        · by_cases c2 : w1 < 0
          · rw [if_neg c0, if_neg c1, if_pos c2]
          · have c3 : ¬ w1 ≤ 2 := fun z => c ⟨by omega, by omega⟩
            rw [if_neg c0, if_neg c1, if_neg c2, if_neg c3]
    have eV : V_X6_behind σ n1 w1 K = -1 := by
      unfold V_X6_behind
      rw [hwn, hw1, xw60, xw2]
      by_cases c0 : n1 < 0
      · rw [if_pos c0]
      · by_cases c1 : 60 < n1
        · rw [if_neg c0, if_pos c1]
        · by_cases c2 : w1 < 0
          · rw [if_neg c0, if_neg c1, if_pos c2]
          · have c3 : ¬ w1 ≤ 2 := fun z => c ⟨by omega, by omega⟩
            rw [if_neg c0, if_neg c1, if_neg c2, if_neg c3]
    have r : V_X7_behind σ n1 w1 K = -1 ∧ S_X7_behind σ n1 w1 K = σ := by
      unfold V_X7_behind S_X7_behind
      rw [v_in hwn (by omega) (by omega), v_in hw1 (by omega) (by omega)]
      by_cases ca : 0 ≤ n1 ∧ n1 ≤ 60
      · have m1 : ¬ x_wr (if 0 ≤ n1 ∧ n1 ≤ 60 then 1 else 0) = 0 := by rw [i01]; exact fun z => z ca
        have m2 : x_wr (if 0 ≤ w1 ∧ w1 ≤ 2 then 1 else 0) = 0 := by rw [i01]; exact fun z => c ⟨ca, z⟩
        rw [if_neg m1, if_neg m1, if_pos m2, if_pos m2]
        exact ⟨rfl, rfl⟩
      · have m1 : x_wr (if 0 ≤ n1 ∧ n1 ≤ 60 then 1 else 0) = 0 := by rw [i01]; exact ca
        rw [if_pos m1, if_pos m1]
        exact ⟨rfl, rfl⟩
    rw [eS, eV, r.1, r.2]
    exact ⟨rfl, _, _, _, _, _, _, _, h⟩
theorem when_loop {K : Nat} {p1 : Int} {F : aS} (hK : K ≤ 6) (hp : p1.toNat < K) (hF : aF K F) : ∀ (k e : Nat) (s m : xMi) (D : Int), D + k + 1 ≤ 100000 → cF 1 s K (rA m) → cR 0 s K F → rF m = F → aW K D (rA m) → RV_X6_when_23 p1 K (k + 1) e s = RV_X7_when_16 p1 K k e m ∧ ∃ mX, RS_X7_when_16 p1 K k e m = S_X7_putBack mX ∧ sG m mX := by
  intro k
  induction k with
  | zero =>
    intro e s m D hD hC hR hFm hW
    have hr := hW.row hp
    have i3 : rA m 3 p1.toNat = m 32 0 p1.toNat := rA_at m (by omega) (by omega)
    have ht := c_isTold hC (hW.rg (by omega)) hr.2.2.2.2.2.2.2.2.2.2.1 hp
    have hd := hW.1
    have ew : x_wr (m 32 0 p1.toNat) = rA m 3 p1.toNat := by rw [← i3]; exact x_wrs (by omega) (by omega)
    refine ⟨?_, m, ?_, sG.rf m⟩
    · unfold RV_X6_when_23 RV_X6_when_23 RV_X7_when_16
      rw [ht, ew, xwm4, xw0, xw1]
      by_cases c : rA m 3 p1.toNat = -4
      · rw [if_pos c, if_pos c, xw0, if_pos rfl]
      · rw [if_neg c, if_neg c, xw1, if_neg (by omega)]
    · unfold RS_X7_when_16
      (repeat' split) <;> rfl
  | succ k ih =>
    intro e s m D hD hC hR hFm hW
    have hr := hW.row hp
    have i3 : rA m 3 p1.toNat = m 32 0 p1.toNat := rA_at m (by omega) (by omega)
    have ht := c_isTold hC (hW.rg (by omega)) hr.2.2.2.2.2.2.2.2.2.2.1 hp
    have hd := hW.1
    have ew : x_wr (m 32 0 p1.toNat) = rA m 3 p1.toNat := by rw [← i3]; exact x_wrs (by omega) (by omega)
    have e1 : RV_X6_when_23 p1 K (k + 1 + 1) e s = (if x_wr (V_X0_isTold s 1 (p1.toNat)) = 0 then (RV_X6_when_23 p1 K (k + 1) (e + 1) (S_X0_passDay s 1 0 K)) else (e : Int)) := rfl
    rw [e1, ht]
    unfold RV_X7_when_16 RS_X7_when_16
    rw [ew, xwm4]
    by_cases c : rA m 3 p1.toNat = -4
    · have hP := rA_passes (m := m) (b := 0) (D := D) hK xw0 (by omega) (by rw [hFm]; exact hF) hW
      obtain ⟨i1, mX, i2, i4⟩ := ih (e + 1) (S_X0_passDay s 1 0 K) (S_X7_passes m 0 K) (D + 1) (by omega) (by rw [hP.1, hFm]; exact cF_passDay hK xw0 (by omega) hF hC hR hW) (hR.same (fun t h1 h2 j => fr_S_X0_passDay s 1 0 K (by omega))) (by rw [(sM_passes m 0 K).F]; exact hFm) (by rw [hP.1]; exact aP_W hW)
      refine ⟨?_, mX, ?_, (sG_passes m 0 K).tr i4⟩
      · rw [if_pos c, xw0, if_pos rfl, if_pos c]; exact i1
      · rw [if_pos c]; exact i2
    · refine ⟨?_, m, ?_, sG.rf m⟩
      · rw [if_neg c, xw1, if_neg (by omega), if_neg c, if_neg c, if_neg (by omega)]
      · rw [if_neg c]
        (repeat' split) <;> rfl
theorem when_sC {p1 : Int} {K : Nat} : ∀ (k e : Nat) (s : xMi), sC s (RS_X6_when_23 p1 K k e s) ∧ eM s (RS_X6_when_23 p1 K k e s) := by
  intro k
  induction k with
  | zero => intro e s; exact ⟨sC.rf s, fun _ _ _ _ => rfl⟩
  | succ k ih =>
    intro e s
    unfold RS_X6_when_23
    split
    · have h := ih (e + 1) (S_X0_passDay s 1 0 K)
      exact ⟨(show sC s (S_X0_passDay s 1 0 K) from fun t i k a b c d e f g => fr_S_X0_passDay s 1 0 K (by omega)).tr h.1, (show eM s (S_X0_passDay s 1 0 K) from fun t i k ht => fr_S_X0_passDay s 1 0 K (by omega)).tr h.2⟩
    · exact ⟨sC.rf s, fun _ _ _ _ => rfl⟩
theorem m_when {K u τ v τ1 z w : Nat} {σ : xMi} (h : Rl K u τ v τ1 z w σ σ) {p1 : Int} (hw : x_wr p1 = p1) : V_X6_when σ p1 K = V_X7_when (S_X6_when σ p1 K) p1 K ∧ RR (S_X7_when (S_X6_when σ p1 K) p1 K) := by
  obtain ⟨hk, hg0, hU, hV, hZ, hT, hO⟩ := id h
  have hK := hk.2.1
  have e1 := v_isPerson (σ := σ) hw hK hk.2.2.1
  unfold V_X6_when S_X6_when
  by_cases c : 0 ≤ p1 ∧ p1 < K
  · have n1 : ¬ x_wr (V_X6_isPerson σ p1) = 0 := by rw [e1, i01]; exact fun z => z c
    rw [if_neg n1, if_neg n1]
    obtain ⟨hc, hr⟩ := ahead0 h
    have hs := when_sC (p1 := p1) (K := K) 61 0 (S_X0_copyFrom σ 1 0)
    have hM : eM σ (RS_X6_when_23 p1 K 61 0 (S_X0_copyFrom σ 1 0)) := copy_eM.tr hs.2
    have hCC : sC σ (RS_X6_when_23 p1 K 61 0 (S_X0_copyFrom σ 1 0)) := (copy_sC (Or.inl rfl)).tr hs.1
    generalize RS_X6_when_23 p1 K 61 0 (S_X0_copyFrom σ 1 0) = S at *
    have hA : rA (S_X7_start S) = rA σ ∧ rF (S_X7_start S) = rF σ := ⟨(st_A S).1.trans hM.R.1, (st_A S).2.trans hM.R.2.1⟩
    have n3 : ¬ x_wr (V_X7_isOne S p1) = 0 := by rw [v_isOne hw hK (by rw [hM _ _ _ (by omega)]; exact hk.2.2.2.1), i01]; exact fun z => z c
    unfold V_X7_when S_X7_when
    rw [if_neg n3, if_neg n3]
    obtain ⟨l1, mX, l2, l3⟩ := when_loop (K := K) (p1 := p1) (F := rF σ) hK (by omega) hk.2.2.2.2.2 60 0 (S_X0_copyFrom σ 1 0) (S_X7_start S) 999 (by omega) (by rw [hA.1]; exact hc) hr hA.2 (by rw [hA.1]; exact hg0.2.1)
    refine ⟨l1, ?_⟩
    rw [l2]
    exact h.ahead hM hCC l3
  · have n1 : x_wr (V_X6_isPerson σ p1) = 0 := by rw [e1, i01]; exact c
    have n3 : x_wr (V_X7_isOne σ p1) = 0 := by rw [v_isOne hw hK hk.2.2.2.1, i01]; exact c
    rw [if_pos n1, if_pos n1]
    unfold V_X7_when S_X7_when
    rw [if_pos n3, if_pos n3]
    exact ⟨rfl, _, _, _, _, _, _, _, h⟩
theorem m_gentle {K u τ v τ1 z w : Nat} {σ : xMi} (h : Rl K u τ v τ1 z w σ σ) : V_X6_gentle σ K = V_X7_gentle σ K ∧ RR (S_X7_gentle σ K) := by
  obtain ⟨hk, hg0, hU, hV, hZ, hT, hO⟩ := id h
  have hK := hk.2.1
  have hA := st_A σ
  have hG := rA_goesOn (m := S_X7_start σ) (n := 60) (D := 999) hK (by decide) (by rw [hA.2]; exact hk.2.2.2.2.2) (by rw [hA.1]; exact hg0.2.1)
  rw [hA.1, hA.2] at hG
  have hWa := aPs_W (F := rF σ) (K := K) 60 999 (rA σ) hg0.2.1
  refine ⟨?_, h.ahead (s' := σ) (fun _ _ _ _ => rfl) (sC.rf σ) (sG_goesOn _ _ _)⟩
  unfold V_X6_gentle V_X7_gentle
  rw [f_cls0 (F := rF σ) hK (by decide) hk.2.2.2.2.2 hg0.1 hk.2.2.2.2.1 hg0.2.1, w_ref (D := 999 + 60) hK (by rw [hG.1]; exact hWa), (sM_goesOn _ _ _).F, hA.2, hG.1]
  refine wS_cong _ _ (fun q h1 h2 => ?_)
  rw [esI_1]
  exact (aSoft hk.2.2.2.2.2 hg0.2.1 hg0.2.2 (by omega) (by omega)).symm
