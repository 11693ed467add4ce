/-! a year by draws -/
def aAct (F : aS) (a : aS) (p : Nat) (A : Int) : aS := if 2 ≤ A then (if A = 2 then (if a 0 p ≤ 0 then a else aCall a p) else if A = 3 then aSt a (if a 8 1 < 20 then a 8 1 + 1 else 20) else a) else if aMay a p then aSend F a p else a
def actM (m : xMi) (p : Nat) (A : Int) : xMi := if 2 ≤ A then (if A = 2 then (if x_wr (m 29 0 p) ≤ 0 then m else S_X7_calls m p) else if A = 3 then x_up m 24 0 6 (V_X7_lesser m 20 (m 24 0 6 + 1)) else m) else if x_wr (V_X7_maySend m p) = 0 then m else S_X7_sends m p
theorem year_step {K k e : Nat} {z1 n1 w1 : Int} {m : xMi} : RV_X7_year_39 z1 n1 w1 K (k + 1) e m = RV_X7_year_39 z1 n1 w1 K k (e + 1) (S_X7_passes (actM m (x_dr z1.toNat e % K) (x_wr (x_rem (x_div (((x_dr z1.toNat e) : Nat) : Int) 8) 4))) 0 K) ∧ RS_X7_year_39 z1 n1 w1 K (k + 1) e m = RS_X7_year_39 z1 n1 w1 K k (e + 1) (S_X7_passes (actM m (x_dr z1.toNat e % K) (x_wr (x_rem (x_div (((x_dr z1.toNat e) : Nat) : Int) 8) 4))) 0 K) := by
  rw [RV_X7_year_39, RS_X7_year_39]
  unfold actM
  rw [xw2, xw3]
  generalize x_wr (x_rem (x_div (((x_dr z1.toNat e) : Nat) : Int) 8) 4) = A
  generalize x_dr z1.toNat e % K = p
  by_cases c1 : 2 ≤ A
  · simp only [if_pos c1]
    by_cases c2 : A = 2
    · have c3 : ¬ A = 3 := by omega
      simp only [if_pos c2, if_neg c3]
      by_cases c4 : x_wr (m 29 0 p) ≤ 0
      · simp only [if_pos c4, and_self]
      · simp only [if_neg c4, and_self]
    · simp only [if_neg c2]
      by_cases c3 : A = 3
      · simp only [if_pos c3, and_self]
      · simp only [if_neg c3, and_self]
  · have c2 : ¬ A = 2 := by omega
    have c3 : ¬ A = 3 := by omega
    simp only [if_neg c1, if_neg c2, if_neg c3]
    by_cases c4 : x_wr (V_X7_maySend m p) = 0
    · simp only [if_pos c4, and_self]
    · simp only [if_neg c4, and_self]
theorem actM_sG (m : xMi) (p : Nat) (A : Int) : sG m (actM m p A) := by
  unfold actM
  split
  · split
    · split
      · exact sG.rf m
      · exact sG_calls m p
    · split
      · exact sG_st m _
      · exact sG.rf m
  · split
    · exact sG.rf m
    · exact sG_sends m p
theorem aSt_self (a : aS) : aSt a (a 8 1) = a := by
  funext j q; unfold aSt
  by_cases c : j = 8 ∧ q = 1
  · rw [if_pos c, c.1, c.2]
  · rw [if_neg c]
theorem rA_act {K p : Nat} {A D : Int} {m : xMi} (hK : K ≤ 6) (hD : D ≤ 100000) (hF : aF K (rF m)) (hW : aW K D (rA m)) (hp : p < K) : rA (actM m p A) = aAct (rF m) (rA m) p A := by
  have hr := rA_row hK hW hp
  have hg := rA_g hW
  have i0 : rA m 0 p = m 29 0 p := rA_at m (by omega) (by omega)
  have i1 : rA m 8 1 = m 24 0 6 := rfl
  unfold actM aAct
  rw [x_wrs (a := m 29 0 p) (by omega) (by omega), i0]
  have el : V_X7_lesser m 20 (m 24 0 6 + 1) = if rA m 8 1 < 20 then rA m 8 1 + 1 else 20 := by
    unfold V_X7_lesser
    rw [xw20, x_wrs (a := m 24 0 6 + 1) (by omega) (by omega), i1]
    (repeat' split) <;> omega
  by_cases c1 : 2 ≤ A
  · rw [if_pos c1, if_pos c1]
    by_cases c2 : A = 2
    · rw [if_pos c2, if_pos c2]
      by_cases c4 : m 29 0 p ≤ 0
      · rw [if_pos c4, if_pos c4]
      · rw [if_neg c4, if_neg c4]
        exact rA_calls (by omega) hg.2.1 (by omega)
    · rw [if_neg c2, if_neg c2]
      by_cases c3 : A = 3
      · rw [if_pos c3, if_pos c3, rA_st, el]
      · rw [if_neg c3, if_neg c3]
  · rw [if_neg c1, if_neg c1, rA_maySend hK hD hW hp]
    by_cases c : aMay (rA m) p
    · rw [if_pos c, if_pos c, xw1, if_neg (by decide)]
      exact rA_sends (by omega) (rF_row hF hp).2.1
    · rw [if_neg c, if_neg c, xw0, if_pos rfl]
theorem aAct_W {F : aS} {K p : Nat} {A D : Int} {a : aS} (hF : aF K F) (hW : aW K D a) (hp : p < K) : aW K D (aAct F a p A) := by
  have hr := hW.row hp
  have hs := hW.2.1
  unfold aAct
  split
  · split
    · split
      · exact hW
      · exact aCall_W hW hp (by omega)
    · split
      · exact aSt_W hW (by split <;> omega)
      · exact hW
  · split
    · rename_i c; exact aSend_W hF hW hp c
    · exact hW
theorem cF_act {f K q : Nat} {D : Int} {s : xMi} {a F : aS} (hK : K ≤ 6) (hK0 : 0 < K) (hD : D ≤ 100000) (hF : aF K F) (hC : cF f s K a) (hR : cR (x_rof f) s K F) (hW : aW K D a) : cF f (S_X0_actByDraw s f q K) K (aAct F a (q % K) (x_wr (x_rem (x_div (q : Int) 8) 4))) := by
  have hp : q % K < K := Nat.mod_lt _ hK0
  have hr := hW.row hp
  have hs := hW.2.1
  unfold S_X0_actByDraw aAct
  rw [xw2, xw3, xw20, c_canSendNow hK hD hC hW hp, (hC.2.1 _ hp).1, hC.1.2.1, x_wrs (a := a 0 (q % K)) (by omega) (by omega), x_wrs (a := a 8 1) (by omega) (by omega)]
  generalize x_wr (x_rem (x_div (q : Int) 8) 4) = A
  by_cases c1 : 2 ≤ A
  · simp only [if_pos c1]
    by_cases c2 : A = 2
    · have c3 : ¬ A = 3 := by omega
      simp only [if_pos c2, if_neg c3]
      by_cases c4 : a 0 (q % K) ≤ 0
      · simp only [if_pos c4]; exact hC
      · simp only [if_neg c4]; exact cF_recall hK hC hW hp
    · simp only [if_neg c2]
      by_cases c3 : A = 3
      · simp only [if_pos c3]
        by_cases c4 : (20 : Int) ≤ a 8 1
        · rw [if_pos c4, if_neg (by omega), (by omega : (20 : Int) = a 8 1), aSt_self]; exact hC
        · rw [if_neg c4, if_pos (by omega)]; exact cF_st hC
      · simp only [if_neg c3]; exact hC
  · have c2 : ¬ A = 2 := by omega
    have c3 : ¬ A = 3 := by omega
    simp only [if_neg c1, if_neg c2, if_neg c3]
    by_cases c : aMay a (q % K)
    · rw [if_pos c, if_pos c, xw1, if_neg (by decide)]
      exact cF_dispatch hC hR hF hp
    · rw [if_neg c, if_neg c, xw0, if_pos rfl]; exact hC
theorem year_loop {K : Nat} {z1 n1 w1 : Int} {F : aS} (hw1 : x_wr w1 = w1) (hK : K ≤ 6) (hK0 : 0 < K) (hF : aF K F) : ∀ (k e : Nat) (s m : xMi) (D : Int), D + k ≤ 100000 → cF 1 s K (rA m) → cR 0 s K F → rF m = F → aW K D (rA m) → RV_X6_year_47 z1 n1 w1 K k e s = RV_X7_year_39 z1 n1 w1 K k e m ∧ ∃ mX, RS_X7_year_39 z1 n1 w1 K k e m = S_X7_putBack mX ∧ sG m mX := by
  intro k
  induction k with
  | zero =>
    intro e s m D hD hC hR hFm hW
    refine ⟨?_, m, by unfold RS_X7_year_39; (repeat' split) <;> rfl, sG.rf m⟩
    unfold RV_X6_year_47 RV_X7_year_39
    have q1 : V_X0_softWeight s 1 K = V_X7_softWeight m K := by rw [w_cls (F := F) hK hC hR hW, w_ref hK hW, hFm]
    have b5 := b_told hK hC (hW.tt (by omega))
    have b5' := b_toldSet hK (hW.rg (by omega))
    have q2 : V_J6_bitCount_0f7a4 s (V_X0_toldBits s 1 K) = V_X7_bits m (V_X7_toldSet m K) := by rw [b5.bits s m, b5.uniq b5']
    have q3 : s 0 1 9 = m 24 0 6 := hC.1.2.1
    rw [q1, q2, q3]
  | succ k ih =>
    intro e s m D hD hC hR hFm hW
    rw [year_step.1, year_step.2]
    unfold RV_X6_year_47
    have hp : x_dr z1.toNat e % K < K := Nat.mod_lt _ hK0
    have hA := rA_act (m := m) (p := x_dr z1.toNat e % K) (A := x_wr (x_rem (x_div (((x_dr z1.toNat e) : Nat) : Int) 8) 4)) hK (by omega) (by rw [hFm]; exact hF) hW hp
    have hG := actM_sG m (x_dr z1.toNat e % K) (x_wr (x_rem (x_div (((x_dr z1.toNat e) : Nat) : Int) 8) 4))
    have hC1 := cF_act (f := 1) (q := x_dr z1.toNat e) hK hK0 (by omega) hF hC hR hW
    have hW1 := aAct_W (A := x_wr (x_rem (x_div (((x_dr z1.toNat e) : Nat) : Int) 8) 4)) hF hW hp
    rw [hFm] at hA
    generalize actM m (x_dr z1.toNat e % K) (x_wr (x_rem (x_div (((x_dr z1.toNat e) : Nat) : Int) 8) 4)) = m1 at *
    rw [← hA] at hC1 hW1
    have hF1 : rF m1 = F := hG.M.F.trans hFm
    have hR1 : cR 0 (S_X0_actByDraw s 1 (x_dr z1.toNat e) K) K F := hR.same (fun t h1 h2 j => fr_S_X0_actByDraw _ _ _ _ (by omega))
    have hP := rA_passes (m := m1) (b := 0) (D := D) hK xw0 (by omega) (by rw [hF1]; exact hF) hW1
    obtain ⟨i1, mX, i2, i3⟩ := ih (e + 1) (S_X0_passDay (S_X0_actByDraw s 1 (x_dr z1.toNat e) K) 1 0 K) (S_X7_passes m1 0 K) (D + 1) (by omega) (by rw [hP.1, hF1]; exact cF_passDay hK xw0 (by omega) hF hC1 hR1 hW1) (hR1.same (fun t h1 h2 j => fr_S_X0_passDay _ 1 0 K (by omega))) (by rw [(sM_passes m1 0 K).F]; exact hF1) (by rw [hP.1]; exact aP_W hW1)
    exact ⟨i1, mX, i2, (hG.tr (sG_passes m1 0 K)).tr i3⟩
theorem year_s {K : Nat} {z1 n1 w1 : Int} : ∀ (k e : Nat) (s : xMi), sC s (RS_X6_year_47 z1 n1 w1 K k e s) ∧ eM s (RS_X6_year_47 z1 n1 w1 K k e s) := by
  intro k
  induction k with
  | zero =>
    intro e s
    have e0 : RS_X6_year_47 z1 n1 w1 K 0 e s = s := by unfold RS_X6_year_47; (repeat' split) <;> rfl
    rw [e0]; exact ⟨sC.rf s, fun _ _ _ _ => rfl⟩
  | succ k ih =>
    intro e s
    have h1 : sC s (S_X0_passDay (S_X0_actByDraw s 1 (x_dr z1.toNat e) K) 1 0 K) := fun t i k a b c d e f g => by rw [fr_S_X0_passDay _ _ _ _ (by omega), fr_S_X0_actByDraw _ _ _ _ (by omega)]
    have h2 : eM s (S_X0_passDay (S_X0_actByDraw s 1 (x_dr z1.toNat e) K) 1 0 K) := fun t i k ht => by rw [fr_S_X0_passDay _ _ _ _ (by omega), fr_S_X0_actByDraw _ _ _ _ (by omega)]
    unfold RS_X6_year_47
    have h := ih (e + 1) (S_X0_passDay (S_X0_actByDraw s 1 (x_dr z1.toNat e) K) 1 0 K)
    exact ⟨h1.tr h.1, h2.tr h.2⟩
theorem m_year {K u τ v τ1 z w : Nat} {σ : xMi} (h : Rl K u τ v τ1 z w σ σ) {z1 n1 w1 : Int} (hwz : x_wr z1 = z1) (hwn : x_wr n1 = n1) (hw1 : x_wr w1 = w1) : V_X6_year σ z1 n1 w1 K = V_X7_year (S_X6_year σ z1 n1 w1 K) z1 n1 w1 K ∧ RR (S_X7_year (S_X6_year σ z1 n1 w1 K) z1 n1 w1 K) := by
  obtain ⟨hk, hg0, hU, hV, hZ, hT, hO⟩ := id h
  have hK := hk.2.1
  by_cases c : (0 ≤ z1 ∧ z1 ≤ 9999) ∧ (1 ≤ n1 ∧ n1 ≤ 60) ∧ (0 ≤ w1 ∧ w1 ≤ 2)
  · obtain ⟨ca, cb, cc⟩ := c
    have a0 : ¬ z1 < 0 := by omega
    have a1 : ¬ 9999 < z1 := by omega
    have a2 : ¬ n1 < 1 := by omega
    have a3 : ¬ 60 < n1 := by omega
    have a4 : ¬ w1 < 0 := by omega
    have eS : S_X6_year σ z1 n1 w1 K = RS_X6_year_47 z1 n1 w1 K n1.toNat 0 (S_X0_copyFrom σ 1 0) := by
      unfold S_X6_year
      rw [hwz, hwn, hw1, xw9999, xw1, xw60, xw2, if_neg a0, if_neg a1, if_neg a2, if_neg a3, if_neg a4, if_pos cc.2]
    have eV : V_X6_year σ z1 n1 w1 K = RV_X6_year_47 z1 n1 w1 K n1.toNat 0 (S_X0_copyFrom σ 1 0) := by
      unfold V_X6_year
      rw [hwz, hwn, hw1, xw9999, xw1, xw60, xw2, if_neg a0, if_neg a1, if_neg a2, if_neg a3, if_neg a4, if_pos cc.2]
    rw [eS, eV]
    obtain ⟨hc, hr⟩ := ahead0 h
    have hs := year_s (z1 := z1) (n1 := n1) (w1 := w1) (K := K) n1.toNat 0 (S_X0_copyFrom σ 1 0)
    have hM : eM σ (RS_X6_year_47 z1 n1 w1 K n1.toNat 0 (S_X0_copyFrom σ 1 0)) := copy_eM.tr hs.2
    have hCC : sC σ (RS_X6_year_47 z1 n1 w1 K n1.toNat 0 (S_X0_copyFrom σ 1 0)) := (copy_sC (Or.inl rfl)).tr hs.1
    generalize RS_X6_year_47 z1 n1 w1 K n1.toNat 0 (S_X0_copyFrom σ 1 0) = S at *
    have hA : rA (S_X7_start S) = rA σ ∧ rF (S_X7_start S) = rF σ := ⟨(st_A S).1.trans hM.R.1, (st_A S).2.trans hM.R.2.1⟩
    have b1 : ¬ x_wr (V_X7_in S z1 0 9999) = 0 := by rw [v_in hwz (by omega) (by omega), i01]; exact fun z => z ca
    have b2 : ¬ x_wr (V_X7_in S n1 1 60) = 0 := by rw [v_in hwn (by omega) (by omega), i01]; exact fun z => z cb
    have b3 : ¬ x_wr (V_X7_in S w1 0 2) = 0 := by rw [v_in hw1 (by omega) (by omega), i01]; exact fun z => z cc
    unfold V_X7_year S_X7_year
    rw [if_neg b1, if_neg b1, if_neg b2, if_neg b2, if_neg b3, if_neg b3]
    obtain ⟨l1, mX, l2, l3⟩ := year_loop (z1 := z1) (n1 := n1) (F := rF σ) hw1 hK hk.1 hk.2.2.2.2.2 n1.toNat 0 (S_X0_copyFrom σ 1 0) (S_X7_start S) 999 (by omega) (by rw [hA.1]; exact hc) hr hA.2 (by rw [hA.1]; exact hg0.2.1)
    refine ⟨l1, ?_⟩
    rw [l2]
    exact h.ahead hM hCC l3
  · have e6 : V_X6_year σ z1 n1 w1 K = -1 ∧ S_X6_year σ z1 n1 w1 K = σ := by
      unfold V_X6_year S_X6_year
      rw [hwz, hwn, hw1, xw9999, xw1, xw60, xw2]
      by_cases c0 : z1 < 0
      · rw [if_pos c0, if_pos c0]; exact ⟨rfl, rfl⟩
      · by_cases c1 : 9999 < z1
        · rw [if_neg c0, if_pos c1, if_neg c0, if_pos c1]; exact ⟨rfl, rfl⟩
        · by_cases c2 : n1 < 1
          · rw [if_neg c0, if_neg c1, if_pos c2, if_neg c0, if_neg c1, if_pos c2]; exact ⟨rfl, rfl⟩
          · by_cases c3 : 60 < n1
            · rw [if_neg c0, if_neg c1, if_neg c2, if_pos c3, if_neg c0, if_neg c1, if_neg c2, if_pos c3]; exact ⟨rfl, rfl⟩
            · by_cases c4 : w1 < 0
              · rw [if_neg c0, if_neg c1, if_neg c2, if_neg c3, if_pos c4, if_neg c0, if_neg c1, if_neg c2, if_neg c3, if_pos c4]; exact ⟨rfl, rfl⟩
              · have c5 : ¬ w1 ≤ 2 := fun z => c ⟨by omega, by omega, by omega⟩
                rw [if_neg c0, if_neg c1, if_neg c2, if_neg c3, if_neg c4, if_neg c5, if_neg c0, if_neg c1, if_neg c2, if_neg c3, if_neg c4, if_neg c5]; exact ⟨rfl, rfl⟩
    have e7 : V_X7_year σ z1 n1 w1 K = -1 ∧ S_X7_year σ z1 n1 w1 K = σ := by
      unfold V_X7_year S_X7_year
      rw [v_in hwz (by omega) (by omega), v_in hwn (by omega) (by omega), v_in hw1 (by omega) (by omega)]
      by_cases ca : 0 ≤ z1 ∧ z1 ≤ 9999
      · have m1 : ¬ x_wr (if 0 ≤ z1 ∧ z1 ≤ 9999 then 1 else 0) = 0 := fun z => i01.mp z ca
        rw [if_neg m1, if_neg m1]
        by_cases cb : 1 ≤ n1 ∧ n1 ≤ 60
        · have m2 : ¬ x_wr (if 1 ≤ n1 ∧ n1 ≤ 60 then 1 else 0) = 0 := fun z => i01.mp z cb
          have m3 : x_wr (if 0 ≤ w1 ∧ w1 ≤ 2 then 1 else 0) = 0 := i01.mpr (fun z => c ⟨ca, cb, z⟩)
          rw [if_neg m2, if_neg m2, if_pos m3, if_pos m3]; exact ⟨rfl, rfl⟩
        · have m2 : x_wr (if 1 ≤ n1 ∧ n1 ≤ 60 then 1 else 0) = 0 := i01.mpr cb
          rw [if_pos m2, if_pos m2]; exact ⟨rfl, rfl⟩
      · have m1 : x_wr (if 0 ≤ z1 ∧ z1 ≤ 9999 then 1 else 0) = 0 := i01.mpr ca
        rw [if_pos m1, if_pos m1]; exact ⟨rfl, rfl⟩
    rw [e6.1, e6.2, e7.1, e7.2]
    exact ⟨rfl, _, _, _, _, _, _, _, h⟩
