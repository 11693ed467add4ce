theorem in0_f {t i k : Nat} (y1 : ¬ (t ≤ 4 ∧ i = 0)) (y2 : ¬ (5 ≤ t ∧ t ≤ 9 ∧ i ≤ 1)) (y3 : ¬ (t = 15 ∧ i = 0 ∧ k = 3)) (y4 : ¬ (t = 13 ∧ k = 1)) (y5 : t ≠ 12) (y6 : ¬ (t = 10 ∧ k = 2)) : x_in0 t i k = x_T0 t i k := by
  unfold x_in0 S_X5_empty S_X6_startFromDraft
  rw [x_up_k (by omega), x_up_k (by omega), x_up_k (by omega), x_up_k (by omega), fr_S_X0_start _ _ (by omega), fr_S_X3_copyFrom _ _ _ (by omega), fr_S_X5_readInto _ _ (by omega), aps_T0]
theorem in0_z {t i k : Nat} (h : ¬ (t ≤ 13 ∨ t = 19)) (h15 : t ≠ 15) : x_in0 t i k = 0 := by
  rw [in0_f (by omega) (by omega) (by omega) (by omega) (by omega) (by omega)]
  exact T0_z (by omega)
theorem init_hch : ∀ k, 0 ≤ x_aps 51 0 x_b4 11 0 k ∧ x_aps 51 0 x_b4 11 0 k < 65536 := fun k => by
  rw [aps_T0]; exact T0_11 k
theorem init_hz : ∀ t, 24 ≤ t → t ≤ 46 → ∀ k, x_in0 t 0 k = 0 := fun t h1 h2 k => in0_z (by omega) (by omega)
def x_fst : xMi := S_X7_begin (N_5 x_in0) 4
theorem N_5_f {σ : xMi} {t i j : Nat} (h1 : ¬ (25 ≤ t ∧ t ≤ 28)) (h2 : ¬ (t = 24 ∧ j = 0)) : N_5 σ t i j = σ t i j := by
  unfold N_5 N_4 N_3 N_2 N_1 S_X7_firstOne
  simp (disch := omega) only [x_up_k]
theorem N_5_p (σ : xMi) : ∀ j, j < 5 → N_5 σ 25 0 j = pj 0 j ∧ N_5 σ 26 0 j = pj 1 j ∧ N_5 σ 27 0 j = pj 2 j ∧ N_5 σ 28 0 j = pj 3 j := by
  intro j hj
  unfold N_5 N_4 N_3 N_2 N_1 S_X7_firstOne
  match j, hj with
  | 0, _ => exact ⟨rfl, rfl, rfl, rfl⟩
  | 1, _ => exact ⟨rfl, rfl, rfl, rfl⟩
  | 2, _ => exact ⟨rfl, rfl, rfl, rfl⟩
  | 3, _ => exact ⟨rfl, rfl, rfl, rfl⟩
  | 4, _ => exact ⟨rfl, rfl, rfl, rfl⟩
theorem fst_f {t i j : Nat} (y1 : ¬ ((t = 24 ∧ 5 ≤ j ∧ j ≤ 8) ∨ (29 ≤ t ∧ t ≤ 36))) : x_fst t i j = N_5 x_in0 t i j := fr_S_X7_begin _ _ y1
theorem pj_in : ∀ j, j < 5 → (0 ≤ pj 0 j ∧ pj 0 j ≤ 3) ∧ (0 ≤ pj 1 j ∧ pj 1 j ≤ 40) ∧ (0 ≤ pj 2 j ∧ pj 2 j ≤ 40) ∧ (1 ≤ pj 3 j ∧ pj 3 j ≤ 9) := by decide +kernel
theorem RR_mk {R C E : xMi} (r1 : R 5 1 4 = ((5 : Nat) : Int)) (r2 : R 5 1 5 = 4) (r3 : ∀ j, j < 5 → R 6 1 j = pj 0 j ∧ R 7 1 j = pj 1 j ∧ R 8 1 j = pj 2 j ∧ R 9 1 j = pj 3 j) (e00 : E 24 0 0 = ((5 : Nat) : Int)) (hAE : rA E = aBeg 4)
    (eF : ∀ j, j < 5 → (E 25 0 j = pj 0 j ∧ E 26 0 j = pj 1 j ∧ E 27 0 j = pj 2 j ∧ E 28 0 j = pj 3 j)) (eI : C = S_X5_empty (S_X6_startFromDraft R)) (fz : ∀ t k, 37 ≤ t → t ≤ 46 → E t 0 k = 0) (fz24 : ∀ k, 8 < k → E 24 0 k = 0) (fC : ∀ t i k, t < 24 → E t i k = C t i k)
    (c13 : ∀ i, C 13 i 2 = 0) (c16 : ∀ t k, t = 16 ∨ t = 17 → C t 0 k = 0) (c11 : ∀ k, 0 ≤ C 11 0 k ∧ C 11 0 k < 65536) : RR E := by
  have hFE : aF 5 (rF E) := fun j hj => by
    have q := eF j hj
    show (0 ≤ E 25 0 j ∧ E 25 0 j ≤ 3) ∧ (0 ≤ E 26 0 j ∧ E 26 0 j ≤ 40) ∧ (0 ≤ E 27 0 j ∧ E 27 0 j ≤ 40) ∧ (1 ≤ E 28 0 j ∧ E 28 0 j ≤ 9)
    rw [q.1, q.2.1, q.2.2.1, q.2.2.2]
    exact pj_in j hj
  have c0 : cR 0 (S_X3_copyFrom R 0 1) 5 (rF E) := roll_copy (by decide) (by omega) (fun j hj => by
    have q := eF j hj
    show R 6 1 j = E 25 0 j ∧ R 7 1 j = E 26 0 j ∧ R 8 1 j = E 27 0 j ∧ R 9 1 j = E 28 0 j
    rw [q.1, q.2.1, q.2.2.1, q.2.2.2]
    exact r3 j hj)
  have sz : S_X3_copyFrom R 0 1 5 0 4 = R 5 1 4 ∧ S_X3_copyFrom R 0 1 5 0 5 = R 5 1 5 := by
    simp [S_X3_copyFrom, T_X3_copyFrom_1, x_up, x_cp]
  rw [r1, r2] at sz
  have fS5 : ∀ t k, 5 ≤ t → t ≤ 9 → C t 0 k = S_X3_copyFrom R 0 1 t 0 k := fun t k y1 y2 => by
    rw [eI]
    unfold S_X5_empty S_X6_startFromDraft
    rw [x_up_k (by omega), x_up_k (by omega), x_up_k (by omega), x_up_k (by omega), fr_S_X0_start _ _ (by omega)]
  have h13 : C 13 0 1 = 0 ∧ C 13 1 1 = 0 ∧ C 15 0 3 = 0 ∧ C 10 0 2 = 0 := by
    rw [eI]
    unfold S_X5_empty S_X6_startFromDraft
    simp [x_up]
  have hcS : cF 0 C 5 (aBeg 4) := by
    have := cF_start (s := S_X3_copyFrom R 0 1) (K := 5) (by decide)
    rw [sz.2] at this
    refine this.same (fun t ht k => ?_)
    rw [eI]
    unfold S_X5_empty S_X6_startFromDraft
    rw [x_up_k (by omega), x_up_k (by omega), x_up_k (by omega), x_up_k (by omega)]
  refine ⟨5, 0, 0, 0, 0, 0, 0, Rl.done (s' := C) ?_ (fun t i j ht => fC t i j ht)⟩
  refine ⟨⟨by omega, by omega, by rw [fS5 _ _ (by omega) (by omega)]; exact sz.1, e00, c0.same (fun t y1 y2 k => fS5 _ _ (by omega) (by omega)), hFE⟩, by rw [hAE]; exact ⟨hcS, aBeg_W (by decide) (by decide), aBeg_N hFE⟩, ⟨by omega, by omega, h13.1, c13 0, fz24 29 (by omega), fun i hi => by omega⟩, ⟨by omega, by omega, h13.2.1, c13 1, fz24 35 (by omega), fun i hi => by omega⟩, ⟨by omega, h13.2.2.1, fz24 17 (by omega), fun k hk => by omega, fun k => ?_, fun k => ?_, fun k => ?_⟩, ⟨by omega, h13.2.2.2, fz24 22 (by omega), fun k hk => by omega, c11⟩, fun k => ?_⟩
  · rw [c16 16 k (by omega)]; omega
  · rw [c16 17 k (by omega)]; omega
  · rw [fz _ _ (by omega) (by omega)]; omega
  · rw [fz _ _ (by omega) (by omega)]; omega
theorem eI_fst : x_in0 = S_X5_empty (S_X6_startFromDraft (S_X5_readInto x_T0 1)) := by unfold x_in0; rw [aps_T0]
theorem RR_fst : RR x_fst :=
  RR_mk (R := S_X5_readInto x_T0 1) (C := x_in0) (E := x_fst) rd_all.2.1 rd_all.2.2.1 rd_all.2.2.2
    (by rw [fst_f (by omega)]; exact N_5_0 _ (in0_z (by omega) (by omega))) (rA_begin _ _)
    (fun j hj => by rw [fst_f (by omega), fst_f (by omega), fst_f (by omega), fst_f (by omega)]; exact N_5_p _ j hj) eI_fst
    (fun t k h1 h2 => by rw [fst_f (by omega), N_5_f (by omega) (by omega)]; exact in0_z (by omega) (by omega))
    (fun k h1 => by rw [fst_f (by omega), N_5_f (by omega) (by omega)]; exact in0_z (by omega) (by omega))
    (fun t i k h => by rw [fst_f (by omega), N_5_f (by omega) (by omega)])
    (fun i => by rw [in0_f (by omega) (by omega) (by omega) (by omega) (by omega) (by omega)]; exact T0_z (by omega))
    (fun t k h => in0_z (by omega) (by omega))
    (fun k => by rw [in0_f (by omega) (by omega) (by omega) (by omega) (by omega) (by omega)]; exact T0_11 k)
