theorem and31 (a : Int) : ∃ v : Nat, v < 32 ∧ x_wr (x_and a 31) = (v : Int) := by
  have h31 : (Int32.ofInt 31).toBitVec.toNat = 31 := by decide
  have h1 : ((Int32.ofInt a).toBitVec &&& (Int32.ofInt 31).toBitVec).toNat ≤ 31 := by
    rw [BitVec.toNat_and, h31]; exact Nat.and_le_right
  refine ⟨((Int32.ofInt a).toBitVec &&& (Int32.ofInt 31).toBitVec).toNat, by omega, ?_⟩
  show (Int32.ofInt (x_and a 31)).toInt = _
  unfold x_and
  rw [Int32.ofInt_toInt]
  show (Int32.ofInt a &&& Int32.ofInt 31).toBitVec.toInt = _
  rw [Int32.toBitVec_and]
  exact BitVec.toInt_eq_toNat_of_lt (by omega)
theorem law_switch {l : Launch} {w : xZ} {i : Nat} {σ : xMi} {a : Int} (hR : RR σ) (hi : i + 4 < w.2.2.2.1) (hL : w.2.2.2.1 < 2147483648) (kk : ∀ σ1, RR σ1 → xL l w i 723 [] σ1) : xL l w i 32 [xI (x_and a 31)] σ := by
  obtain ⟨v, hv, he⟩ := and31 a
  match v, hv, he with
  | 0, _, he => exact g_tin 148 dL_law_32 (by rw [he]; decide) (by rw [he]; decide) (by rw [he]; rfl) rfl (br_write hR hi hL kk)
  | 1, _, he => exact g_tin 171 dL_law_32 (by rw [he]; decide) (by rw [he]; decide) (by rw [he]; rfl) rfl (br_wipe hR hi hL kk)
  | 2, _, he => exact g_tin 184 dL_law_32 (by rw [he]; decide) (by rw [he]; decide) (by rw [he]; rfl) rfl (br_fault hR hi hL kk)
  | 3, _, he => exact g_tin 197 dL_law_32 (by rw [he]; decide) (by rw [he]; decide) (by rw [he]; rfl) rfl (br_lay hR hi hL kk)
  | 4, _, he => exact g_tin 210 dL_law_32 (by rw [he]; decide) (by rw [he]; decide) (by rw [he]; rfl) rfl (br_person hR hi hL kk)
  | 5, _, he => exact g_tin 243 dL_law_32 (by rw [he]; decide) (by rw [he]; decide) (by rw [he]; rfl) rfl (br_send hR hi hL kk)
  | 6, _, he => exact g_tin 266 dL_law_32 (by rw [he]; decide) (by rw [he]; decide) (by rw [he]; rfl) rfl (br_call hR hi hL kk)
  | 7, _, he => exact g_tin 289 dL_law_32 (by rw [he]; decide) (by rw [he]; decide) (by rw [he]; rfl) rfl (br_buy hR hi hL kk)
  | 8, _, he => exact g_tin 302 dL_law_32 (by rw [he]; decide) (by rw [he]; decide) (by rw [he]; rfl) rfl (br_pass hR hi hL kk)
  | 9, _, he => exact g_tin 325 dL_law_32 (by rw [he]; decide) (by rw [he]; decide) (by rw [he]; rfl) rfl (br_undo hR hi hL kk)
  | 10, _, he => exact g_tin 338 dL_law_32 (by rw [he]; decide) (by rw [he]; decide) (by rw [he]; rfl) rfl (br_behind hR hi hL kk)
  | 11, _, he => exact g_tin 371 dL_law_32 (by rw [he]; decide) (by rw [he]; decide) (by rw [he]; rfl) rfl (br_when hR hi hL kk)
  | 12, _, he => exact g_tin 394 dL_law_32 (by rw [he]; decide) (by rw [he]; decide) (by rw [he]; rfl) rfl (br_gentle hR hi hL kk)
  | 13, _, he => exact g_tin 407 dL_law_32 (by rw [he]; decide) (by rw [he]; decide) (by rw [he]; rfl) rfl (br_latest hR hi hL kk)
  | 14, _, he => exact g_tin 430 dL_law_32 (by rw [he]; decide) (by rw [he]; decide) (by rw [he]; rfl) rfl (br_order hR hi hL kk)
  | 15, _, he => exact g_tin 453 dL_law_32 (by rw [he]; decide) (by rw [he]; decide) (by rw [he]; rfl) rfl (br_need hR hi hL kk)
  | 16, _, he => exact g_tin 466 dL_law_32 (by rw [he]; decide) (by rw [he]; decide) (by rw [he]; rfl) rfl (br_seen hR hi hL kk)
  | 17, _, he => exact g_tin 509 dL_law_32 (by rw [he]; decide) (by rw [he]; decide) (by rw [he]; rfl) rfl (br_forget hR hi hL kk)
  | 18, _, he => exact g_tin 522 dL_law_32 (by rw [he]; decide) (by rw [he]; decide) (by rw [he]; rfl) rfl (br_kinds hR hi hL kk)
  | 19, _, he => exact g_tin 545 dL_law_32 (by rw [he]; decide) (by rw [he]; decide) (by rw [he]; rfl) rfl (br_days hR hi hL kk)
  | 20, _, he => exact g_tin 578 dL_law_32 (by rw [he]; decide) (by rw [he]; decide) (by rw [he]; rfl) rfl (br_likely hR hi hL kk)
  | 21, _, he => exact g_tin 631 dL_law_32 (by rw [he]; decide) (by rw [he]; decide) (by rw [he]; rfl) rfl (br_year hR hi hL kk)
  | 22, _, he => exact g_tin 674 dL_law_32 (by rw [he]; decide) (by rw [he]; decide) (by rw [he]; rfl) rfl (br_keep hR hi hL kk)
  | 23, _, he => exact g_tin 687 dL_law_32 (by rw [he]; decide) (by rw [he]; decide) (by rw [he]; rfl) rfl (br_back hR hi hL kk)
  | 24, _, he => exact g_tin 700 dL_law_32 (by rw [he]; decide) (by rw [he]; decide) (by rw [he]; rfl) rfl (br_count hR hi hL kk)
  | v + 25, _, he => exact g_tout 723 dL_law_32 (Or.inr (by rw [he]; omega)) rfl (kk σ hR)
theorem law_loop (l : Launch) (w : xZ) (hL : w.2.2.2.1 ≤ 2560) : ∀ (m i : Nat) (σ : xMi), w.2.2.2.1 + 1 ≤ i + m → i ≤ 2600 → RR σ → xL l w i 18 [] σ := by
  intro m
  induction m with
  | zero =>
    intro i σ h1 h2 hR
    refine g_iload_n dL_law_18 rfl ?_
    refine g_loadA dL_law_19 rfl ?_
    refine g_slen dL_law_20 ?_
    refine g_iconst dL_law_21 ?_
    refine g_isub dL_law_22 ?_
    refine g_cmp_gt 729 dL_law_23 rfl (fun _ => ?_) (fun h => ?_)
    · refine g_iconst dL_law_729 ?_
      exact g_zret dL_law_730 (Or.inr rfl) rfl (Nat.le_refl _) (Nat.le_refl _)
    · rw [x_nat (by omega), x_wr_of (by omega) (by omega)] at h
      omega
  | succ m ih =>
    intro i σ h1 h2 hR
    refine g_iload_n dL_law_18 rfl ?_
    refine g_loadA dL_law_19 rfl ?_
    refine g_slen dL_law_20 ?_
    refine g_iconst dL_law_21 ?_
    refine g_isub dL_law_22 ?_
    refine g_cmp_gt 729 dL_law_23 rfl (fun _ => ?_) (fun h => ?_)
    · refine g_iconst dL_law_729 ?_
      exact g_zret dL_law_730 (Or.inr rfl) rfl (Nat.le_refl _) (Nat.le_refl _)
    · rw [x_nat (by omega), x_wr_of (by omega) (by omega)] at h
      have hi : i + 4 < w.2.2.2.1 := by omega
      refine g_loadA dL_law_26 rfl ?_
      refine g_iload_n dL_law_27 rfl ?_
      refine g_sld (j := i) dL_law_28 rfl (by omega) (by omega) ?_
      refine g_bipush dL_law_29 (by decide) ?_
      refine g_iand dL_law_31 ?_
      refine law_switch hR hi (by omega) (fun σ1 hR1 => ?_)
      refine g_iinc dL_law_723 (by decide) rfl rfl ?_
      refine g_goto 18 dL_law_726 rfl ?_
      exact ih (i + 5) σ1 (by omega) (by omega) hR1
theorem law_go (l : Launch) (w : xZ) (hL : w.2.2.2.1 ≤ 2560) : xGo l RL cL_law 4 (some .boolean) (false, some w) 100 154 2024 x_QL 0 0 0 0 [(0, xA w.2.2.1)] [] x_r0 x_00 := by
  refine g_new (ci := 6) (C := RX6) (T := TX6) (N := 11) (t := 23) (i := 0) dL_law_0 (Or.inr rfl) rfl cl_L_7 in_X6 ii_X6 rfl (by decide) (by decide) (by decide) (Nat.le_of_ble_eq_true rfl) (Nat.le_of_ble_eq_true rfl) ?_
  refine g_mem _ (zr_z (fun _ => rfl)) ?_
  refine g_dup dL_law_3 rfl ?_
  refine x_callI (As := []) (rest := [xR 23 0]) (by decide) dL_law_4 cs_L_9 mb_X6_init (c_X6_init l w init_hch) (fun _ h => h) rfl (Nat.le_of_ble_eq_true rfl) (Nat.le_of_ble_eq_true rfl) (Nat.le_of_ble_eq_true rfl) (Nat.le_of_ble_eq_true rfl) (Nat.le_of_ble_eq_true rfl) (fun r n' ρ' σ' h => h.2.1) (fun r n' ρ' σ' h => ?_)
  obtain ⟨rfl, rfl, rfl, rfl⟩ := h
  refine g_astore_n (lv' := [_, _]) dL_law_7 (by decide) rfl ?_
  refine g_new (ci := 7) (C := RX7) (T := TX7) (N := 36) (t := 24) (i := 0) dL_law_8 (Or.inl (by decide)) rfl cl_L_10 in_X7 ii_X7 rfl (by decide) (by decide) (by decide) (Nat.le_of_ble_eq_true rfl) (Nat.le_of_ble_eq_true rfl) ?_
  refine g_mem _ (zr_z (init_hz 24 (by decide) (by decide))) ?_
  refine g_dup dL_law_11 rfl ?_
  refine f_I (As := []) (by decide) dL_law_12 cs_L_12 mb_X7_init (c_X7_init l x_in0 init_hz) rfl rfl (Nat.le_of_ble_eq_true rfl) (Nat.le_of_ble_eq_true rfl) (Nat.le_of_ble_eq_true rfl) (Nat.le_of_ble_eq_true rfl) (Nat.le_of_ble_eq_true rfl) ?_
  refine g_astore_n (lv' := [_, _, _]) dL_law_15 (by decide) rfl ?_
  refine g_iconst dL_law_16 ?_
  refine g_istore_n (lv' := [_, _, _, _]) dL_law_17 (by decide) rfl ?_
  exact law_loop l w hL (w.2.2.2.1 + 1) 0 x_fst (by omega) (by omega) RR_fst
