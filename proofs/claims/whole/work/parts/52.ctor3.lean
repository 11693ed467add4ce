theorem row_13 (ρ : xMr) (t q u k : Nat) (v : Option (Nat × Nat)) (hu : u ≠ t) : x_ur (x_zn (x_zn ρ t q) u q) t q k v = x_row (x_ur (x_zn ρ t q) t q k v) u q 0 := by
  funext t' i' k'
  simp only [x_ur, x_zn, x_row, Nat.not_lt_zero, if_false]
  by_cases h1 : t' = t ∧ i' = q ∧ k' = k
  · rw [if_pos h1, if_neg (fun z => hu (z.1.symm.trans h1.1)), if_pos h1]
  · rw [if_neg h1, if_neg h1]
theorem fl_13 (ρ : xMr) (q : Nat) : x_ur (x_zn ρ 13 q) 13 q 0 (some (14, q)) = x_fl0 ρ 13 q := by
  funext t i k
  simp only [x_ur, x_zn, x_fl0]
  by_cases h : t = 13 ∧ i = q
  · obtain ⟨rfl, rfl⟩ := h
    simp only [true_and, and_self, if_true]
    rfl
  · rw [if_neg (fun z => h ⟨z.1, z.2.1⟩), if_neg h, if_neg h]
theorem fl_19 (ρ : xMr) : x_ur (x_ur (x_ur (x_zn ρ 19 0) 19 0 0 (some (20, 0))) 19 0 1 (some (21, 0))) 19 0 2 (some (22, 0)) = x_fl0 ρ 19 0 := by
  funext t i k
  simp only [x_ur, x_zn, x_fl0]
  by_cases h : t = 19 ∧ i = 0
  · obtain ⟨rfl, rfl⟩ := h
    simp only [true_and, and_self, if_true]
    unfold x_r0
    simp only []
    (repeat' split) <;> first | rfl | omega | (subst_vars; rfl)
  · have h1 : ∀ k2, ¬ (t = 19 ∧ i = 0 ∧ k = k2) := fun k2 z => h ⟨z.1, z.2.1⟩
    simp only [h, h1, if_false]
theorem row_19 (ρ : xMr) : x_ur (x_ur (x_ur (x_zn (x_zn ρ 19 0) 20 0) 19 0 0 (some (20, 0))) 19 0 1 (some (21, 0))) 19 0 2 (some (22, 0)) = x_row (x_fl0 ρ 19 0) 20 0 0 := by
  rw [← fl_19]
  funext t i k
  simp only [x_ur, x_zn, x_row, Nat.not_lt_zero, if_false]
  by_cases h : t = 20 ∧ i = 0
  · obtain ⟨rfl, rfl⟩ := h
    simp
  · simp only [h, if_false]
theorem g_ref {l : Launch} {own : String} {cc : ByteArray} {nL : Nat} {ret : Option FieldType} {ini : xB} {d mc ms : Nat} {Q : xP} {n cu su pc : Nat} {lv : List (Nat × xV)} {st : List xV} {ρ : xMr} {σ : xMi} (ρ2 : xMr) (h : ρ = ρ2) (kk : xGo l own cc nL ret ini d mc ms Q n cu su pc lv st ρ2 σ) : xGo l own cc nL ret ini d mc ms Q n cu su pc lv st ρ σ := by
  subst h; exact kk
theorem pile_od0 : ∀ j, j < 8 → x_od 0 (3 + j) = 36 + 5 * j ∧ 3 + j < 20 ∧ x_rof (3 + j) = 0 ∧ x_r0 14 0 j = some (0, 3 + j) := by decide +kernel
theorem pile_od1 : ∀ j, j < 2 → x_od 0 (11 + j) = 78 + 5 * j ∧ 11 + j < 20 ∧ x_rof (11 + j) = 0 ∧ x_r0 14 1 j = some (0, 11 + j) := by decide +kernel
theorem srch_od : ∀ j, j < 7 → x_od 0 (13 + j) = 96 + 5 * j ∧ 13 + j < 20 ∧ x_rof (13 + j) = 0 ∧ x_r0 20 0 j = some (0, 13 + j) := by decide +kernel
theorem vd_c {t i n : Nat} (h1 : x_iv (x_od t i) = (t, i)) (h2 : Nat.ble (x_od t i + 1) n = true) : x_vd n t i := ⟨h1, Nat.le_of_ble_eq_true h2⟩
theorem c_X2_init_0 (l : Launch) (ρ : xMr) (σ : xMi) (hzF : ∀ j, j ≤ 4 → ∀ f k, σ j f k = 0) (hz : ∀ k, σ 13 0 k = 0) : x_FI l yX2_init RX2 cX2_init 4 2 41 296 35 (x_zn ρ 13 0) σ [xR 13 0, xR 5 0, xI 8] (x_fl0 (x_flF (x_fl0 ρ 13 0) 3 8) 14 0) σ := by
  refine fi_of (by decide) rfl rfl (Nat.le_of_ble_eq_true rfl) rfl ?_
  refine g_aload_n dX2_init_0 rfl ?_
  refine g_oinit dX2_init_1 cx_X2_1 w_oi.1 w_oi.2 (by decide) (Nat.le_of_ble_eq_true rfl) ?_
  refine g_aload_n dX2_init_4 rfl ?_
  refine g_iconst dX2_init_5 ?_
  refine g_putI dX2_init_6 fl_X2_7 (vd_c (by decide) rfl) rfl rfl ?_
  refine g_mem _ (up_z (hz _)) ?_
  refine g_aload_n dX2_init_9 rfl ?_
  refine g_iconst dX2_init_10 ?_
  refine g_putI dX2_init_11 fl_X2_13 (vd_c (by decide) rfl) rfl rfl ?_
  refine g_mem _ (up_z (hz _)) ?_
  refine g_aload_n dX2_init_14 rfl ?_
  refine g_iload_n dX2_init_15 rfl ?_
  refine g_iconst dX2_init_16 ?_
  refine g_max dX2_init_17 cx_X2_16 w_max.1 w_max.2.1 w_max.2.2 (by decide) (Nat.le_of_ble_eq_true rfl) (Nat.zero_le _) (Nat.zero_le _) ?_
  refine g_anew (t := 14) (i := 0) dX2_init_20 (Or.inl (by decide)) cl_X2_22 (by decide) rfl (by decide) (by decide) (by decide) (by decide) (by decide) ?_
  refine g_putR rfl dX2_init_23 fl_X2_24 (vd_c (by decide) rfl) rfl rfl (fun q h => by cases h; rfl) ?_
  refine g_iconst dX2_init_26 ?_
  refine g_istore_n (lv' := [_, _, _, _]) dX2_init_27 (Nat.le_of_ble_eq_true rfl) rfl ?_
  refine g_sub (lv2 := [(3, xI ((0 : Nat) : Int)), _, _]) [0, 1, 2] rfl ?_
  refine g_ref _ (row_13 ρ 13 0 14 0 _ (by decide)) ?_
  rw [fl_13]
  have h := lp_X2_init l 0 3 8 36 296 41 σ hzF rfl (by decide) pile_od0 (fun n hn => ⟨by decide, Nat.lt_of_lt_of_le (by decide) hn⟩) (fun n hn => ⟨by decide, Nat.lt_of_lt_of_le (by decide) hn⟩) (by decide) 8 0 (x_fl0 ρ 13 0) 1 8 rfl (by simp only [x_fl0, and_self, if_true]; rfl) (by decide) (by decide)
  rw [row_e (ρ := x_flF (x_fl0 ρ 13 0) (3 + 0) 8) (fun k hk => by simp only [x_r0]; first | rw [if_pos trivial, if_neg (by omega)] | rw [if_neg (by decide), if_neg (by omega)])] at h
  exact h

theorem c_X2_init_1 (l : Launch) (ρ : xMr) (σ : xMi) (hzF : ∀ j, j ≤ 4 → ∀ f k, σ j f k = 0) (hz : ∀ k, σ 13 1 k = 0) : x_FI l yX2_init RX2 cX2_init 4 2 11 74 77 (x_zn ρ 13 1) σ [xR 13 1, xR 5 0, xI 2] (x_fl0 (x_flF (x_fl0 ρ 13 1) 11 2) 14 1) σ := by
  refine fi_of (by decide) rfl rfl (Nat.le_of_ble_eq_true rfl) rfl ?_
  refine g_aload_n dX2_init_0 rfl ?_
  refine g_oinit dX2_init_1 cx_X2_1 w_oi.1 w_oi.2 (by decide) (Nat.le_of_ble_eq_true rfl) ?_
  refine g_aload_n dX2_init_4 rfl ?_
  refine g_iconst dX2_init_5 ?_
  refine g_putI dX2_init_6 fl_X2_7 (vd_c (by decide) rfl) rfl rfl ?_
  refine g_mem _ (up_z (hz _)) ?_
  refine g_aload_n dX2_init_9 rfl ?_
  refine g_iconst dX2_init_10 ?_
  refine g_putI dX2_init_11 fl_X2_13 (vd_c (by decide) rfl) rfl rfl ?_
  refine g_mem _ (up_z (hz _)) ?_
  refine g_aload_n dX2_init_14 rfl ?_
  refine g_iload_n dX2_init_15 rfl ?_
  refine g_iconst dX2_init_16 ?_
  refine g_max dX2_init_17 cx_X2_16 w_max.1 w_max.2.1 w_max.2.2 (by decide) (Nat.le_of_ble_eq_true rfl) (Nat.zero_le _) (Nat.zero_le _) ?_
  refine g_anew (t := 14) (i := 1) dX2_init_20 (Or.inl (by decide)) cl_X2_22 (by decide) rfl (by decide) (by decide) (by decide) (by decide) (by decide) ?_
  refine g_putR rfl dX2_init_23 fl_X2_24 (vd_c (by decide) rfl) rfl rfl (fun q h => by cases h; rfl) ?_
  refine g_iconst dX2_init_26 ?_
  refine g_istore_n (lv' := [_, _, _, _]) dX2_init_27 (Nat.le_of_ble_eq_true rfl) rfl ?_
  refine g_sub (lv2 := [(3, xI ((0 : Nat) : Int)), _, _]) [0, 1, 2] rfl ?_
  refine g_ref _ (row_13 ρ 13 1 14 0 _ (by decide)) ?_
  rw [fl_13]
  have h := lp_X2_init l 1 11 2 78 74 11 σ hzF rfl (by decide) pile_od1 (fun n hn => ⟨by decide, Nat.lt_of_lt_of_le (by decide) hn⟩) (fun n hn => ⟨by decide, Nat.lt_of_lt_of_le (by decide) hn⟩) (by decide) 2 0 (x_fl0 ρ 13 1) 1 2 rfl (by simp only [x_fl0, and_self, if_true]; rfl) (by decide) (by decide)
  rw [row_e (ρ := x_flF (x_fl0 ρ 13 1) (11 + 0) 2) (fun k hk => by simp only [x_r0]; first | rw [if_pos trivial, if_neg (by omega)] | rw [if_neg (by decide), if_neg (by omega)])] at h
  exact h

theorem c_X1_init (l : Launch) (ρ : xMr) (σ : xMi) (hzF : ∀ j, j ≤ 4 → ∀ f k, σ j f k = 0) (hz : ∀ k, σ 19 0 k = 0) (hzA : ∀ t, t = 21 ∨ t = 22 → ∀ k, σ t 0 k = 0) : x_FI l yX1_init RX1 cX1_init 3 2 38 271 93 (x_zn ρ 19 0) σ [xR 19 0, xR 5 0] (x_fl0 (x_flF (x_fl0 ρ 19 0) 13 7) 20 0) (x_up σ 19 0 4 (-1)) := by
  refine fi_of (by decide) rfl rfl (Nat.le_of_ble_eq_true rfl) rfl ?_
  refine g_aload_n dX1_init_0 rfl ?_
  refine g_oinit dX1_init_1 cx_X1_3 w_oi.1 w_oi.2 (by decide) (Nat.le_of_ble_eq_true rfl) ?_
  refine g_aload_n dX1_init_4 rfl ?_
  refine g_bipush dX1_init_5 (by decide) ?_
  refine g_anew (t := 20) (i := 0) dX1_init_7 (Or.inl (by decide)) cl_X1_9 (by decide) rfl (by decide) (by decide) (by decide) (by decide) (by decide) ?_
  refine g_putR rfl dX1_init_10 fl_X1_11 (vd_c (by decide) rfl) rfl rfl (fun q h => by cases h; rfl) ?_
  refine g_aload_n dX1_init_13 rfl ?_
  refine g_bipush dX1_init_14 (by decide) ?_
  refine g_newarr (t := 21) (i := 0) 0 dX1_init_16 (Or.inl (by decide)) ac_int (Or.inl ⟨rfl, rfl⟩) rfl rfl (by decide) (by decide) (by decide) (by decide) (by decide) ?_
  refine g_mem _ (zr_z (hzA 21 (by decide))) ?_
  refine g_putR rfl dX1_init_18 fl_X1_17 (vd_c (by decide) rfl) rfl rfl (fun q h => by cases h; rfl) ?_
  refine g_aload_n dX1_init_21 rfl ?_
  refine g_bipush dX1_init_22 (by decide) ?_
  refine g_newarr (t := 22) (i := 0) 0 dX1_init_24 (Or.inl (by decide)) ac_int (Or.inl ⟨rfl, rfl⟩) rfl rfl (by decide) (by decide) (by decide) (by decide) (by decide) ?_
  refine g_mem _ (zr_z (hzA 22 (by decide))) ?_
  refine g_putR rfl dX1_init_26 fl_X1_21 (vd_c (by decide) rfl) rfl rfl (fun q h => by cases h; rfl) ?_
  refine g_aload_n dX1_init_29 rfl ?_
  refine g_iconst dX1_init_30 ?_
  refine g_putI dX1_init_31 fl_X1_24 (vd_c (by decide) rfl) rfl rfl ?_
  refine g_mem _ (up_z (hz _)) ?_
  refine g_aload_n dX1_init_34 rfl ?_
  refine g_iconst dX1_init_35 ?_
  refine g_putI dX1_init_36 fl_X1_28 (vd_c (by decide) rfl) rfl rfl ?_
  refine g_iconst dX1_init_39 ?_
  refine g_istore_n (lv' := [_, _, _]) dX1_init_40 (Nat.le_of_ble_eq_true rfl) rfl ?_
  refine g_sub (lv2 := [(2, xI ((0 : Nat) : Int)), _, _]) [0, 1, 2] rfl ?_
  refine g_ref _ (row_19 ρ) ?_
  have h := lp_X1_init l 0 13 7 96 271 38 (x_up σ 19 0 4 (-1)) (fun j hj f k => by rw [x_up_o (by omega)]; exact hzF j hj f k) rfl (by decide) srch_od (fun n hn => ⟨by decide, Nat.lt_of_lt_of_le (by decide) hn⟩) (fun n hn => ⟨by decide, Nat.lt_of_lt_of_le (by decide) hn⟩) (by decide) 7 0 (x_fl0 ρ 19 0) 3 19 rfl (by simp only [x_fl0, and_self, if_true]; rfl) (by decide) (by decide)
  rw [row_e (ρ := x_flF (x_fl0 ρ 19 0) (13 + 0) 7) (fun k hk => by simp only [x_r0]; rw [if_neg (by omega)])] at h
  exact h
