/-! NewsHampers' own constructor -/
def x_00 : xMi := fun _ _ _ => 0
abbrev x_rw (j : Nat) : xMr := x_row x_r0 23 0 j
theorem rw_fl (j t i : Nat) (ht : t ≠ 23) : x_fl0 (x_rw j) t i = x_rw j := by
  funext t' i' k
  unfold x_fl0
  split
  · rename_i z
    obtain ⟨rfl, rfl⟩ := z
    unfold x_rw x_row
    rw [if_neg (fun z => ht z.1)]
  · rfl
theorem rw_flF (j : Nat) : ∀ (m f : Nat), x_flF (x_rw j) f m = x_rw j
  | 0, _ => rfl
  | m + 1, f => by
    show x_flF (x_fl0 (x_rw j) 0 f) (f + 1) m = x_rw j
    rw [rw_fl j 0 f (by decide)]
    exact rw_flF j m (f + 1)
theorem rw_ur (j : Nat) (v : Option (Nat × Nat)) (hv : v = x_r0 23 0 j) : x_ur (x_rw j) 23 0 j v = x_rw (j + 1) := by
  subst hv
  funext t i k
  simp only [x_ur, x_row]
  by_cases h : t = 23 ∧ i = 0
  · obtain ⟨rfl, rfl⟩ := h
    simp only [true_and, and_self, if_true]
    by_cases hk : k = j
    · subst hk; rw [if_pos rfl, if_pos (by omega)]
    · rw [if_neg hk]
      by_cases h1 : k < j
      · rw [if_pos h1, if_pos (by omega)]
      · rw [if_neg h1, if_neg (by omega)]
  · have h1 : ¬ (t = 23 ∧ i = 0 ∧ k = j) := fun z => h ⟨z.1, z.2.1⟩
    simp only [h, h1, if_false]
theorem rw_11 : x_rw 11 = x_r0 := by
  unfold x_rw
  rw [row_e (fun k hk => by show ([(10, 0), (5, 0), (5, 1), (5, 2), (0, 0), (0, 1), (0, 2), (13, 0), (13, 1), (15, 0), (19, 0)] : List (Nat × Nat))[k]? = none; exact List.getElem?_eq_none (by simpa using hk))]
  funext t i k
  unfold x_fl0
  split
  · rename_i z; rw [z.1, z.2]
  · rfl
def x_b1 : xMi := x_up x_00 5 0 5 3
def x_b2 : xMi := x_up x_b1 5 1 5 3
def x_b3 : xMi := x_up x_b2 5 2 5 3
def x_b4 : xMi := x_up x_b3 19 0 4 (-1)
theorem b1_z {t i k : Nat} (h : ¬ (t = 5 ∧ i = 0)) : x_b1 t i k = 0 := by unfold x_b1; rw [x_up_o h]; rfl
theorem b2_z {t i k : Nat} (h : ¬ (t = 5 ∧ i < 2)) : x_b2 t i k = 0 := by unfold x_b2; rw [x_up_o (by omega)]; exact b1_z (by omega)
theorem b3_z {t i k : Nat} (h : t ≠ 5) : x_b3 t i k = 0 := by unfold x_b3; rw [x_up_o (by omega)]; exact b2_z (by omega)
theorem ci_X5 (l : Launch) (ρ : xMr) : x_FI l yX5_init RX5 cX5_init 1 1 2 204 2 (x_zn ρ 10 0) x_00 [xR 10 0] (x_fl0 ρ 10 0) x_00 := c_X5_init l 0 (by decide) ρ x_00 (fun _ _ _ => rfl)
theorem ci_X3_0 (l : Launch) (ρ : xMr) : x_FI l yX3_init RX3 cX3_init 1 1 4 24 5 (x_zn ρ 5 0) x_00 [xR 5 0] (x_fl0 ρ 5 0) x_b1 := c_X3_init l 0 (by decide) ρ x_00 (fun _ _ _ => rfl)
theorem ci_X3_1 (l : Launch) (ρ : xMr) : x_FI l yX3_init RX3 cX3_init 1 1 4 24 10 (x_zn ρ 5 1) x_b1 [xR 5 1] (x_fl0 ρ 5 1) x_b2 := c_X3_init l 1 (by decide) ρ x_b1 (fun _ _ _ => b1_z (by omega))
theorem ci_X3_2 (l : Launch) (ρ : xMr) : x_FI l yX3_init RX3 cX3_init 1 1 4 24 15 (x_zn ρ 5 2) x_b2 [xR 5 2] (x_fl0 ρ 5 2) x_b3 := c_X3_init l 2 (by decide) ρ x_b2 (fun _ _ _ => b2_z (by omega))
theorem ci_X0_0 (l : Launch) (ρ : xMr) : x_FI l yX0_init RX0 cX0_init 2 1 4 24 20 (x_zn ρ 0 0) x_b3 [xR 0 0, xR 5 0] (x_fl0 ρ 0 0) x_b3 := c_X0_init l 0 (by decide) ρ x_b3 (fun _ _ _ => b3_z (by omega))
theorem ci_X0_1 (l : Launch) (ρ : xMr) : x_FI l yX0_init RX0 cX0_init 2 1 4 24 25 (x_zn ρ 0 1) x_b3 [xR 0 1, xR 5 0] (x_fl0 ρ 0 1) x_b3 := c_X0_init l 1 (by decide) ρ x_b3 (fun _ _ _ => b3_z (by omega))
theorem ci_X0_2 (l : Launch) (ρ : xMr) : x_FI l yX0_init RX0 cX0_init 2 1 4 24 30 (x_zn ρ 0 2) x_b3 [xR 0 2, xR 5 2] (x_fl0 ρ 0 2) x_b3 := c_X0_init l 2 (by decide) ρ x_b3 (fun _ _ _ => b3_z (by omega))
theorem ci_X4 (l : Launch) (ρ : xMr) : x_FI l yX4_init RX4 cX4_init 1 1 3 18 89 (x_zn ρ 15 0) x_b3 [xR 15 0] (x_fl0 ρ 15 0) x_b3 := c_X4_init l 0 (by decide) ρ x_b3 (fun _ _ _ => b3_z (by omega))
/-! the loop that lays the letters -/
def x_aps : Nat → Nat → xMi → xMi
  | 0, _, σ => σ
  | m + 1, j, σ => x_aps m (j + 1) (S_X5_append σ (x_ca j) j)
theorem aps_2 {σ : xMi} {j : Nat} {c : Int} (hj : j < 51) (h : σ 10 0 2 = (j : Int)) : S_X5_append σ c j 10 0 2 = ((j + 1 : Nat) : Int) := by
  unfold S_X5_append
  rw [h, x_nat (by omega), if_neg (by have : x_wr 200 = 200 := by decide +kernel
                                      omega)]
  rw [x_up_s, if_pos rfl, x_up_o (by omega), h]
  omega
theorem lp_X6_init (l : Launch) (w : xZ) (Q : xP) : ∀ (m j : Nat) (σ : xMi), j + m = 51 → σ 10 0 2 = (j : Int) → xGo l RX6 cX6_init 2 none (true, some w) 5 130 1079 Q 131 130 1079 183 [(1, xI 51), (0, xR 23 0)] [] x_r0 (x_aps m j σ) → xGo l RX6 cX6_init 2 none (true, some w) 5 130 1079 Q 131 130 1079 154 [(1, xI (j : Int)), (0, xR 23 0)] [] x_r0 σ
  | 0, j, σ, hm, h2, kk => by
    obtain rfl : j = 51 := hm
    refine g_iload_n dX6_init_154 rfl ?_
    refine g_txt dX6_init_155 rfl ?_
    refine f_AT (As := []) (by decide) dX6_init_157 cs_X6_72 mb_J0_length_8abf5 (c_J0_length l 131 w x_r0 σ (by decide)) rfl rfl rfl (Nat.le_of_ble_eq_true rfl) (Nat.le_of_ble_eq_true rfl) (Nat.le_of_ble_eq_true rfl) (Nat.le_refl _) (Nat.le_refl _) ?_
    refine g_cmp_ge 183 dX6_init_160 rfl (fun _ => kk) (fun h => absurd (Int.le_refl _) h)
  | m + 1, j, σ, hm, h2, kk => by
    refine g_iload_n dX6_init_154 rfl ?_
    refine g_txt dX6_init_155 rfl ?_
    refine f_AT (As := []) (by decide) dX6_init_157 cs_X6_72 mb_J0_length_8abf5 (c_J0_length l 131 w x_r0 σ (by decide)) rfl rfl rfl (Nat.le_of_ble_eq_true rfl) (Nat.le_of_ble_eq_true rfl) (Nat.le_of_ble_eq_true rfl) (Nat.le_refl _) (Nat.le_refl _) ?_
    refine g_cmp_ge 183 dX6_init_160 rfl (fun h => ?_) (fun _ => ?_)
    · exfalso
      rw [x_nat (by omega)] at h
      have : x_wr 51 = 51 := by decide +kernel
      omega
    refine g_aload_n dX6_init_163 rfl ?_
    refine g_getR dX6_init_164 fl_X6_10 (vd_c (by decide) rfl) rfl rfl rfl ?_
    refine g_txt dX6_init_167 rfl ?_
    refine g_iload_n dX6_init_169 rfl ?_
    refine f_AT (As := [xI (j : Int)]) (by decide) dX6_init_170 cs_X6_78 mb_J0_charAt_5068e (c_J0_charAt l 131 w x_r0 σ j (by omega) (by decide)) rfl rfl rfl (Nat.le_of_ble_eq_true rfl) (Nat.le_of_ble_eq_true rfl) (Nat.le_of_ble_eq_true rfl) (Nat.le_refl _) (Nat.le_refl _) ?_
    refine f_V (As := [xI (x_ca j)]) dX6_init_173 cs_X6_82 mb_X5_append (c_X5_append l 131 σ (x_ca j) j (Nat.le_refl _) (by omega) h2) rfl (x_vC (Nat.le_refl _) (Nat.le_of_ble_eq_true rfl) (Nat.le_of_ble_eq_true rfl)) rfl rfl rfl (Nat.le_of_ble_eq_true rfl) (by decide) (Nat.le_of_ble_eq_true rfl) (Nat.le_refl _) (Nat.le_refl _) ?_
    refine g_pop dX6_init_176 rfl ?_
    refine g_iinc dX6_init_177 (by decide) rfl rfl ?_
    refine g_goto 154 dX6_init_180 rfl ?_
    exact lp_X6_init l w Q m (j + 1) (S_X5_append σ (x_ca j) j) (by omega) (aps_2 (by omega) h2) kk

def x_in0 : xMi := S_X5_empty (S_X6_startFromDraft (S_X5_readInto (x_aps 51 0 x_b4) 1))
theorem c_X6_init (l : Launch) (w : xZ) (hch : ∀ k, 0 ≤ x_aps 51 0 x_b4 11 0 k ∧ x_aps 51 0 x_b4 11 0 k < 65536) : x_Sp l yX6_init (RX6, cX6_init, 2, none, (true, some w)) 5 130 1079 1 (x_zn x_r0 23 0) x_00 [xR 23 0] (x_QI 131 x_r0 x_in0) := by
  refine x_Sp.of (by decide) rfl (fun _ => rfl) (Nat.le_of_ble_eq_true rfl) ?_
  refine g_ref _ (row_0 x_r0 23 0) ?_
  refine g_aload_n dX6_init_0 rfl ?_
  refine g_oinit dX6_init_1 cx_X6_1 w_oi.1 w_oi.2 (by decide) (Nat.le_of_ble_eq_true rfl) ?_
  refine g_aload_n dX6_init_4 rfl ?_
  refine g_new (ci := 5) (C := RX5) (T := TX5) (N := 3) (t := 10) (i := 0) dX6_init_5 (Or.inl (by decide)) rfl cl_X6_7 in_X5 ii_X5 rfl (by decide) (by decide) (by decide) (Nat.le_of_ble_eq_true rfl) (Nat.le_of_ble_eq_true rfl) ?_
  refine g_mem _ (zr_z (fun _ => rfl)) ?_
  refine g_dup dX6_init_8 rfl ?_
  refine f_N (As := []) (by decide) dX6_init_9 cs_X6_9 mb_X5_init (ci_X5 l _) rfl rfl (Nat.le_of_ble_eq_true rfl) (Nat.le_of_ble_eq_true rfl) (Nat.le_of_ble_eq_true rfl) (Nat.le_of_ble_eq_true rfl) (Nat.le_of_ble_eq_true rfl) ?_
  refine g_ref _ (rw_fl 0 10 0 (by decide)) ?_
  refine g_putR rfl dX6_init_12 fl_X6_10 (vd_c (by decide) rfl) rfl rfl (fun q h => by cases h; rfl) ?_
  refine g_ref _ (rw_ur 0 _ rfl) ?_
  refine g_aload_n dX6_init_15 rfl ?_
  refine g_new (ci := 3) (C := RX3) (T := TX3) (N := 6) (t := 5) (i := 0) dX6_init_16 (Or.inl (by decide)) rfl cl_X6_16 in_X3 ii_X3 rfl (by decide) (by decide) (by decide) (Nat.le_of_ble_eq_true rfl) (Nat.le_of_ble_eq_true rfl) ?_
  refine g_mem _ (zr_z (fun _ => rfl)) ?_
  refine g_dup dX6_init_19 rfl ?_
  refine f_N (As := []) (by decide) dX6_init_20 cs_X6_18 mb_X3_init (ci_X3_0 l _) rfl rfl (Nat.le_of_ble_eq_true rfl) (Nat.le_of_ble_eq_true rfl) (Nat.le_of_ble_eq_true rfl) (Nat.le_of_ble_eq_true rfl) (Nat.le_of_ble_eq_true rfl) ?_
  refine g_ref _ (rw_fl 1 5 0 (by decide)) ?_
  refine g_putR rfl dX6_init_23 fl_X6_19 (vd_c (by decide) rfl) rfl rfl (fun q h => by cases h; rfl) ?_
  refine g_ref _ (rw_ur 1 _ rfl) ?_
  refine g_aload_n dX6_init_26 rfl ?_
  refine g_new (ci := 3) (C := RX3) (T := TX3) (N := 6) (t := 5) (i := 1) dX6_init_27 (Or.inl (by decide)) rfl cl_X6_16 in_X3 ii_X3 rfl (by decide) (by decide) (by decide) (Nat.le_of_ble_eq_true rfl) (Nat.le_of_ble_eq_true rfl) ?_
  refine g_mem _ (zr_z (fun _ => b1_z (by decide))) ?_
  refine g_dup dX6_init_30 rfl ?_
  refine f_N (As := []) (by decide) dX6_init_31 cs_X6_18 mb_X3_init (ci_X3_1 l _) rfl rfl (Nat.le_of_ble_eq_true rfl) (Nat.le_of_ble_eq_true rfl) (Nat.le_of_ble_eq_true rfl) (Nat.le_of_ble_eq_true rfl) (Nat.le_of_ble_eq_true rfl) ?_
  refine g_ref _ (rw_fl 2 5 1 (by decide)) ?_
  refine g_putR rfl dX6_init_34 fl_X6_23 (vd_c (by decide) rfl) rfl rfl (fun q h => by cases h; rfl) ?_
  refine g_ref _ (rw_ur 2 _ rfl) ?_
  refine g_aload_n dX6_init_37 rfl ?_
  refine g_new (ci := 3) (C := RX3) (T := TX3) (N := 6) (t := 5) (i := 2) dX6_init_38 (Or.inl (by decide)) rfl cl_X6_16 in_X3 ii_X3 rfl (by decide) (by decide) (by decide) (Nat.le_of_ble_eq_true rfl) (Nat.le_of_ble_eq_true rfl) ?_
  refine g_mem _ (zr_z (fun _ => b2_z (by decide))) ?_
  refine g_dup dX6_init_41 rfl ?_
  refine f_N (As := []) (by decide) dX6_init_42 cs_X6_18 mb_X3_init (ci_X3_2 l _) rfl rfl (Nat.le_of_ble_eq_true rfl) (Nat.le_of_ble_eq_true rfl) (Nat.le_of_ble_eq_true rfl) (Nat.le_of_ble_eq_true rfl) (Nat.le_of_ble_eq_true rfl) ?_
  refine g_ref _ (rw_fl 3 5 2 (by decide)) ?_
  refine g_putR rfl dX6_init_45 fl_X6_26 (vd_c (by decide) rfl) rfl rfl (fun q h => by cases h; rfl) ?_
  refine g_ref _ (rw_ur 3 _ rfl) ?_
  refine g_aload_n dX6_init_48 rfl ?_
  refine g_new (ci := 0) (C := RX0) (T := TX0) (N := 12) (t := 0) (i := 0) dX6_init_49 (Or.inl (by decide)) rfl cl_X6_29 in_X0 ii_X0 rfl (by decide) (by decide) (by decide) (Nat.le_of_ble_eq_true rfl) (Nat.le_of_ble_eq_true rfl) ?_
  refine g_mem _ (zr_z (fun _ => b3_z (by decide))) ?_
  refine g_dup dX6_init_52 rfl ?_
  refine g_aload_n dX6_init_53 rfl ?_
  refine g_getR (t2 := 5) (i2 := 0) dX6_init_54 fl_X6_19 (vd_c (by decide) rfl) rfl rfl (by decide) ?_
  refine f_I (As := [xR 5 0]) (by decide) dX6_init_57 cs_X6_31 mb_X0_init (ci_X0_0 l _) rfl rfl (Nat.le_of_ble_eq_true rfl) (Nat.le_of_ble_eq_true rfl) (Nat.le_of_ble_eq_true rfl) (Nat.le_of_ble_eq_true rfl) (Nat.le_of_ble_eq_true rfl) ?_
  refine g_ref _ (rw_fl 4 0 0 (by decide)) ?_
  refine g_putR rfl dX6_init_60 fl_X6_34 (vd_c (by decide) rfl) rfl rfl (fun q h => by cases h; rfl) ?_
  refine g_ref _ (rw_ur 4 _ rfl) ?_
  refine g_aload_n dX6_init_63 rfl ?_
  refine g_new (ci := 0) (C := RX0) (T := TX0) (N := 12) (t := 0) (i := 1) dX6_init_64 (Or.inl (by decide)) rfl cl_X6_29 in_X0 ii_X0 rfl (by decide) (by decide) (by decide) (Nat.le_of_ble_eq_true rfl) (Nat.le_of_ble_eq_true rfl) ?_
  refine g_mem _ (zr_z (fun _ => b3_z (by decide))) ?_
  refine g_dup dX6_init_67 rfl ?_
  refine g_aload_n dX6_init_68 rfl ?_
  refine g_getR (t2 := 5) (i2 := 0) dX6_init_69 fl_X6_19 (vd_c (by decide) rfl) rfl rfl (by decide) ?_
  refine f_I (As := [xR 5 0]) (by decide) dX6_init_72 cs_X6_31 mb_X0_init (ci_X0_1 l _) rfl rfl (Nat.le_of_ble_eq_true rfl) (Nat.le_of_ble_eq_true rfl) (Nat.le_of_ble_eq_true rfl) (Nat.le_of_ble_eq_true rfl) (Nat.le_of_ble_eq_true rfl) ?_
  refine g_ref _ (rw_fl 5 0 1 (by decide)) ?_
  refine g_putR rfl dX6_init_75 fl_X6_38 (vd_c (by decide) rfl) rfl rfl (fun q h => by cases h; rfl) ?_
  refine g_ref _ (rw_ur 5 _ rfl) ?_
  refine g_aload_n dX6_init_78 rfl ?_
  refine g_new (ci := 0) (C := RX0) (T := TX0) (N := 12) (t := 0) (i := 2) dX6_init_79 (Or.inl (by decide)) rfl cl_X6_29 in_X0 ii_X0 rfl (by decide) (by decide) (by decide) (Nat.le_of_ble_eq_true rfl) (Nat.le_of_ble_eq_true rfl) ?_
  refine g_mem _ (zr_z (fun _ => b3_z (by decide))) ?_
  refine g_dup dX6_init_82 rfl ?_
  refine g_aload_n dX6_init_83 rfl ?_
  refine g_getR (t2 := 5) (i2 := 2) dX6_init_84 fl_X6_26 (vd_c (by decide) rfl) rfl rfl (by decide) ?_
  refine f_I (As := [xR 5 2]) (by decide) dX6_init_87 cs_X6_31 mb_X0_init (ci_X0_2 l _) rfl rfl (Nat.le_of_ble_eq_true rfl) (Nat.le_of_ble_eq_true rfl) (Nat.le_of_ble_eq_true rfl) (Nat.le_of_ble_eq_true rfl) (Nat.le_of_ble_eq_true rfl) ?_
  refine g_ref _ (rw_fl 6 0 2 (by decide)) ?_
  refine g_putR rfl dX6_init_90 fl_X6_41 (vd_c (by decide) rfl) rfl rfl (fun q h => by cases h; rfl) ?_
  refine g_ref _ (rw_ur 6 _ rfl) ?_
  refine g_aload_n dX6_init_93 rfl ?_
  refine g_new (ci := 2) (C := RX2) (T := TX2) (N := 3) (t := 13) (i := 0) dX6_init_94 (Or.inl (by decide)) rfl cl_X6_44 in_X2 ii_X2 rfl (by decide) (by decide) (by decide) (Nat.le_of_ble_eq_true rfl) (Nat.le_of_ble_eq_true rfl) ?_
  refine g_mem _ (zr_z (fun _ => b3_z (by decide))) ?_
  refine g_dup dX6_init_97 rfl ?_
  refine g_aload_n dX6_init_98 rfl ?_
  refine g_getR (t2 := 5) (i2 := 0) dX6_init_99 fl_X6_19 (vd_c (by decide) rfl) rfl rfl (by decide) ?_
  refine g_bipush dX6_init_102 (by decide) ?_
  refine f_I (As := [xR 5 0, xI 8]) (by decide) dX6_init_104 cs_X6_46 mb_X2_init (c_X2_init_0 l _ x_b3 (fun _ _ _ _ => b3_z (by omega)) (fun _ => b3_z (by decide))) rfl rfl (Nat.le_of_ble_eq_true rfl) (Nat.le_of_ble_eq_true rfl) (Nat.le_of_ble_eq_true rfl) (Nat.le_of_ble_eq_true rfl) (Nat.le_of_ble_eq_true rfl) ?_
  refine g_ref _ (by rw [rw_fl 7 13 0 (by decide), rw_flF, rw_fl 7 14 0 (by decide)]) ?_
  refine g_putR rfl dX6_init_107 fl_X6_49 (vd_c (by decide) rfl) rfl rfl (fun q h => by cases h; rfl) ?_
  refine g_ref _ (rw_ur 7 _ rfl) ?_
  refine g_aload_n dX6_init_110 rfl ?_
  refine g_new (ci := 2) (C := RX2) (T := TX2) (N := 3) (t := 13) (i := 1) dX6_init_111 (Or.inl (by decide)) rfl cl_X6_44 in_X2 ii_X2 rfl (by decide) (by decide) (by decide) (Nat.le_of_ble_eq_true rfl) (Nat.le_of_ble_eq_true rfl) ?_
  refine g_mem _ (zr_z (fun _ => b3_z (by decide))) ?_
  refine g_dup dX6_init_114 rfl ?_
  refine g_aload_n dX6_init_115 rfl ?_
  refine g_getR (t2 := 5) (i2 := 0) dX6_init_116 fl_X6_19 (vd_c (by decide) rfl) rfl rfl (by decide) ?_
  refine g_iconst dX6_init_119 ?_
  refine f_I (As := [xR 5 0, xI 2]) (by decide) dX6_init_120 cs_X6_46 mb_X2_init (c_X2_init_1 l _ x_b3 (fun _ _ _ _ => b3_z (by omega)) (fun _ => b3_z (by decide))) rfl rfl (Nat.le_of_ble_eq_true rfl) (Nat.le_of_ble_eq_true rfl) (Nat.le_of_ble_eq_true rfl) (Nat.le_of_ble_eq_true rfl) (Nat.le_of_ble_eq_true rfl) ?_
  refine g_ref _ (by rw [rw_fl 8 13 1 (by decide), rw_flF, rw_fl 8 14 1 (by decide)]) ?_
  refine g_putR rfl dX6_init_123 fl_X6_53 (vd_c (by decide) rfl) rfl rfl (fun q h => by cases h; rfl) ?_
  refine g_ref _ (rw_ur 8 _ rfl) ?_
  refine g_aload_n dX6_init_126 rfl ?_
  refine g_new (ci := 4) (C := RX4) (T := TX4) (N := 4) (t := 15) (i := 0) dX6_init_127 (Or.inl (by decide)) rfl cl_X6_56 in_X4 ii_X4 rfl (by decide) (by decide) (by decide) (Nat.le_of_ble_eq_true rfl) (Nat.le_of_ble_eq_true rfl) ?_
  refine g_mem _ (zr_z (fun _ => b3_z (by decide))) ?_
  refine g_dup dX6_init_130 rfl ?_
  refine f_N (As := []) (by decide) dX6_init_131 cs_X6_58 mb_X4_init (ci_X4 l _) rfl rfl (Nat.le_of_ble_eq_true rfl) (Nat.le_of_ble_eq_true rfl) (Nat.le_of_ble_eq_true rfl) (Nat.le_of_ble_eq_true rfl) (Nat.le_of_ble_eq_true rfl) ?_
  refine g_ref _ (rw_fl 9 15 0 (by decide)) ?_
  refine g_putR rfl dX6_init_134 fl_X6_59 (vd_c (by decide) rfl) rfl rfl (fun q h => by cases h; rfl) ?_
  refine g_ref _ (rw_ur 9 _ rfl) ?_
  refine g_aload_n dX6_init_137 rfl ?_
  refine g_new (ci := 1) (C := RX1) (T := TX1) (N := 5) (t := 19) (i := 0) dX6_init_138 (Or.inl (by decide)) rfl cl_X6_63 in_X1 ii_X1 rfl (by decide) (by decide) (by decide) (Nat.le_of_ble_eq_true rfl) (Nat.le_of_ble_eq_true rfl) ?_
  refine g_mem _ (zr_z (fun _ => b3_z (by decide))) ?_
  refine g_dup dX6_init_141 rfl ?_
  refine g_aload_n dX6_init_142 rfl ?_
  refine g_getR (t2 := 5) (i2 := 0) dX6_init_143 fl_X6_19 (vd_c (by decide) rfl) rfl rfl (by decide) ?_
  refine f_I (As := [xR 5 0]) (by decide) dX6_init_146 cs_X6_65 mb_X1_init (c_X1_init l _ x_b3 (fun _ _ _ _ => b3_z (by omega)) (fun _ => b3_z (by decide)) (fun _ h _ => b3_z (by omega))) rfl rfl (Nat.le_of_ble_eq_true rfl) (Nat.le_of_ble_eq_true rfl) (Nat.le_of_ble_eq_true rfl) (Nat.le_of_ble_eq_true rfl) (Nat.le_of_ble_eq_true rfl) ?_
  refine g_ref _ (by rw [rw_fl 10 19 0 (by decide), rw_flF, rw_fl 10 20 0 (by decide)]) ?_
  refine g_putR rfl dX6_init_149 fl_X6_66 (vd_c (by decide) rfl) rfl rfl (fun q h => by cases h; rfl) ?_
  refine g_ref _ (rw_ur 10 _ rfl) ?_
  refine g_ref _ rw_11 ?_
  refine g_iconst dX6_init_152 ?_
  refine g_istore_n (lv' := [_, _]) dX6_init_153 (Nat.le_of_ble_eq_true rfl) rfl ?_
  refine lp_X6_init l w _ 51 0 x_b4 rfl rfl ?_
  refine g_aload_n dX6_init_183 rfl ?_
  refine g_getR dX6_init_184 fl_X6_10 (vd_c (by decide) rfl) rfl rfl rfl ?_
  refine g_aload_n dX6_init_187 rfl ?_
  refine g_getR dX6_init_188 fl_X6_23 (vd_c (by decide) rfl) rfl rfl rfl ?_
  refine f_V (As := [xR 5 1]) dX6_init_191 cs_X6_86 mb_X5_readInto (c_X5_readInto l 131 _ 1 (Nat.le_refl _) (by decide) hch) rfl (x_vC (Nat.le_refl _) (Nat.le_of_ble_eq_true rfl) (Nat.le_of_ble_eq_true rfl)) rfl rfl rfl (Nat.le_of_ble_eq_true rfl) (by decide) (Nat.le_of_ble_eq_true rfl) (Nat.le_refl _) (Nat.le_refl _) ?_
  refine g_pop dX6_init_194 rfl ?_
  refine g_aload_n dX6_init_195 rfl ?_
  refine f_Vv (As := []) dX6_init_196 cs_X6_90 mb_X6_startFromDraft (c_X6_startFromDraft l 131 _ (Nat.le_refl _)) rfl (x_vC (Nat.le_refl _) (Nat.le_of_ble_eq_true rfl) (Nat.le_of_ble_eq_true rfl)) rfl rfl rfl (Nat.le_of_ble_eq_true rfl) (by decide) (Nat.le_of_ble_eq_true rfl) (Nat.le_refl _) (Nat.le_refl _) ?_
  refine g_aload_n dX6_init_199 rfl ?_
  refine g_getR dX6_init_200 fl_X6_10 (vd_c (by decide) rfl) rfl rfl rfl ?_
  refine f_V (As := []) dX6_init_203 cs_X6_93 mb_X5_empty (c_X5_empty l 131 _ (Nat.le_refl _)) rfl (x_vC (Nat.le_refl _) (Nat.le_of_ble_eq_true rfl) (Nat.le_of_ble_eq_true rfl)) rfl rfl rfl (Nat.le_of_ble_eq_true rfl) (by decide) (Nat.le_of_ble_eq_true rfl) (Nat.le_refl _) (Nat.le_refl _) ?_
  refine g_pop dX6_init_206 rfl ?_
  exact g_vret dX6_init_207 ⟨rfl, rfl, rfl, rfl⟩ (Nat.le_refl _) (Nat.le_refl _)
