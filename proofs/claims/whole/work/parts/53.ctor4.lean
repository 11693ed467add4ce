theorem fl_24 : (x_ur (x_ur (x_ur (x_ur (x_ur (x_ur (x_ur (x_ur (x_ur (x_ur (x_ur (x_ur (x_ur (x_ur (x_ur (x_ur (x_ur (x_ur (x_ur (x_ur (x_ur (x_ur (x_zn x_r0 24 0) 24 0 1 (some (25, 0))) 24 0 2 (some (26, 0))) 24 0 3 (some (27, 0))) 24 0 4 (some (28, 0))) 24 0 9 (some (29, 0))) 24 0 10 (some (30, 0))) 24 0 11 (some (31, 0))) 24 0 12 (some (32, 0))) 24 0 13 (some (33, 0))) 24 0 14 (some (34, 0))) 24 0 15 (some (35, 0))) 24 0 16 (some (36, 0))) 24 0 18 (some (37, 0))) 24 0 19 (some (38, 0))) 24 0 20 (some (39, 0))) 24 0 21 (some (40, 0))) 24 0 26 (some (41, 0))) 24 0 28 (some (42, 0))) 24 0 30 (some (43, 0))) 24 0 32 (some (44, 0))) 24 0 33 (some (45, 0))) 24 0 34 (some (46, 0))) = x_r0 := by
  funext t i k
  simp only [x_ur, x_zn]
  by_cases h : t = 24 ∧ i = 0
  · obtain ⟨rfl, rfl⟩ := h
    simp only [true_and, and_self, if_true]
    by_cases hk : k < 36
    · revert k
      decide +kernel
    · rw [if_neg (by omega), if_neg (by omega), if_neg (by omega), if_neg (by omega), if_neg (by omega), if_neg (by omega), if_neg (by omega), if_neg (by omega), if_neg (by omega), if_neg (by omega), if_neg (by omega), if_neg (by omega), if_neg (by omega), if_neg (by omega), if_neg (by omega), if_neg (by omega), if_neg (by omega), if_neg (by omega), if_neg (by omega), if_neg (by omega), if_neg (by omega), if_neg (by omega), show x_r0 24 0 k = none from ?_]
      simp only [x_r0]
      rw [if_neg (by omega), if_neg (by omega), if_neg (by omega), if_neg (by omega), if_neg (by omega), if_neg (by omega), if_neg (by omega), if_neg (by omega), if_neg (by omega), if_neg (by omega), if_neg (by omega), if_neg (by omega), if_neg (by omega), if_neg (by omega)]
  · have h1 : ∀ k2, ¬ (t = 24 ∧ i = 0 ∧ k = k2) := fun k2 z => h ⟨z.1, z.2.1⟩
    simp only [h, h1, if_false]
def N_1 (σ : xMi) : xMi := S_X7_firstOne σ 0 5 6 4 0
theorem N_1_0 (σ : xMi) (hz : σ 24 0 0 = 0) : N_1 σ 24 0 0 = ((1 : Nat) : Int) := by
  unfold N_1 S_X7_firstOne
  simp (disch := omega) only [x_up_o, x_up_e]
  rw [hz]
  rfl
def N_2 (σ : xMi) : xMi := S_X7_firstOne (N_1 σ) 1 12 5 7 1
theorem N_2_0 (σ : xMi) (hz : σ 24 0 0 = 0) : N_2 σ 24 0 0 = ((2 : Nat) : Int) := by
  unfold N_2 S_X7_firstOne
  simp (disch := omega) only [x_up_o, x_up_e]
  rw [N_1_0 σ hz]
  rfl
def N_3 (σ : xMi) : xMi := S_X7_firstOne (N_2 σ) 2 33 9 3 2
theorem N_3_0 (σ : xMi) (hz : σ 24 0 0 = 0) : N_3 σ 24 0 0 = ((3 : Nat) : Int) := by
  unfold N_3 S_X7_firstOne
  simp (disch := omega) only [x_up_o, x_up_e]
  rw [N_2_0 σ hz]
  rfl
def N_4 (σ : xMi) : xMi := S_X7_firstOne (N_3 σ) 3 20 8 9 3
theorem N_4_0 (σ : xMi) (hz : σ 24 0 0 = 0) : N_4 σ 24 0 0 = ((4 : Nat) : Int) := by
  unfold N_4 S_X7_firstOne
  simp (disch := omega) only [x_up_o, x_up_e]
  rw [N_3_0 σ hz]
  rfl
def N_5 (σ : xMi) : xMi := S_X7_firstOne (N_4 σ) 0 0 2 2 4
theorem N_5_0 (σ : xMi) (hz : σ 24 0 0 = 0) : N_5 σ 24 0 0 = ((5 : Nat) : Int) := by
  unfold N_5 S_X7_firstOne
  simp (disch := omega) only [x_up_o, x_up_e]
  rw [N_4_0 σ hz]
  rfl
theorem c_X7_init (l : Launch) (σ : xMi) (hz : ∀ t, 24 ≤ t → t ≤ 46 → ∀ k, σ t 0 k = 0) : x_FI l yX7_init RX7 cX7_init 1 1 22 898 132 (x_zn x_r0 24 0) σ [xR 24 0] x_r0 (S_X7_begin (N_5 σ) 4) := by
  refine fi_of (by decide) rfl rfl (Nat.le_of_ble_eq_true rfl) rfl ?_
  refine g_aload_n dX7_init_0 rfl ?_
  refine g_oinit dX7_init_1 cx_X7_3 w_oi.1 w_oi.2 (by decide) (Nat.le_of_ble_eq_true rfl) ?_
  refine g_aload_n dX7_init_4 rfl ?_
  refine g_bipush dX7_init_5 (by decide) ?_
  refine g_newarr (t := 25) (i := 0) 0 dX7_init_7 (Or.inl (by decide)) ac_int (Or.inl ⟨rfl, rfl⟩) rfl rfl (by decide) (by decide) (by decide) (by decide) (Nat.le_of_ble_eq_true rfl) ?_
  refine g_mem _ (zr_z (hz 25 (by decide) (by decide))) ?_
  refine g_putR rfl dX7_init_9 fl_X7_9 (vd_c (by decide) rfl) rfl rfl (fun q h => by cases h; rfl) ?_
  refine g_aload_n dX7_init_12 rfl ?_
  refine g_bipush dX7_init_13 (by decide) ?_
  refine g_newarr (t := 26) (i := 0) 0 dX7_init_15 (Or.inl (by decide)) ac_int (Or.inl ⟨rfl, rfl⟩) rfl rfl (by decide) (by decide) (by decide) (by decide) (Nat.le_of_ble_eq_true rfl) ?_
  refine g_mem _ (zr_z (hz 26 (by decide) (by decide))) ?_
  refine g_putR rfl dX7_init_17 fl_X7_13 (vd_c (by decide) rfl) rfl rfl (fun q h => by cases h; rfl) ?_
  refine g_aload_n dX7_init_20 rfl ?_
  refine g_bipush dX7_init_21 (by decide) ?_
  refine g_newarr (t := 27) (i := 0) 0 dX7_init_23 (Or.inl (by decide)) ac_int (Or.inl ⟨rfl, rfl⟩) rfl rfl (by decide) (by decide) (by decide) (by decide) (Nat.le_of_ble_eq_true rfl) ?_
  refine g_mem _ (zr_z (hz 27 (by decide) (by decide))) ?_
  refine g_putR rfl dX7_init_25 fl_X7_16 (vd_c (by decide) rfl) rfl rfl (fun q h => by cases h; rfl) ?_
  refine g_aload_n dX7_init_28 rfl ?_
  refine g_bipush dX7_init_29 (by decide) ?_
  refine g_newarr (t := 28) (i := 0) 0 dX7_init_31 (Or.inl (by decide)) ac_int (Or.inl ⟨rfl, rfl⟩) rfl rfl (by decide) (by decide) (by decide) (by decide) (Nat.le_of_ble_eq_true rfl) ?_
  refine g_mem _ (zr_z (hz 28 (by decide) (by decide))) ?_
  refine g_putR rfl dX7_init_33 fl_X7_19 (vd_c (by decide) rfl) rfl rfl (fun q h => by cases h; rfl) ?_
  refine g_aload_n dX7_init_36 rfl ?_
  refine g_bipush dX7_init_37 (by decide) ?_
  refine g_newarr (t := 29) (i := 0) 0 dX7_init_39 (Or.inl (by decide)) ac_int (Or.inl ⟨rfl, rfl⟩) rfl rfl (by decide) (by decide) (by decide) (by decide) (Nat.le_of_ble_eq_true rfl) ?_
  refine g_mem _ (zr_z (hz 29 (by decide) (by decide))) ?_
  refine g_putR rfl dX7_init_41 fl_X7_22 (vd_c (by decide) rfl) rfl rfl (fun q h => by cases h; rfl) ?_
  refine g_aload_n dX7_init_44 rfl ?_
  refine g_bipush dX7_init_45 (by decide) ?_
  refine g_newarr (t := 30) (i := 0) 0 dX7_init_47 (Or.inl (by decide)) ac_int (Or.inl ⟨rfl, rfl⟩) rfl rfl (by decide) (by decide) (by decide) (by decide) (Nat.le_of_ble_eq_true rfl) ?_
  refine g_mem _ (zr_z (hz 30 (by decide) (by decide))) ?_
  refine g_putR rfl dX7_init_49 fl_X7_25 (vd_c (by decide) rfl) rfl rfl (fun q h => by cases h; rfl) ?_
  refine g_aload_n dX7_init_52 rfl ?_
  refine g_bipush dX7_init_53 (by decide) ?_
  refine g_newarr (t := 31) (i := 0) 0 dX7_init_55 (Or.inl (by decide)) ac_int (Or.inl ⟨rfl, rfl⟩) rfl rfl (by decide) (by decide) (by decide) (by decide) (Nat.le_of_ble_eq_true rfl) ?_
  refine g_mem _ (zr_z (hz 31 (by decide) (by decide))) ?_
  refine g_putR rfl dX7_init_57 fl_X7_28 (vd_c (by decide) rfl) rfl rfl (fun q h => by cases h; rfl) ?_
  refine g_aload_n dX7_init_60 rfl ?_
  refine g_bipush dX7_init_61 (by decide) ?_
  refine g_newarr (t := 32) (i := 0) 0 dX7_init_63 (Or.inl (by decide)) ac_int (Or.inl ⟨rfl, rfl⟩) rfl rfl (by decide) (by decide) (by decide) (by decide) (Nat.le_of_ble_eq_true rfl) ?_
  refine g_mem _ (zr_z (hz 32 (by decide) (by decide))) ?_
  refine g_putR rfl dX7_init_65 fl_X7_31 (vd_c (by decide) rfl) rfl rfl (fun q h => by cases h; rfl) ?_
  refine g_aload_n dX7_init_68 rfl ?_
  refine g_bipush dX7_init_69 (by decide) ?_
  refine g_newarr (t := 33) (i := 0) 0 dX7_init_71 (Or.inl (by decide)) ac_int (Or.inl ⟨rfl, rfl⟩) rfl rfl (by decide) (by decide) (by decide) (by decide) (Nat.le_of_ble_eq_true rfl) ?_
  refine g_mem _ (zr_z (hz 33 (by decide) (by decide))) ?_
  refine g_putR rfl dX7_init_73 fl_X7_34 (vd_c (by decide) rfl) rfl rfl (fun q h => by cases h; rfl) ?_
  refine g_aload_n dX7_init_76 rfl ?_
  refine g_bipush dX7_init_77 (by decide) ?_
  refine g_newarr (t := 34) (i := 0) 0 dX7_init_79 (Or.inl (by decide)) ac_int (Or.inl ⟨rfl, rfl⟩) rfl rfl (by decide) (by decide) (by decide) (by decide) (Nat.le_of_ble_eq_true rfl) ?_
  refine g_mem _ (zr_z (hz 34 (by decide) (by decide))) ?_
  refine g_putR rfl dX7_init_81 fl_X7_37 (vd_c (by decide) rfl) rfl rfl (fun q h => by cases h; rfl) ?_
  refine g_aload_n dX7_init_84 rfl ?_
  refine g_bipush dX7_init_85 (by decide) ?_
  refine g_newarr (t := 35) (i := 0) 0 dX7_init_87 (Or.inl (by decide)) ac_int (Or.inl ⟨rfl, rfl⟩) rfl rfl (by decide) (by decide) (by decide) (by decide) (Nat.le_of_ble_eq_true rfl) ?_
  refine g_mem _ (zr_z (hz 35 (by decide) (by decide))) ?_
  refine g_putR rfl dX7_init_89 fl_X7_40 (vd_c (by decide) rfl) rfl rfl (fun q h => by cases h; rfl) ?_
  refine g_aload_n dX7_init_92 rfl ?_
  refine g_bipush dX7_init_93 (by decide) ?_
  refine g_newarr (t := 36) (i := 0) 0 dX7_init_95 (Or.inl (by decide)) ac_int (Or.inl ⟨rfl, rfl⟩) rfl rfl (by decide) (by decide) (by decide) (by decide) (Nat.le_of_ble_eq_true rfl) ?_
  refine g_mem _ (zr_z (hz 36 (by decide) (by decide))) ?_
  refine g_putR rfl dX7_init_97 fl_X7_43 (vd_c (by decide) rfl) rfl rfl (fun q h => by cases h; rfl) ?_
  refine g_aload_n dX7_init_100 rfl ?_
  refine g_bipush dX7_init_101 (by decide) ?_
  refine g_newarr (t := 37) (i := 0) 0 dX7_init_103 (Or.inl (by decide)) ac_int (Or.inl ⟨rfl, rfl⟩) rfl rfl (by decide) (by decide) (by decide) (by decide) (Nat.le_of_ble_eq_true rfl) ?_
  refine g_mem _ (zr_z (hz 37 (by decide) (by decide))) ?_
  refine g_putR rfl dX7_init_105 fl_X7_46 (vd_c (by decide) rfl) rfl rfl (fun q h => by cases h; rfl) ?_
  refine g_aload_n dX7_init_108 rfl ?_
  refine g_bipush dX7_init_109 (by decide) ?_
  refine g_newarr (t := 38) (i := 0) 0 dX7_init_111 (Or.inl (by decide)) ac_int (Or.inl ⟨rfl, rfl⟩) rfl rfl (by decide) (by decide) (by decide) (by decide) (Nat.le_of_ble_eq_true rfl) ?_
  refine g_mem _ (zr_z (hz 38 (by decide) (by decide))) ?_
  refine g_putR rfl dX7_init_113 fl_X7_49 (vd_c (by decide) rfl) rfl rfl (fun q h => by cases h; rfl) ?_
  refine g_aload_n dX7_init_116 rfl ?_
  refine g_bipush dX7_init_117 (by decide) ?_
  refine g_newarr (t := 39) (i := 0) 0 dX7_init_119 (Or.inl (by decide)) ac_int (Or.inl ⟨rfl, rfl⟩) rfl rfl (by decide) (by decide) (by decide) (by decide) (Nat.le_of_ble_eq_true rfl) ?_
  refine g_mem _ (zr_z (hz 39 (by decide) (by decide))) ?_
  refine g_putR rfl dX7_init_121 fl_X7_52 (vd_c (by decide) rfl) rfl rfl (fun q h => by cases h; rfl) ?_
  refine g_aload_n dX7_init_124 rfl ?_
  refine g_sipush dX7_init_125 (by decide) ?_
  refine g_newarr (t := 40) (i := 0) 0 dX7_init_128 (Or.inl (by decide)) ac_int (Or.inl ⟨rfl, rfl⟩) rfl rfl (by decide) (by decide) (by decide) (by decide) (Nat.le_of_ble_eq_true rfl) ?_
  refine g_mem _ (zr_z (hz 40 (by decide) (by decide))) ?_
  refine g_putR rfl dX7_init_130 fl_X7_55 (vd_c (by decide) rfl) rfl rfl (fun q h => by cases h; rfl) ?_
  refine g_aload_n dX7_init_133 rfl ?_
  refine g_bipush dX7_init_134 (by decide) ?_
  refine g_newarr (t := 41) (i := 0) 0 dX7_init_136 (Or.inl (by decide)) ac_int (Or.inl ⟨rfl, rfl⟩) rfl rfl (by decide) (by decide) (by decide) (by decide) (Nat.le_of_ble_eq_true rfl) ?_
  refine g_mem _ (zr_z (hz 41 (by decide) (by decide))) ?_
  refine g_putR rfl dX7_init_138 fl_X7_58 (vd_c (by decide) rfl) rfl rfl (fun q h => by cases h; rfl) ?_
  refine g_aload_n dX7_init_141 rfl ?_
  refine g_sipush dX7_init_142 (by decide) ?_
  refine g_newarr (t := 42) (i := 0) 0 dX7_init_145 (Or.inl (by decide)) ac_int (Or.inl ⟨rfl, rfl⟩) rfl rfl (by decide) (by decide) (by decide) (by decide) (Nat.le_of_ble_eq_true rfl) ?_
  refine g_mem _ (zr_z (hz 42 (by decide) (by decide))) ?_
  refine g_putR rfl dX7_init_147 fl_X7_61 (vd_c (by decide) rfl) rfl rfl (fun q h => by cases h; rfl) ?_
  refine g_aload_n dX7_init_150 rfl ?_
  refine g_bipush dX7_init_151 (by decide) ?_
  refine g_newarr (t := 43) (i := 0) 0 dX7_init_153 (Or.inl (by decide)) ac_int (Or.inl ⟨rfl, rfl⟩) rfl rfl (by decide) (by decide) (by decide) (by decide) (Nat.le_of_ble_eq_true rfl) ?_
  refine g_mem _ (zr_z (hz 43 (by decide) (by decide))) ?_
  refine g_putR rfl dX7_init_155 fl_X7_64 (vd_c (by decide) rfl) rfl rfl (fun q h => by cases h; rfl) ?_
  refine g_aload_n dX7_init_158 rfl ?_
  refine g_bipush dX7_init_159 (by decide) ?_
  refine g_newarr (t := 44) (i := 0) 0 dX7_init_161 (Or.inl (by decide)) ac_int (Or.inl ⟨rfl, rfl⟩) rfl rfl (by decide) (by decide) (by decide) (by decide) (Nat.le_of_ble_eq_true rfl) ?_
  refine g_mem _ (zr_z (hz 44 (by decide) (by decide))) ?_
  refine g_putR rfl dX7_init_163 fl_X7_67 (vd_c (by decide) rfl) rfl rfl (fun q h => by cases h; rfl) ?_
  refine g_aload_n dX7_init_166 rfl ?_
  refine g_bipush dX7_init_167 (by decide) ?_
  refine g_newarr (t := 45) (i := 0) 0 dX7_init_169 (Or.inl (by decide)) ac_int (Or.inl ⟨rfl, rfl⟩) rfl rfl (by decide) (by decide) (by decide) (by decide) (Nat.le_of_ble_eq_true rfl) ?_
  refine g_mem _ (zr_z (hz 45 (by decide) (by decide))) ?_
  refine g_putR rfl dX7_init_171 fl_X7_70 (vd_c (by decide) rfl) rfl rfl (fun q h => by cases h; rfl) ?_
  refine g_aload_n dX7_init_174 rfl ?_
  refine g_bipush dX7_init_175 (by decide) ?_
  refine g_newarr (t := 46) (i := 0) 0 dX7_init_177 (Or.inl (by decide)) ac_int (Or.inl ⟨rfl, rfl⟩) rfl rfl (by decide) (by decide) (by decide) (by decide) (Nat.le_of_ble_eq_true rfl) ?_
  refine g_mem _ (zr_z (hz 46 (by decide) (by decide))) ?_
  refine g_putR rfl dX7_init_179 fl_X7_73 (vd_c (by decide) rfl) rfl rfl (fun q h => by cases h; rfl) ?_
  refine g_ref _ fl_24 ?_
  refine g_aload_n dX7_init_182 rfl ?_
  refine g_iconst dX7_init_183 ?_
  refine g_iconst dX7_init_184 ?_
  refine g_bipush dX7_init_185 (by decide) ?_
  refine g_iconst dX7_init_187 ?_
  refine f_Vv dX7_init_188 cs_X7_76 mb_X7_firstOne (c_X7_firstOne l 154 σ 0 5 6 4 0 (Nat.le_refl _) (by decide) (hz 24 (by decide) (by decide) 0)) rfl (vd_c (by decide) rfl) rfl rfl rfl (Nat.le_of_ble_eq_true rfl) (by decide) (Nat.le_of_ble_eq_true rfl) (Nat.le_refl _) (Nat.le_of_ble_eq_true rfl) ?_
  refine g_mem (N_1 σ) rfl ?_
  refine g_aload_n dX7_init_191 rfl ?_
  refine g_iconst dX7_init_192 ?_
  refine g_bipush dX7_init_193 (by decide) ?_
  refine g_iconst dX7_init_195 ?_
  refine g_bipush dX7_init_196 (by decide) ?_
  refine f_Vv dX7_init_198 cs_X7_76 mb_X7_firstOne (c_X7_firstOne l 154 (N_1 σ) 1 12 5 7 1 (Nat.le_refl _) (by decide) (N_1_0 σ (hz 24 (by decide) (by decide) 0))) rfl (vd_c (by decide) rfl) rfl rfl rfl (Nat.le_of_ble_eq_true rfl) (by decide) (Nat.le_of_ble_eq_true rfl) (Nat.le_refl _) (Nat.le_of_ble_eq_true rfl) ?_
  refine g_mem (N_2 σ) rfl ?_
  refine g_aload_n dX7_init_201 rfl ?_
  refine g_iconst dX7_init_202 ?_
  refine g_bipush dX7_init_203 (by decide) ?_
  refine g_bipush dX7_init_205 (by decide) ?_
  refine g_iconst dX7_init_207 ?_
  refine f_Vv dX7_init_208 cs_X7_76 mb_X7_firstOne (c_X7_firstOne l 154 (N_2 σ) 2 33 9 3 2 (Nat.le_refl _) (by decide) (N_2_0 σ (hz 24 (by decide) (by decide) 0))) rfl (vd_c (by decide) rfl) rfl rfl rfl (Nat.le_of_ble_eq_true rfl) (by decide) (Nat.le_of_ble_eq_true rfl) (Nat.le_refl _) (Nat.le_of_ble_eq_true rfl) ?_
  refine g_mem (N_3 σ) rfl ?_
  refine g_aload_n dX7_init_211 rfl ?_
  refine g_iconst dX7_init_212 ?_
  refine g_bipush dX7_init_213 (by decide) ?_
  refine g_bipush dX7_init_215 (by decide) ?_
  refine g_bipush dX7_init_217 (by decide) ?_
  refine f_Vv dX7_init_219 cs_X7_76 mb_X7_firstOne (c_X7_firstOne l 154 (N_3 σ) 3 20 8 9 3 (Nat.le_refl _) (by decide) (N_3_0 σ (hz 24 (by decide) (by decide) 0))) rfl (vd_c (by decide) rfl) rfl rfl rfl (Nat.le_of_ble_eq_true rfl) (by decide) (Nat.le_of_ble_eq_true rfl) (Nat.le_refl _) (Nat.le_of_ble_eq_true rfl) ?_
  refine g_mem (N_4 σ) rfl ?_
  refine g_aload_n dX7_init_222 rfl ?_
  refine g_iconst dX7_init_223 ?_
  refine g_iconst dX7_init_224 ?_
  refine g_iconst dX7_init_225 ?_
  refine g_iconst dX7_init_226 ?_
  refine f_Vv dX7_init_227 cs_X7_76 mb_X7_firstOne (c_X7_firstOne l 154 (N_4 σ) 0 0 2 2 4 (Nat.le_refl _) (by decide) (N_4_0 σ (hz 24 (by decide) (by decide) 0))) rfl (vd_c (by decide) rfl) rfl rfl rfl (Nat.le_of_ble_eq_true rfl) (by decide) (Nat.le_of_ble_eq_true rfl) (Nat.le_refl _) (Nat.le_of_ble_eq_true rfl) ?_
  refine g_mem (N_5 σ) rfl ?_
  refine g_aload_n dX7_init_230 rfl ?_
  refine g_iconst dX7_init_231 ?_
  refine f_Vv dX7_init_232 cs_X7_80 mb_X7_begin (c_X7_begin l 154 (N_5 σ) 4 (Nat.le_refl _)) rfl (vd_c (by decide) rfl) rfl rfl rfl (Nat.le_of_ble_eq_true rfl) (by decide) (Nat.le_of_ble_eq_true rfl) (Nat.le_refl _) (Nat.le_of_ble_eq_true rfl) ?_
  exact fi_ret dX7_init_235 rfl rfl rfl (Nat.le_refl _) (Nat.le_of_ble_eq_true rfl)